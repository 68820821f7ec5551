theorem pg_n0i {k : Nat} (hk : k < 2 ^ 31) (h : nI k = 0) : k = 0 := (nI_eq hk (by decide)).mp (show nI k = nI 0 from h)
theorem pg_n0n {k : Nat} (h : ¬ nI k = 0) : ¬ k = 0 := fun q => h (by rw [q]; rfl)
theorem pg_nle0 {k : Nat} (hk : k < 2 ^ 31) (h : nI k ≤ 0) : k = 0 := by
  have := (nI_leI hk (by decide)).mp (show nI k ≤ nI 0 from h)
  omega
theorem pg_nle0n {k : Nat} (h : ¬ nI k ≤ 0) : ¬ k = 0 := fun q => h (by rw [q]; exact Int32.le_refl _)
theorem pg_acs (x y : Int32) : x + y - x = y := by
  rw [Int32.sub_eq_add_neg, Int32.add_comm x y, Int32.add_assoc, Int32.add_right_neg, Int32.add_zero]
theorem pg_numL {j n : Nat} (h : j < n) (hn : n < 2 ^ 31) : pg_t_num (nI j) (nI n) = 0 := by
  unfold pg_t_num
  rw [pg_nbL h hn]; rfl
theorem pg_bb_ex {x : Int32} {N : Nat} (h : pg_bb x N) (hN : N < 2 ^ 31) : ∃ q : Nat, q ≤ N ∧ x = nI q := by
  obtain ⟨h1, h2⟩ := h
  obtain ⟨q, hq, e⟩ := nI_of (x := x) (pg_not_lt (by rw [pg_i0]; exact h1))
  rw [e, nI_toInt hq] at h2
  exact ⟨q, by omega, e⟩
section PGM
variable {p : Program} {l : Launch} {e : Env} {R : Room} {s : State} {m : MethodId} {args : Array Value} {below : List Frame} {meth : Method} {c : Code} {H : Heap} {locs : List Loc} {cells slots : Nat} {Q : State → Prop}
variable {cc : ByteArray} {pc : Nat} {ls : Array Slot} {rest : List Value} {D : va_G} {A : Nat → Prop} {ws : va_W} {H0 : Heap} {Ts : List Cond} {own : String} {nL : Nat}
theorem pg_iaddM (hexec : p.tables.exec = Jvm.exec) (hb : c.code = cc) {k j : Nat} {x y : Int32} (hx : x = nI k) (hy : y = nI j) (hdg : decode cc pc = .ok (.iadd, 1))
    (kk : W p l e R s m args below meth c H locs cells slots Q (F0 m (pc + 1) ls (.int (nI (k + j)) :: rest))) : W p l e R s m args below meth c H locs cells slots Q (F0 m pc ls (.int y :: .int x :: rest)) := by
  subst hx; subst hy
  exact lv_iadd hexec hb hdg (by rw [nI_add]; exact kk)
theorem pg_imulM (hexec : p.tables.exec = Jvm.exec) (hb : c.code = cc) {k j : Nat} {x y : Int32} (hx : x = nI k) (hy : y = nI j) (hdg : decode cc pc = .ok (.imul, 1))
    (kk : W p l e R s m args below meth c H locs cells slots Q (F0 m (pc + 1) ls (.int (nI (k * j)) :: rest))) : W p l e R s m args below meth c H locs cells slots Q (F0 m pc ls (.int y :: .int x :: rest)) := by
  subst hx; subst hy
  exact lv_imul hexec hb hdg (by rw [pk_mul]; exact kk)
theorem pg_isubM (hexec : p.tables.exec = Jvm.exec) (hb : c.code = cc) {k j : Nat} {x y : Int32} (hx : x = nI k) (hy : y = nI j) (hdg : decode cc pc = .ok (.isub, 1))
    (kk : W p l e R s m args below meth c H locs cells slots Q (F0 m (pc + 1) ls (.int (nI k - nI j) :: rest))) : W p l e R s m args below meth c H locs cells slots Q (F0 m pc ls (.int y :: .int x :: rest)) := by
  subst hx; subst hy
  exact lv_isub hexec hb hdg kk
theorem pg_iremM (hexec : p.tables.exec = Jvm.exec) (hb : c.code = cc) {k j : Nat} {x y : Int32} (hx : x = nI k) (hy : y = nI j) (hk : k < 2 ^ 31) (h0 : 0 < j) (hj : j < 2 ^ 31) (hdg : decode cc pc = .ok (.irem, 1))
    (kk : W p l e R s m args below meth c H locs cells slots Q (F0 m (pc + 1) ls (.int (nI (k % j)) :: rest))) : W p l e R s m args below meth c H locs cells slots Q (F0 m pc ls (.int y :: .int x :: rest)) := by
  subst hx; subst hy
  exact lv_irem hexec hb hdg (nI_ne0 h0 hj) (by rw [pk_rem hk h0 hj]; exact kk)
theorem pg_idivM (hexec : p.tables.exec = Jvm.exec) (hb : c.code = cc) {k j : Nat} {x y : Int32} (hx : x = nI k) (hy : y = nI j) (hk : k < 2 ^ 31) (h0 : 0 < j) (hj : j < 2 ^ 31) (hdg : decode cc pc = .ok (.idiv, 1))
    (kk : W p l e R s m args below meth c H locs cells slots Q (F0 m (pc + 1) ls (.int (nI (k / j)) :: rest))) : W p l e R s m args below meth c H locs cells slots Q (F0 m pc ls (.int y :: .int x :: rest)) := by
  subst hx; subst hy
  exact lv_idiv hexec hb hdg (nI_ne0 h0 hj) (by rw [pk_div hk h0 hj]; exact kk)
theorem pg_sld (hexec : p.tables.exec = Jvm.exec) (hb : c.code = cc) {b L : Nat} {xs : Nat → Int32} (hX : va_X b L xs s H0) (hbl : b < H0.size) (hbA : ¬ A b) (hS : va_S A H0 H locs) {j : Nat} (hj : j < L) (hL : L ≤ 260) (hdg : decode cc pc = .ok (.iaload, 1))
    (kk : W p l e R s m args below meth c H locs cells slots Q (F0 m (pc + 1) ls (.int (xs j) :: rest))) : W p l e R s m args below meth c H locs cells slots Q (F0 m pc ls (.int (nI j) :: .ref b :: rest)) :=
  va_sld hexec hb hX hbl hbA hS (vp_in_nI hj (by omega)) hdg (by rw [nI_clamp (by omega)]; exact kk)
end PGM
set_option maxHeartbeats 4000000 in
set_option maxRecDepth 100000 in
/-- told(s, k) -/
theorem ct_told (l : Launch) (b L sz : Nat) (xs : Nat → Int32) (hL : L ≤ 260) (k : Nat) (hk : k ≤ 100) : Met l yL_told wsL_told ({ frames := 0, cells := 0, slots := 0, locals := 0 }) (va_Pc [.ref b, .int (nI k)] (fun U => U.heap.size = sz ∧ va_X b L xs U U.heap ∧ b < sz)) (va_Qi (fun (r : Int32) (_ : Unit) => r = nI (pz_T xs L k)) (fun _ _ => True) (fun q => sz ≤ q)) 0 0 (fun q => sz ≤ q) := by
  refine Met.ofW (cc := cL_told) (maxL := 2) (ret := (some .int)) (by decide) rfl ?_
  intro p e s m args below meth c s₁ B hml hv
  obtain ⟨rfl, hsz, hX, hbl⟩ := hv
  have hx := B.exec
  have hb := B.bytes
  have hr := B.returns
  have hts := atoms_spec (ws := wsL_told) B.pre
  have hown : s.vm.findClass RL = some m.cls := findClass_of_methodNamed B.named
  have hlocks := B.notSynchronized
  subst hsz
  have hbA : ¬ (fun q : Nat => s.heap.size ≤ q) b := Nat.not_le.mpr hbl
  have hS : va_S (fun q : Nat => s.heap.size ≤ q) s.heap s.heap [] := va_S.rf
  have hl := lv_entry ([.ref b, .int (nI k)]) (n := 2) (Nat.le_of_ble_eq_true rfl)
  rw [lg_entry_eq]
  generalize (lg_sl ([.ref b, .int (nI k)]) ++ List.replicate (2 - (lg_sl ([.ref b, .int (nI k)])).length) Slot.unset).toArray = ls at hl ⊢
  have hl : lv_has ls 2 [(0, .ref b), (1, .int (nI k))] := hl
  have hw1 := hts (.constant RL 7 40009) (List.mem_of_getElem? (i := 1) rfl)
  have hw2 := hts (.constant RL 8 2147483647) (List.mem_of_getElem? (i := 2) rfl)
  have fin : ∀ x : Int32, x = (if k < L then xs k else 40009 * (nI k + 5) * (nI k + 6)) → W p l e (headSpec wsL_told ({ frames := 0, cells := 0, slots := 0, locals := 0 })).room s m ([.ref b, .int (nI k)] : List Value).toArray below meth c s.heap [] 0 0 (MQ below (va_Qi (fun (r : Int32) (_ : Unit) => r = nI (pz_T xs L k)) (fun _ _ => True) (fun q => s.heap.size ≤ q)) ([.ref b, .int (nI k)] : List Value).toArray s 0 0 (fun q => s.heap.size ≤ q)) (F0 m 23 ls [.int x]) := by
    intro x hx9
    refine lv_ldc hx hb hown hw2 dL_told_23 ?_
    refine lv_iand hx hb dL_told_25 ?_
    rw [pk_and x 31 (by decide +kernel)]
    exact W.iret (v := nI (x.toBitVec.toNat % 2 ^ 31)) hx hb hr (fun t9 ht9 hW9 => ⟨⟨nI (x.toBitVec.toNat % 2 ^ 31), (), rfl, by rw [hx9]; rfl, trivial⟩, hS.F ht9⟩) hS.2.2 dL_told_26
  refine lv_iload_n hx hb dL_told_0 rfl (lv_at hl 1 rfl) ?_
  refine lv_aload_n hx hb dL_told_1 rfl (lv_at hl 0 rfl) ?_
  refine va_slen hx hb hX hbl hbA hS dL_told_2 ?_
  refine lv_icmp_ge (tgt := 12) hx hb dL_told_3 (by decide) (fun c_3 => ?_) (fun c_3 => ?_)
  · have hkL : ¬ k < L := by
      have := (nI_leI (by omega) (by omega)).mp (show nI L ≤ nI k from c_3)
      omega
    refine lv_ldc hx hb hown hw1 dL_told_12 ?_
    refine lv_iload_n hx hb dL_told_14 rfl (lv_at hl 1 rfl) ?_
    refine lv_iconst (v := 5) hx hb dL_told_15 (by decide) ?_
    refine lv_iadd hx hb dL_told_16 ?_
    refine lv_imul hx hb dL_told_17 ?_
    refine lv_iload_n hx hb dL_told_18 rfl (lv_at hl 1 rfl) ?_
    refine lv_bipush (v := 6) hx hb dL_told_19 (by decide) ?_
    refine lv_iadd hx hb dL_told_21 ?_
    refine lv_imul hx hb dL_told_22 ?_
    exact fin _ (by rw [if_neg hkL])
  · have hkL : k < L := by
      refine Nat.lt_of_not_le fun q => c_3 ?_
      exact nI_le q (by omega)
    refine lv_aload_n hx hb dL_told_6 rfl (lv_at hl 0 rfl) ?_
    refine lv_iload_n hx hb dL_told_7 rfl (lv_at hl 1 rfl) ?_
    refine pg_sld hx hb hX hbl hbA hS hkL hL dL_told_8 ?_
    refine lv_goto (tgt := 23) hx hb dL_told_9 (by decide) ?_
    exact fin _ (by rw [if_pos hkL])
section PGT
variable {p : Program} {l : Launch} {e : Env} {R : Room} {s : State} {m : MethodId} {args : Array Value} {below : List Frame} {meth : Method} {c : Code} {H : Heap} {locs : List Loc} {cells slots : Nat} {Q : State → Prop}
variable {cc : ByteArray} {pc nL n index mc ms : Nat} {ls : Array Slot} {rest st0 : List Value} {D : va_G} {tys : List (ClassId × FieldType)} {A : Nat → Prop} {ws X Y : va_W} {Ts : List Cond} {own : String} {b L : Nat} {xs : Nat → Int32}
/-- told called: nothing else changes -/
theorem pg_told (S : CallFix p m c cc nL s args Ts own) (cw : CallB R s args own index yL_told cL_told 2 (some .int) wsL_told ({ frames := 0, cells := 0, slots := 0, locals := 0 }) 0 0 2 ∧ (Cond.static yL_told).before args s = true) (hX : va_X b L xs s s.heap) (hbl : b < s.heap.size) (hbA : ¬ A b) (hL : L ≤ 260) (hP : va_P D vwCl ws H) (hS : va_S A s.heap H locs) (hA : ∀ q, s.heap.size ≤ q → A q) {T : Nat → Nat} (hTe : T = pz_T xs L) {k : Nat} (hk : k ≤ 100)
    (hsize : ls.size = nL) (hW : (rest.map fun v => v.category).sum ≤ 8) (hdg : decode cc pc = .ok (.invokestatic index, 3)) (hf : cells + 0 ≤ R.cells ∧ slots + 0 ≤ R.slots)
    (kk : ∀ (H : Heap) (locs : List Loc), va_P D vwCl ws H → va_S A s.heap H locs → W p l e R s m args below meth c H locs cells slots Q (F0 m (pc + 3) ls (.int (nI (T k)) :: rest))) : W p l e R s m args below meth c H locs cells slots Q (F0 m pc ls (.int (nI k) :: .ref b :: rest)) := by
  have hXH : va_X b L xs s H := hX.kept (hS.2.1 b hbl hbA)
  have hr := va_runS (l := l) (cells := cells) (slots := slots) (below := below) (meth := meth) (e := e) (locs := locs) (H := H) (As := [.ref b, .int (nI k)]) (rest := rest) (g := F0 m pc ls (.int (nI k) :: .ref b :: rest)) S (ct_told l b L H.size xs hL k hk) cw ⟨fun a U g mk q => ⟨q.1, q.2.1, va_X.moved (Vm.Alike.refl U.vm) q.2.2.1, q.2.2.2⟩, fun U hU hW9 => ⟨rfl, by rw [hU], by rw [hU]; exact va_X.moved hW9.alike hXH, Nat.lt_of_lt_of_le hbl hS.1⟩⟩ rfl rfl hsize rfl (lv_room hW) hdg hf
  refine va_calli hr hS (fun q h1 h2 => absurd h1 (Nat.not_lt.mpr h2)) (fun q h => hA q (Nat.le_trans hS.1 h)) (fun r u t H1 locs1 ht hvm hw hB hz hk1 hS1 => ?_)
  have hw : r = nI (pz_T xs L k) := hw
  rw [hw, ← hTe]
  exact kk H1 locs1 (fun i q hq => (hP i q hq).kept (hk1 q.1 ((hP i q hq).lt) (Nat.not_le.mpr (hP i q hq).lt))) hS1
/-- a method's start over the world ws, the script beside it -/
def pg_BX (D : va_G) (tys : List (ClassId × FieldType)) (ws : va_W) (sz b L : Nat) (xs : Nat → Int32) (U : State) : Prop := pg_B D tys ws sz U ∧ va_X b L xs U U.heap ∧ b < sz ∧ ¬ va_A ws sz b
theorem pg_BX.blind {sz : Nat} {As : List Value} : FrameBlind (va_Pc As (pg_BX D tys ws sz b L xs)) := fun a U g mk q => by
  obtain ⟨q0, q1, qX, qb, qA⟩ := q
  obtain ⟨r0, r1⟩ := pg_B.blind (As := As) a U g mk ⟨q0, q1⟩
  exact ⟨r0, r1, va_X.moved (Vm.Alike.refl U.vm) qX, qb, qA⟩
theorem pg_rSX {y : MethodName} {bytes : ByteArray} {maxL : Nat} {ret : Option FieldType} {wy : List Cond} {rm : Room} {As : List Value} {Qc : Array Value → State → Outcome → State → Prop} {free : Addr → Prop} (S : CallFix p m c cc nL s args Ts own) (hM : Met l y wy rm (va_Pc As (pg_BX D tys ws H.size b L xs)) Qc mc ms free) (cw : CallB R s args own index y bytes maxL ret wy rm mc ms n ∧ (Cond.static y).before args s = true) (hX : va_X b L xs s s.heap) (hbl : b < s.heap.size) (hbA : ¬ A b) (hK : va_K D vwCl tys s) (hP : va_P D vwCl ws H) (hD : va_D A ws) (hS : va_S A s.heap H locs) (hA : ∀ q, s.heap.size ≤ q → A q)
    (hn : As.length = n) (hsize : ls.size = nL) (hst : st0 = As.reverse ++ rest) (hW : (rest.map fun v => v.category).sum ≤ 8) (hdg : decode cc pc = .ok (.invokestatic index, 3)) (hf : cells + mc ≤ R.cells ∧ slots + ms ≤ R.slots) :
    va_Run p l e R s m args below meth c H locs cells slots mc ms (F0 m pc ls st0) rest (Qc As.toArray) free := by
  have hXH : va_X b L xs s H := hX.kept (hS.2.1 b hbl hbA)
  have hnA : ¬ va_A ws H.size b := fun h => hbA (pg_up hD hS hA b h)
  exact va_runS S hM cw ⟨pg_BX.blind, fun U hU hW => ⟨rfl, pg_pre hP hD hK hU hW, by rw [hU]; exact va_X.moved hW.alike hXH, Nat.lt_of_lt_of_le hbl hS.1, hnA⟩⟩ rfl hn hsize hst (lv_room hW) hdg hf
/-- a call over the first of two worlds, whatever it answers -/
theorem pg_iLx {S : Type} {post : Int32 → S → Prop} {w : S → va_W} {H0 : Heap} {a : Array Value} (hr : va_Run p l e R s m args below meth c H locs cells slots mc ms (F0 m pc ls st0) rest (va_Qi post (pg_E D tys (va_A X H.size) w) (va_A X H.size) a) (va_A X H.size)) (hP : va_P D vwCl (X ++ Y) H) (hD : va_D A (X ++ Y)) (hS : va_S A H0 H locs) (hA : ∀ q, H0.size ≤ q → A q)
    (kk : ∀ (r : Int32) (u : S) (H : Heap) (locs : List Loc), post r u → va_P D vwCl (w u ++ Y) H → va_D A (w u ++ Y) → va_S A H0 H locs → W p l e R s m args below meth c H locs (cells + mc) (slots + ms) Q (F0 m (pc + 3) ls (.int r :: rest))) : W p l e R s m args below meth c H locs cells slots Q (F0 m pc ls st0) := by
  have hu := pg_up (pg_DL hD) hS hA
  refine va_calli hr hS (fun q _ h => hu q h) hu (fun r u t H1 locs1 ht hvm hw hB hz1 hk1 hS1 => ?_)
  obtain ⟨hP1, hK1, hD1⟩ := hB
  rw [ht] at hP1
  obtain ⟨hP2, hD2⟩ := pg_fL hP hD hk1 hu hP1 hD1
  exact kk r u H1 locs1 hw hP2 hD2 hS1
end PGT
