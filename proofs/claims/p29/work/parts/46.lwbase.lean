/-! THE CLAIM OUT OF ONE WALK OF THE LAW'S BODY. Your part is whole_start (and what it stands on); all else here is the same for every law, but numbers. -/
def R_law : String := "PegBoxLaw"
def lw_P (b : Addr) (xs : List Int32) (args : Array Value) (s : State) : Prop := args = #[.ref b] ∧ s.IntsAt b xs ∧ xs.length ≤ 260 ∧ (Jvm.Cond.and given_1 narrow_1).before args s = true
def lw_Q (_ : Array Value) (s : State) (o : Outcome) (t : State) : Prop := o = .returned (some (.int 1)) ∧ Framed s o t [] 106 830
def lw_Z (below : List Frame) (a : Array Value) (s : State) : State → Prop := fun t => ∃ o, t.status = .running ∧ Ended t below o ∧ lw_Q a s o t
/-- the law's own end, with 1 on the stack, nothing written that was there before, its room as the claim has it -/
theorem lw_ret {p : Program} {l : Launch} {e : Env} {s : State} {m : MethodId} {below : List Frame} {meth : Method} {c : Code} {b : Nat} (hx : p.tables.exec = Jvm.exec) (hb : c.code = code) (hr : meth.sig.returnType = ret) (hlocks : meth.locks = false) {pc : Nat} {H : Heap} {ls : Array Slot} (hdg : decode code pc = .ok (.ireturn, 1)) : W p l e room_1 s m #[Value.ref b] below meth c H [] 106 830 (lw_Z below #[Value.ref b] s) (F0 m pc ls [.int 1]) := by
  intro T hT X
  obtain ⟨fs, hret, hrun, hended, hW, hframe⟩ := X.leave (v := some (.int 1)) (hlocks := hlocks) (fun h => by rw [hr] at h; cases h)
  have hmeth' : T.vm.method? m = some meth := X.method'
  refine ⟨T.setFrames fs, ?_, .returned (some (.int 1)), hrun, hended, rfl, ⟨_, rfl⟩, hW, hframe⟩
  jvm_step X.here [X.here.top, hx, hb, hdg, hmeth', hr, ret, narrow_b1]
  (try refine ⟨rfl, ?_⟩); (try refine ⟨rfl, ?_⟩)
  first | (intro acts; rw [hret _ acts rfl rfl rfl]) | rw [hret _ _ rfl rfl rfl]
  exact Steps.refl _
/-- what holds at the law's entry: the machine, the code, the tables' words (any of lw_tbl by 'hts w (by decide +kernel)'), the script of L ints xs at the cell b, what the Statement gives of the start (any of its parts by flat_of_before) -/
def lw_At (p : Program) (s : State) (m : MethodId) (meth : Method) (c : Code) (b L : Nat) (xs : Nat → Int32) : Prop :=
  p.tables.exec = Jvm.exec ∧ c.code = code ∧ meth.sig.returnType = ret ∧ c.maxLocals = 14 ∧ s.vm.findClass R_law = some m.cls ∧ (∀ w ∈ lw_tbl, w.before #[Value.ref b] s = true) ∧ va_X b L xs s s.heap ∧ b < s.heap.size ∧ meth.locks = false ∧ (Jvm.Cond.and given_1 narrow_1).before #[Value.ref b] s = true
abbrev lw_W (cI cZ : ClassId) (a : Nat → Nat) (o1 o2 : Nat) (u : pg_St) (lst am : Nat → Int32) : va_W := pg_wB cI cZ a u ++ [(o1, .inl (cI, 3, .inl lst)), (o2, .inl (cI, 20, .inl am))]
abbrev lw_Lv (b h o1 o2 t z i : Nat) : List (Nat × Value) := [(0, .ref b), (1, .ref h), (2, .int 1), (4, .int (nI t)), (5, .int (nI z)), (6, .ref o1), (7, .ref o2), (8, .int (nI i))]
/-- where the loop's body ends -/
def lw_next (p : Program) (l : Launch) (e : Env) (s : State) (m : MethodId) (below : List Frame) (meth : Method) (c : Code) (b : Nat) (D : va_G) (cI cZ : ClassId) (a : Nat → Nat) (o1 o2 : Nat) (lst : Nat → Int32) (i : Nat) : Prop :=
  ∀ (H : Heap) (locs : List Loc) (ls : Array Slot) (u : pg_St) (am : Nat → Int32) (n t z : Nat), pg_J u lst am n t z → va_P D vwCl (lw_W cI cZ a o1 o2 u lst am) H → va_D (fun q : Nat => s.heap.size ≤ q) (lw_W cI cZ a o1 o2 u lst am) → va_S (fun q : Nat => s.heap.size ≤ q) s.heap H locs → lv_has ls 14 (lw_Lv b (a 0) o1 o2 t z i) → W p l e room_1 s m #[Value.ref b] below meth c H locs 21 172 (lw_Z below #[Value.ref b] s) (F0 m 498 ls [])
theorem pg_J.ld {u : pg_St} {ld lst am : Nat → Int32} {n t z : Nat} (h : pg_J u ld am n t z) (hl : ∀ k, k < 3 → lst k = ld k) : pg_J u lst am n t z := ⟨⟨h.1.1, h.1.2.1, h.1.2.2.1, fun k hk => (h.1.2.2.2.1 k hk).trans (hl k hk).symm, h.1.2.2.2.2⟩, h.2⟩
theorem pz_amt {u : pg_St} {lst am : Nat → Int32} {n t z : Nat} (hJ : pg_J u lst am n t z) {j q r : Nat} (hj : j < n) (e : am j = nI q) (hq : q ≤ 300000) (hr : r ≤ q) : pg_bb (nI r) 300000 ∧ pg_in (nI r) 0 (u.2 8 j) = true := by
  refine ⟨pg_bb_nI (by omega) (by decide), ?_⟩
  rw [← hJ.2.1.2.2.1 j hj, e]
  exact pg_inL (x := 0) (y := q) (by decide) (nI_toInt (by omega)) (by omega) (by omega) (by omega)
theorem pz_cl {u : pg_St} {lst am : Nat → Int32} {n t z : Nat} (hJ : pg_J u lst am n t z) : pg_eq (u.1 3) (-1) = false := by
  obtain ⟨-, -, -, d, hm⟩ := hJ
  refine pg_eq_f fun h => ?_
  have e : (nI d).toInt = (d : Int) := nI_toInt (by have := hm.2.1; omega)
  rw [← hm.1, h, pg_im1] at e; omega
theorem pz_hRep {u : pg_St} {lst am : Nat → Int32} {n t : Nat} (hJ : pg_J u lst am n t 0) (ht : t < 4) (k : Nat) : pg_t_report (!pg_eq (u.1 3) (-1)) (!pg_eq (u.1 12) 0) (nI t) (nI (k % 200000) - nI 60000) = 0 := by
  have e1 : pg_in (nI (k % 200000) - nI 60000) (-10000000) 10000000 = true := pg_inS (x := -10000000) (y := 10000000) (by decide) (by decide) (by omega) (by omega) (by omega) (by omega)
  have e2 : pg_eq (u.1 12) 0 = true := pg_eq_t hJ.2.2.1.2.2.1
  have e3 : pg_le 4 (nI t) = false := pg_le_f (fun h => by
    have := (nI_leI (a := 4) (by decide) (by omega)).mp (show nI 4 ≤ nI t from h)
    omega)
  unfold pg_t_report
  rw [e1, e2, e3, pz_cl hJ]; rfl
theorem pz_hSpd {u : pg_St} {lst am : Nat → Int32} {n t : Nat} (hJ : pg_J u lst am n t 0) : pg_t_speedUp (!pg_eq (u.1 3) (-1)) (!pg_eq (u.1 12) 0) = 0 := by
  have e2 : pg_eq (u.1 12) 0 = true := pg_eq_t hJ.2.2.1.2.2.1
  unfold pg_t_speedUp
  rw [e2, pz_cl hJ]; rfl
theorem pz_nar {x : Int32} (h : x = 0 ∨ x = 1) : narrow .boolean (.int x) = .int x := by
  rcases h with h | h <;> subst h <;> rfl
theorem nI_pred9 (n : Nat) : nI (n + 1) - nI 1 = nI n := nI_pred n
theorem pz_hClm {u : pg_St} {lst am : Nat → Int32} {n t z : Nat} (hJ : pg_J u lst am n t z) (hn : n < 20) {k q : Nat} (hk : k < 3) (hd : ¬ lst k < u.1 3) (h1 : 1 ≤ q) (h2 : q ≤ 300000) : pg_t_claim (!pg_eq (u.1 3) (-1)) (u.1 3) u.2 (nI n) (nI k) (nI q) = 0 := by
  have e1 : pg_in (nI q) 1 10000000 = true := pg_inL (x := 1) (y := 10000000) (by decide) (by decide) (by omega) (by omega) (by omega)
  have e2 : pg_le (u.1 3) (u.2 6 (nI k).toNatClampNeg) = true := pg_le_t (by
    rw [nI_clamp (by omega), hJ.1.2.2.2.1 k hk]
    exact Int32.not_lt.mp hd)
  have e3 : pg_le 20 (nI n) = false := pg_le_f (fun h => by
    have := (nI_leI (a := 20) (by decide) (by omega)).mp (show nI 20 ≤ nI n from h)
    omega)
  unfold pg_t_claim
  rw [show pg_nb (nI k) 3 = true from pg_nbL (m := 3) hk (by decide), e1, e2, e3, pz_cl hJ]; rfl
