section LAWS
variable {p : Program} {e : Env} {s : State} {m : MethodId} {below : List Frame} {meth : Method} {c : Code} {l : Launch} {b L : Nat} {xs : Nat → Int32} {D : va_G} {cI cZ : ClassId} {a : Nat → Nat} {o1 o2 : Nat} {T : Nat → Nat} {H : Heap} {locs : List Loc} {ls : Array Slot} 
set_option maxHeartbeats 4000000 in
set_option maxRecDepth 100000 in
theorem lw_K0 (C0 : lw_At p s m meth c b L xs) : ∃ (D : va_G) (cI cZ : ClassId), va_K D vwCl (pg_ty cI cZ) s := by
  obtain ⟨hx, hb, hr, hml, hown, hts, hX, hbl, hlocks, hgv⟩ := id C0
  obtain ⟨c0, i0, k0⟩ := u_known (C := RX0) (T := TX0) (N := 5) (n := 5) hts inX0 (hts (.instantiable RX0 5) (List.mem_of_getElem? (i := 78) rfl))
  obtain ⟨c1, i1, k1⟩ := u_known (C := RX1) (T := TX1) (N := 8) (n := 8) hts inX1 (hts (.instantiable RX1 8) (List.mem_of_getElem? (i := 105) rfl))
  obtain ⟨c2, i2, k2⟩ := u_known (C := RX2) (T := TX2) (N := 2) (n := 2) hts inX2 (hts (.instantiable RX2 2) (List.mem_of_getElem? (i := 34) rfl))
  obtain ⟨c3, i3, k3⟩ := u_known (C := RX3) (T := TX3) (N := 5) (n := 5) hts inX3 (hts (.instantiable RX3 5) (List.mem_of_getElem? (i := 50) rfl))
  obtain ⟨c4, i4, k4⟩ := u_known (C := RX4) (T := TX4) (N := 14) (n := 14) hts inX4 (hts (.instantiable RX4 14) (List.mem_of_getElem? (i := 26) rfl))
  obtain ⟨dC, dI, hKc⟩ : ∃ (dC : Nat → ClassId) (dI : Nat → Nat → Nat), ∀ (k : Nat) (q : vw_C), vwCl[k]? = some q → u_Kn s q.1 q.2.1 q.2.2 (dC k) (dI k) := by
    refine ⟨fun k => if k = 0 then c0 else if k = 1 then c1 else if k = 2 then c2 else if k = 3 then c3 else c4, fun k => if k = 0 then i0 else if k = 1 then i1 else if k = 2 then i2 else if k = 3 then i3 else i4, ?_⟩
    intro k q hq
    match k, hq with
    | 0, hq => cases hq; exact k0
    | 1, hq => cases hq; exact k1
    | 2, hq => cases hq; exact k2
    | 3, hq => cases hq; exact k3
    | 4, hq => cases hq; exact k4
    | k + 5, hq => simp [vwCl] at hq
  obtain ⟨cI, kI, compI, g1, g2, g3⟩ := Cond.arrayClass_spec (args := #[Value.ref b]) (first := s) (o := none) (s := s) (idx := []) (hts (.arrayClass .int) (List.mem_of_getElem? (i := 48) rfl))
  obtain ⟨cZ, kZ, compZ, z1, z2, z3⟩ := Cond.arrayClass_spec (args := #[Value.ref b]) (first := s) (o := none) (s := s) (idx := []) (hts (.arrayClass .boolean) (List.mem_of_getElem? (i := 76) rfl))
  refine ⟨(dC, dI), cI, cZ, hKc, fun k q hk => ?_⟩
  match k, hk with
  | 0, hk => cases hk; exact ⟨fun n z => ⟨fun k h => (by cases h), kI, g2, compI, g3⟩, g1⟩
  | 1, hk => cases hk; exact ⟨fun n z => ⟨fun k h => (by cases h), kZ, z2, compZ, z3⟩, z1⟩
  | k + 2, hk => simp [pg_ty] at hk
set_option maxHeartbeats 4000000 in
set_option maxRecDepth 100000 in
theorem lw_loop (hL : L ≤ 260) (C0 : lw_At p s m meth c b L xs) (hK : va_K D vwCl (pg_ty cI cZ) s) (hTe : T = pz_T xs L) {lst : Nat → Int32} :
    ∀ (k9 i : Nat), i ≤ 70 → 70 < i + k9 → ∀ (H : Heap) (locs : List Loc) (ls : Array Slot) (u : pg_St) (am : Nat → Int32) (n t z : Nat), pg_J u lst am n t z → va_P D vwCl (lw_W cI cZ a o1 o2 u lst am) H → va_D (fun q : Nat => s.heap.size ≤ q) (lw_W cI cZ a o1 o2 u lst am) → va_S (fun q : Nat => s.heap.size ≤ q) s.heap H locs → lv_has ls 14 (lw_Lv b (a 0) o1 o2 t z i) →
      W p l e room_1 s m #[Value.ref b] below meth c H locs 21 172 (lw_Z below #[Value.ref b] s) (F0 m 159 ls []) := by
  obtain ⟨hx, hb, hr, hml, hown, hts, hX, hbl, hlocks, hgv⟩ := id C0
  have hb : c.code = cL_law := hb
  intro k9
  induction k9 with
  | zero => intro i h1 h2; exact absurd h2 (by omega)
  | succ k9 ih =>
    intro i hi9 hk9 H locs ls u am n t z hJ hP hD hS hl
    refine lv_iload hx hb dL_law_159 (lv_at hl 7 rfl) ?_
    refine lv_bipush (v := 70) hx hb dL_law_161 (by decide) ?_
    refine lv_icmp_ge (tgt := 504) hx hb dL_law_163 (by decide) (fun c_163 => ?_) (fun c_163 => ?_)
    · refine va_forget hS.2.2 ?_
      refine W.widen (k := 106) (n := 830) (Nat.le_of_ble_eq_true rfl) (Nat.le_of_ble_eq_true rfl) ?_
      refine lv_iload_n hx hb dL_law_504 rfl (lv_at hl 2 rfl) ?_
      exact lw_ret hx hb hr hlocks dL_law_505
    · have hi : i < 70 := Nat.lt_of_not_le fun q => c_163 (nI_le q (by omega))
      refine lv_iload_n hx hb dL_law_166 rfl (lv_at hl 2 rfl) ?_
      refine lv_if_eq (tgt := 504) hx hb dL_law_167 (by decide) (fun c_167 => absurd c_167 (by decide)) (fun c_167 => ?_)
      refine lw_170 hL C0 hK hTe hi (fun H locs ls u am n t z hJ hP hD hS hl => ?_) hJ hP hD hS hl
      refine lv_iinc (v := nI (i + 1)) (lv' := [(8, .int (nI (i + 1))), (0, .ref b), (1, .ref (a 0)), (2, .int 1), (4, .int (nI t)), (5, .int (nI z)), (6, .ref o1), (7, .ref o2)]) hx hb dL_law_498 hl (k := 7) rfl (by rw [nI_succ]; rfl) (by decide) rfl (fun ls hl => ?_)
      refine lv_goto (tgt := 159) hx hb dL_law_501 (by decide) ?_
      exact ih (i + 1) (by omega) (by omega) H locs ls u am n t z hJ hP hD hS (lv_sub hl [1, 2, 3, 4, 5, 6, 7, 0] rfl)
end LAWS
set_option maxHeartbeats 4000000 in
set_option maxRecDepth 100000 in
theorem whole_start {p : Program} {e : Env} {s : State} {m : MethodId} {below : List Frame} {meth : Method} {c : Code} (l : Launch) (hflags : l.flags = flags0) {b L : Nat} {xs : Nat → Int32} (hL : L ≤ 260) (C0 : lw_At p s m meth c b L xs) : W p l e room_1 s m #[Value.ref b] below meth c s.heap [] 0 0 (lw_Z below #[Value.ref b] s) (entryFrame m ([Value.ref b] : List Value).toArray 14) := by
  obtain ⟨D, cI, cZ, hK⟩ := lw_K0 C0
  obtain ⟨hx, hb, hr, hml, hown, hts, hX, hbl, hlocks, hgv⟩ := id C0
  have hts0 := hts
  have hts := fun w h => hts w (wsL_law_in w h)
  have hown : s.vm.findClass RL = some m.cls := hown
  have hb : c.code = cL_law := hb
  have hA : ∀ q : Nat, s.heap.size ≤ q → (fun q : Nat => s.heap.size ≤ q) q := fun _ h => h
  have hbA : ¬ (fun q : Nat => s.heap.size ≤ q) b := Nat.not_le.mpr hbl
  obtain ⟨T, hTe⟩ : ∃ T, T = pz_T xs L := ⟨_, rfl⟩
  have hT : ∀ k, T k < 2 ^ 31 := fun k => by rw [hTe]; exact pz_T_lt xs L k
  have hS : va_S (fun q : Nat => s.heap.size ≤ q) s.heap s.heap [] := va_S.rf
  have hP : va_P D vwCl [] s.heap := fun k q h => by simp at h
  have hD : va_D (fun q : Nat => s.heap.size ≤ q) [] := ⟨fun i j p q h => by simp at h, fun k q h => by simp at h⟩
  have hl := lv_entry ([.ref b]) (n := 14) (Nat.le_of_ble_eq_true rfl)
  rw [lg_entry_eq]
  generalize (lg_sl ([.ref b]) ++ List.replicate (14 - (lg_sl ([.ref b])).length) Slot.unset).toArray = ls at hl ⊢
  have hl : lv_has ls 14 [(0, .ref b)] := hl
  refine va_new (ci := 4) (fs := [.null, .null, .null, .null, .int 0, .int 0, .int 0, .int 0, .int 0, .int 0, .int 0, .int 0, .int 0, .int 0]) (C := RX4) (T := TX4) (N := 14) hx hb hts0 inX4 tyX4 tyX4_ok hown (hts0 (.classLink RL 20 RX4) (List.mem_of_getElem? (i := 25) rfl)) (hts0 (.instantiable RX4 14) (List.mem_of_getElem? (i := 26) rfl)) (hts0 (.initialized RX4) (List.mem_of_getElem? (i := 13) rfl)) hK hP hD hS hA rfl (fun j hj => by rcases (show j = 0 ∨ j = 1 ∨ j = 2 ∨ j = 3 ∨ j = 4 ∨ j = 5 ∨ j = 6 ∨ j = 7 ∨ j = 8 ∨ j = 9 ∨ j = 10 ∨ j = 11 ∨ j = 12 ∨ j = 13 by omega) with rfl | rfl | rfl | rfl | rfl | rfl | rfl | rfl | rfl | rfl | rfl | rfl | rfl | rfl <;> rfl) (Nat.le_of_ble_eq_true rfl) (Nat.le_of_ble_eq_true rfl) dL_law_0 (fun q1 H hP hD hS => ?_)
  have hP : va_P D vwCl (([] : va_W) ++ [(q1, .inr (4, [.null, .null, .null, .null, .int 0, .int 0, .int 0, .int 0, .int 0, .int 0, .int 0, .int 0, .int 0, .int 0]))]) H := hP
  have hD : va_D (fun q : Nat => s.heap.size ≤ q) (([] : va_W) ++ [(q1, .inr (4, [.null, .null, .null, .null, .int 0, .int 0, .int 0, .int 0, .int 0, .int 0, .int 0, .int 0, .int 0, .int 0]))]) := hD
  refine W.widen (k := 1) (n := 14) (Nat.le_of_ble_eq_true rfl) (Nat.le_of_ble_eq_true rfl) ?_
  refine lv_dup hx hb dL_law_3 rfl ?_
  refine pg_nR (pg_rI (As := []) (rest := [.ref q1]) ⟨hx, hb, hml, hown, hts⟩ (cn_X4 l D cI cZ q1 H.size) (cwI 0 hts gL_law_X4_init rfl rfl rfl (hts0 (.initialized RX4) (List.mem_of_getElem? (i := 13) rfl)) (hts0 (.methodLink RL 91 yX4_init) (List.mem_of_getElem? (i := 27) rfl)) (hts0 (.instanceMethod yX4_init) (List.mem_of_getElem? (i := 28) rfl)) rfl (by decide +kernel) ⟨Nat.le_of_ble_eq_true rfl, Nat.le_of_ble_eq_true rfl⟩) hK (pg_PR hP) (pg_DR hD) rfl hl.1 rfl (Nat.le_of_ble_eq_true rfl) dL_law_4 ⟨Nat.le_of_ble_eq_true rfl, Nat.le_of_ble_eq_true rfl⟩) hP hD hS hA (fun a H locs ha hP hD hS => ?_)
  refine W.widen (k := 19) (n := 149) (Nat.le_of_ble_eq_true rfl) (Nat.le_of_ble_eq_true rfl) ?_
  have hP : va_P D vwCl (pg_wB cI cZ a tm_u0) H := hP
  have hD : va_D (fun q : Nat => s.heap.size ≤ q) (pg_wB cI cZ a tm_u0) := hD
  refine lv_astore_n (lv' := [(1, .ref q1), (0, .ref b)]) hx hb dL_law_7 rfl hl (by decide) rfl (fun ls hl => ?_)
  have hl : lv_has ls 14 [(1, .ref (a 0)), (0, .ref b)] := by rw [ha]; exact hl
  refine lv_aload_n hx hb dL_law_8 rfl (lv_at hl 0 rfl) ?_
  refine pg_iE (pg_rV (As := []) (rest := []) ⟨hx, hb, hml, hown, hts⟩ (cc_day l D cI cZ a H.size tm_u0 ) (cwV 0 hts gL_law_X4_day rfl rfl rfl (by decide +kernel) ⟨Nat.le_of_ble_eq_true rfl, Nat.le_of_ble_eq_true rfl⟩) hK hP hD 0 (ci := 4) rfl rfl rfl rfl hl.1 rfl (Nat.le_of_ble_eq_true rfl) dL_law_9 ⟨Nat.le_of_ble_eq_true rfl, Nat.le_of_ble_eq_true rfl⟩) hD hS hA (fun H locs hP hD hS => ?_)
  have hP : va_P D vwCl (pg_wB cI cZ a tm_u0) H := hP
  have hD : va_D (fun q : Nat => s.heap.size ≤ q) (pg_wB cI cZ a tm_u0) := hD
  refine lv_iconst (v := (-1)) hx hb dL_law_12 (by decide) ?_
  refine lv_icmp_ne (tgt := 28) hx hb dL_law_13 (by decide) (fun c_13 => absurd rfl c_13) (fun c_13 => ?_)
  refine lv_aload_n hx hb dL_law_16 rfl (lv_at hl 0 rfl) ?_
  refine pg_iE (pg_rV (As := []) (rest := []) ⟨hx, hb, hml, hown, hts⟩ (cc_finalPrice l D cI cZ a H.size tm_u0 ) (cwV 0 hts gL_law_X4_finalPrice rfl rfl rfl (by decide +kernel) ⟨Nat.le_of_ble_eq_true rfl, Nat.le_of_ble_eq_true rfl⟩) hK hP hD 0 (ci := 4) rfl rfl rfl rfl hl.1 rfl (Nat.le_of_ble_eq_true rfl) dL_law_17 ⟨Nat.le_of_ble_eq_true rfl, Nat.le_of_ble_eq_true rfl⟩) hD hS hA (fun H locs hP hD hS => ?_)
  have hP : va_P D vwCl (pg_wB cI cZ a tm_u0) H := hP
  have hD : va_D (fun q : Nat => s.heap.size ≤ q) (pg_wB cI cZ a tm_u0) := hD
  refine lv_iconst (v := (-1)) hx hb dL_law_20 (by decide) ?_
  refine lv_icmp_ne (tgt := 28) hx hb dL_law_21 (by decide) (fun c_21 => absurd rfl c_21) (fun c_21 => ?_)
  refine lv_iconst (v := 1) hx hb dL_law_24 (by decide) ?_
  refine lv_goto (tgt := 29) hx hb dL_law_25 (by decide) ?_
  refine lv_istore_n (lv' := [(2, .int 1), (1, .ref (a 0)), (0, .ref b)]) hx hb dL_law_29 rfl hl (by decide) rfl (fun ls hl => ?_)
  refine lv_aload_n hx hb dL_law_30 rfl (lv_at hl 1 rfl) ?_
  refine lv_aload_n hx hb dL_law_31 rfl (lv_at hl 2 rfl) ?_
  refine pg_vE (pg_rSX (As := [.ref (a 0), .ref b]) (rest := []) ⟨hx, hb, hml, hown, hts⟩ (ct_terms l D cI cZ a b L xs hL T hTe hT H.size tm_u0 rfl) (va_cwS 2 hts gL_law_L_terms rfl rfl rfl (by decide +kernel) ⟨Nat.le_of_ble_eq_true rfl, Nat.le_of_ble_eq_true rfl⟩) hX hbl hbA hK hP hD hS hA rfl hl.1 rfl (Nat.le_of_ble_eq_true rfl) dL_law_32 ⟨Nat.le_of_ble_eq_true rfl, Nat.le_of_ble_eq_true rfl⟩) hD hS hA (fun H locs hP hD hS => ?_)
  have hP : va_P D vwCl (pg_wB cI cZ a (tm_end T tm_u0)) H := hP
  have hD : va_D (fun q : Nat => s.heap.size ≤ q) (pg_wB cI cZ a (tm_end T tm_u0)) := hD
  have h3 : (tm_end T tm_u0).1 3 = -1 := by rw [tm_ends]; rfl
  refine lv_aload_n hx hb dL_law_35 rfl (lv_at hl 1 rfl) ?_
  refine lv_aload_n hx hb dL_law_36 rfl (lv_at hl 2 rfl) ?_
  refine lv_bipush (v := 15) hx hb dL_law_37 (by decide) ?_
  refine pg_told (rest := [.ref (a 0)]) (k := 15) ⟨hx, hb, hml, hown, hts⟩ (va_cwS 2 hts gL_law_L_told rfl rfl rfl (by decide +kernel) ⟨Nat.le_of_ble_eq_true rfl, Nat.le_of_ble_eq_true rfl⟩) hX hbl hbA hL hP hS hA hTe (by omega) hl.1 (Nat.le_of_ble_eq_true rfl) dL_law_39 ⟨Nat.le_of_ble_eq_true rfl, Nat.le_of_ble_eq_true rfl⟩ (fun H locs hP hS => ?_)
  refine lv_ldc hx hb hown (hts0 (.constant RL 34 (500000)) (List.mem_of_getElem? (i := 427) rfl)) dL_law_42 ?_
  refine pg_iremM (k := (T 15)) (j := 500000) hx hb rfl rfl (by have := hT 15; omega) (by omega) (by omega) dL_law_44 ?_
  refine lv_aload_n hx hb dL_law_45 rfl (lv_at hl 2 rfl) ?_
  refine lv_bipush (v := 16) hx hb dL_law_46 (by decide) ?_
  refine pg_told (rest := [.int (nI ((T 15) % 500000)), .ref (a 0)]) (k := 16) ⟨hx, hb, hml, hown, hts⟩ (va_cwS 2 hts gL_law_L_told rfl rfl rfl (by decide +kernel) ⟨Nat.le_of_ble_eq_true rfl, Nat.le_of_ble_eq_true rfl⟩) hX hbl hbA hL hP hS hA hTe (by omega) hl.1 (Nat.le_of_ble_eq_true rfl) dL_law_48 ⟨Nat.le_of_ble_eq_true rfl, Nat.le_of_ble_eq_true rfl⟩ (fun H locs hP hS => ?_)
  refine lv_ldc hx hb hown (hts0 (.constant RL 34 (500000)) (List.mem_of_getElem? (i := 427) rfl)) dL_law_51 ?_
  refine pg_iremM (k := (T 16)) (j := 500000) hx hb rfl rfl (by have := hT 16; omega) (by omega) (by omega) dL_law_53 ?_
  refine lv_aload_n hx hb dL_law_54 rfl (lv_at hl 2 rfl) ?_
  refine lv_bipush (v := 17) hx hb dL_law_55 (by decide) ?_
  refine pg_told (rest := [.int (nI ((T 16) % 500000)), .int (nI ((T 15) % 500000)), .ref (a 0)]) (k := 17) ⟨hx, hb, hml, hown, hts⟩ (va_cwS 2 hts gL_law_L_told rfl rfl rfl (by decide +kernel) ⟨Nat.le_of_ble_eq_true rfl, Nat.le_of_ble_eq_true rfl⟩) hX hbl hbA hL hP hS hA hTe (by omega) hl.1 (Nat.le_of_ble_eq_true rfl) dL_law_57 ⟨Nat.le_of_ble_eq_true rfl, Nat.le_of_ble_eq_true rfl⟩ (fun H locs hP hS => ?_)
  refine lv_ldc hx hb hown (hts0 (.constant RL 96 (600000)) (List.mem_of_getElem? (i := 504) rfl)) dL_law_60 ?_
  refine pg_iremM (k := (T 17)) (j := 600000) hx hb rfl rfl (by have := hT 17; omega) (by omega) (by omega) dL_law_62 ?_
  refine lv_ldc hx hb hown (hts0 (.constant RL 25 (300000)) (List.mem_of_getElem? (i := 416) rfl)) dL_law_63 ?_
  refine pg_isubM (k := ((T 17) % 600000)) (j := 300000) hx hb rfl rfl dL_law_65 ?_
  refine pg_iE (pg_rV (As := [.int (nI ((T 15) % 500000)), .int (nI ((T 16) % 500000)), .int (nI ((T 17) % 600000) - nI 300000)]) (rest := []) ⟨hx, hb, hml, hown, hts⟩ (cc_close_ok l D cI cZ a H.size (tm_end T tm_u0) (nI ((T 15) % 500000)) (nI ((T 16) % 500000)) (nI ((T 17) % 600000) - nI 300000) (tm_hClose (T 15) (T 16) (T 17) h3)) (cwV 3 hts gL_law_X4_close rfl rfl rfl (by decide +kernel) ⟨Nat.le_of_ble_eq_true rfl, Nat.le_of_ble_eq_true rfl⟩) hK hP hD 0 (ci := 4) rfl rfl rfl rfl hl.1 rfl (Nat.le_of_ble_eq_true rfl) dL_law_66 ⟨Nat.le_of_ble_eq_true rfl, Nat.le_of_ble_eq_true rfl⟩) hD hS hA (fun H locs hP hD hS => ?_)
  have hP : va_P D vwCl (pg_wB cI cZ a (pg_close (tm_end T tm_u0) (nI ((T 15) % 500000)) (nI ((T 16) % 500000)) (nI ((T 17) % 600000) - nI 300000))) H := hP
  have hD : va_D (fun q : Nat => s.heap.size ≤ q) (pg_wB cI cZ a (pg_close (tm_end T tm_u0) (nI ((T 15) % 500000)) (nI ((T 16) % 500000)) (nI ((T 17) % 600000) - nI 300000))) := hD
  have hJ0 := pg_J0 T
  have hf4 : pg_fin (tm_end T tm_u0) (nI ((T 15) % 500000)) (nI ((T 16) % 500000)) (nI ((T 17) % 600000) - nI 300000) = (pg_close (tm_end T tm_u0) (nI ((T 15) % 500000)) (nI ((T 16) % 500000)) (nI ((T 17) % 600000) - nI 300000)).1 4 := rfl
  have hf3 : (pg_close (tm_end T tm_u0) (nI ((T 15) % 500000)) (nI ((T 16) % 500000)) (nI ((T 17) % 600000) - nI 300000)).1 3 = 0 := rfl
  refine W.eq (g2 := F0 m 69 ls [.int ((pg_close (tm_end T tm_u0) (nI ((T 15) % 500000)) (nI ((T 16) % 500000)) (nI ((T 17) % 600000) - nI 300000)).1 4)]) (by rw [hf4]) ?_
  generalize pg_close (tm_end T tm_u0) (nI ((T 15) % 500000)) (nI ((T 16) % 500000)) (nI ((T 17) % 600000) - nI 300000) = U at hP hD hJ0 hf3 ⊢
  clear hf4
  refine lv_istore_n (lv' := [(3, .int (U.1 4)), (2, .int 1), (1, .ref (a 0)), (0, .ref b)]) hx hb dL_law_69 rfl hl (by decide) rfl (fun ls hl => ?_)
  refine lv_iload_n hx hb dL_law_70 rfl (lv_at hl 1 rfl) ?_
  refine lv_if_eq (tgt := 100) hx hb dL_law_71 (by decide) (fun c_71 => absurd c_71 (by decide)) (fun c_71 => ?_)
  refine lv_iload_n hx hb dL_law_74 rfl (lv_at hl 0 rfl) ?_
  refine lv_aload_n hx hb dL_law_75 rfl (lv_at hl 2 rfl) ?_
  refine pg_iE (pg_rV (As := []) (rest := [.int (U.1 4)]) ⟨hx, hb, hml, hown, hts⟩ (cc_finalPrice l D cI cZ a H.size U ) (cwV 0 hts gL_law_X4_finalPrice rfl rfl rfl (by decide +kernel) ⟨Nat.le_of_ble_eq_true rfl, Nat.le_of_ble_eq_true rfl⟩) hK hP hD 0 (ci := 4) rfl rfl rfl rfl hl.1 rfl (Nat.le_of_ble_eq_true rfl) dL_law_76 ⟨Nat.le_of_ble_eq_true rfl, Nat.le_of_ble_eq_true rfl⟩) hD hS hA (fun H locs hP hD hS => ?_)
  have hP : va_P D vwCl (pg_wB cI cZ a U) H := hP
  have hD : va_D (fun q : Nat => s.heap.size ≤ q) (pg_wB cI cZ a U) := hD
  refine lv_icmp_ne (tgt := 100) hx hb dL_law_79 (by decide) (fun c_79 => absurd rfl c_79) (fun c_79 => ?_)
  refine lv_aload_n hx hb dL_law_82 rfl (lv_at hl 2 rfl) ?_
  refine pg_iE (pg_rV (As := []) (rest := []) ⟨hx, hb, hml, hown, hts⟩ (cc_day l D cI cZ a H.size U ) (cwV 0 hts gL_law_X4_day rfl rfl rfl (by decide +kernel) ⟨Nat.le_of_ble_eq_true rfl, Nat.le_of_ble_eq_true rfl⟩) hK hP hD 0 (ci := 4) rfl rfl rfl rfl hl.1 rfl (Nat.le_of_ble_eq_true rfl) dL_law_83 ⟨Nat.le_of_ble_eq_true rfl, Nat.le_of_ble_eq_true rfl⟩) hD hS hA (fun H locs hP hD hS => ?_)
  have hP : va_P D vwCl (pg_wB cI cZ a U) H := hP
  have hD : va_D (fun q : Nat => s.heap.size ≤ q) (pg_wB cI cZ a U) := hD
  refine lv_if_ne (tgt := 100) hx hb dL_law_86 (by decide) (fun c_86 => absurd hf3 c_86) (fun c_86 => ?_)
  refine lv_aload_n hx hb dL_law_89 rfl (lv_at hl 2 rfl) ?_
  refine pg_iE (pg_rS (As := [.ref (a 0)]) (rest := []) ⟨hx, hb, hml, hown, hts⟩ (ct_isWhole l D cI cZ a H.size U (tm_ld T) (fun _ => 0) 0 0 0 hJ0) (va_cwS 1 hts gL_law_L_isWhole rfl rfl rfl (by decide +kernel) ⟨Nat.le_of_ble_eq_true rfl, Nat.le_of_ble_eq_true rfl⟩) hK hP hD rfl hl.1 rfl (Nat.le_of_ble_eq_true rfl) dL_law_90 ⟨Nat.le_of_ble_eq_true rfl, Nat.le_of_ble_eq_true rfl⟩) hD hS hA (fun H locs hP hD hS => ?_)
  have hP : va_P D vwCl (pg_wB cI cZ a U) H := hP
  have hD : va_D (fun q : Nat => s.heap.size ≤ q) (pg_wB cI cZ a U) := hD
  refine lv_if_eq (tgt := 100) hx hb dL_law_93 (by decide) (fun c_93 => absurd c_93 (by decide)) (fun c_93 => ?_)
  refine lv_iconst (v := 1) hx hb dL_law_96 (by decide) ?_
  refine lv_goto (tgt := 101) hx hb dL_law_97 (by decide) ?_
  refine lv_istore_n (lv' := [(2, .int 1), (3, .int (U.1 4)), (1, .ref (a 0)), (0, .ref b)]) hx hb dL_law_101 rfl hl (by decide) rfl (fun ls hl => ?_)
  refine lv_iconst (v := 0) hx hb dL_law_102 (by decide) ?_
  refine lv_istore (lv' := [(4, .int 0), (2, .int 1), (3, .int (U.1 4)), (1, .ref (a 0)), (0, .ref b)]) hx hb dL_law_103 hl (by decide) rfl (fun ls hl => ?_)
  refine lv_iconst (v := 0) hx hb dL_law_105 (by decide) ?_
  refine lv_istore (lv' := [(5, .int 0), (4, .int 0), (2, .int 1), (3, .int (U.1 4)), (1, .ref (a 0)), (0, .ref b)]) hx hb dL_law_106 hl (by decide) rfl (fun ls hl => ?_)
  refine lv_iconst (v := 3) hx hb dL_law_108 (by decide) ?_
  refine pg_newi hx hb (hts0 (.arrayClass .int) (List.mem_of_getElem? (i := 48) rfl)) hK hP hD hS hA 3 (by decide) (by decide) (Nat.le_of_ble_eq_true rfl) (Nat.le_of_ble_eq_true rfl) (Nat.le_of_ble_eq_true rfl) dL_law_109 (fun o1 H hP hD hS => ?_)
  refine W.widen (k := 20) (n := 152) (Nat.le_of_ble_eq_true rfl) (Nat.le_of_ble_eq_true rfl) ?_
  refine lv_astore (lv' := [(6, .ref o1), (5, .int 0), (4, .int 0), (2, .int 1), (3, .int (U.1 4)), (1, .ref (a 0)), (0, .ref b)]) hx hb dL_law_111 hl (by decide) rfl (fun ls hl => ?_)
  refine lv_bipush (v := 20) hx hb dL_law_113 (by decide) ?_
  refine pg_newi hx hb (hts0 (.arrayClass .int) (List.mem_of_getElem? (i := 48) rfl)) hK hP hD hS hA 20 (by decide) (by decide) (Nat.le_of_ble_eq_true rfl) (Nat.le_of_ble_eq_true rfl) (Nat.le_of_ble_eq_true rfl) dL_law_115 (fun o2 H hP hD hS => ?_)
  refine W.widen (k := 21) (n := 172) (Nat.le_of_ble_eq_true rfl) (Nat.le_of_ble_eq_true rfl) ?_
  have hP : va_P D vwCl (lw_W cI cZ a o1 o2 U (fun _ => 0) (fun _ => 0)) H := hP
  have hD : va_D (fun q : Nat => s.heap.size ≤ q) (lw_W cI cZ a o1 o2 U (fun _ => 0) (fun _ => 0)) := hD
  refine lv_astore (lv' := [(7, .ref o2), (6, .ref o1), (5, .int 0), (4, .int 0), (2, .int 1), (3, .int (U.1 4)), (1, .ref (a 0)), (0, .ref b)]) hx hb dL_law_117 hl (by decide) rfl (fun ls hl => ?_)
  refine lv_iconst (v := 0) hx hb dL_law_119 (by decide) ?_
  refine lv_istore (lv' := [(8, .int 0), (7, .ref o2), (6, .ref o1), (5, .int 0), (4, .int 0), (2, .int 1), (3, .int (U.1 4)), (1, .ref (a 0)), (0, .ref b)]) hx hb dL_law_120 hl (by decide) rfl (fun ls hl => ?_)
  have L122 : ∀ (k9 i : Nat) (f : Nat → Int32), i ≤ 3 → 3 < i + k9 → (∀ j, j < i → f j = tm_ld T j) → ∀ (H : Heap) (locs : List Loc), va_P D vwCl (lw_W cI cZ a o1 o2 U f (fun _ => 0)) H → va_D (fun q : Nat => s.heap.size ≤ q) (lw_W cI cZ a o1 o2 U f (fun _ => 0)) → va_S (fun q : Nat => s.heap.size ≤ q) s.heap H locs → ∀ ls : Array Slot, lv_has ls 14 [(8, .int (nI i)), (0, .ref b), (1, .ref (a 0)), (2, .int 1), (4, .int (nI 0)), (5, .int (nI 0)), (6, .ref o1), (7, .ref o2)] → W p l e room_1 s m #[Value.ref b] below meth c H locs 21 172 (lw_Z below #[Value.ref b] s) (F0 m 122 ls []) := by
    intro k9
    induction k9 with
    | zero => intro i f h1 h2; exact absurd h2 (by omega)
    | succ k9 ih =>
      intro i f hi9 hk9 hf9 H locs hP hD hS ls hl
      refine lv_iload hx hb dL_law_122 (lv_at hl 0 rfl) ?_
      refine lv_iconst (v := 3) hx hb dL_law_124 (by decide) ?_
      refine lv_icmp_ge (tgt := 155) hx hb dL_law_125 (by decide) (fun c_125 => ?_) (fun c_125 => ?_)
      · have hiN : i = 3 := pg_exit (rfl) (by decide) hi9 c_125
        subst hiN
        refine lv_bipush (v := 18) hx hb dL_law_155 (by decide) ?_
        refine lv_istore (lv' := [(8, .int 18), (0, .ref b), (1, .ref (a 0)), (2, .int 1), (4, .int (nI 0)), (5, .int (nI 0)), (6, .ref o1), (7, .ref o2)]) hx hb dL_law_157 hl (by decide) rfl (fun ls hl => ?_)
        exact lw_loop hL C0 hK hTe 53 18 (by decide) (by decide) H locs ls U (fun _ => 0) 0 0 0 (hJ0.ld hf9) hP hD hS (lv_sub hl [1, 2, 3, 4, 5, 6, 7, 0] rfl)
      · have hlt : i < 3 := pg_stay (rfl) (by omega) c_125
        refine lv_aload hx hb dL_law_128 (lv_at hl 6 rfl) ?_
        refine lv_iload hx hb dL_law_130 (lv_at hl 0 rfl) ?_
        refine lv_aload_n hx hb dL_law_132 rfl (lv_at hl 1 rfl) ?_
        refine lv_iload hx hb dL_law_133 (lv_at hl 0 rfl) ?_
        refine lv_bipush (v := 11) hx hb dL_law_135 (by decide) ?_
        refine pg_iaddM (k := i) (j := 11) hx hb rfl rfl dL_law_137 ?_
        refine pg_told (rest := [.int (nI i), .ref o1]) (k := (i + 11)) ⟨hx, hb, hml, hown, hts⟩ (va_cwS 2 hts gL_law_L_told rfl rfl rfl (by decide +kernel) ⟨Nat.le_of_ble_eq_true rfl, Nat.le_of_ble_eq_true rfl⟩) hX hbl hbA hL hP hS hA hTe (by omega) hl.1 (Nat.le_of_ble_eq_true rfl) dL_law_138 ⟨Nat.le_of_ble_eq_true rfl, Nat.le_of_ble_eq_true rfl⟩ (fun H locs hP hS => ?_)
        refine lv_bipush (v := 77) hx hb dL_law_141 (by decide) ?_
        refine pg_idivM (k := (T (i + 11))) (j := 77) hx hb rfl rfl (by have := hT (i + 11); omega) (by omega) (by omega) dL_law_143 ?_
        refine lv_sipush (v := 1500) hx hb dL_law_144 (by decide) ?_
        refine pg_iremM (k := ((T (i + 11)) / 77)) (j := 1500) hx hb rfl rfl (by have := hT (i + 11); omega) (by omega) (by omega) dL_law_147 ?_
        refine pg_ist hx hb hK hP hD hS 19 0 rfl rfl (show i < _ by omega) (by decide) dL_law_148 (fun H locs hP hD hS => ?_)
        have hP : va_P D vwCl (lw_W cI cZ a o1 o2 U (upd f i (nI (((T (i + 11)) / 77) % 1500))) (fun _ => 0)) H := hP
        have hD : va_D (fun q : Nat => s.heap.size ≤ q) (lw_W cI cZ a o1 o2 U (upd f i (nI (((T (i + 11)) / 77) % 1500))) (fun _ => 0)) := hD
        refine lv_iinc (v := nI (i + 1)) (lv' := [(8, .int (nI (i + 1))), (0, .ref b), (1, .ref (a 0)), (2, .int 1), (4, .int (nI 0)), (5, .int (nI 0)), (6, .ref o1), (7, .ref o2)]) hx hb dL_law_149 hl (k := 0) rfl (by rw [nI_succ]; rfl) (by decide) rfl (fun ls hl => ?_)
        refine lv_goto (tgt := 122) hx hb dL_law_152 (by decide) ?_
        refine ih (i + 1) (upd f i (nI (((T (i + 11)) / 77) % 1500))) (by omega) (by omega) (fun j hj => ?_) _ _ hP hD hS ls hl
        by_cases e9 : j = i
        · rw [e9, pg_updk]; rfl
        · rw [pg_updn _ _ e9]; exact hf9 j (by omega)
  exact L122 (3 + 1) 0 _ (by omega) (by omega) (fun j hj => absurd hj (Nat.not_lt_zero j)) _ _ hP hD hS ls (lv_sub hl [0, 8, 7, 5, 4, 3, 2, 1] rfl)
