section LAWS
variable {p : Program} {e : Env} {s : State} {m : MethodId} {below : List Frame} {meth : Method} {c : Code} {l : Launch} {b L : Nat} {xs : Nat → Int32} {D : va_G} {cI cZ : ClassId} {a : Nat → Nat} {o1 o2 : Nat} {T : Nat → Nat} {H : Heap} {locs : List Loc} {ls : Array Slot} {u : pg_St} {lst am : Nat → Int32} {n t z i : Nat}
set_option maxHeartbeats 4000000 in
set_option maxRecDepth 100000 in
theorem lw_481 (hL : L ≤ 260) (C0 : lw_At p s m meth c b L xs) (hK : va_K D vwCl (pg_ty cI cZ) s) (hTe : T = pz_T xs L) (hi : i < 70) (kk : lw_next p l e s m below meth c b D cI cZ a o1 o2 lst i) (hJ : pg_J u lst am n t z) (hP : va_P D vwCl (lw_W cI cZ a o1 o2 u lst am) H) (hD : va_D (fun q : Nat => s.heap.size ≤ q) (lw_W cI cZ a o1 o2 u lst am)) (hS : va_S (fun q : Nat => s.heap.size ≤ q) s.heap H locs)  (hl : lv_has ls 14 (lw_Lv b (a 0) o1 o2 t z i)) : W p l e room_1 s m #[Value.ref b] below meth c H locs 21 172 (lw_Z below #[Value.ref b] s) (F0 m 481 ls []) := by
  obtain ⟨hx, hb, hr, hml, hown, hts, hX, hbl, hlocks, hgv⟩ := id C0
  have hts0 := hts
  have hts := fun w h => hts w (wsL_law_in w h)
  have hown : s.vm.findClass RL = some m.cls := hown
  have hb : c.code = cL_law := hb
  have hA : ∀ q : Nat, s.heap.size ≤ q → (fun q : Nat => s.heap.size ≤ q) q := fun _ h => h
  have hbA : ¬ (fun q : Nat => s.heap.size ≤ q) b := Nat.not_le.mpr hbl
  have hT : ∀ k, T k < 2 ^ 31 := fun k => by rw [hTe]; exact pz_T_lt xs L k
  have hn : u.1 10 = nI n := hJ.2.1.1
  have h20 : n ≤ 20 := hJ.2.1.2.1
  refine lv_iload_n hx hb dL_law_481 rfl (lv_at hl 2 rfl) ?_
  refine lv_if_eq (tgt := 496) hx hb dL_law_482 (by decide) (fun c_482 => absurd c_482 (by decide)) (fun c_482 => ?_)
  refine lv_aload_n hx hb dL_law_485 rfl (lv_at hl 1 rfl) ?_
  refine pg_iL (pg_rS (As := [.ref (a 0)]) (rest := []) ⟨hx, hb, hml, hown, hts⟩ (ct_isWhole l D cI cZ a H.size u lst am n t z hJ) (va_cwS 1 hts gL_law_L_isWhole rfl rfl rfl (by decide +kernel) ⟨Nat.le_of_ble_eq_true rfl, Nat.le_of_ble_eq_true rfl⟩) hK (pg_PL hP) (pg_DL hD) rfl hl.1 rfl (Nat.le_of_ble_eq_true rfl) dL_law_486 ⟨Nat.le_of_ble_eq_true rfl, Nat.le_of_ble_eq_true rfl⟩) hP hD hS hA (fun H locs hP hD hS => ?_)
  have hP : va_P D vwCl (lw_W cI cZ a o1 o2 u lst am) H := hP
  have hD : va_D (fun q : Nat => s.heap.size ≤ q) (lw_W cI cZ a o1 o2 u lst am) := hD
  refine lv_if_eq (tgt := 496) hx hb dL_law_489 (by decide) (fun c_489 => absurd c_489 (by decide)) (fun c_489 => ?_)
  refine lv_iconst (v := 1) hx hb dL_law_492 (by decide) ?_
  refine lv_goto (tgt := 497) hx hb dL_law_493 (by decide) ?_
  refine lv_istore_n (lv' := [(2, .int 1), (0, .ref b), (1, .ref (a 0)), (4, .int (nI t)), (5, .int (nI z)), (6, .ref o1), (7, .ref o2), (8, .int (nI i))]) hx hb dL_law_497 rfl hl (by decide) rfl (fun ls hl => ?_)
  exact kk H locs ls u am n t z hJ hP hD hS (lv_sub hl [1, 2, 0, 3, 4, 5, 6, 7] rfl)
set_option maxHeartbeats 4000000 in
set_option maxRecDepth 100000 in
theorem lw_427 (hL : L ≤ 260) (C0 : lw_At p s m meth c b L xs) (hK : va_K D vwCl (pg_ty cI cZ) s) (hTe : T = pz_T xs L) (hi : i < 70) (kk : lw_next p l e s m below meth c b D cI cZ a o1 o2 lst i) (hJ : pg_J u lst am n t z) (hP : va_P D vwCl (lw_W cI cZ a o1 o2 u lst am) H) (hD : va_D (fun q : Nat => s.heap.size ≤ q) (lw_W cI cZ a o1 o2 u lst am)) (hS : va_S (fun q : Nat => s.heap.size ≤ q) s.heap H locs) (V Wd : Nat) (hV : V < 2 ^ 31) (hWd : Wd < 2 ^ 31) (hl : lv_has ls 14 ((9, .int (nI V)) :: (10, .int (nI Wd)) :: lw_Lv b (a 0) o1 o2 t z i)) : W p l e room_1 s m #[Value.ref b] below meth c H locs 21 172 (lw_Z below #[Value.ref b] s) (F0 m 427 ls []) := by
  obtain ⟨hx, hb, hr, hml, hown, hts, hX, hbl, hlocks, hgv⟩ := id C0
  have hts0 := hts
  have hts := fun w h => hts w (wsL_law_in w h)
  have hown : s.vm.findClass RL = some m.cls := hown
  have hb : c.code = cL_law := hb
  have hA : ∀ q : Nat, s.heap.size ≤ q → (fun q : Nat => s.heap.size ≤ q) q := fun _ h => h
  have hbA : ¬ (fun q : Nat => s.heap.size ≤ q) b := Nat.not_le.mpr hbl
  have hT : ∀ k, T k < 2 ^ 31 := fun k => by rw [hTe]; exact pz_T_lt xs L k
  have hn : u.1 10 = nI n := hJ.2.1.1
  have h20 : n ≤ 20 := hJ.2.1.2.1
  refine lv_iload hx hb dL_law_427 (lv_at hl 0 rfl) ?_
  refine lv_bipush (v := 8) hx hb dL_law_429 (by decide) ?_
  refine pg_iremM (k := V) (j := 8) hx hb rfl rfl (by omega) (by omega) (by omega) dL_law_431 ?_
  refine lv_iconst (v := 5) hx hb dL_law_432 (by decide) ?_
  refine lv_icmp_ge (tgt := 481) hx hb dL_law_433 (by decide) (fun c_433 => ?_) (fun c_433 => ?_)
  · exact lw_481 hL C0 hK hTe hi kk hJ hP hD hS (lv_sub hl [2, 3, 4, 5, 6, 7, 8, 9] rfl)
  · refine lv_aload_n hx hb dL_law_436 rfl (lv_at hl 3 rfl) ?_
    refine pg_iL (pg_rV (As := []) (rest := []) ⟨hx, hb, hml, hown, hts⟩ (cc_claims l D cI cZ a H.size u ) (cwV 0 hts gL_law_X4_claims rfl rfl rfl (by decide +kernel) ⟨Nat.le_of_ble_eq_true rfl, Nat.le_of_ble_eq_true rfl⟩) hK (pg_PL hP) (pg_DL hD) 0 (ci := 4) rfl rfl rfl rfl hl.1 rfl (Nat.le_of_ble_eq_true rfl) dL_law_437 ⟨Nat.le_of_ble_eq_true rfl, Nat.le_of_ble_eq_true rfl⟩) hP hD hS hA (fun H locs hP hD hS => ?_)
    have hP : va_P D vwCl (lw_W cI cZ a o1 o2 u lst am) H := hP
    have hD : va_D (fun q : Nat => s.heap.size ≤ q) (lw_W cI cZ a o1 o2 u lst am) := hD
    refine W.eq (g2 := F0 m 440 ls [.int (nI n)]) (by rw [hn]) ?_
    refine lv_if_ne (tgt := 447) hx hb dL_law_440 (by decide) (fun c_440 => ?_) (fun c_440 => ?_)
    · have hn0 : 0 < n := Nat.pos_of_ne_zero (pg_n0n c_440)
      have hj : Wd % n < n := Nat.mod_lt _ hn0
      refine lv_iload hx hb dL_law_447 (lv_at hl 1 rfl) ?_
      refine lv_aload_n hx hb dL_law_449 rfl (lv_at hl 3 rfl) ?_
      refine pg_iL (pg_rV (As := []) (rest := [.int (nI Wd)]) ⟨hx, hb, hml, hown, hts⟩ (cc_claims l D cI cZ a H.size u ) (cwV 0 hts gL_law_X4_claims rfl rfl rfl (by decide +kernel) ⟨Nat.le_of_ble_eq_true rfl, Nat.le_of_ble_eq_true rfl⟩) hK (pg_PL hP) (pg_DL hD) 0 (ci := 4) rfl rfl rfl rfl hl.1 rfl (Nat.le_of_ble_eq_true rfl) dL_law_450 ⟨Nat.le_of_ble_eq_true rfl, Nat.le_of_ble_eq_true rfl⟩) hP hD hS hA (fun H locs hP hD hS => ?_)
      have hP : va_P D vwCl (lw_W cI cZ a o1 o2 u lst am) H := hP
      have hD : va_D (fun q : Nat => s.heap.size ≤ q) (lw_W cI cZ a o1 o2 u lst am) := hD
      refine W.eq (g2 := F0 m 453 ls [.int (nI n), .int (nI Wd)]) (by rw [hn]) ?_
      refine pg_iremM (k := Wd) (j := n) hx hb rfl rfl (by omega) (by omega) (by omega) dL_law_453 ?_
      refine lv_istore (lv' := [(12, .int (nI (Wd % n))), (9, .int (nI V)), (10, .int (nI Wd)), (0, .ref b), (1, .ref (a 0)), (2, .int 1), (4, .int (nI t)), (5, .int (nI z)), (6, .ref o1), (7, .ref o2), (8, .int (nI i))]) hx hb dL_law_454 hl (by decide) rfl (fun ls hl => ?_)
      refine lv_aload_n hx hb dL_law_456 rfl (lv_at hl 4 rfl) ?_
      refine lv_iload hx hb dL_law_457 (lv_at hl 1 rfl) ?_
      refine lv_iload hx hb dL_law_459 (lv_at hl 2 rfl) ?_
      refine lv_aload_n hx hb dL_law_461 rfl (lv_at hl 3 rfl) ?_
      refine lv_iload hx hb dL_law_462 (lv_at hl 10 rfl) ?_
      refine lv_iconst (v := 5) hx hb dL_law_464 (by decide) ?_
      refine pg_iaddM (k := i) (j := 5) hx hb rfl rfl dL_law_465 ?_
      refine pg_told (rest := [.int (nI Wd), .int (nI V), .ref (a 0)]) (k := (i + 5)) ⟨hx, hb, hml, hown, hts⟩ (va_cwS 2 hts gL_law_L_told rfl rfl rfl (by decide +kernel) ⟨Nat.le_of_ble_eq_true rfl, Nat.le_of_ble_eq_true rfl⟩) hX hbl hbA hL hP hS hA hTe (by omega) hl.1 (Nat.le_of_ble_eq_true rfl) dL_law_466 ⟨Nat.le_of_ble_eq_true rfl, Nat.le_of_ble_eq_true rfl⟩ (fun H locs hP hS => ?_)
      refine lv_aload hx hb dL_law_469 (lv_at hl 9 rfl) ?_
      refine lv_iload hx hb dL_law_471 (lv_at hl 0 rfl) ?_
      refine pg_ild (f := am) hx hb hK hP 20 0 rfl rfl (show (Wd % n) < _ by omega) (by decide) dL_law_473 ?_
      obtain ⟨q, hq, eq9⟩ := pg_bb_ex (hJ.2.1.2.2.2.2.2 (Wd % n) (by omega)) (by decide)
      refine W.eq (g2 := F0 m 474 ls [.int (nI q), .int (nI (T (i + 5))), .int (nI Wd), .int (nI V), .ref (a 0)]) (by rw [eq9]) ?_
      refine lv_iconst (v := 1) hx hb dL_law_474 (by decide) ?_
      refine pg_iaddM (k := q) (j := 1) hx hb rfl rfl dL_law_475 ?_
      refine pg_iremM (k := (T (i + 5))) (j := (q + 1)) hx hb rfl rfl (by have := hT (i + 5); omega) (by omega) (by omega) dL_law_476 ?_
      refine pg_iLx (pg_rS (As := [.ref (a 0), .int (nI V), .int (nI Wd), .int (nI ((T (i + 5)) % (q + 1)))]) (rest := []) ⟨hx, hb, hml, hown, hts⟩ (ct_does l D cI cZ a H.size u lst am n t z hJ V Wd hV hWd (nI ((T (i + 5)) % (q + 1))) (fun _ => pz_amt hJ hj eq9 hq (Nat.le_of_lt_succ (Nat.mod_lt _ (Nat.succ_pos q))))) (va_cwS 4 hts gL_law_L_does rfl rfl rfl (by decide +kernel) ⟨Nat.le_of_ble_eq_true rfl, Nat.le_of_ble_eq_true rfl⟩) hK (pg_PL hP) (pg_DL hD) rfl hl.1 rfl (Nat.le_of_ble_eq_true rfl) dL_law_477 ⟨Nat.le_of_ble_eq_true rfl, Nat.le_of_ble_eq_true rfl⟩) hP hD hS hA (fun r9 u H locs hw9 hP hD hS => ?_)
      obtain ⟨hr9, hJ⟩ := hw9
      subst hr9
      have hP : va_P D vwCl (lw_W cI cZ a o1 o2 u lst am) H := hP
      have hD : va_D (fun q : Nat => s.heap.size ≤ q) (lw_W cI cZ a o1 o2 u lst am) := hD
      refine lv_istore_n (lv' := [(2, .int 1), (12, .int (nI (Wd % n))), (9, .int (nI V)), (10, .int (nI Wd)), (0, .ref b), (1, .ref (a 0)), (4, .int (nI t)), (5, .int (nI z)), (6, .ref o1), (7, .ref o2), (8, .int (nI i))]) hx hb dL_law_480 rfl hl (by decide) rfl (fun ls hl => ?_)
      exact lw_481 hL C0 hK hTe hi kk hJ hP hD hS (lv_sub hl [4, 5, 0, 6, 7, 8, 9, 10] rfl)
    · have hn0 : n = 0 := pg_n0i (by omega) c_440
      refine lv_iconst (v := 0) hx hb dL_law_443 (by decide) ?_
      refine lv_goto (tgt := 454) hx hb dL_law_444 (by decide) ?_
      refine lv_istore (lv' := [(12, .int (nI 0)), (9, .int (nI V)), (10, .int (nI Wd)), (0, .ref b), (1, .ref (a 0)), (2, .int 1), (4, .int (nI t)), (5, .int (nI z)), (6, .ref o1), (7, .ref o2), (8, .int (nI i))]) hx hb dL_law_454 hl (by decide) rfl (fun ls hl => ?_)
      refine lv_aload_n hx hb dL_law_456 rfl (lv_at hl 4 rfl) ?_
      refine lv_iload hx hb dL_law_457 (lv_at hl 1 rfl) ?_
      refine lv_iload hx hb dL_law_459 (lv_at hl 2 rfl) ?_
      refine lv_aload_n hx hb dL_law_461 rfl (lv_at hl 3 rfl) ?_
      refine lv_iload hx hb dL_law_462 (lv_at hl 10 rfl) ?_
      refine lv_iconst (v := 5) hx hb dL_law_464 (by decide) ?_
      refine pg_iaddM (k := i) (j := 5) hx hb rfl rfl dL_law_465 ?_
      refine pg_told (rest := [.int (nI Wd), .int (nI V), .ref (a 0)]) (k := (i + 5)) ⟨hx, hb, hml, hown, hts⟩ (va_cwS 2 hts gL_law_L_told rfl rfl rfl (by decide +kernel) ⟨Nat.le_of_ble_eq_true rfl, Nat.le_of_ble_eq_true rfl⟩) hX hbl hbA hL hP hS hA hTe (by omega) hl.1 (Nat.le_of_ble_eq_true rfl) dL_law_466 ⟨Nat.le_of_ble_eq_true rfl, Nat.le_of_ble_eq_true rfl⟩ (fun H locs hP hS => ?_)
      refine lv_aload hx hb dL_law_469 (lv_at hl 9 rfl) ?_
      refine lv_iload hx hb dL_law_471 (lv_at hl 0 rfl) ?_
      refine pg_ild (f := am) hx hb hK hP 20 0 rfl rfl (show 0 < _ by omega) (by decide) dL_law_473 ?_
      obtain ⟨q, hq, eq9⟩ := pg_bb_ex (hJ.2.1.2.2.2.2.2 0 (by omega)) (by decide)
      refine W.eq (g2 := F0 m 474 ls [.int (nI q), .int (nI (T (i + 5))), .int (nI Wd), .int (nI V), .ref (a 0)]) (by rw [eq9]) ?_
      refine lv_iconst (v := 1) hx hb dL_law_474 (by decide) ?_
      refine pg_iaddM (k := q) (j := 1) hx hb rfl rfl dL_law_475 ?_
      refine pg_iremM (k := (T (i + 5))) (j := (q + 1)) hx hb rfl rfl (by have := hT (i + 5); omega) (by omega) (by omega) dL_law_476 ?_
      refine pg_iLx (pg_rS (As := [.ref (a 0), .int (nI V), .int (nI Wd), .int (nI ((T (i + 5)) % (q + 1)))]) (rest := []) ⟨hx, hb, hml, hown, hts⟩ (ct_does l D cI cZ a H.size u lst am n t z hJ V Wd hV hWd (nI ((T (i + 5)) % (q + 1))) (fun h9 => absurd h9 (by omega))) (va_cwS 4 hts gL_law_L_does rfl rfl rfl (by decide +kernel) ⟨Nat.le_of_ble_eq_true rfl, Nat.le_of_ble_eq_true rfl⟩) hK (pg_PL hP) (pg_DL hD) rfl hl.1 rfl (Nat.le_of_ble_eq_true rfl) dL_law_477 ⟨Nat.le_of_ble_eq_true rfl, Nat.le_of_ble_eq_true rfl⟩) hP hD hS hA (fun r9 u H locs hw9 hP hD hS => ?_)
      obtain ⟨hr9, hJ⟩ := hw9
      subst hr9
      have hP : va_P D vwCl (lw_W cI cZ a o1 o2 u lst am) H := hP
      have hD : va_D (fun q : Nat => s.heap.size ≤ q) (lw_W cI cZ a o1 o2 u lst am) := hD
      refine lv_istore_n (lv' := [(2, .int 1), (12, .int (nI 0)), (9, .int (nI V)), (10, .int (nI Wd)), (0, .ref b), (1, .ref (a 0)), (4, .int (nI t)), (5, .int (nI z)), (6, .ref o1), (7, .ref o2), (8, .int (nI i))]) hx hb dL_law_480 rfl hl (by decide) rfl (fun ls hl => ?_)
      exact lw_481 hL C0 hK hTe hi kk hJ hP hD hS (lv_sub hl [4, 5, 0, 6, 7, 8, 9, 10] rfl)
set_option maxHeartbeats 4000000 in
set_option maxRecDepth 100000 in
theorem lw_304 (hL : L ≤ 260) (C0 : lw_At p s m meth c b L xs) (hK : va_K D vwCl (pg_ty cI cZ) s) (hTe : T = pz_T xs L) (hi : i < 70) (kk : lw_next p l e s m below meth c b D cI cZ a o1 o2 lst i) (hJ : pg_J u lst am n t z) (hP : va_P D vwCl (lw_W cI cZ a o1 o2 u lst am) H) (hD : va_D (fun q : Nat => s.heap.size ≤ q) (lw_W cI cZ a o1 o2 u lst am)) (hS : va_S (fun q : Nat => s.heap.size ≤ q) s.heap H locs) (V Wd : Nat) (hV : V < 2 ^ 31) (hWd : Wd < 2 ^ 31) (hl : lv_has ls 14 ((9, .int (nI V)) :: (10, .int (nI Wd)) :: lw_Lv b (a 0) o1 o2 t z i)) : W p l e room_1 s m #[Value.ref b] below meth c H locs 21 172 (lw_Z below #[Value.ref b] s) (F0 m 307 ls []) := by
  obtain ⟨hx, hb, hr, hml, hown, hts, hX, hbl, hlocks, hgv⟩ := id C0
  have hts0 := hts
  have hts := fun w h => hts w (wsL_law_in w h)
  have hown : s.vm.findClass RL = some m.cls := hown
  have hb : c.code = cL_law := hb
  have hA : ∀ q : Nat, s.heap.size ≤ q → (fun q : Nat => s.heap.size ≤ q) q := fun _ h => h
  have hbA : ¬ (fun q : Nat => s.heap.size ≤ q) b := Nat.not_le.mpr hbl
  have hT : ∀ k, T k < 2 ^ 31 := fun k => by rw [hTe]; exact pz_T_lt xs L k
  have hn : u.1 10 = nI n := hJ.2.1.1
  have h20 : n ≤ 20 := hJ.2.1.2.1
  have hz1 : z = 0 ∨ z = 1 := by have := hJ.2.2.1.2.2.2.1; omega
  rcases hz1 with rfl | rfl
  · refine lv_aload_n hx hb dL_law_307 rfl (lv_at hl 3 rfl) ?_
    refine pg_iL (pg_rV (As := []) (rest := []) ⟨hx, hb, hml, hown, hts⟩ (cc_owed l D cI cZ a H.size u ) (cwV 0 hts gL_law_X4_owed rfl rfl rfl (by decide +kernel) ⟨Nat.le_of_ble_eq_true rfl, Nat.le_of_ble_eq_true rfl⟩) hK (pg_PL hP) (pg_DL hD) 0 (ci := 4) rfl rfl rfl rfl hl.1 rfl (Nat.le_of_ble_eq_true rfl) dL_law_308 ⟨Nat.le_of_ble_eq_true rfl, Nat.le_of_ble_eq_true rfl⟩) hP hD hS hA (fun H locs hP hD hS => ?_)
    have hP : va_P D vwCl (lw_W cI cZ a o1 o2 u lst am) H := hP
    have hD : va_D (fun q : Nat => s.heap.size ≤ q) (lw_W cI cZ a o1 o2 u lst am) := hD
    refine lv_istore (lv' := [(12, .int (u.1 9)), (9, .int (nI V)), (10, .int (nI Wd)), (0, .ref b), (1, .ref (a 0)), (2, .int 1), (4, .int (nI t)), (5, .int 0), (6, .ref o1), (7, .ref o2), (8, .int (nI i))]) hx hb dL_law_311 hl (by decide) rfl (fun ls hl => ?_)
    refine lv_iconst (v := 0) hx hb dL_law_313 (by decide) ?_
    refine lv_istore (lv' := [(13, .int 0), (12, .int (u.1 9)), (9, .int (nI V)), (10, .int (nI Wd)), (0, .ref b), (1, .ref (a 0)), (2, .int 1), (4, .int (nI t)), (5, .int 0), (6, .ref o1), (7, .ref o2), (8, .int (nI i))]) hx hb dL_law_314 hl (by decide) rfl (fun ls hl => ?_)
    refine lv_iload hx hb dL_law_316 (lv_at hl 8 rfl) ?_
    refine lv_if_ne (tgt := 356) hx hb dL_law_318 (by decide) (fun c_318 => absurd (by decide) c_318) (fun c_318 => ?_)
    refine lv_iload hx hb dL_law_321 (lv_at hl 7 rfl) ?_
    refine lv_iconst (v := 4) hx hb dL_law_323 (by decide) ?_
    refine lv_icmp_ge (tgt := 356) hx hb dL_law_324 (by decide) (fun c_324 => ?_) (fun c_324 => ?_)
    · have ht4 : t = 4 := by
        have := hJ.2.2.1.2.1
        have := (nI_leI (a := 4) (by decide) (by omega)).mp (show nI 4 ≤ nI t from c_324)
        omega
      refine lv_iload hx hb dL_law_356 (lv_at hl 8 rfl) ?_
      refine lv_if_ne (tgt := 397) hx hb dL_law_358 (by decide) (fun c_358 => absurd (by decide) c_358) (fun c_358 => ?_)
      refine lv_iload hx hb dL_law_361 (lv_at hl 3 rfl) ?_
      refine lv_iconst (v := 3) hx hb dL_law_363 (by decide) ?_
      refine pg_iremM (k := Wd) (j := 3) hx hb rfl rfl (by omega) (by omega) (by omega) dL_law_364 ?_
      refine lv_if_ne (tgt := 397) hx hb dL_law_365 (by decide) (fun c_365 => ?_) (fun c_365 => ?_)
      · refine lv_iload_n hx hb dL_law_397 rfl (lv_at hl 6 rfl) ?_
        refine lv_if_eq (tgt := 422) hx hb dL_law_398 (by decide) (fun c_398 => absurd c_398 (by decide)) (fun c_398 => ?_)
        refine lv_iload hx hb dL_law_401 (lv_at hl 0 rfl) ?_
        refine lv_if_lt (tgt := 422) hx hb dL_law_403 (by decide) (fun c_403 => absurd c_403 (by decide)) (fun c_403 => ?_)
        refine lv_aload_n hx hb dL_law_406 rfl (lv_at hl 5 rfl) ?_
        refine pg_iL (pg_rV (As := []) (rest := []) ⟨hx, hb, hml, hown, hts⟩ (cc_owed l D cI cZ a H.size u ) (cwV 0 hts gL_law_X4_owed rfl rfl rfl (by decide +kernel) ⟨Nat.le_of_ble_eq_true rfl, Nat.le_of_ble_eq_true rfl⟩) hK (pg_PL hP) (pg_DL hD) 0 (ci := 4) rfl rfl rfl rfl hl.1 rfl (Nat.le_of_ble_eq_true rfl) dL_law_407 ⟨Nat.le_of_ble_eq_true rfl, Nat.le_of_ble_eq_true rfl⟩) hP hD hS hA (fun H locs hP hD hS => ?_)
        have hP : va_P D vwCl (lw_W cI cZ a o1 o2 u lst am) H := hP
        have hD : va_D (fun q : Nat => s.heap.size ≤ q) (lw_W cI cZ a o1 o2 u lst am) := hD
        refine lv_iload hx hb dL_law_410 (lv_at hl 1 rfl) ?_
        refine lv_iload hx hb dL_law_412 (lv_at hl 0 rfl) ?_
        refine lv_iadd hx hb dL_law_414 ?_
        refine lv_icmp_ne (tgt := 422) hx hb dL_law_415 (by decide) (fun c_415 => absurd (pg_a0 _).symm c_415) (fun c_415 => ?_)
        refine lv_iconst (v := 1) hx hb dL_law_418 (by decide) ?_
        refine lv_goto (tgt := 423) hx hb dL_law_419 (by decide) ?_
        refine lv_istore_n (lv' := [(2, .int 1), (13, .int 0), (12, .int (u.1 9)), (9, .int (nI V)), (10, .int (nI Wd)), (0, .ref b), (1, .ref (a 0)), (4, .int (nI t)), (5, .int 0), (6, .ref o1), (7, .ref o2), (8, .int (nI i))]) hx hb dL_law_423 rfl hl (by decide) rfl (fun ls hl => ?_)
        refine lv_goto (tgt := 481) hx hb dL_law_424 (by decide) ?_
        exact lw_481 hL C0 hK hTe hi kk hJ hP hD hS (lv_sub hl [5, 6, 0, 7, 8, 9, 10, 11] rfl)
      · refine lv_iconst (v := 1) hx hb dL_law_368 (by decide) ?_
        refine lv_istore (lv' := [(5, .int 1), (13, .int 0), (12, .int (u.1 9)), (9, .int (nI V)), (10, .int (nI Wd)), (0, .ref b), (1, .ref (a 0)), (2, .int 1), (4, .int (nI t)), (6, .ref o1), (7, .ref o2), (8, .int (nI i))]) hx hb dL_law_369 hl (by decide) rfl (fun ls hl => ?_)
        refine lv_aload_n hx hb dL_law_371 rfl (lv_at hl 6 rfl) ?_
        have hR9 := hJ.has
        refine pg_iL (pg_rV (As := []) (rest := []) ⟨hx, hb, hml, hown, hts⟩ (cc_speedUp_ok l D cI cZ a H.size u n hn h20 t hJ.2.2.1.1 hJ.2.2.1.2.1 (pz_hSpd hJ)) (cwV 0 hts gL_law_X4_speedUp rfl rfl rfl (by decide +kernel) ⟨Nat.le_of_ble_eq_true rfl, Nat.le_of_ble_eq_true rfl⟩) hK (pg_PL hP) (pg_DL hD) 0 (ci := 4) rfl rfl rfl rfl hl.1 rfl (Nat.le_of_ble_eq_true rfl) dL_law_372 ⟨Nat.le_of_ble_eq_true rfl, Nat.le_of_ble_eq_true rfl⟩) hP hD hS hA (fun H locs hP hD hS => ?_)
        have hP : va_P D vwCl (lw_W cI cZ a o1 o2 (pg_owe (pg_has u t) n (pg_hasr u t)) lst am) H := hP
        have hD : va_D (fun q : Nat => s.heap.size ≤ q) (lw_W cI cZ a o1 o2 (pg_owe (pg_has u t) n (pg_hasr u t)) lst am) := hD
        refine lv_istore (lv' := [(13, .int (pg_hasr u t)), (5, .int 1), (12, .int (u.1 9)), (9, .int (nI V)), (10, .int (nI Wd)), (0, .ref b), (1, .ref (a 0)), (2, .int 1), (4, .int (nI t)), (6, .ref o1), (7, .ref o2), (8, .int (nI i))]) hx hb dL_law_375 hl (by decide) rfl (fun ls hl => ?_)
        refine lv_aload_n hx hb dL_law_377 rfl (lv_at hl 6 rfl) ?_
        refine lv_iconst (v := 3) hx hb dL_law_378 (by decide) ?_
        refine pg_iL (pg_rV (As := [.int (nI 3)]) (rest := []) ⟨hx, hb, hml, hown, hts⟩ (cc_isMet_ok l D cI cZ a H.size (pg_owe (pg_has u t) n (pg_hasr u t)) (fun j hj => pz_nar (hR9.1.2.2.1.2.2.2.2 j hj)) (nI 3) (pg_numL (j := 3) (n := 4) (by decide) (by decide))) (cwV 1 hts gL_law_X4_isMet rfl rfl rfl (by decide +kernel) ⟨Nat.le_of_ble_eq_true rfl, Nat.le_of_ble_eq_true rfl⟩) hK (pg_PL hP) (pg_DL hD) 0 (ci := 4) rfl rfl rfl rfl hl.1 rfl (Nat.le_of_ble_eq_true rfl) dL_law_379 ⟨Nat.le_of_ble_eq_true rfl, Nat.le_of_ble_eq_true rfl⟩) hP hD hS hA (fun H locs hP hD hS => ?_)
        have hP : va_P D vwCl (lw_W cI cZ a o1 o2 (pg_owe (pg_has u t) n (pg_hasr u t)) lst am) H := hP
        have hD : va_D (fun q : Nat => s.heap.size ≤ q) (lw_W cI cZ a o1 o2 (pg_owe (pg_has u t) n (pg_hasr u t)) lst am) := hD
        refine W.eq (g2 := F0 m 382 ls [.int ((pg_owe (pg_has u t) n (pg_hasr u t)).2 13 3)]) (by rw [nI_clamp (n := 3) (by decide)]) ?_
        refine lv_if_ne (tgt := 391) hx hb dL_law_382 (by decide) (fun c_382 => ?_) (fun c_382 => ?_)
        · refine lv_iconst (v := 1) hx hb dL_law_391 (by decide) ?_
          refine lv_goto (tgt := 396) hx hb dL_law_392 (by decide) ?_
          refine lv_istore_n (lv' := [(2, .int 1), (13, .int (pg_hasr u t)), (5, .int 1), (12, .int (u.1 9)), (9, .int (nI V)), (10, .int (nI Wd)), (0, .ref b), (1, .ref (a 0)), (4, .int (nI t)), (6, .ref o1), (7, .ref o2), (8, .int (nI i))]) hx hb dL_law_396 rfl hl (by decide) rfl (fun ls hl => ?_)
          refine lv_iload_n hx hb dL_law_397 rfl (lv_at hl 0 rfl) ?_
          refine lv_if_eq (tgt := 422) hx hb dL_law_398 (by decide) (fun c_398 => absurd c_398 (by decide)) (fun c_398 => ?_)
          refine lv_iload hx hb dL_law_401 (lv_at hl 1 rfl) ?_
          refine lv_if_lt (tgt := 422) hx hb dL_law_403 (by decide) (fun c_403 => absurd c_403 (pg_not_lt (by rw [pg_i0]; exact hR9.2.1.1))) (fun c_403 => ?_)
          refine lv_aload_n hx hb dL_law_406 rfl (lv_at hl 7 rfl) ?_
          refine pg_iL (pg_rV (As := []) (rest := []) ⟨hx, hb, hml, hown, hts⟩ (cc_owed l D cI cZ a H.size (pg_owe (pg_has u t) n (pg_hasr u t)) ) (cwV 0 hts gL_law_X4_owed rfl rfl rfl (by decide +kernel) ⟨Nat.le_of_ble_eq_true rfl, Nat.le_of_ble_eq_true rfl⟩) hK (pg_PL hP) (pg_DL hD) 0 (ci := 4) rfl rfl rfl rfl hl.1 rfl (Nat.le_of_ble_eq_true rfl) dL_law_407 ⟨Nat.le_of_ble_eq_true rfl, Nat.le_of_ble_eq_true rfl⟩) hP hD hS hA (fun H locs hP hD hS => ?_)
          have hP : va_P D vwCl (lw_W cI cZ a o1 o2 (pg_owe (pg_has u t) n (pg_hasr u t)) lst am) H := hP
          have hD : va_D (fun q : Nat => s.heap.size ≤ q) (lw_W cI cZ a o1 o2 (pg_owe (pg_has u t) n (pg_hasr u t)) lst am) := hD
          refine lv_iload hx hb dL_law_410 (lv_at hl 3 rfl) ?_
          refine lv_iload hx hb dL_law_412 (lv_at hl 1 rfl) ?_
          refine lv_iadd hx hb dL_law_414 ?_
          refine lv_icmp_ne (tgt := 422) hx hb dL_law_415 (by decide) (fun c_415 => absurd rfl c_415) (fun c_415 => ?_)
          refine lv_iconst (v := 1) hx hb dL_law_418 (by decide) ?_
          refine lv_goto (tgt := 423) hx hb dL_law_419 (by decide) ?_
          refine lv_istore_n (lv' := [(2, .int 1), (13, .int (pg_hasr u t)), (5, .int 1), (12, .int (u.1 9)), (9, .int (nI V)), (10, .int (nI Wd)), (0, .ref b), (1, .ref (a 0)), (4, .int (nI t)), (6, .ref o1), (7, .ref o2), (8, .int (nI i))]) hx hb dL_law_423 rfl hl (by decide) rfl (fun ls hl => ?_)
          refine lv_goto (tgt := 481) hx hb dL_law_424 (by decide) ?_
          exact lw_481 hL C0 hK hTe hi kk hR9.1 hP hD hS (lv_sub hl [6, 7, 0, 8, 2, 9, 10, 11] rfl)
        · refine lv_iload hx hb dL_law_385 (lv_at hl 8 rfl) ?_
          refine lv_iconst (v := 4) hx hb dL_law_387 (by decide) ?_
          refine lv_icmp_ne (tgt := 395) hx hb dL_law_388 (by decide) (fun c_388 => absurd (by rw [show t = 4 from Nat.le_antisymm hJ.2.2.1.2.1 (Nat.le_of_not_lt fun q => hR9.2.2 q c_382)]; rfl) c_388) (fun c_388 => ?_)
          refine lv_iconst (v := 1) hx hb dL_law_391 (by decide) ?_
          refine lv_goto (tgt := 396) hx hb dL_law_392 (by decide) ?_
          refine lv_istore_n (lv' := [(2, .int 1), (13, .int (pg_hasr u t)), (5, .int 1), (12, .int (u.1 9)), (9, .int (nI V)), (10, .int (nI Wd)), (0, .ref b), (1, .ref (a 0)), (4, .int (nI t)), (6, .ref o1), (7, .ref o2), (8, .int (nI i))]) hx hb dL_law_396 rfl hl (by decide) rfl (fun ls hl => ?_)
          refine lv_iload_n hx hb dL_law_397 rfl (lv_at hl 0 rfl) ?_
          refine lv_if_eq (tgt := 422) hx hb dL_law_398 (by decide) (fun c_398 => absurd c_398 (by decide)) (fun c_398 => ?_)
          refine lv_iload hx hb dL_law_401 (lv_at hl 1 rfl) ?_
          refine lv_if_lt (tgt := 422) hx hb dL_law_403 (by decide) (fun c_403 => absurd c_403 (pg_not_lt (by rw [pg_i0]; exact hR9.2.1.1))) (fun c_403 => ?_)
          refine lv_aload_n hx hb dL_law_406 rfl (lv_at hl 7 rfl) ?_
          refine pg_iL (pg_rV (As := []) (rest := []) ⟨hx, hb, hml, hown, hts⟩ (cc_owed l D cI cZ a H.size (pg_owe (pg_has u t) n (pg_hasr u t)) ) (cwV 0 hts gL_law_X4_owed rfl rfl rfl (by decide +kernel) ⟨Nat.le_of_ble_eq_true rfl, Nat.le_of_ble_eq_true rfl⟩) hK (pg_PL hP) (pg_DL hD) 0 (ci := 4) rfl rfl rfl rfl hl.1 rfl (Nat.le_of_ble_eq_true rfl) dL_law_407 ⟨Nat.le_of_ble_eq_true rfl, Nat.le_of_ble_eq_true rfl⟩) hP hD hS hA (fun H locs hP hD hS => ?_)
          have hP : va_P D vwCl (lw_W cI cZ a o1 o2 (pg_owe (pg_has u t) n (pg_hasr u t)) lst am) H := hP
          have hD : va_D (fun q : Nat => s.heap.size ≤ q) (lw_W cI cZ a o1 o2 (pg_owe (pg_has u t) n (pg_hasr u t)) lst am) := hD
          refine lv_iload hx hb dL_law_410 (lv_at hl 3 rfl) ?_
          refine lv_iload hx hb dL_law_412 (lv_at hl 1 rfl) ?_
          refine lv_iadd hx hb dL_law_414 ?_
          refine lv_icmp_ne (tgt := 422) hx hb dL_law_415 (by decide) (fun c_415 => absurd rfl c_415) (fun c_415 => ?_)
          refine lv_iconst (v := 1) hx hb dL_law_418 (by decide) ?_
          refine lv_goto (tgt := 423) hx hb dL_law_419 (by decide) ?_
          refine lv_istore_n (lv' := [(2, .int 1), (13, .int (pg_hasr u t)), (5, .int 1), (12, .int (u.1 9)), (9, .int (nI V)), (10, .int (nI Wd)), (0, .ref b), (1, .ref (a 0)), (4, .int (nI t)), (6, .ref o1), (7, .ref o2), (8, .int (nI i))]) hx hb dL_law_423 rfl hl (by decide) rfl (fun ls hl => ?_)
          refine lv_goto (tgt := 481) hx hb dL_law_424 (by decide) ?_
          exact lw_481 hL C0 hK hTe hi kk hR9.1 hP hD hS (lv_sub hl [6, 7, 0, 8, 2, 9, 10, 11] rfl)
    · have ht4 : t < 4 := Nat.lt_of_not_le fun q => c_324 (nI_le q (by have := hJ.2.2.1.2.1; omega))
      refine lv_iload hx hb dL_law_327 (lv_at hl 3 rfl) ?_
      refine lv_iconst (v := 5) hx hb dL_law_329 (by decide) ?_
      refine pg_iremM (k := Wd) (j := 5) hx hb rfl rfl (by omega) (by omega) (by omega) dL_law_330 ?_
      refine lv_if_le (tgt := 356) hx hb dL_law_331 (by decide) (fun c_331 => ?_) (fun c_331 => ?_)
      · refine lv_iload hx hb dL_law_356 (lv_at hl 8 rfl) ?_
        refine lv_if_ne (tgt := 397) hx hb dL_law_358 (by decide) (fun c_358 => absurd (by decide) c_358) (fun c_358 => ?_)
        refine lv_iload hx hb dL_law_361 (lv_at hl 3 rfl) ?_
        refine lv_iconst (v := 3) hx hb dL_law_363 (by decide) ?_
        refine pg_iremM (k := Wd) (j := 3) hx hb rfl rfl (by omega) (by omega) (by omega) dL_law_364 ?_
        refine lv_if_ne (tgt := 397) hx hb dL_law_365 (by decide) (fun c_365 => ?_) (fun c_365 => ?_)
        · refine lv_iload_n hx hb dL_law_397 rfl (lv_at hl 6 rfl) ?_
          refine lv_if_eq (tgt := 422) hx hb dL_law_398 (by decide) (fun c_398 => absurd c_398 (by decide)) (fun c_398 => ?_)
          refine lv_iload hx hb dL_law_401 (lv_at hl 0 rfl) ?_
          refine lv_if_lt (tgt := 422) hx hb dL_law_403 (by decide) (fun c_403 => absurd c_403 (by decide)) (fun c_403 => ?_)
          refine lv_aload_n hx hb dL_law_406 rfl (lv_at hl 5 rfl) ?_
          refine pg_iL (pg_rV (As := []) (rest := []) ⟨hx, hb, hml, hown, hts⟩ (cc_owed l D cI cZ a H.size u ) (cwV 0 hts gL_law_X4_owed rfl rfl rfl (by decide +kernel) ⟨Nat.le_of_ble_eq_true rfl, Nat.le_of_ble_eq_true rfl⟩) hK (pg_PL hP) (pg_DL hD) 0 (ci := 4) rfl rfl rfl rfl hl.1 rfl (Nat.le_of_ble_eq_true rfl) dL_law_407 ⟨Nat.le_of_ble_eq_true rfl, Nat.le_of_ble_eq_true rfl⟩) hP hD hS hA (fun H locs hP hD hS => ?_)
          have hP : va_P D vwCl (lw_W cI cZ a o1 o2 u lst am) H := hP
          have hD : va_D (fun q : Nat => s.heap.size ≤ q) (lw_W cI cZ a o1 o2 u lst am) := hD
          refine lv_iload hx hb dL_law_410 (lv_at hl 1 rfl) ?_
          refine lv_iload hx hb dL_law_412 (lv_at hl 0 rfl) ?_
          refine lv_iadd hx hb dL_law_414 ?_
          refine lv_icmp_ne (tgt := 422) hx hb dL_law_415 (by decide) (fun c_415 => absurd (pg_a0 _).symm c_415) (fun c_415 => ?_)
          refine lv_iconst (v := 1) hx hb dL_law_418 (by decide) ?_
          refine lv_goto (tgt := 423) hx hb dL_law_419 (by decide) ?_
          refine lv_istore_n (lv' := [(2, .int 1), (13, .int 0), (12, .int (u.1 9)), (9, .int (nI V)), (10, .int (nI Wd)), (0, .ref b), (1, .ref (a 0)), (4, .int (nI t)), (5, .int 0), (6, .ref o1), (7, .ref o2), (8, .int (nI i))]) hx hb dL_law_423 rfl hl (by decide) rfl (fun ls hl => ?_)
          refine lv_goto (tgt := 481) hx hb dL_law_424 (by decide) ?_
          exact lw_481 hL C0 hK hTe hi kk hJ hP hD hS (lv_sub hl [5, 6, 0, 7, 8, 9, 10, 11] rfl)
        · refine lv_iconst (v := 1) hx hb dL_law_368 (by decide) ?_
          refine lv_istore (lv' := [(5, .int 1), (13, .int 0), (12, .int (u.1 9)), (9, .int (nI V)), (10, .int (nI Wd)), (0, .ref b), (1, .ref (a 0)), (2, .int 1), (4, .int (nI t)), (6, .ref o1), (7, .ref o2), (8, .int (nI i))]) hx hb dL_law_369 hl (by decide) rfl (fun ls hl => ?_)
          refine lv_aload_n hx hb dL_law_371 rfl (lv_at hl 6 rfl) ?_
          have hR9 := hJ.has
          refine pg_iL (pg_rV (As := []) (rest := []) ⟨hx, hb, hml, hown, hts⟩ (cc_speedUp_ok l D cI cZ a H.size u n hn h20 t hJ.2.2.1.1 hJ.2.2.1.2.1 (pz_hSpd hJ)) (cwV 0 hts gL_law_X4_speedUp rfl rfl rfl (by decide +kernel) ⟨Nat.le_of_ble_eq_true rfl, Nat.le_of_ble_eq_true rfl⟩) hK (pg_PL hP) (pg_DL hD) 0 (ci := 4) rfl rfl rfl rfl hl.1 rfl (Nat.le_of_ble_eq_true rfl) dL_law_372 ⟨Nat.le_of_ble_eq_true rfl, Nat.le_of_ble_eq_true rfl⟩) hP hD hS hA (fun H locs hP hD hS => ?_)
          have hP : va_P D vwCl (lw_W cI cZ a o1 o2 (pg_owe (pg_has u t) n (pg_hasr u t)) lst am) H := hP
          have hD : va_D (fun q : Nat => s.heap.size ≤ q) (lw_W cI cZ a o1 o2 (pg_owe (pg_has u t) n (pg_hasr u t)) lst am) := hD
          refine lv_istore (lv' := [(13, .int (pg_hasr u t)), (5, .int 1), (12, .int (u.1 9)), (9, .int (nI V)), (10, .int (nI Wd)), (0, .ref b), (1, .ref (a 0)), (2, .int 1), (4, .int (nI t)), (6, .ref o1), (7, .ref o2), (8, .int (nI i))]) hx hb dL_law_375 hl (by decide) rfl (fun ls hl => ?_)
          refine lv_aload_n hx hb dL_law_377 rfl (lv_at hl 6 rfl) ?_
          refine lv_iconst (v := 3) hx hb dL_law_378 (by decide) ?_
          refine pg_iL (pg_rV (As := [.int (nI 3)]) (rest := []) ⟨hx, hb, hml, hown, hts⟩ (cc_isMet_ok l D cI cZ a H.size (pg_owe (pg_has u t) n (pg_hasr u t)) (fun j hj => pz_nar (hR9.1.2.2.1.2.2.2.2 j hj)) (nI 3) (pg_numL (j := 3) (n := 4) (by decide) (by decide))) (cwV 1 hts gL_law_X4_isMet rfl rfl rfl (by decide +kernel) ⟨Nat.le_of_ble_eq_true rfl, Nat.le_of_ble_eq_true rfl⟩) hK (pg_PL hP) (pg_DL hD) 0 (ci := 4) rfl rfl rfl rfl hl.1 rfl (Nat.le_of_ble_eq_true rfl) dL_law_379 ⟨Nat.le_of_ble_eq_true rfl, Nat.le_of_ble_eq_true rfl⟩) hP hD hS hA (fun H locs hP hD hS => ?_)
          have hP : va_P D vwCl (lw_W cI cZ a o1 o2 (pg_owe (pg_has u t) n (pg_hasr u t)) lst am) H := hP
          have hD : va_D (fun q : Nat => s.heap.size ≤ q) (lw_W cI cZ a o1 o2 (pg_owe (pg_has u t) n (pg_hasr u t)) lst am) := hD
          refine W.eq (g2 := F0 m 382 ls [.int ((pg_owe (pg_has u t) n (pg_hasr u t)).2 13 3)]) (by rw [nI_clamp (n := 3) (by decide)]) ?_
          refine lv_if_ne (tgt := 391) hx hb dL_law_382 (by decide) (fun c_382 => ?_) (fun c_382 => ?_)
          · refine lv_iconst (v := 1) hx hb dL_law_391 (by decide) ?_
            refine lv_goto (tgt := 396) hx hb dL_law_392 (by decide) ?_
            refine lv_istore_n (lv' := [(2, .int 1), (13, .int (pg_hasr u t)), (5, .int 1), (12, .int (u.1 9)), (9, .int (nI V)), (10, .int (nI Wd)), (0, .ref b), (1, .ref (a 0)), (4, .int (nI t)), (6, .ref o1), (7, .ref o2), (8, .int (nI i))]) hx hb dL_law_396 rfl hl (by decide) rfl (fun ls hl => ?_)
            refine lv_iload_n hx hb dL_law_397 rfl (lv_at hl 0 rfl) ?_
            refine lv_if_eq (tgt := 422) hx hb dL_law_398 (by decide) (fun c_398 => absurd c_398 (by decide)) (fun c_398 => ?_)
            refine lv_iload hx hb dL_law_401 (lv_at hl 1 rfl) ?_
            refine lv_if_lt (tgt := 422) hx hb dL_law_403 (by decide) (fun c_403 => absurd c_403 (pg_not_lt (by rw [pg_i0]; exact hR9.2.1.1))) (fun c_403 => ?_)
            refine lv_aload_n hx hb dL_law_406 rfl (lv_at hl 7 rfl) ?_
            refine pg_iL (pg_rV (As := []) (rest := []) ⟨hx, hb, hml, hown, hts⟩ (cc_owed l D cI cZ a H.size (pg_owe (pg_has u t) n (pg_hasr u t)) ) (cwV 0 hts gL_law_X4_owed rfl rfl rfl (by decide +kernel) ⟨Nat.le_of_ble_eq_true rfl, Nat.le_of_ble_eq_true rfl⟩) hK (pg_PL hP) (pg_DL hD) 0 (ci := 4) rfl rfl rfl rfl hl.1 rfl (Nat.le_of_ble_eq_true rfl) dL_law_407 ⟨Nat.le_of_ble_eq_true rfl, Nat.le_of_ble_eq_true rfl⟩) hP hD hS hA (fun H locs hP hD hS => ?_)
            have hP : va_P D vwCl (lw_W cI cZ a o1 o2 (pg_owe (pg_has u t) n (pg_hasr u t)) lst am) H := hP
            have hD : va_D (fun q : Nat => s.heap.size ≤ q) (lw_W cI cZ a o1 o2 (pg_owe (pg_has u t) n (pg_hasr u t)) lst am) := hD
            refine lv_iload hx hb dL_law_410 (lv_at hl 3 rfl) ?_
            refine lv_iload hx hb dL_law_412 (lv_at hl 1 rfl) ?_
            refine lv_iadd hx hb dL_law_414 ?_
            refine lv_icmp_ne (tgt := 422) hx hb dL_law_415 (by decide) (fun c_415 => absurd rfl c_415) (fun c_415 => ?_)
            refine lv_iconst (v := 1) hx hb dL_law_418 (by decide) ?_
            refine lv_goto (tgt := 423) hx hb dL_law_419 (by decide) ?_
            refine lv_istore_n (lv' := [(2, .int 1), (13, .int (pg_hasr u t)), (5, .int 1), (12, .int (u.1 9)), (9, .int (nI V)), (10, .int (nI Wd)), (0, .ref b), (1, .ref (a 0)), (4, .int (nI t)), (6, .ref o1), (7, .ref o2), (8, .int (nI i))]) hx hb dL_law_423 rfl hl (by decide) rfl (fun ls hl => ?_)
            refine lv_goto (tgt := 481) hx hb dL_law_424 (by decide) ?_
            exact lw_481 hL C0 hK hTe hi kk hR9.1 hP hD hS (lv_sub hl [6, 7, 0, 8, 2, 9, 10, 11] rfl)
          · refine lv_iload hx hb dL_law_385 (lv_at hl 8 rfl) ?_
            refine lv_iconst (v := 4) hx hb dL_law_387 (by decide) ?_
            refine lv_icmp_ne (tgt := 395) hx hb dL_law_388 (by decide) (fun c_388 => absurd (by rw [show t = 4 from Nat.le_antisymm hJ.2.2.1.2.1 (Nat.le_of_not_lt fun q => hR9.2.2 q c_382)]; rfl) c_388) (fun c_388 => ?_)
            refine lv_iconst (v := 1) hx hb dL_law_391 (by decide) ?_
            refine lv_goto (tgt := 396) hx hb dL_law_392 (by decide) ?_
            refine lv_istore_n (lv' := [(2, .int 1), (13, .int (pg_hasr u t)), (5, .int 1), (12, .int (u.1 9)), (9, .int (nI V)), (10, .int (nI Wd)), (0, .ref b), (1, .ref (a 0)), (4, .int (nI t)), (6, .ref o1), (7, .ref o2), (8, .int (nI i))]) hx hb dL_law_396 rfl hl (by decide) rfl (fun ls hl => ?_)
            refine lv_iload_n hx hb dL_law_397 rfl (lv_at hl 0 rfl) ?_
            refine lv_if_eq (tgt := 422) hx hb dL_law_398 (by decide) (fun c_398 => absurd c_398 (by decide)) (fun c_398 => ?_)
            refine lv_iload hx hb dL_law_401 (lv_at hl 1 rfl) ?_
            refine lv_if_lt (tgt := 422) hx hb dL_law_403 (by decide) (fun c_403 => absurd c_403 (pg_not_lt (by rw [pg_i0]; exact hR9.2.1.1))) (fun c_403 => ?_)
            refine lv_aload_n hx hb dL_law_406 rfl (lv_at hl 7 rfl) ?_
            refine pg_iL (pg_rV (As := []) (rest := []) ⟨hx, hb, hml, hown, hts⟩ (cc_owed l D cI cZ a H.size (pg_owe (pg_has u t) n (pg_hasr u t)) ) (cwV 0 hts gL_law_X4_owed rfl rfl rfl (by decide +kernel) ⟨Nat.le_of_ble_eq_true rfl, Nat.le_of_ble_eq_true rfl⟩) hK (pg_PL hP) (pg_DL hD) 0 (ci := 4) rfl rfl rfl rfl hl.1 rfl (Nat.le_of_ble_eq_true rfl) dL_law_407 ⟨Nat.le_of_ble_eq_true rfl, Nat.le_of_ble_eq_true rfl⟩) hP hD hS hA (fun H locs hP hD hS => ?_)
            have hP : va_P D vwCl (lw_W cI cZ a o1 o2 (pg_owe (pg_has u t) n (pg_hasr u t)) lst am) H := hP
            have hD : va_D (fun q : Nat => s.heap.size ≤ q) (lw_W cI cZ a o1 o2 (pg_owe (pg_has u t) n (pg_hasr u t)) lst am) := hD
            refine lv_iload hx hb dL_law_410 (lv_at hl 3 rfl) ?_
            refine lv_iload hx hb dL_law_412 (lv_at hl 1 rfl) ?_
            refine lv_iadd hx hb dL_law_414 ?_
            refine lv_icmp_ne (tgt := 422) hx hb dL_law_415 (by decide) (fun c_415 => absurd rfl c_415) (fun c_415 => ?_)
            refine lv_iconst (v := 1) hx hb dL_law_418 (by decide) ?_
            refine lv_goto (tgt := 423) hx hb dL_law_419 (by decide) ?_
            refine lv_istore_n (lv' := [(2, .int 1), (13, .int (pg_hasr u t)), (5, .int 1), (12, .int (u.1 9)), (9, .int (nI V)), (10, .int (nI Wd)), (0, .ref b), (1, .ref (a 0)), (4, .int (nI t)), (6, .ref o1), (7, .ref o2), (8, .int (nI i))]) hx hb dL_law_423 rfl hl (by decide) rfl (fun ls hl => ?_)
            refine lv_goto (tgt := 481) hx hb dL_law_424 (by decide) ?_
            exact lw_481 hL C0 hK hTe hi kk hR9.1 hP hD hS (lv_sub hl [6, 7, 0, 8, 2, 9, 10, 11] rfl)
      · refine lv_iinc (v := nI (t + 1)) (lv' := [(4, .int (nI (t + 1))), (13, .int 0), (12, .int (u.1 9)), (9, .int (nI V)), (10, .int (nI Wd)), (0, .ref b), (1, .ref (a 0)), (2, .int 1), (5, .int 0), (6, .ref o1), (7, .ref o2), (8, .int (nI i))]) hx hb dL_law_334 hl (k := 7) rfl (by rw [nI_succ]; rfl) (by decide) rfl (fun ls hl => ?_)
        refine lv_aload_n hx hb dL_law_337 rfl (lv_at hl 6 rfl) ?_
        refine lv_iload hx hb dL_law_338 (lv_at hl 4 rfl) ?_
        refine lv_iconst (v := 5) hx hb dL_law_340 (by decide) ?_
        refine pg_idivM (k := Wd) (j := 5) hx hb rfl rfl (by omega) (by omega) (by omega) dL_law_341 ?_
        refine lv_ldc hx hb hown (hts0 (.constant RL 17 (200000)) (List.mem_of_getElem? (i := 410) rfl)) dL_law_342 ?_
        refine pg_iremM (k := (Wd / 5)) (j := 200000) hx hb rfl rfl (by omega) (by omega) (by omega) dL_law_344 ?_
        refine lv_ldc hx hb hown (hts0 (.constant RL 108 (60000)) (List.mem_of_getElem? (i := 505) rfl)) dL_law_345 ?_
        refine pg_isubM (k := ((Wd / 5) % 200000)) (j := 60000) hx hb rfl rfl dL_law_347 ?_
        have hR9 := hJ.rep ht4 (nI ((Wd / 5) % 200000) - nI 60000)
        refine pg_iL (pg_rV (As := [.int (nI ((Wd / 5) % 200000) - nI 60000)]) (rest := []) ⟨hx, hb, hml, hown, hts⟩ (cc_report_ok l D cI cZ a H.size u n hn h20 t hJ.2.2.1.1 hJ.2.2.1.2.1 (nI ((Wd / 5) % 200000) - nI 60000) (pz_hRep hJ ht4 (Wd / 5))) (cwV 1 hts gL_law_X4_report rfl rfl rfl (by decide +kernel) ⟨Nat.le_of_ble_eq_true rfl, Nat.le_of_ble_eq_true rfl⟩) hK (pg_PL hP) (pg_DL hD) 0 (ci := 4) rfl rfl rfl rfl hl.1 rfl (Nat.le_of_ble_eq_true rfl) dL_law_348 ⟨Nat.le_of_ble_eq_true rfl, Nat.le_of_ble_eq_true rfl⟩) hP hD hS hA (fun H locs hP hD hS => ?_)
        have hP : va_P D vwCl (lw_W cI cZ a o1 o2 (pg_owe (pg_tell u t (nI ((Wd / 5) % 200000) - nI 60000)) n (pg_tellr u t (nI ((Wd / 5) % 200000) - nI 60000))) lst am) H := hP
        have hD : va_D (fun q : Nat => s.heap.size ≤ q) (lw_W cI cZ a o1 o2 (pg_owe (pg_tell u t (nI ((Wd / 5) % 200000) - nI 60000)) n (pg_tellr u t (nI ((Wd / 5) % 200000) - nI 60000))) lst am) := hD
        refine lv_istore (lv' := [(13, .int (pg_tellr u t (nI ((Wd / 5) % 200000) - nI 60000))), (4, .int (nI (t + 1))), (12, .int (u.1 9)), (9, .int (nI V)), (10, .int (nI Wd)), (0, .ref b), (1, .ref (a 0)), (2, .int 1), (5, .int 0), (6, .ref o1), (7, .ref o2), (8, .int (nI i))]) hx hb dL_law_351 hl (by decide) rfl (fun ls hl => ?_)
        refine lv_goto (tgt := 397) hx hb dL_law_353 (by decide) ?_
        refine lv_iload_n hx hb dL_law_397 rfl (lv_at hl 7 rfl) ?_
        refine lv_if_eq (tgt := 422) hx hb dL_law_398 (by decide) (fun c_398 => absurd c_398 (by decide)) (fun c_398 => ?_)
        refine lv_iload hx hb dL_law_401 (lv_at hl 0 rfl) ?_
        refine lv_if_lt (tgt := 422) hx hb dL_law_403 (by decide) (fun c_403 => absurd c_403 (pg_not_lt (by rw [pg_i0]; exact hR9.2.1))) (fun c_403 => ?_)
        refine lv_aload_n hx hb dL_law_406 rfl (lv_at hl 6 rfl) ?_
        refine pg_iL (pg_rV (As := []) (rest := []) ⟨hx, hb, hml, hown, hts⟩ (cc_owed l D cI cZ a H.size (pg_owe (pg_tell u t (nI ((Wd / 5) % 200000) - nI 60000)) n (pg_tellr u t (nI ((Wd / 5) % 200000) - nI 60000))) ) (cwV 0 hts gL_law_X4_owed rfl rfl rfl (by decide +kernel) ⟨Nat.le_of_ble_eq_true rfl, Nat.le_of_ble_eq_true rfl⟩) hK (pg_PL hP) (pg_DL hD) 0 (ci := 4) rfl rfl rfl rfl hl.1 rfl (Nat.le_of_ble_eq_true rfl) dL_law_407 ⟨Nat.le_of_ble_eq_true rfl, Nat.le_of_ble_eq_true rfl⟩) hP hD hS hA (fun H locs hP hD hS => ?_)
        have hP : va_P D vwCl (lw_W cI cZ a o1 o2 (pg_owe (pg_tell u t (nI ((Wd / 5) % 200000) - nI 60000)) n (pg_tellr u t (nI ((Wd / 5) % 200000) - nI 60000))) lst am) H := hP
        have hD : va_D (fun q : Nat => s.heap.size ≤ q) (lw_W cI cZ a o1 o2 (pg_owe (pg_tell u t (nI ((Wd / 5) % 200000) - nI 60000)) n (pg_tellr u t (nI ((Wd / 5) % 200000) - nI 60000))) lst am) := hD
        refine lv_iload hx hb dL_law_410 (lv_at hl 2 rfl) ?_
        refine lv_iload hx hb dL_law_412 (lv_at hl 0 rfl) ?_
        refine lv_iadd hx hb dL_law_414 ?_
        refine lv_icmp_ne (tgt := 422) hx hb dL_law_415 (by decide) (fun c_415 => absurd rfl c_415) (fun c_415 => ?_)
        refine lv_iconst (v := 1) hx hb dL_law_418 (by decide) ?_
        refine lv_goto (tgt := 423) hx hb dL_law_419 (by decide) ?_
        refine lv_istore_n (lv' := [(2, .int 1), (13, .int (pg_tellr u t (nI ((Wd / 5) % 200000) - nI 60000))), (4, .int (nI (t + 1))), (12, .int (u.1 9)), (9, .int (nI V)), (10, .int (nI Wd)), (0, .ref b), (1, .ref (a 0)), (5, .int 0), (6, .ref o1), (7, .ref o2), (8, .int (nI i))]) hx hb dL_law_423 rfl hl (by decide) rfl (fun ls hl => ?_)
        refine lv_goto (tgt := 481) hx hb dL_law_424 (by decide) ?_
        exact lw_481 hL C0 hK hTe hi kk hR9.1 hP hD hS (lv_sub hl [6, 7, 0, 2, 8, 9, 10, 11] rfl)
  · refine lv_aload_n hx hb dL_law_307 rfl (lv_at hl 3 rfl) ?_
    refine pg_iL (pg_rV (As := []) (rest := []) ⟨hx, hb, hml, hown, hts⟩ (cc_owed l D cI cZ a H.size u ) (cwV 0 hts gL_law_X4_owed rfl rfl rfl (by decide +kernel) ⟨Nat.le_of_ble_eq_true rfl, Nat.le_of_ble_eq_true rfl⟩) hK (pg_PL hP) (pg_DL hD) 0 (ci := 4) rfl rfl rfl rfl hl.1 rfl (Nat.le_of_ble_eq_true rfl) dL_law_308 ⟨Nat.le_of_ble_eq_true rfl, Nat.le_of_ble_eq_true rfl⟩) hP hD hS hA (fun H locs hP hD hS => ?_)
    have hP : va_P D vwCl (lw_W cI cZ a o1 o2 u lst am) H := hP
    have hD : va_D (fun q : Nat => s.heap.size ≤ q) (lw_W cI cZ a o1 o2 u lst am) := hD
    refine lv_istore (lv' := [(12, .int (u.1 9)), (9, .int (nI V)), (10, .int (nI Wd)), (0, .ref b), (1, .ref (a 0)), (2, .int 1), (4, .int (nI t)), (5, .int 1), (6, .ref o1), (7, .ref o2), (8, .int (nI i))]) hx hb dL_law_311 hl (by decide) rfl (fun ls hl => ?_)
    refine lv_iconst (v := 0) hx hb dL_law_313 (by decide) ?_
    refine lv_istore (lv' := [(13, .int 0), (12, .int (u.1 9)), (9, .int (nI V)), (10, .int (nI Wd)), (0, .ref b), (1, .ref (a 0)), (2, .int 1), (4, .int (nI t)), (5, .int 1), (6, .ref o1), (7, .ref o2), (8, .int (nI i))]) hx hb dL_law_314 hl (by decide) rfl (fun ls hl => ?_)
    refine lv_iload hx hb dL_law_316 (lv_at hl 8 rfl) ?_
    refine lv_if_ne (tgt := 356) hx hb dL_law_318 (by decide) (fun c_318 => ?_) (fun c_318 => absurd c_318 (by decide))
    refine lv_iload hx hb dL_law_356 (lv_at hl 8 rfl) ?_
    refine lv_if_ne (tgt := 397) hx hb dL_law_358 (by decide) (fun c_358 => ?_) (fun c_358 => absurd c_358 (by decide))
    refine lv_iload_n hx hb dL_law_397 rfl (lv_at hl 6 rfl) ?_
    refine lv_if_eq (tgt := 422) hx hb dL_law_398 (by decide) (fun c_398 => absurd c_398 (by decide)) (fun c_398 => ?_)
    refine lv_iload hx hb dL_law_401 (lv_at hl 0 rfl) ?_
    refine lv_if_lt (tgt := 422) hx hb dL_law_403 (by decide) (fun c_403 => absurd c_403 (by decide)) (fun c_403 => ?_)
    refine lv_aload_n hx hb dL_law_406 rfl (lv_at hl 5 rfl) ?_
    refine pg_iL (pg_rV (As := []) (rest := []) ⟨hx, hb, hml, hown, hts⟩ (cc_owed l D cI cZ a H.size u ) (cwV 0 hts gL_law_X4_owed rfl rfl rfl (by decide +kernel) ⟨Nat.le_of_ble_eq_true rfl, Nat.le_of_ble_eq_true rfl⟩) hK (pg_PL hP) (pg_DL hD) 0 (ci := 4) rfl rfl rfl rfl hl.1 rfl (Nat.le_of_ble_eq_true rfl) dL_law_407 ⟨Nat.le_of_ble_eq_true rfl, Nat.le_of_ble_eq_true rfl⟩) hP hD hS hA (fun H locs hP hD hS => ?_)
    have hP : va_P D vwCl (lw_W cI cZ a o1 o2 u lst am) H := hP
    have hD : va_D (fun q : Nat => s.heap.size ≤ q) (lw_W cI cZ a o1 o2 u lst am) := hD
    refine lv_iload hx hb dL_law_410 (lv_at hl 1 rfl) ?_
    refine lv_iload hx hb dL_law_412 (lv_at hl 0 rfl) ?_
    refine lv_iadd hx hb dL_law_414 ?_
    refine lv_icmp_ne (tgt := 422) hx hb dL_law_415 (by decide) (fun c_415 => absurd (pg_a0 _).symm c_415) (fun c_415 => ?_)
    refine lv_iconst (v := 1) hx hb dL_law_418 (by decide) ?_
    refine lv_goto (tgt := 423) hx hb dL_law_419 (by decide) ?_
    refine lv_istore_n (lv' := [(2, .int 1), (13, .int 0), (12, .int (u.1 9)), (9, .int (nI V)), (10, .int (nI Wd)), (0, .ref b), (1, .ref (a 0)), (4, .int (nI t)), (5, .int 1), (6, .ref o1), (7, .ref o2), (8, .int (nI i))]) hx hb dL_law_423 rfl hl (by decide) rfl (fun ls hl => ?_)
    refine lv_goto (tgt := 481) hx hb dL_law_424 (by decide) ?_
    exact lw_481 hL C0 hK hTe hi kk hJ hP hD hS (lv_sub hl [5, 6, 0, 7, 8, 9, 10, 11] rfl)
set_option maxHeartbeats 4000000 in
set_option maxRecDepth 100000 in
theorem lw_297 (hL : L ≤ 260) (C0 : lw_At p s m meth c b L xs) (hK : va_K D vwCl (pg_ty cI cZ) s) (hTe : T = pz_T xs L) (hi : i < 70) (kk : lw_next p l e s m below meth c b D cI cZ a o1 o2 lst i) (hJ : pg_J u lst am n t z) (hP : va_P D vwCl (lw_W cI cZ a o1 o2 u lst am) H) (hD : va_D (fun q : Nat => s.heap.size ≤ q) (lw_W cI cZ a o1 o2 u lst am)) (hS : va_S (fun q : Nat => s.heap.size ≤ q) s.heap H locs) (V Wd : Nat) (hV : V < 2 ^ 31) (hWd : Wd < 2 ^ 31) (hl : lv_has ls 14 ((9, .int (nI V)) :: (10, .int (nI Wd)) :: lw_Lv b (a 0) o1 o2 t z i)) : W p l e room_1 s m #[Value.ref b] below meth c H locs 21 172 (lw_Z below #[Value.ref b] s) (F0 m 297 ls []) := by
  obtain ⟨hx, hb, hr, hml, hown, hts, hX, hbl, hlocks, hgv⟩ := id C0
  have hts0 := hts
  have hts := fun w h => hts w (wsL_law_in w h)
  have hown : s.vm.findClass RL = some m.cls := hown
  have hb : c.code = cL_law := hb
  have hA : ∀ q : Nat, s.heap.size ≤ q → (fun q : Nat => s.heap.size ≤ q) q := fun _ h => h
  have hbA : ¬ (fun q : Nat => s.heap.size ≤ q) b := Nat.not_le.mpr hbl
  have hT : ∀ k, T k < 2 ^ 31 := fun k => by rw [hTe]; exact pz_T_lt xs L k
  have hn : u.1 10 = nI n := hJ.2.1.1
  have h20 : n ≤ 20 := hJ.2.1.2.1
  refine lv_iload hx hb dL_law_297 (lv_at hl 0 rfl) ?_
  refine lv_bipush (v := 8) hx hb dL_law_299 (by decide) ?_
  refine pg_iremM (k := V) (j := 8) hx hb rfl rfl (by omega) (by omega) (by omega) dL_law_301 ?_
  refine lv_bipush (v := 7) hx hb dL_law_302 (by decide) ?_
  refine lv_icmp_ne (tgt := 427) hx hb dL_law_304 (by decide) (fun c_304 => ?_) (fun c_304 => ?_)
  · exact lw_427 hL C0 hK hTe hi kk hJ hP hD hS V Wd hV hWd (lv_sub hl [0, 1, 2, 3, 4, 5, 6, 7, 8, 9] rfl)
  · exact lw_304 hL C0 hK hTe hi kk hJ hP hD hS V Wd hV hWd (lv_sub hl [0, 1, 2, 3, 4, 5, 6, 7, 8, 9] rfl)
set_option maxHeartbeats 4000000 in
set_option maxRecDepth 100000 in
theorem lw_213 (hL : L ≤ 260) (C0 : lw_At p s m meth c b L xs) (hK : va_K D vwCl (pg_ty cI cZ) s) (hTe : T = pz_T xs L) (hi : i < 70) (kk : lw_next p l e s m below meth c b D cI cZ a o1 o2 lst i) (hJ : pg_J u lst am n t z) (hP : va_P D vwCl (lw_W cI cZ a o1 o2 u lst am) H) (hD : va_D (fun q : Nat => s.heap.size ≤ q) (lw_W cI cZ a o1 o2 u lst am)) (hS : va_S (fun q : Nat => s.heap.size ≤ q) s.heap H locs) (V Wd : Nat) (hV : V < 2 ^ 31) (hWd : Wd < 2 ^ 31) (hl : lv_has ls 14 ((9, .int (nI V)) :: (10, .int (nI Wd)) :: (11, .int (nI (Wd % 3))) :: lw_Lv b (a 0) o1 o2 t z i)) : W p l e room_1 s m #[Value.ref b] below meth c H locs 21 172 (lw_Z below #[Value.ref b] s) (F0 m 213 ls []) := by
  obtain ⟨hx, hb, hr, hml, hown, hts, hX, hbl, hlocks, hgv⟩ := id C0
  have hts0 := hts
  have hts := fun w h => hts w (wsL_law_in w h)
  have hown : s.vm.findClass RL = some m.cls := hown
  have hb : c.code = cL_law := hb
  have hA : ∀ q : Nat, s.heap.size ≤ q → (fun q : Nat => s.heap.size ≤ q) q := fun _ h => h
  have hbA : ¬ (fun q : Nat => s.heap.size ≤ q) b := Nat.not_le.mpr hbl
  have hT : ∀ k, T k < 2 ^ 31 := fun k => by rw [hTe]; exact pz_T_lt xs L k
  have hn : u.1 10 = nI n := hJ.2.1.1
  have h20 : n ≤ 20 := hJ.2.1.2.1
  refine lv_aload_n hx hb dL_law_213 rfl (lv_at hl 4 rfl) ?_
  refine pg_iL (pg_rV (As := []) (rest := []) ⟨hx, hb, hml, hown, hts⟩ (cc_claims l D cI cZ a H.size u ) (cwV 0 hts gL_law_X4_claims rfl rfl rfl (by decide +kernel) ⟨Nat.le_of_ble_eq_true rfl, Nat.le_of_ble_eq_true rfl⟩) hK (pg_PL hP) (pg_DL hD) 0 (ci := 4) rfl rfl rfl rfl hl.1 rfl (Nat.le_of_ble_eq_true rfl) dL_law_214 ⟨Nat.le_of_ble_eq_true rfl, Nat.le_of_ble_eq_true rfl⟩) hP hD hS hA (fun H locs hP hD hS => ?_)
  have hP : va_P D vwCl (lw_W cI cZ a o1 o2 u lst am) H := hP
  have hD : va_D (fun q : Nat => s.heap.size ≤ q) (lw_W cI cZ a o1 o2 u lst am) := hD
  refine W.eq (g2 := F0 m 217 ls [.int (nI n)]) (by rw [hn]) ?_
  refine lv_bipush (v := 20) hx hb dL_law_217 (by decide) ?_
  refine lv_icmp_ge (tgt := 297) hx hb dL_law_219 (by decide) (fun c_219 => ?_) (fun c_219 => ?_)
  · exact lw_297 hL C0 hK hTe hi kk hJ hP hD hS V Wd hV hWd (lv_sub hl [0, 1, 3, 4, 5, 6, 7, 8, 9, 10] rfl)
  · have hn20 : n < 20 := Nat.lt_of_not_le fun q => c_219 (nI_le q (by omega))
    refine lv_aload_n hx hb dL_law_222 rfl (lv_at hl 4 rfl) ?_
    refine pg_iL (pg_rV (As := []) (rest := []) ⟨hx, hb, hml, hown, hts⟩ (cc_day l D cI cZ a H.size u ) (cwV 0 hts gL_law_X4_day rfl rfl rfl (by decide +kernel) ⟨Nat.le_of_ble_eq_true rfl, Nat.le_of_ble_eq_true rfl⟩) hK (pg_PL hP) (pg_DL hD) 0 (ci := 4) rfl rfl rfl rfl hl.1 rfl (Nat.le_of_ble_eq_true rfl) dL_law_223 ⟨Nat.le_of_ble_eq_true rfl, Nat.le_of_ble_eq_true rfl⟩) hP hD hS hA (fun H locs hP hD hS => ?_)
    have hP : va_P D vwCl (lw_W cI cZ a o1 o2 u lst am) H := hP
    have hD : va_D (fun q : Nat => s.heap.size ≤ q) (lw_W cI cZ a o1 o2 u lst am) := hD
    refine lv_aload hx hb dL_law_226 (lv_at hl 8 rfl) ?_
    refine lv_iload hx hb dL_law_228 (lv_at hl 2 rfl) ?_
    refine pg_ild (f := lst) hx hb hK hP 19 0 rfl rfl (show (Wd % 3) < _ by omega) (by decide) dL_law_230 ?_
    refine lv_icmp_gt (tgt := 297) hx hb dL_law_231 (by decide) (fun c_231 => ?_) (fun c_231 => ?_)
    · exact lw_297 hL C0 hK hTe hi kk hJ hP hD hS V Wd hV hWd (lv_sub hl [0, 1, 3, 4, 5, 6, 7, 8, 9, 10] rfl)
    · refine lv_aload hx hb dL_law_234 (lv_at hl 9 rfl) ?_
      refine lv_aload_n hx hb dL_law_236 rfl (lv_at hl 4 rfl) ?_
      refine pg_iL (pg_rV (As := []) (rest := [.ref o2]) ⟨hx, hb, hml, hown, hts⟩ (cc_claims l D cI cZ a H.size u ) (cwV 0 hts gL_law_X4_claims rfl rfl rfl (by decide +kernel) ⟨Nat.le_of_ble_eq_true rfl, Nat.le_of_ble_eq_true rfl⟩) hK (pg_PL hP) (pg_DL hD) 0 (ci := 4) rfl rfl rfl rfl hl.1 rfl (Nat.le_of_ble_eq_true rfl) dL_law_237 ⟨Nat.le_of_ble_eq_true rfl, Nat.le_of_ble_eq_true rfl⟩) hP hD hS hA (fun H locs hP hD hS => ?_)
      have hP : va_P D vwCl (lw_W cI cZ a o1 o2 u lst am) H := hP
      have hD : va_D (fun q : Nat => s.heap.size ≤ q) (lw_W cI cZ a o1 o2 u lst am) := hD
      refine W.eq (g2 := F0 m 240 ls [.int (nI n), .ref o2]) (by rw [hn]) ?_
      refine lv_iconst (v := 1) hx hb dL_law_240 (by decide) ?_
      refine lv_iload hx hb dL_law_241 (lv_at hl 1 rfl) ?_
      refine lv_iconst (v := 3) hx hb dL_law_243 (by decide) ?_
      refine pg_idivM (k := Wd) (j := 3) hx hb rfl rfl (by omega) (by omega) (by omega) dL_law_244 ?_
      refine lv_ldc hx hb hown (hts0 (.constant RL 25 (300000)) (List.mem_of_getElem? (i := 416) rfl)) dL_law_245 ?_
      refine pg_iremM (k := (Wd / 3)) (j := 300000) hx hb rfl rfl (by omega) (by omega) (by omega) dL_law_247 ?_
      refine pg_iaddM (k := 1) (j := ((Wd / 3) % 300000)) hx hb rfl rfl dL_law_248 ?_
      refine pg_ist hx hb hK hP hD hS 20 0 rfl rfl (show n < _ by omega) (by decide) dL_law_249 (fun H locs hP hD hS => ?_)
      have hP : va_P D vwCl (lw_W cI cZ a o1 o2 u lst (upd am n (nI (1 + ((Wd / 3) % 300000))))) H := hP
      have hD : va_D (fun q : Nat => s.heap.size ≤ q) (lw_W cI cZ a o1 o2 u lst (upd am n (nI (1 + ((Wd / 3) % 300000))))) := hD
      refine lv_aload_n hx hb dL_law_250 rfl (lv_at hl 4 rfl) ?_
      refine lv_iload hx hb dL_law_251 (lv_at hl 2 rfl) ?_
      refine lv_iconst (v := 1) hx hb dL_law_253 (by decide) ?_
      refine lv_iload hx hb dL_law_254 (lv_at hl 1 rfl) ?_
      refine lv_iconst (v := 3) hx hb dL_law_256 (by decide) ?_
      refine pg_idivM (k := Wd) (j := 3) hx hb rfl rfl (by omega) (by omega) (by omega) dL_law_257 ?_
      refine lv_ldc hx hb hown (hts0 (.constant RL 25 (300000)) (List.mem_of_getElem? (i := 416) rfl)) dL_law_258 ?_
      refine pg_iremM (k := (Wd / 3)) (j := 300000) hx hb rfl rfl (by omega) (by omega) (by omega) dL_law_260 ?_
      refine pg_iaddM (k := 1) (j := ((Wd / 3) % 300000)) hx hb rfl rfl dL_law_261 ?_
      refine pg_iL (pg_rV (As := [.int (nI (Wd % 3)), .int (nI (1 + ((Wd / 3) % 300000)))]) (rest := []) ⟨hx, hb, hml, hown, hts⟩ (cc_claim_ok l D cI cZ a H.size u n hn h20 (nI (Wd % 3)) (nI (1 + ((Wd / 3) % 300000))) (pz_hClm hJ hn20 (Nat.mod_lt Wd (by decide)) c_231 (by omega) (by omega))) (cwV 2 hts gL_law_X4_claim rfl rfl rfl (by decide +kernel) ⟨Nat.le_of_ble_eq_true rfl, Nat.le_of_ble_eq_true rfl⟩) hK (pg_PL hP) (pg_DL hD) 0 (ci := 4) rfl rfl rfl rfl hl.1 rfl (Nat.le_of_ble_eq_true rfl) dL_law_262 ⟨Nat.le_of_ble_eq_true rfl, Nat.le_of_ble_eq_true rfl⟩) hP hD hS hA (fun H locs hP hD hS => ?_)
      have hP : va_P D vwCl (lw_W cI cZ a o1 o2 (pg_claim u n (nI (Wd % 3)) (nI (1 + ((Wd / 3) % 300000)))) lst (upd am n (nI (1 + ((Wd / 3) % 300000))))) H := hP
      have hD : va_D (fun q : Nat => s.heap.size ≤ q) (lw_W cI cZ a o1 o2 (pg_claim u n (nI (Wd % 3)) (nI (1 + ((Wd / 3) % 300000)))) lst (upd am n (nI (1 + ((Wd / 3) % 300000))))) := hD
      have hC9 := hJ.claim hn20 (k := (nI (Wd % 3))) (x := (nI (1 + ((Wd / 3) % 300000)))) (pg_bb_nI (by omega) (by decide))
      refine lv_aload_n hx hb dL_law_265 rfl (lv_at hl 4 rfl) ?_
      refine pg_iL (pg_rV (As := []) (rest := [.int (nI n)]) ⟨hx, hb, hml, hown, hts⟩ (cc_claims l D cI cZ a H.size (pg_claim u n (nI (Wd % 3)) (nI (1 + ((Wd / 3) % 300000)))) ) (cwV 0 hts gL_law_X4_claims rfl rfl rfl (by decide +kernel) ⟨Nat.le_of_ble_eq_true rfl, Nat.le_of_ble_eq_true rfl⟩) hK (pg_PL hP) (pg_DL hD) 0 (ci := 4) rfl rfl rfl rfl hl.1 rfl (Nat.le_of_ble_eq_true rfl) dL_law_266 ⟨Nat.le_of_ble_eq_true rfl, Nat.le_of_ble_eq_true rfl⟩) hP hD hS hA (fun H locs hP hD hS => ?_)
      have hP : va_P D vwCl (lw_W cI cZ a o1 o2 (pg_claim u n (nI (Wd % 3)) (nI (1 + ((Wd / 3) % 300000)))) lst (upd am n (nI (1 + ((Wd / 3) % 300000))))) H := hP
      have hD : va_D (fun q : Nat => s.heap.size ≤ q) (lw_W cI cZ a o1 o2 (pg_claim u n (nI (Wd % 3)) (nI (1 + ((Wd / 3) % 300000)))) lst (upd am n (nI (1 + ((Wd / 3) % 300000))))) := hD
      refine W.eq (g2 := F0 m 269 ls [.int (nI (n + 1)), .int (nI n)]) (by rw [show (pg_claim u n (nI (Wd % 3)) (nI (1 + ((Wd / 3) % 300000)))).1 10 = nI (n + 1) from rfl]) ?_
      refine lv_iconst (v := 1) hx hb dL_law_269 (by decide) ?_
      refine pg_isubM (k := (n + 1)) (j := 1) hx hb rfl rfl dL_law_270 ?_
      refine lv_icmp_ne (tgt := 292) hx hb dL_law_271 (by decide) (fun c_271 => absurd (nI_pred9 n).symm c_271) (fun c_271 => ?_)
      refine lv_aload_n hx hb dL_law_274 rfl (lv_at hl 4 rfl) ?_
      refine lv_aload_n hx hb dL_law_275 rfl (lv_at hl 4 rfl) ?_
      refine pg_iL (pg_rV (As := []) (rest := [.ref (a 0)]) ⟨hx, hb, hml, hown, hts⟩ (cc_claims l D cI cZ a H.size (pg_claim u n (nI (Wd % 3)) (nI (1 + ((Wd / 3) % 300000)))) ) (cwV 0 hts gL_law_X4_claims rfl rfl rfl (by decide +kernel) ⟨Nat.le_of_ble_eq_true rfl, Nat.le_of_ble_eq_true rfl⟩) hK (pg_PL hP) (pg_DL hD) 0 (ci := 4) rfl rfl rfl rfl hl.1 rfl (Nat.le_of_ble_eq_true rfl) dL_law_276 ⟨Nat.le_of_ble_eq_true rfl, Nat.le_of_ble_eq_true rfl⟩) hP hD hS hA (fun H locs hP hD hS => ?_)
      have hP : va_P D vwCl (lw_W cI cZ a o1 o2 (pg_claim u n (nI (Wd % 3)) (nI (1 + ((Wd / 3) % 300000)))) lst (upd am n (nI (1 + ((Wd / 3) % 300000))))) H := hP
      have hD : va_D (fun q : Nat => s.heap.size ≤ q) (lw_W cI cZ a o1 o2 (pg_claim u n (nI (Wd % 3)) (nI (1 + ((Wd / 3) % 300000)))) lst (upd am n (nI (1 + ((Wd / 3) % 300000))))) := hD
      refine W.eq (g2 := F0 m 279 ls [.int (nI (n + 1)), .ref (a 0)]) (by rw [show (pg_claim u n (nI (Wd % 3)) (nI (1 + ((Wd / 3) % 300000)))).1 10 = nI (n + 1) from rfl]) ?_
      refine lv_iconst (v := 1) hx hb dL_law_279 (by decide) ?_
      refine pg_isubM (k := (n + 1)) (j := 1) hx hb rfl rfl dL_law_280 ?_
      refine W.eq (g2 := F0 m 281 ls [.int (nI n), .ref (a 0)]) (by rw [nI_pred9 n]) ?_
      refine pg_iL (pg_rV (As := [.int (nI n)]) (rest := []) ⟨hx, hb, hml, hown, hts⟩ (cc_settledAt_ok l D cI cZ a H.size (pg_claim u n (nI (Wd % 3)) (nI (1 + ((Wd / 3) % 300000)))) (n + 1) hC9.2.1.1 hC9.2.1.2.1 (nI n) (pg_numL (Nat.lt_succ_self n) (by omega))) (cwV 1 hts gL_law_X4_settledAt rfl rfl rfl (by decide +kernel) ⟨Nat.le_of_ble_eq_true rfl, Nat.le_of_ble_eq_true rfl⟩) hK (pg_PL hP) (pg_DL hD) 0 (ci := 4) rfl rfl rfl rfl hl.1 rfl (Nat.le_of_ble_eq_true rfl) dL_law_281 ⟨Nat.le_of_ble_eq_true rfl, Nat.le_of_ble_eq_true rfl⟩) hP hD hS hA (fun H locs hP hD hS => ?_)
      have hP : va_P D vwCl (lw_W cI cZ a o1 o2 (pg_claim u n (nI (Wd % 3)) (nI (1 + ((Wd / 3) % 300000)))) lst (upd am n (nI (1 + ((Wd / 3) % 300000))))) H := hP
      have hD : va_D (fun q : Nat => s.heap.size ≤ q) (lw_W cI cZ a o1 o2 (pg_claim u n (nI (Wd % 3)) (nI (1 + ((Wd / 3) % 300000)))) lst (upd am n (nI (1 + ((Wd / 3) % 300000))))) := hD
      refine W.eq (g2 := F0 m 284 ls [.int (-1)]) (by rw [nI_clamp (n := n) (by omega), show (pg_claim u n (nI (Wd % 3)) (nI (1 + ((Wd / 3) % 300000)))).2 10 n = -1 from pg_updk (u.2 10) n (-1)]) ?_
      refine lv_iconst (v := (-1)) hx hb dL_law_284 (by decide) ?_
      refine lv_icmp_ne (tgt := 292) hx hb dL_law_285 (by decide) (fun c_285 => absurd rfl c_285) (fun c_285 => ?_)
      refine lv_iconst (v := 1) hx hb dL_law_288 (by decide) ?_
      refine lv_goto (tgt := 293) hx hb dL_law_289 (by decide) ?_
      refine lv_istore_n (lv' := [(2, .int 1), (9, .int (nI V)), (10, .int (nI Wd)), (11, .int (nI (Wd % 3))), (0, .ref b), (1, .ref (a 0)), (4, .int (nI t)), (5, .int (nI z)), (6, .ref o1), (7, .ref o2), (8, .int (nI i))]) hx hb dL_law_293 rfl hl (by decide) rfl (fun ls hl => ?_)
      refine lv_goto (tgt := 481) hx hb dL_law_294 (by decide) ?_
      exact lw_481 hL C0 hK hTe hi kk hC9 hP hD hS (lv_sub hl [4, 5, 0, 6, 7, 8, 9, 10] rfl)
set_option maxHeartbeats 4000000 in
set_option maxRecDepth 100000 in
theorem lw_170 (hL : L ≤ 260) (C0 : lw_At p s m meth c b L xs) (hK : va_K D vwCl (pg_ty cI cZ) s) (hTe : T = pz_T xs L) (hi : i < 70) (kk : lw_next p l e s m below meth c b D cI cZ a o1 o2 lst i) (hJ : pg_J u lst am n t z) (hP : va_P D vwCl (lw_W cI cZ a o1 o2 u lst am) H) (hD : va_D (fun q : Nat => s.heap.size ≤ q) (lw_W cI cZ a o1 o2 u lst am)) (hS : va_S (fun q : Nat => s.heap.size ≤ q) s.heap H locs)  (hl : lv_has ls 14 (lw_Lv b (a 0) o1 o2 t z i)) : W p l e room_1 s m #[Value.ref b] below meth c H locs 21 172 (lw_Z below #[Value.ref b] s) (F0 m 170 ls []) := by
  obtain ⟨hx, hb, hr, hml, hown, hts, hX, hbl, hlocks, hgv⟩ := id C0
  have hts0 := hts
  have hts := fun w h => hts w (wsL_law_in w h)
  have hown : s.vm.findClass RL = some m.cls := hown
  have hb : c.code = cL_law := hb
  have hA : ∀ q : Nat, s.heap.size ≤ q → (fun q : Nat => s.heap.size ≤ q) q := fun _ h => h
  have hbA : ¬ (fun q : Nat => s.heap.size ≤ q) b := Nat.not_le.mpr hbl
  have hT : ∀ k, T k < 2 ^ 31 := fun k => by rw [hTe]; exact pz_T_lt xs L k
  have hn : u.1 10 = nI n := hJ.2.1.1
  have h20 : n ≤ 20 := hJ.2.1.2.1
  refine lv_aload_n hx hb dL_law_170 rfl (lv_at hl 0 rfl) ?_
  refine lv_iload hx hb dL_law_171 (lv_at hl 7 rfl) ?_
  refine pg_told (rest := []) (k := i) ⟨hx, hb, hml, hown, hts⟩ (va_cwS 2 hts gL_law_L_told rfl rfl rfl (by decide +kernel) ⟨Nat.le_of_ble_eq_true rfl, Nat.le_of_ble_eq_true rfl⟩) hX hbl hbA hL hP hS hA hTe (by omega) hl.1 (Nat.le_of_ble_eq_true rfl) dL_law_173 ⟨Nat.le_of_ble_eq_true rfl, Nat.le_of_ble_eq_true rfl⟩ (fun H locs hP hS => ?_)
  obtain ⟨V, hV9⟩ : ∃ q, q = T i := ⟨_, rfl⟩
  have hV : V < 2 ^ 31 := by rw [hV9]; exact hT _
  refine W.eq (g2 := F0 m 176 ls [.int (nI V)]) (by rw [hV9]) ?_
  refine lv_istore (lv' := [(9, .int (nI V)), (0, .ref b), (1, .ref (a 0)), (2, .int 1), (4, .int (nI t)), (5, .int (nI z)), (6, .ref o1), (7, .ref o2), (8, .int (nI i))]) hx hb dL_law_176 hl (by decide) rfl (fun ls hl => ?_)
  refine lv_aload_n hx hb dL_law_178 rfl (lv_at hl 1 rfl) ?_
  refine lv_iload hx hb dL_law_179 (lv_at hl 8 rfl) ?_
  refine lv_iconst (v := 3) hx hb dL_law_181 (by decide) ?_
  refine pg_iaddM (k := i) (j := 3) hx hb rfl rfl dL_law_182 ?_
  refine pg_told (rest := []) (k := (i + 3)) ⟨hx, hb, hml, hown, hts⟩ (va_cwS 2 hts gL_law_L_told rfl rfl rfl (by decide +kernel) ⟨Nat.le_of_ble_eq_true rfl, Nat.le_of_ble_eq_true rfl⟩) hX hbl hbA hL hP hS hA hTe (by omega) hl.1 (Nat.le_of_ble_eq_true rfl) dL_law_183 ⟨Nat.le_of_ble_eq_true rfl, Nat.le_of_ble_eq_true rfl⟩ (fun H locs hP hS => ?_)
  obtain ⟨Wd, hWd9⟩ : ∃ q, q = T (i + 3) := ⟨_, rfl⟩
  have hWd : Wd < 2 ^ 31 := by rw [hWd9]; exact hT _
  refine W.eq (g2 := F0 m 186 ls [.int (nI Wd)]) (by rw [hWd9]) ?_
  refine lv_istore (lv' := [(10, .int (nI Wd)), (9, .int (nI V)), (0, .ref b), (1, .ref (a 0)), (2, .int 1), (4, .int (nI t)), (5, .int (nI z)), (6, .ref o1), (7, .ref o2), (8, .int (nI i))]) hx hb dL_law_186 hl (by decide) rfl (fun ls hl => ?_)
  refine lv_iload hx hb dL_law_188 (lv_at hl 0 rfl) ?_
  refine lv_iconst (v := 3) hx hb dL_law_190 (by decide) ?_
  refine pg_iremM (k := Wd) (j := 3) hx hb rfl rfl (by omega) (by omega) (by omega) dL_law_191 ?_
  refine lv_istore (lv' := [(11, .int (nI (Wd % 3))), (10, .int (nI Wd)), (9, .int (nI V)), (0, .ref b), (1, .ref (a 0)), (2, .int 1), (4, .int (nI t)), (5, .int (nI z)), (6, .ref o1), (7, .ref o2), (8, .int (nI i))]) hx hb dL_law_192 hl (by decide) rfl (fun ls hl => ?_)
  refine lv_iload hx hb dL_law_194 (lv_at hl 2 rfl) ?_
  refine lv_bipush (v := 8) hx hb dL_law_196 (by decide) ?_
  refine pg_iremM (k := V) (j := 8) hx hb rfl rfl (by omega) (by omega) (by omega) dL_law_198 ?_
  refine lv_iconst (v := 5) hx hb dL_law_199 (by decide) ?_
  refine lv_icmp_lt (tgt := 297) hx hb dL_law_200 (by decide) (fun c_200 => ?_) (fun c_200 => ?_)
  · exact lw_297 hL C0 hK hTe hi kk hJ hP hD hS V Wd hV hWd (lv_sub hl [2, 1, 3, 4, 5, 6, 7, 8, 9, 10] rfl)
  · refine lv_iload hx hb dL_law_203 (lv_at hl 2 rfl) ?_
    refine lv_bipush (v := 8) hx hb dL_law_205 (by decide) ?_
    refine pg_iremM (k := V) (j := 8) hx hb rfl rfl (by omega) (by omega) (by omega) dL_law_207 ?_
    refine lv_bipush (v := 6) hx hb dL_law_208 (by decide) ?_
    refine lv_icmp_gt (tgt := 297) hx hb dL_law_210 (by decide) (fun c_210 => ?_) (fun c_210 => ?_)
    · exact lw_297 hL C0 hK hTe hi kk hJ hP hD hS V Wd hV hWd (lv_sub hl [2, 1, 3, 4, 5, 6, 7, 8, 9, 10] rfl)
    · exact lw_213 hL C0 hK hTe hi kk hJ hP hD hS V Wd hV hWd (lv_sub hl [2, 1, 0, 3, 4, 5, 6, 7, 8, 9, 10] rfl)
end LAWS
