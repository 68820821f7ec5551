theorem lw_txt {own tx : String} {k : Nat} {A : Array Value} {s : State} (h1 : (Cond.stringRef own k tx).before A s = true) (h2 : (Cond.exactly (.string own k) "java/lang/String").before A s = true) : ∃ a : Nat, vk_R own k tx a s := by
  obtain ⟨a, c, cell, k9, q1, -⟩ := Cond.exactly_spec (args := A) (first := s) (o := none) (s := s) (idx := []) h2
  exact ⟨a, vk_R.of h1 q1⟩
section LAWS
variable {p : Program} {e : Env} {s : State} {m : MethodId} {below : List Frame} {meth : Method} {c : Code} {l : Launch} {b L : Nat} {xs : Nat → Int32} {D : va_G} {cI cZ cL : ClassId} {a a' : Nat → Nat} {o : Nat}
set_option maxHeartbeats 4000000 in
set_option maxRecDepth 100000 in
theorem lw_env (C0 : lw_At p s m meth c b L xs) : pg_Env (fun q : Nat => s.heap.size ≤ q) s s.heap := by
  obtain ⟨hx, hb, hr, hml, hown, hts, hX, hbl, hlocks, hgv⟩ := id C0
  have hs := flat_of_before _ hgv
  have hNA : ∀ a : Nat, a < s.heap.size → ¬ (fun q : Nat => s.heap.size ≤ q) a := fun a h => Nat.not_le.mpr h
  have hini := hts (.initialized "java/lang/Throwable") (List.mem_of_getElem? (i := 27) rfl)
  refine ⟨vx_Zqof (hts (.laysStatic Bundle.tN "UNASSIGNED_STACK" Bundle.steD) (List.mem_of_getElem? (i := 300) rfl)) hini (hs (.isRef (.static Bundle.tN "UNASSIGNED_STACK" Bundle.steD)) (by decide +kernel)) hNA, vx_Zqof (hts (.laysStatic Bundle.tN "SUPPRESSED_SENTINEL" Bundle.listD) (List.mem_of_getElem? (i := 302) rfl)) hini (hs (.isRef (.static Bundle.tN "SUPPRESSED_SENTINEL" Bundle.listD)) (by decide +kernel)) hNA, fun w hw => ?_, fun q hq => ?_, ?_⟩
  · simp only [pg_nw, List.mem_cons, List.not_mem_nil, or_false] at hw
    rcases hw with rfl | rfl | rfl | rfl | rfl | rfl
    · exact va_Nw.of rfl (hts (.castable pg_ia pg_ia) (List.mem_of_getElem? (i := 275) rfl))
    · exact va_Nw.of rfl (hts (.castable pg_is pg_is) (List.mem_of_getElem? (i := 348) rfl))
    · exact va_Nw.of rfl (hts (.castable pg_io pg_io) (List.mem_of_getElem? (i := 375) rfl))
    · exact va_Nw.of rfl (hts (.declares (Bundle.initS "java/lang/RuntimeException")) (List.mem_of_getElem? (i := 277) rfl))
    · exact va_Nw.of rfl (hts (.declares (Bundle.initS "java/lang/Exception")) (List.mem_of_getElem? (i := 279) rfl))
    · exact va_Nw.of rfl (hts (.declares (Bundle.initS "java/lang/Throwable")) (List.mem_of_getElem? (i := 281) rfl))
  · simp only [List.mem_cons, List.not_mem_nil, or_false] at hq
    rcases hq with rfl | rfl | rfl | rfl | rfl | rfl
    · exact va_Nc.of (hs (.not (.castable pg_ia pg_is)) (by decide +kernel))
    · exact va_Nc.of (hs (.not (.castable pg_ia pg_io)) (by decide +kernel))
    · exact va_Nc.of (hs (.not (.castable pg_is pg_ia)) (by decide +kernel))
    · exact va_Nc.of (hs (.not (.castable pg_is pg_io)) (by decide +kernel))
    · exact va_Nc.of (hs (.not (.castable pg_io pg_ia)) (by decide +kernel))
    · exact va_Nc.of (hs (.not (.castable pg_io pg_is)) (by decide +kernel))
  · have hall : ∀ q ∈ pg_txt, ∃ a : Nat, vk_R "PegBox" q.1 q.2 a s := by
      intro q hq
      simp only [pg_txt, List.mem_cons, List.not_mem_nil, or_false] at hq
      rcases hq with rfl | rfl | rfl | rfl | rfl | rfl | rfl | rfl | rfl | rfl | rfl
      · exact lw_txt (hts (.stringRef "PegBox" 201 "there is no such number") (List.mem_of_getElem? (i := 382) rfl)) (hs (.exactly (.string "PegBox" 201) "java/lang/String") (by decide +kernel))
      · exact lw_txt (hts (.stringRef "PegBox" 206 "an argument is out of range") (List.mem_of_getElem? (i := 314) rfl)) (hs (.exactly (.string "PegBox" 206) "java/lang/String") (by decide +kernel))
      · exact lw_txt (hts (.stringRef "PegBox" 209 "the claim is settled") (List.mem_of_getElem? (i := 474) rfl)) (hs (.exactly (.string "PegBox" 209) "java/lang/String") (by decide +kernel))
      · exact lw_txt (hts (.stringRef "PegBox" 211 "the sale is closed") (List.mem_of_getElem? (i := 355) rfl)) (hs (.exactly (.string "PegBox" 211) "java/lang/String") (by decide +kernel))
      · exact lw_txt (hts (.stringRef "PegBox" 213 "the sale is not closed") (List.mem_of_getElem? (i := 441) rfl)) (hs (.exactly (.string "PegBox" 213) "java/lang/String") (by decide +kernel))
      · exact lw_txt (hts (.stringRef "PegBox" 126 "the day would be too late") (List.mem_of_getElem? (i := 442) rfl)) (hs (.exactly (.string "PegBox" 126) "java/lang/String") (by decide +kernel))
      · exact lw_txt (hts (.stringRef "PegBox" 134 "the last day of the kind is past") (List.mem_of_getElem? (i := 462) rfl)) (hs (.exactly (.string "PegBox" 134) "java/lang/String") (by decide +kernel))
      · exact lw_txt (hts (.stringRef "PegBox" 139 "there are as many claims as there can be") (List.mem_of_getElem? (i := 463) rfl)) (hs (.exactly (.string "PegBox" 139) "java/lang/String") (by decide +kernel))
      · exact lw_txt (hts (.stringRef "PegBox" 154 "there is no offer") (List.mem_of_getElem? (i := 482) rfl)) (hs (.exactly (.string "PegBox" 154) "java/lang/String") (by decide +kernel))
      · exact lw_txt (hts (.stringRef "PegBox" 162 "the earn-out was sped up") (List.mem_of_getElem? (i := 501) rfl)) (hs (.exactly (.string "PegBox" 162) "java/lang/String") (by decide +kernel))
      · exact lw_txt (hts (.stringRef "PegBox" 167 "all years were told") (List.mem_of_getElem? (i := 502) rfl)) (hs (.exactly (.string "PegBox" 167) "java/lang/String") (by decide +kernel))
    have key : ∀ i : Nat, ∃ a : Nat, ∀ q : Nat × String, pg_txt[i]? = some q → vk_R "PegBox" q.1 q.2 a s := by
      intro i
      cases hi : pg_txt[i]? with
      | none => exact ⟨0, fun q hq => nomatch hq⟩
      | some q0 =>
        obtain ⟨a, ha⟩ := hall q0 (List.mem_of_getElem? hi)
        exact ⟨a, fun q hq => by cases hq; exact ha⟩
    exact ⟨fun i => Classical.choose (key i), fun i => Classical.choose_spec (key i)⟩
set_option maxHeartbeats 4000000 in
set_option maxRecDepth 100000 in
theorem lw_K0 (C0 : lw_At p s m meth c b L xs) : ∃ (D : va_G) (cI cZ : ClassId), va_K D vwCl (pg_ty cI cZ) s := by
  obtain ⟨hx, hb, hr, hml, hown, hts, hX, hbl, hlocks, hgv⟩ := id C0
  obtain ⟨c0, i0, k0⟩ := u_known (C := RX0) (T := TX0) (N := 5) (n := 5) hts inX0 (hts (.instantiable RX0 5) (List.mem_of_getElem? (i := 87) rfl))
  obtain ⟨c1, i1, k1⟩ := u_known (C := RX1) (T := TX1) (N := 8) (n := 8) hts inX1 (hts (.instantiable RX1 8) (List.mem_of_getElem? (i := 114) rfl))
  obtain ⟨c2, i2, k2⟩ := u_known (C := RX2) (T := TX2) (N := 2) (n := 2) hts inX2 (hts (.instantiable RX2 2) (List.mem_of_getElem? (i := 43) rfl))
  obtain ⟨c3, i3, k3⟩ := u_known (C := RX3) (T := TX3) (N := 5) (n := 5) hts inX3 (hts (.instantiable RX3 5) (List.mem_of_getElem? (i := 59) rfl))
  obtain ⟨c4, i4, k4⟩ := u_known (C := RX4) (T := TX4) (N := 14) (n := 14) hts inX4 (hts (.instantiable RX4 14) (List.mem_of_getElem? (i := 35) rfl))
  obtain ⟨c5, i5, k5⟩ := u_known (C := RX5) (T := TX5) (N := 31) (n := 31) hts inX5 (hts (.instantiable RX5 31) (List.mem_of_getElem? (i := 548) rfl))
  obtain ⟨dC, dI, hKc⟩ : ∃ (dC : Nat → ClassId) (dI : Nat → Nat → Nat), ∀ (k : Nat) (q : vw_C), vwCl[k]? = some q → u_Kn s q.1 q.2.1 q.2.2 (dC k) (dI k) := by
    refine ⟨fun k => if k = 0 then c0 else if k = 1 then c1 else if k = 2 then c2 else if k = 3 then c3 else if k = 4 then c4 else c5, fun k => if k = 0 then i0 else if k = 1 then i1 else if k = 2 then i2 else if k = 3 then i3 else if k = 4 then i4 else i5, ?_⟩
    intro k q hq
    match k, hq with
    | 0, hq => cases hq; exact k0
    | 1, hq => cases hq; exact k1
    | 2, hq => cases hq; exact k2
    | 3, hq => cases hq; exact k3
    | 4, hq => cases hq; exact k4
    | 5, hq => cases hq; exact k5
    | k + 6, hq => simp [vwCl] at hq
  obtain ⟨cI, kI, compI, g1, g2, g3⟩ := Cond.arrayClass_spec (args := #[Value.ref b]) (first := s) (o := none) (s := s) (idx := []) (hts (.arrayClass .int) (List.mem_of_getElem? (i := 57) rfl))
  obtain ⟨cZ, kZ, compZ, z1, z2, z3⟩ := Cond.arrayClass_spec (args := #[Value.ref b]) (first := s) (o := none) (s := s) (idx := []) (hts (.arrayClass .boolean) (List.mem_of_getElem? (i := 85) rfl))
  refine ⟨(dC, dI), cI, cZ, hKc, fun k q hk => ?_⟩
  match k, hk with
  | 0, hk => cases hk; exact ⟨fun n z => ⟨fun k h => (by cases h), kI, g2, compI, g3⟩, g1⟩
  | 1, hk => cases hk; exact ⟨fun n z => ⟨fun k h => (by cases h), kZ, z2, compZ, z3⟩, z1⟩
  | k + 2, hk => simp [pg_ty] at hk
set_option maxHeartbeats 4000000 in
set_option maxRecDepth 100000 in
theorem lw_loop (hfl : l.stackTraces = false) (hL : L ≤ 3584) (C0 : lw_At p s m meth c b L xs) (hK : va_K D vwCl (pg_tyL cI cZ cL) s) (hE : pg_Env (fun q : Nat => s.heap.size ≤ q) s s.heap) :
    ∀ (n i : Nat), 7 * i ≤ L → L ≤ 7 * i + 7 * n + 6 → ∀ (H : Heap) (locs : List Loc) (ls : Array Slot) (u w : pg_St) (f : Nat → Int64), pg_Inv u w → va_P D vwCl (lw_W cI cZ cL a a' o u w f) H → va_D (fun q : Nat => s.heap.size ≤ q) (lw_W cI cZ cL a a' o u w f) → va_S (fun q : Nat => s.heap.size ≤ q) s.heap H locs → lv_has ls 7 [(0, .ref b), (1, .ref (a 0)), (2, .ref (a' 0)), (3, .ref o), (4, .int (nI (7 * i)))] →
      W p l e room_1 s m #[Value.ref b] below meth c H locs (36 + i) (300 + 6 * i) (lw_Z below #[Value.ref b] s) (F0 m 23 ls []) := by
  obtain ⟨hx, hb, hr, hml, hown, hts, hX, hbl, hlocks, hgv⟩ := id C0
  have hbA : ¬ (fun q : Nat => s.heap.size ≤ q) b := Nat.not_le.mpr hbl
  intro n
  induction n with
  | zero =>
    intro i hi1 hi2 H locs ls u w f hI hP hD hS hl
    refine lv_iload hx hb dL_law_23 (lv_at hl 4 rfl) ?_
    refine lv_aload_n hx hb dL_law_25 rfl (lv_at hl 0 rfl) ?_
    refine va_slen hx hb hX hbl hbA hS dL_law_26 ?_
    refine lv_bipush (v := 7) hx hb dL_law_27 (by decide) ?_
    refine lv_isub hx hb dL_law_29 ?_
    refine lv_icmp_gt (tgt := 1313) hx hb dL_law_30 (by decide) (fun _ => ?_) (fun h9 => absurd ((pg_gt hL (by omega)).mpr (by omega)) h9)
    refine va_forget hS.2.2 ?_
    refine W.widen (k := 1072) (n := 8564) (by omega) (by omega) ?_
    refine lv_iconst (v := 1) hx hb dL_law_1313 (by decide) ?_
    exact lw_ret hx hb hr hlocks dL_law_1314
  | succ n ih =>
    intro i hi1 hi2 H locs ls u w f hI hP hD hS hl
    refine lv_iload hx hb dL_law_23 (lv_at hl 4 rfl) ?_
    refine lv_aload_n hx hb dL_law_25 rfl (lv_at hl 0 rfl) ?_
    refine va_slen hx hb hX hbl hbA hS dL_law_26 ?_
    refine lv_bipush (v := 7) hx hb dL_law_27 (by decide) ?_
    refine lv_isub hx hb dL_law_29 ?_
    refine lv_icmp_gt (tgt := 1313) hx hb dL_law_30 (by decide) (fun _ => ?_) (fun h9 => ?_)
    · refine va_forget hS.2.2 ?_
      refine W.widen (k := 1072) (n := 8564) (by omega) (by omega) ?_
      refine lv_iconst (v := 1) hx hb dL_law_1313 (by decide) ?_
      exact lw_ret hx hb hr hlocks dL_law_1314
    · have hi : 7 * i + 7 ≤ L := Nat.not_lt.mp (fun h => h9 ((pg_gt hL (by omega)).mpr h))
      have kk : ∀ (H : Heap) (locs : List Loc) (ls : Array Slot) (u w : pg_St) (f : Nat → Int64), pg_Inv u w → va_P D vwCl (lw_W cI cZ cL a a' o u w f) H → va_D (fun q : Nat => s.heap.size ≤ q) (lw_W cI cZ cL a a' o u w f) → va_S (fun q : Nat => s.heap.size ≤ q) s.heap H locs → lv_has ls 7 [(0, .ref b), (1, .ref (a 0)), (2, .ref (a' 0)), (3, .ref o), (4, .int (nI (7 * i)))] → W p l e room_1 s m #[Value.ref b] below meth c H locs (36 + i + 1) (300 + 6 * i + 6) (lw_Z below #[Value.ref b] s) (F0 m 1307 ls []) := by
        intro H locs ls u w f hI hP hD hS hl
        refine lv_iinc (v := nI (7 * (i + 1))) (lv' := [(4, .int (nI (7 * (i + 1)))), (0, .ref b), (1, .ref (a 0)), (2, .ref (a' 0)), (3, .ref o)]) hx hb dL_law_1307 hl (k := 4) rfl (by rw [show Int32.ofInt 7 = nI 7 by decide, nI_add]; rfl) (by decide) rfl (fun ls hl => ?_)
        refine lv_goto (tgt := 23) hx hb dL_law_1310 (by decide) ?_
        refine W.widen (k := 36 + (i + 1)) (n := 300 + 6 * (i + 1)) (by omega) (by omega) ?_
        exact ih (i + 1) (by omega) (by omega) H locs ls u w f hI hP hD hS (lv_sub hl [1, 2, 3, 4, 0] rfl)
      refine lv_aload_n hx hb dL_law_33 rfl (lv_at hl 0 rfl) ?_
      refine lv_iload hx hb dL_law_34 (lv_at hl 4 rfl) ?_
      refine pg_sld hx hb hX hbl hbA hS (show 7 * i < L by omega) hL dL_law_36 ?_
      refine lv_bipush (v := 31) hx hb dL_law_37 (by decide) ?_
      refine lv_iand hx hb dL_law_39 ?_
      obtain ⟨j, hj, ej⟩ := pk_andE (xs (7 * i)) (m := 31) 5 (by decide)
      rw [ej]
      have hc : 36 + i + 1 ≤ 1072 := by omega
      have hs : 300 + 6 * i + 6 ≤ 8564 := by omega
      by_cases h26 : j < 26
      · rcases (show j = 0 ∨ j = 1 ∨ j = 2 ∨ j = 3 ∨ j = 4 ∨ j = 5 ∨ j = 6 ∨ j = 7 ∨ j = 8 ∨ j = 9 ∨ j = 10 ∨ j = 11 ∨ j = 12 ∨ j = 13 ∨ j = 14 ∨ j = 15 ∨ j = 16 ∨ j = 17 ∨ j = 18 ∨ j = 19 ∨ j = 20 ∨ j = 21 ∨ j = 22 ∨ j = 23 ∨ j = 24 ∨ j = 25 by omega) with rfl | rfl | rfl | rfl | rfl | rfl | rfl | rfl | rfl | rfl | rfl | rfl | rfl | rfl | rfl | rfl | rfl | rfl | rfl | rfl | rfl | rfl | rfl | rfl | rfl | rfl
        · refine lv_tableIn (off := 120) (tgt := 160) hx hb dL_law_40 (by decide) (by decide) (by decide) (by decide) ?_
          exact lc_0 hfl hL C0 hK hE hi hc hs hI hP hD hS hl kk
        · refine lv_tableIn (off := 180) (tgt := 220) hx hb dL_law_40 (by decide) (by decide) (by decide) (by decide) ?_
          exact lc_1 hfl hL C0 hK hE hi hc hs hI hP hD hS hl kk
        · refine lv_tableIn (off := 240) (tgt := 280) hx hb dL_law_40 (by decide) (by decide) (by decide) (by decide) ?_
          exact lc_2 hfl hL C0 hK hE hi hc hs hI hP hD hS hl kk
        · refine lv_tableIn (off := 354) (tgt := 394) hx hb dL_law_40 (by decide) (by decide) (by decide) (by decide) ?_
          exact lc_3 hfl hL C0 hK hE hi hc hs hI hP hD hS hl kk
        · refine lv_tableIn (off := 414) (tgt := 454) hx hb dL_law_40 (by decide) (by decide) (by decide) (by decide) ?_
          exact lc_4 hfl hL C0 hK hE hi hc hs hI hP hD hS hl kk
        · refine lv_tableIn (off := 466) (tgt := 506) hx hb dL_law_40 (by decide) (by decide) (by decide) (by decide) ?_
          exact lc_5 hfl hL C0 hK hE hi hc hs hI hP hD hS hl kk
        · refine lv_tableIn (off := 546) (tgt := 586) hx hb dL_law_40 (by decide) (by decide) (by decide) (by decide) ?_
          exact lc_6 hfl hL C0 hK hE hi hc hs hI hP hD hS hl kk
        · refine lv_tableIn (off := 602) (tgt := 642) hx hb dL_law_40 (by decide) (by decide) (by decide) (by decide) ?_
          exact lc_7 hfl hL C0 hK hE hi hc hs hI hP hD hS hl kk
        · refine lv_tableIn (off := 670) (tgt := 710) hx hb dL_law_40 (by decide) (by decide) (by decide) (by decide) ?_
          exact lc_8 hfl hL C0 hK hE hi hc hs hI hP hD hS hl kk
        · refine lv_tableIn (off := 738) (tgt := 778) hx hb dL_law_40 (by decide) (by decide) (by decide) (by decide) ?_
          exact lc_9 hfl hL C0 hK hE hi hc hs hI hP hD hS hl kk
        · refine lv_tableIn (off := 794) (tgt := 834) hx hb dL_law_40 (by decide) (by decide) (by decide) (by decide) ?_
          exact lc_10 hfl hL C0 hK hE hi hc hs hI hP hD hS hl kk
        · refine lv_tableIn (off := 862) (tgt := 902) hx hb dL_law_40 (by decide) (by decide) (by decide) (by decide) ?_
          exact lc_11 hfl hL C0 hK hE hi hc hs hI hP hD hS hl kk
        · refine lv_tableIn (off := 918) (tgt := 958) hx hb dL_law_40 (by decide) (by decide) (by decide) (by decide) ?_
          exact lc_12 hfl hL C0 hK hE hi hc hs hI hP hD hS hl kk
        · refine lv_tableIn (off := 962) (tgt := 1002) hx hb dL_law_40 (by decide) (by decide) (by decide) (by decide) ?_
          exact lc_13 hfl hL C0 hK hE hi hc hs hI hP hD hS hl kk
        · refine lv_tableIn (off := 975) (tgt := 1015) hx hb dL_law_40 (by decide) (by decide) (by decide) (by decide) ?_
          exact lc_14 hfl hL C0 hK hE hi hc hs hI hP hD hS hl kk
        · refine lv_tableIn (off := 988) (tgt := 1028) hx hb dL_law_40 (by decide) (by decide) (by decide) (by decide) ?_
          exact lc_15 hfl hL C0 hK hE hi hc hs hI hP hD hS hl kk
        · refine lv_tableIn (off := 1001) (tgt := 1041) hx hb dL_law_40 (by decide) (by decide) (by decide) (by decide) ?_
          exact lc_16 hfl hL C0 hK hE hi hc hs hI hP hD hS hl kk
        · refine lv_tableIn (off := 1014) (tgt := 1054) hx hb dL_law_40 (by decide) (by decide) (by decide) (by decide) ?_
          exact lc_17 hfl hL C0 hK hE hi hc hs hI hP hD hS hl kk
        · refine lv_tableIn (off := 1027) (tgt := 1067) hx hb dL_law_40 (by decide) (by decide) (by decide) (by decide) ?_
          exact lc_18 hfl hL C0 hK hE hi hc hs hI hP hD hS hl kk
        · refine lv_tableIn (off := 1040) (tgt := 1080) hx hb dL_law_40 (by decide) (by decide) (by decide) (by decide) ?_
          exact lc_19 hfl hL C0 hK hE hi hc hs hI hP hD hS hl kk
        · refine lv_tableIn (off := 1053) (tgt := 1093) hx hb dL_law_40 (by decide) (by decide) (by decide) (by decide) ?_
          exact lc_20 hfl hL C0 hK hE hi hc hs hI hP hD hS hl kk
        · refine lv_tableIn (off := 1066) (tgt := 1106) hx hb dL_law_40 (by decide) (by decide) (by decide) (by decide) ?_
          exact lc_21 hfl hL C0 hK hE hi hc hs hI hP hD hS hl kk
        · refine lv_tableIn (off := 1079) (tgt := 1119) hx hb dL_law_40 (by decide) (by decide) (by decide) (by decide) ?_
          exact lc_22 hfl hL C0 hK hE hi hc hs hI hP hD hS hl kk
        · refine lv_tableIn (off := 1135) (tgt := 1175) hx hb dL_law_40 (by decide) (by decide) (by decide) (by decide) ?_
          exact lc_23 hfl hL C0 hK hE hi hc hs hI hP hD hS hl kk
        · refine lv_tableIn (off := 1148) (tgt := 1188) hx hb dL_law_40 (by decide) (by decide) (by decide) (by decide) ?_
          exact lc_24 hfl hL C0 hK hE hi hc hs hI hP hD hS hl kk
        · refine lv_tableIn (off := 1204) (tgt := 1244) hx hb dL_law_40 (by decide) (by decide) (by decide) (by decide) ?_
          exact lc_25 hfl hL C0 hK hE hi hc hs hI hP hD hS hl kk
      · refine lv_tableOut (tgt := 1307) hx hb dL_law_40 (Or.inr (by rw [nI_toInt (by omega)]; omega)) (by decide) ?_
        refine W.widen (k := 36 + i + 1) (n := 300 + 6 * i + 6) (by omega) (by omega) ?_
        exact kk H locs ls u w f hI hP hD hS hl
end LAWS
set_option maxHeartbeats 4000000 in
set_option maxRecDepth 100000 in
theorem whole_start {p : Program} {e : Env} {s : State} {m : MethodId} {below : List Frame} {meth : Method} {c : Code} (l : Launch) (hflags : l.flags = flags0) {b L : Nat} {xs : Nat → Int32} (hL : L ≤ 3584) (C0 : lw_At p s m meth c b L xs) : W p l e room_1 s m #[Value.ref b] below meth c s.heap [] 0 0 (lw_Z below #[Value.ref b] s) (entryFrame m ([Value.ref b] : List Value).toArray 7) := by
  obtain ⟨D, cI, cZ, hK⟩ := lw_K0 C0
  obtain ⟨hx, hb, hr, hml, hown, hts, hX, hbl, hlocks, hgv⟩ := id C0
  have hfl : l.stackTraces = false := by unfold Launch.stackTraces; rw [hflags]; decide +kernel
  have hts0 := hts
  have hts := fun w h => hts w (wsL_law_in w h)
  have hown : s.vm.findClass RL = some m.cls := hown
  have hb : c.code = cL_law := hb
  have hA : ∀ q : Nat, s.heap.size ≤ q → (fun q : Nat => s.heap.size ≤ q) q := fun _ h => h
  have hS : va_S (fun q : Nat => s.heap.size ≤ q) s.heap s.heap [] := va_S.rf
  have hP : va_P D vwCl [] s.heap := fun k q h => by simp at h
  have hD : va_D (fun q : Nat => s.heap.size ≤ q) [] := ⟨fun i j p q h => by simp at h, fun k q h => by simp at h⟩
  have hl := lv_entry ([.ref b]) (n := 7) (Nat.le_of_ble_eq_true rfl)
  rw [lg_entry_eq]
  generalize (lg_sl ([.ref b]) ++ List.replicate (7 - (lg_sl ([.ref b])).length) Slot.unset).toArray = ls at hl ⊢
  have hl : lv_has ls 7 [(0, .ref b)] := hl
  refine va_new (ci := 4) (fs := [.null, .null, .null, .null, .int 0, .int 0, .int 0, .int 0, .int 0, .int 0, .int 0, .int 0, .int 0, .int 0]) (C := RX4) (T := TX4) (N := 14) hx hb hts0 inX4 tyX4 tyX4_ok hown (hts0 (.classLink RL 8 RX4) (List.mem_of_getElem? (i := 34) rfl)) (hts0 (.instantiable RX4 14) (List.mem_of_getElem? (i := 35) rfl)) (hts0 (.initialized RX4) (List.mem_of_getElem? (i := 21) rfl)) hK hP hD hS hA rfl (fun j hj => by rcases (show j = 0 ∨ j = 1 ∨ j = 2 ∨ j = 3 ∨ j = 4 ∨ j = 5 ∨ j = 6 ∨ j = 7 ∨ j = 8 ∨ j = 9 ∨ j = 10 ∨ j = 11 ∨ j = 12 ∨ j = 13 by omega) with rfl | rfl | rfl | rfl | rfl | rfl | rfl | rfl | rfl | rfl | rfl | rfl | rfl | rfl <;> rfl) (Nat.le_of_ble_eq_true rfl) (Nat.le_of_ble_eq_true rfl) dL_law_0 (fun q1 H hP hD hS => ?_)
  have hP : va_P D vwCl (([] : va_W) ++ [(q1, .inr (4, [.null, .null, .null, .null, .int 0, .int 0, .int 0, .int 0, .int 0, .int 0, .int 0, .int 0, .int 0, .int 0]))]) H := hP
  have hD : va_D (fun q : Nat => s.heap.size ≤ q) (([] : va_W) ++ [(q1, .inr (4, [.null, .null, .null, .null, .int 0, .int 0, .int 0, .int 0, .int 0, .int 0, .int 0, .int 0, .int 0, .int 0]))]) := hD
  refine W.widen (k := 1) (n := 14) (Nat.le_of_ble_eq_true rfl) (Nat.le_of_ble_eq_true rfl) ?_
  refine lv_dup hx hb dL_law_3 rfl ?_
  refine pg_nR (pg_rI (As := []) (rest := [.ref q1]) ⟨hx, hb, hml, hown, hts⟩ (cn_X4 l D cI cZ q1 H.size) (cwI 0 hts gL_law_X4_init rfl rfl rfl (hts0 (.initialized RX4) (List.mem_of_getElem? (i := 21) rfl)) (hts0 (.methodLink RL 71 yX4_init) (List.mem_of_getElem? (i := 36) rfl)) (hts0 (.instanceMethod yX4_init) (List.mem_of_getElem? (i := 37) rfl)) rfl (by decide +kernel) ⟨Nat.le_of_ble_eq_true rfl, Nat.le_of_ble_eq_true rfl⟩) hK (pg_PR hP) (pg_DR hD) rfl hl.1 rfl (Nat.le_of_ble_eq_true rfl) dL_law_4 ⟨Nat.le_of_ble_eq_true rfl, Nat.le_of_ble_eq_true rfl⟩) hP hD hS hA (fun a H locs ha hP hD hS => ?_)
  refine W.widen (k := 19) (n := 149) (Nat.le_of_ble_eq_true rfl) (Nat.le_of_ble_eq_true rfl) ?_
  have hP : va_P D vwCl (pg_wB cI cZ a (upd (upd (fun _ => 0) 3 (-1)) 4 (-1), fun _ _ => 0)) H := hP
  have hD : va_D (fun q : Nat => s.heap.size ≤ q) (pg_wB cI cZ a (upd (upd (fun _ => 0) 3 (-1)) 4 (-1), fun _ _ => 0)) := hD
  refine lv_astore_n (lv' := [(1, .ref q1), (0, .ref b)]) hx hb dL_law_7 rfl hl (by decide) rfl (fun ls hl => ?_)
  refine va_new (ci := 5) (fs := [.int 0, .int 0, .int 0, .null, .null, .null, .null, .null, .null, .null, .null, .null, .int 0, .int 0, .int 0, .int 0, .int 0, .int 0, .int 0, .int 0, .int 0, .null, .null, .null, .null, .int 0, .null, .null, .int 0, .int 0, .int 0]) (C := RX5) (T := TX5) (N := 31) hx hb hts0 inX5 tyX5 tyX5_ok hown (hts0 (.classLink RL 72 RX5) (List.mem_of_getElem? (i := 547) rfl)) (hts0 (.instantiable RX5 31) (List.mem_of_getElem? (i := 548) rfl)) (hts0 (.initialized RX5) (List.mem_of_getElem? (i := 26) rfl)) hK hP hD hS hA rfl (fun j hj => by rcases (show j = 0 ∨ j = 1 ∨ j = 2 ∨ j = 3 ∨ j = 4 ∨ j = 5 ∨ j = 6 ∨ j = 7 ∨ j = 8 ∨ j = 9 ∨ j = 10 ∨ j = 11 ∨ j = 12 ∨ j = 13 ∨ j = 14 ∨ j = 15 ∨ j = 16 ∨ j = 17 ∨ j = 18 ∨ j = 19 ∨ j = 20 ∨ j = 21 ∨ j = 22 ∨ j = 23 ∨ j = 24 ∨ j = 25 ∨ j = 26 ∨ j = 27 ∨ j = 28 ∨ j = 29 ∨ j = 30 by omega) with rfl | rfl | rfl | rfl | rfl | rfl | rfl | rfl | rfl | rfl | rfl | rfl | rfl | rfl | rfl | rfl | rfl | rfl | rfl | rfl | rfl | rfl | rfl | rfl | rfl | rfl | rfl | rfl | rfl | rfl | rfl <;> rfl) (Nat.le_of_ble_eq_true rfl) (Nat.le_of_ble_eq_true rfl) dL_law_8 (fun q2 H hP hD hS => ?_)
  have hP : va_P D vwCl (pg_wB cI cZ a (upd (upd (fun _ => 0) 3 (-1)) 4 (-1), fun _ _ => 0) ++ [(q2, .inr (5, [.int 0, .int 0, .int 0, .null, .null, .null, .null, .null, .null, .null, .null, .null, .int 0, .int 0, .int 0, .int 0, .int 0, .int 0, .int 0, .int 0, .int 0, .null, .null, .null, .null, .int 0, .null, .null, .int 0, .int 0, .int 0]))]) H := hP
  have hD : va_D (fun q : Nat => s.heap.size ≤ q) (pg_wB cI cZ a (upd (upd (fun _ => 0) 3 (-1)) 4 (-1), fun _ _ => 0) ++ [(q2, .inr (5, [.int 0, .int 0, .int 0, .null, .null, .null, .null, .null, .null, .null, .null, .null, .int 0, .int 0, .int 0, .int 0, .int 0, .int 0, .int 0, .int 0, .int 0, .null, .null, .null, .null, .int 0, .null, .null, .int 0, .int 0, .int 0]))]) := hD
  refine W.widen (k := 20) (n := 180) (Nat.le_of_ble_eq_true rfl) (Nat.le_of_ble_eq_true rfl) ?_
  refine lv_dup hx hb dL_law_11 rfl ?_
  refine pg_nR (pg_rI (As := []) (rest := [.ref q2]) ⟨hx, hb, hml, hown, hts⟩ (cn_X5 l D cI cZ q2 H.size) (cwI 0 hts gL_law_X5_init rfl rfl rfl (hts0 (.initialized RX5) (List.mem_of_getElem? (i := 26) rfl)) (hts0 (.methodLink RL 74 yX5_init) (List.mem_of_getElem? (i := 549) rfl)) (hts0 (.instanceMethod yX5_init) (List.mem_of_getElem? (i := 550) rfl)) rfl (by decide +kernel) ⟨Nat.le_of_ble_eq_true rfl, Nat.le_of_ble_eq_true rfl⟩) hK (pg_PR hP) (pg_DR hD) rfl hl.1 rfl (Nat.le_of_ble_eq_true rfl) dL_law_12 ⟨Nat.le_of_ble_eq_true rfl, Nat.le_of_ble_eq_true rfl⟩) hP hD hS hA (fun a' H locs ha' hP hD hS => ?_)
  refine W.widen (k := 35) (n := 299) (Nat.le_of_ble_eq_true rfl) (Nat.le_of_ble_eq_true rfl) ?_
  have hP : va_P D vwCl (pg_wB cI cZ a (upd (upd (fun _ => 0) 3 (-1)) 4 (-1), fun _ _ => 0) ++ pg_wM cI cZ a' (fun _ => 0, fun _ _ => 0)) H := hP
  have hD : va_D (fun q : Nat => s.heap.size ≤ q) (pg_wB cI cZ a (upd (upd (fun _ => 0) 3 (-1)) 4 (-1), fun _ _ => 0) ++ pg_wM cI cZ a' (fun _ => 0, fun _ _ => 0)) := hD
  refine lv_astore_n (lv' := [(2, .ref q2), (1, .ref q1), (0, .ref b)]) hx hb dL_law_15 rfl hl (by decide) rfl (fun ls hl => ?_)
  refine lv_iconst (v := 1) hx hb dL_law_16 (by decide) ?_
  refine va_newa (atype := .long) (ty := .long) (a0 := (1, .inr (.inl (fun _ => 0)))) hx hb (hts0 (.arrayClass .long) (List.mem_of_getElem? (i := 793) rfl)) rfl hK hP hD hS hA (fun _ => rfl) (by decide) (N' := 1) (by decide) (Nat.le_of_ble_eq_true rfl) (Nat.le_of_ble_eq_true rfl) (Nat.le_of_ble_eq_true rfl) dL_law_17 (fun o cL H hK hP hD hS => ?_)
  refine W.widen (k := 36) (n := 300) (Nat.le_of_ble_eq_true rfl) (Nat.le_of_ble_eq_true rfl) ?_
  have hK : va_K D vwCl (pg_tyL cI cZ cL) s := hK
  have hP : va_P D vwCl (lw_W cI cZ cL a a' o (upd (upd (fun _ => 0) 3 (-1)) 4 (-1), fun _ _ => 0) (fun _ => 0, fun _ _ => 0) (fun _ => 0)) H := hP.sub (ws' := lw_W cI cZ cL a a' o (upd (upd (fun _ => 0) 3 (-1)) 4 (-1), fun _ _ => 0) (fun _ => 0, fun _ _ => 0) (fun _ => 0)) [0, 1, 2, 3, 4, 5, 6, 7, 8, 9, 10, 11, 12, 13, 14, 15, 16, 17, 18, 35, 19, 20, 21, 22, 23, 24, 25, 26, 27, 28, 29, 30, 31, 32, 33, 34] rfl
  have hD : va_D (fun q : Nat => s.heap.size ≤ q) (lw_W cI cZ cL a a' o (upd (upd (fun _ => 0) 3 (-1)) 4 (-1), fun _ _ => 0) (fun _ => 0, fun _ _ => 0) (fun _ => 0)) := hD.sub (ws' := lw_W cI cZ cL a a' o (upd (upd (fun _ => 0) 3 (-1)) 4 (-1), fun _ _ => 0) (fun _ => 0, fun _ _ => 0) (fun _ => 0)) [0, 1, 2, 3, 4, 5, 6, 7, 8, 9, 10, 11, 12, 13, 14, 15, 16, 17, 18, 35, 19, 20, 21, 22, 23, 24, 25, 26, 27, 28, 29, 30, 31, 32, 33, 34] (by decide) rfl
  refine lv_astore_n (lv' := [(3, .ref o), (2, .ref q2), (1, .ref q1), (0, .ref b)]) hx hb dL_law_19 rfl hl (by decide) rfl (fun ls hl => ?_)
  refine lv_iconst (v := 0) hx hb dL_law_20 (by decide) ?_
  refine lv_istore (lv' := [(4, .int 0), (3, .ref o), (2, .ref q2), (1, .ref q1), (0, .ref b)]) hx hb dL_law_21 hl (by decide) rfl (fun ls hl => ?_)
  refine lw_loop hfl hL C0 hK (lw_env C0) L 0 (Nat.zero_le L) (by omega) H locs ls _ _ _ pg_Inv0 hP hD hS (by rw [ha, ha']; exact lv_sub hl [4, 3, 2, 1, 0] rfl)
