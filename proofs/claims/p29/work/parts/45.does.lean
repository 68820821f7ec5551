theorem pz_hAdv {u : pg_St} {d q : Nat} (hd : u.1 3 = nI d) (hd2 : d < 3500) (h1 : 1 ≤ q) (h2 : q ≤ 200) : pg_t_advance (!pg_eq (u.1 3) (-1)) (u.1 3) (nI q) = 0 := by
  have e1 : pg_in (nI q) 1 400 = true := pg_inL (x := 1) (y := 400) (by decide) (by decide) (by omega) (by omega) (by omega)
  have e2 : pg_le (nI d + nI q) 4000 = true := pg_le_t (by rw [nI_add]; exact nI_le (b := 4000) (by omega) (by decide))
  have e3 : pg_eq (nI d) (-1) = false := pg_eq_f fun h => by
    have e : (nI d).toInt = (d : Int) := nI_toInt (by omega)
    rw [h, pg_im1] at e; omega
  unfold pg_t_advance
  rw [hd, e1, e2, e3]; rfl
theorem pz_hOff {r : Nat → Nat → Int32} {n j : Nat} (hj : j < n) (h20 : n ≤ 20) (h0 : r 10 j = -1) (hb : pg_bb (r 8 j) 300000) : pg_t_offer r (nI n) (nI j) 0 = 0 := by
  have e1 : pg_in 0 0 (r 8 j) = true := (pg_in_iff _ _ _).mpr ⟨Int.le_refl _, hb.1⟩
  unfold pg_t_offer
  rw [nI_clamp (by omega), pg_nbL hj (by omega), h0, pg_e1, e1]; rfl
theorem pz_hDec {r : Nat → Nat → Int32} {n j : Nat} {x : Int32} (hj : j < n) (h20 : n ≤ 20) (h0 : r 10 j = -1) (h9 : r 9 j = -1 ∨ r 9 j = 0) (hb : pg_in x 0 (r 8 j) = true) : pg_t_decide r (nI n) (nI j) x = 0 := by
  have e1 : pg_low (r 9 j) = 0 := by
    unfold pg_low
    rcases h9 with h | h
    · rw [if_pos h]
    · rw [h]; rfl
  unfold pg_t_decide
  rw [nI_clamp (by omega), pg_nbL hj (by omega), h0, pg_e1, e1, hb]; rfl
theorem pz_m1 {x : Int32} (h : x = -1 ∨ x = 0) : ¬ x < -1 := by
  rcases h with h | h <;> subst h <;> decide
theorem pg_updk9 (u : pg_St) (k : Nat) {c : Int32} (hc : c.toNatClampNeg = k := by assumption) : (pz_off u c).2 9 k = 0 := by
  show upd (u.2 9) c.toNatClampNeg 0 k = 0
  rw [hc, pg_updk]
set_option maxHeartbeats 4000000 in
set_option maxRecDepth 100000 in
/-- does(o, v, w, amount) -/
theorem ct_does (l : Launch) (D : va_G) (cI cZ : ClassId) (a : Nat → Nat) (sz : Nat) (u : pg_St) (ld am : Nat → Int32) (n t z : Nat) (hJ : pg_J u ld am n t z) (V Wd : Nat) (hV : V < 2 ^ 31) (hWd : Wd < 2 ^ 31) (x : Int32) (hx9 : 0 < n → pg_bb x 300000 ∧ pg_in x 0 (u.2 8 (Wd % n)) = true) : Met l yL_does wsL_does ({ frames := 7, cells := 0, slots := 0, locals := 152 }) (va_Pc [.ref (a 0), .int (nI V), .int (nI Wd), .int x] (pg_B D (pg_ty cI cZ) (pg_wB cI cZ a u) sz)) (va_Qi (fun r u' => r = 1 ∧ pg_J u' ld am n t z) (pg_E D (pg_ty cI cZ) (va_A (pg_wB cI cZ a u) sz) (pg_wB cI cZ a)) (va_A (pg_wB cI cZ a u) sz)) 0 0 (va_A (pg_wB cI cZ a u) sz) := by
  refine Met.ofW (cc := cL_does) (maxL := 11) (ret := (some .boolean)) (by decide) rfl ?_
  intro p e s m args below meth c s₁ B hml hv
  obtain ⟨rfl, hsz, hP, hK, hD0⟩ := hv
  have hx := B.exec
  have hb := B.bytes
  have hr := B.returns
  have hts := atoms_spec (ws := wsL_does) B.pre
  have hown : s.vm.findClass RL = some m.cls := findClass_of_methodNamed B.named
  have hlocks := B.notSynchronized
  subst hsz
  have hD := hD0.self (sz := s.heap.size)
  generalize hAe : va_A (pg_wB cI cZ a u) s.heap.size = A at hD ⊢
  have hA : ∀ q : Nat, s.heap.size ≤ q → A q := fun q h => by rw [← hAe]; exact Or.inr h
  have hS : va_S A s.heap s.heap [] := va_S.rf
  have hl := lv_entry ([.ref (a 0), .int (nI V), .int (nI Wd), .int x]) (n := 11) (Nat.le_of_ble_eq_true rfl)
  rw [lg_entry_eq]
  generalize (lg_sl ([.ref (a 0), .int (nI V), .int (nI Wd), .int x]) ++ List.replicate (11 - (lg_sl ([.ref (a 0), .int (nI V), .int (nI Wd), .int x])).length) Slot.unset).toArray = ls at hl ⊢
  have hl : lv_has ls 11 [(0, .ref (a 0)), (1, .int (nI V)), (2, .int (nI Wd)), (3, .int x)] := hl
  have hn : u.1 10 = nI n := hJ.2.1.1
  have h20 : n ≤ 20 := hJ.2.1.2.1
  refine lv_aload_n hx hb dL_does_0 rfl (lv_at hl 0 rfl) ?_
  refine pg_iE (pg_rV (As := []) (rest := []) ⟨hx, hb, hml, hown, hts⟩ (cc_claims l D cI cZ a s.heap.size u ) (cwV 0 hts gL_does_X4_claims rfl rfl rfl (by decide +kernel) ⟨Nat.le_of_ble_eq_true rfl, Nat.le_of_ble_eq_true rfl⟩) hK hP hD 0 (ci := 4) rfl rfl rfl rfl hl.1 rfl (Nat.le_of_ble_eq_true rfl) dL_does_1 ⟨Nat.le_of_ble_eq_true rfl, Nat.le_of_ble_eq_true rfl⟩) hD hS hA (fun H locs hP hD hS => ?_)
  refine W.eq (g2 := F0 m 4 ls [.int (nI n)]) (by rw [hn]) ?_
  refine lv_istore (lv' := [(4, .int (nI n)), (0, .ref (a 0)), (1, .int (nI V)), (2, .int (nI Wd)), (3, .int x)]) hx hb dL_does_4 hl (by decide) rfl (fun ls hl => ?_)
  refine lv_iload hx hb dL_does_6 (lv_at hl 0 rfl) ?_
  refine lv_if_ne (tgt := 15) hx hb dL_does_8 (by decide) (fun c_8 => ?_) (fun c_8 => ?_)
  · have hn0 : 0 < n := Nat.pos_of_ne_zero (pg_n0n c_8)
    have hj : Wd % n < n := Nat.mod_lt _ hn0
    have hcl : (nI (Wd % n)).toNatClampNeg = Wd % n := nI_clamp (by omega)
    refine lv_iload_n hx hb dL_does_15 rfl (lv_at hl 3 rfl) ?_
    refine lv_iload hx hb dL_does_16 (lv_at hl 0 rfl) ?_
    refine pg_iremM (k := Wd) (j := n) hx hb rfl rfl (by omega) (by omega) (by omega) dL_does_18 ?_
    refine lv_istore (lv' := [(5, .int (nI (Wd % n))), (4, .int (nI n)), (0, .ref (a 0)), (1, .int (nI V)), (2, .int (nI Wd)), (3, .int x)]) hx hb dL_does_19 hl (by decide) rfl (fun ls hl => ?_)
    refine lv_iload hx hb dL_does_21 (lv_at hl 0 rfl) ?_
    refine lv_if_lt (tgt := 40) hx hb dL_does_23 (by decide) (fun c_23 => absurd c_23 (nI_pos (by omega))) (fun c_23 => ?_)
    refine lv_aload_n hx hb dL_does_26 rfl (lv_at hl 2 rfl) ?_
    refine lv_iload hx hb dL_does_27 (lv_at hl 0 rfl) ?_
    refine pg_iE (pg_rV (As := [.int (nI (Wd % n))]) (rest := []) ⟨hx, hb, hml, hown, hts⟩ (cc_settledAt_ok l D cI cZ a H.size u n hn h20 (nI (Wd % n)) (pg_numL hj (by omega))) (cwV 1 hts gL_does_X4_settledAt rfl rfl rfl (by decide +kernel) ⟨Nat.le_of_ble_eq_true rfl, Nat.le_of_ble_eq_true rfl⟩) hK hP hD 0 (ci := 4) rfl rfl rfl rfl hl.1 rfl (Nat.le_of_ble_eq_true rfl) dL_does_29 ⟨Nat.le_of_ble_eq_true rfl, Nat.le_of_ble_eq_true rfl⟩) hD hS hA (fun H locs hP hD hS => ?_)
    refine W.eq (g2 := F0 m 32 ls [.int (u.2 10 (Wd % n))]) (by rw [hcl]) ?_
    refine lv_iconst (v := (-1)) hx hb dL_does_32 (by decide) ?_
    refine lv_icmp_ne (tgt := 40) hx hb dL_does_33 (by decide) (fun c_33 => ?_) (fun c_33 => ?_)
    · refine lv_iconst (v := 0) hx hb dL_does_40 (by decide) ?_
      refine lv_istore (lv' := [(6, .int 0), (5, .int (nI (Wd % n))), (4, .int (nI n)), (0, .ref (a 0)), (1, .int (nI V)), (2, .int (nI Wd)), (3, .int x)]) hx hb dL_does_41 hl (by decide) rfl (fun ls hl => ?_)
      refine lv_aload_n hx hb dL_does_43 rfl (lv_at hl 3 rfl) ?_
      refine pg_iE (pg_rV (As := []) (rest := []) ⟨hx, hb, hml, hown, hts⟩ (cc_held l D cI cZ a H.size u ) (cwV 0 hts gL_does_X4_held rfl rfl rfl (by decide +kernel) ⟨Nat.le_of_ble_eq_true rfl, Nat.le_of_ble_eq_true rfl⟩) hK hP hD 0 (ci := 4) rfl rfl rfl rfl hl.1 rfl (Nat.le_of_ble_eq_true rfl) dL_does_44 ⟨Nat.le_of_ble_eq_true rfl, Nat.le_of_ble_eq_true rfl⟩) hD hS hA (fun H locs hP hD hS => ?_)
      refine lv_istore (lv' := [(7, .int (u.1 5)), (6, .int 0), (5, .int (nI (Wd % n))), (4, .int (nI n)), (0, .ref (a 0)), (1, .int (nI V)), (2, .int (nI Wd)), (3, .int x)]) hx hb dL_does_47 hl (by decide) rfl (fun ls hl => ?_)
      refine lv_aload_n hx hb dL_does_49 rfl (lv_at hl 4 rfl) ?_
      refine pg_iE (pg_rV (As := []) (rest := []) ⟨hx, hb, hml, hown, hts⟩ (cc_returned l D cI cZ a H.size u ) (cwV 0 hts gL_does_X4_returned rfl rfl rfl (by decide +kernel) ⟨Nat.le_of_ble_eq_true rfl, Nat.le_of_ble_eq_true rfl⟩) hK hP hD 0 (ci := 4) rfl rfl rfl rfl hl.1 rfl (Nat.le_of_ble_eq_true rfl) dL_does_50 ⟨Nat.le_of_ble_eq_true rfl, Nat.le_of_ble_eq_true rfl⟩) hD hS hA (fun H locs hP hD hS => ?_)
      refine lv_istore (lv' := [(8, .int (u.1 7)), (7, .int (u.1 5)), (6, .int 0), (5, .int (nI (Wd % n))), (4, .int (nI n)), (0, .ref (a 0)), (1, .int (nI V)), (2, .int (nI Wd)), (3, .int x)]) hx hb dL_does_53 hl (by decide) rfl (fun ls hl => ?_)
      refine lv_iload_n hx hb dL_does_55 rfl (lv_at hl 6 rfl) ?_
      refine lv_bipush (v := 8) hx hb dL_does_56 (by decide) ?_
      refine pg_iremM (k := V) (j := 8) hx hb rfl rfl (by omega) (by omega) (by omega) dL_does_58 ?_
      rcases (show V % 8 = 0 ∨ V % 8 = 1 ∨ V % 8 = 2 ∨ V % 8 = 3 ∨ V % 8 = 4 ∨ 5 ≤ V % 8 by omega) with c_59 | c_59 | c_59 | c_59 | c_59 | c_59
      · rw [c_59]
        refine lv_tableIn (off := 33) (tgt := 92) hx hb dL_does_59 (by decide) (by decide) (by decide) (by decide) ?_
        refine lv_aload_n hx hb dL_does_92 rfl (lv_at hl 5 rfl) ?_
        refine pg_iE (pg_rV (As := []) (rest := []) ⟨hx, hb, hml, hown, hts⟩ (cc_day l D cI cZ a H.size u ) (cwV 0 hts gL_does_X4_day rfl rfl rfl (by decide +kernel) ⟨Nat.le_of_ble_eq_true rfl, Nat.le_of_ble_eq_true rfl⟩) hK hP hD 0 (ci := 4) rfl rfl rfl rfl hl.1 rfl (Nat.le_of_ble_eq_true rfl) dL_does_93 ⟨Nat.le_of_ble_eq_true rfl, Nat.le_of_ble_eq_true rfl⟩) hD hS hA (fun H locs hP hD hS => ?_)
        refine lv_sipush (v := 3500) hx hb dL_does_96 (by decide) ?_
        refine lv_icmp_ge (tgt := 144) hx hb dL_does_99 (by decide) (fun c_99 => ?_) (fun c_99 => ?_)
        · refine lv_iconst (v := 1) hx hb dL_does_144 (by decide) ?_
          exact W.zret (v := 1) hx hb hr rfl (fun t9 ht9 hW9 => ⟨⟨1, u, rfl, ⟨rfl, hJ⟩, by rw [ht9]; exact hP, va_K.moved hW9.alike hK, hD⟩, hS.F ht9⟩) hS.2.2 dL_does_145
        · obtain ⟨d, hm⟩ := id hJ.2.2.2
          have hd : u.1 3 = nI d := hm.1
          have hd2 : d < 3500 := by
            rw [hd] at c_99
            have := hm.2.1
            exact Nat.lt_of_not_le fun q => c_99 (nI_le q (by omega))
          have hA9 := hJ.adv hd hd2 (q := 1 + Wd % 200) (by omega)
          refine lv_aload_n hx hb dL_does_102 rfl (lv_at hl 5 rfl) ?_
          refine lv_iconst (v := 1) hx hb dL_does_103 (by decide) ?_
          refine lv_iload_n hx hb dL_does_104 rfl (lv_at hl 7 rfl) ?_
          refine lv_sipush (v := 200) hx hb dL_does_105 (by decide) ?_
          refine pg_iremM (k := Wd) (j := 200) hx hb rfl rfl (by omega) (by omega) (by omega) dL_does_108 ?_
          refine pg_iaddM (k := 1) (j := (Wd % 200)) hx hb rfl rfl dL_does_109 ?_
          refine pg_iE (pg_rV (As := [.int (nI (1 + (Wd % 200)))]) (rest := []) ⟨hx, hb, hml, hown, hts⟩ (cc_advance_ok l D cI cZ a H.size u n hn h20 (nI (1 + (Wd % 200))) (pz_hAdv hd hd2 (by omega) (by omega))) (cwV 1 hts gL_does_X4_advance rfl rfl rfl (by decide +kernel) ⟨Nat.le_of_ble_eq_true rfl, Nat.le_of_ble_eq_true rfl⟩) hK hP hD 0 (ci := 4) rfl rfl rfl rfl hl.1 rfl (Nat.le_of_ble_eq_true rfl) dL_does_110 ⟨Nat.le_of_ble_eq_true rfl, Nat.le_of_ble_eq_true rfl⟩) hD hS hA (fun H locs hP hD hS => ?_)
          have hP : va_P D vwCl (pg_wB cI cZ a (pz_adv u n (nI (1 + Wd % 200)))) H := hP
          have hD : va_D A (pg_wB cI cZ a (pz_adv u n (nI (1 + Wd % 200)))) := hD
          refine lv_aload_n hx hb dL_does_113 rfl (lv_at hl 5 rfl) ?_
          refine pg_iE (pg_rV (As := []) (rest := [.int (u.1 3 + nI (1 + Wd % 200))]) ⟨hx, hb, hml, hown, hts⟩ (cc_day l D cI cZ a H.size (pz_adv u n (nI (1 + Wd % 200))) ) (cwV 0 hts gL_does_X4_day rfl rfl rfl (by decide +kernel) ⟨Nat.le_of_ble_eq_true rfl, Nat.le_of_ble_eq_true rfl⟩) hK hP hD 0 (ci := 4) rfl rfl rfl rfl hl.1 rfl (Nat.le_of_ble_eq_true rfl) dL_does_114 ⟨Nat.le_of_ble_eq_true rfl, Nat.le_of_ble_eq_true rfl⟩) hD hS hA (fun H locs hP hD hS => ?_)
          refine lv_icmp_ne (tgt := 142) hx hb dL_does_117 (by decide) (fun c_117 => absurd hA9.2.1.symm c_117) (fun c_117 => ?_)
          refine lv_aload_n hx hb dL_does_120 rfl (lv_at hl 5 rfl) ?_
          refine pg_iE (pg_rV (As := []) (rest := []) ⟨hx, hb, hml, hown, hts⟩ (cc_returned l D cI cZ a H.size (pz_adv u n (nI (1 + Wd % 200))) ) (cwV 0 hts gL_does_X4_returned rfl rfl rfl (by decide +kernel) ⟨Nat.le_of_ble_eq_true rfl, Nat.le_of_ble_eq_true rfl⟩) hK hP hD 0 (ci := 4) rfl rfl rfl rfl hl.1 rfl (Nat.le_of_ble_eq_true rfl) dL_does_121 ⟨Nat.le_of_ble_eq_true rfl, Nat.le_of_ble_eq_true rfl⟩) hD hS hA (fun H locs hP hD hS => ?_)
          refine lv_iload hx hb dL_does_124 (lv_at hl 0 rfl) ?_
          refine lv_icmp_ne (tgt := 142) hx hb dL_does_126 (by decide) (fun c_126 => absurd hA9.2.2.1 c_126) (fun c_126 => ?_)
          refine lv_aload_n hx hb dL_does_129 rfl (lv_at hl 5 rfl) ?_
          refine pg_iE (pg_rV (As := []) (rest := []) ⟨hx, hb, hml, hown, hts⟩ (cc_held l D cI cZ a H.size (pz_adv u n (nI (1 + Wd % 200))) ) (cwV 0 hts gL_does_X4_held rfl rfl rfl (by decide +kernel) ⟨Nat.le_of_ble_eq_true rfl, Nat.le_of_ble_eq_true rfl⟩) hK hP hD 0 (ci := 4) rfl rfl rfl rfl hl.1 rfl (Nat.le_of_ble_eq_true rfl) dL_does_130 ⟨Nat.le_of_ble_eq_true rfl, Nat.le_of_ble_eq_true rfl⟩) hD hS hA (fun H locs hP hD hS => ?_)
          refine lv_iload hx hb dL_does_133 (lv_at hl 1 rfl) ?_
          refine lv_icmp_gt (tgt := 142) hx hb dL_does_135 (by decide) (fun c_135 => absurd c_135 hA9.2.2.2) (fun c_135 => ?_)
          refine lv_iconst (v := 1) hx hb dL_does_138 (by decide) ?_
          refine lv_goto (tgt := 143) hx hb dL_does_139 (by decide) ?_
          exact W.zret (v := 1) hx hb hr rfl (fun t9 ht9 hW9 => ⟨⟨1, (pz_adv u n (nI (1 + Wd % 200))), rfl, ⟨rfl, hA9.1⟩, by rw [ht9]; exact hP, va_K.moved hW9.alike hK, hD⟩, hS.F ht9⟩) hS.2.2 dL_does_143
      · rw [c_59]
        refine lv_tableIn (off := 87) (tgt := 146) hx hb dL_does_59 (by decide) (by decide) (by decide) (by decide) ?_
        refine lv_iload hx hb dL_does_146 (lv_at hl 2 rfl) ?_
        refine lv_if_eq (tgt := 180) hx hb dL_does_148 (by decide) (fun c_148 => ?_) (fun c_148 => absurd (by decide) c_148)
        refine lv_iconst (v := 1) hx hb dL_does_180 (by decide) ?_
        exact W.zret (v := 1) hx hb hr rfl (fun t9 ht9 hW9 => ⟨⟨1, u, rfl, ⟨rfl, hJ⟩, by rw [ht9]; exact hP, va_K.moved hW9.alike hK, hD⟩, hS.F ht9⟩) hS.2.2 dL_does_181
      · rw [c_59]
        refine lv_tableIn (off := 87) (tgt := 146) hx hb dL_does_59 (by decide) (by decide) (by decide) (by decide) ?_
        refine lv_iload hx hb dL_does_146 (lv_at hl 2 rfl) ?_
        refine lv_if_eq (tgt := 180) hx hb dL_does_148 (by decide) (fun c_148 => ?_) (fun c_148 => absurd (by decide) c_148)
        refine lv_iconst (v := 1) hx hb dL_does_180 (by decide) ?_
        exact W.zret (v := 1) hx hb hr rfl (fun t9 ht9 hW9 => ⟨⟨1, u, rfl, ⟨rfl, hJ⟩, by rw [ht9]; exact hP, va_K.moved hW9.alike hK, hD⟩, hS.F ht9⟩) hS.2.2 dL_does_181
      · rw [c_59]
        refine lv_tableIn (off := 123) (tgt := 182) hx hb dL_does_59 (by decide) (by decide) (by decide) (by decide) ?_
        refine lv_iload hx hb dL_does_182 (lv_at hl 2 rfl) ?_
        refine lv_if_eq (tgt := 253) hx hb dL_does_184 (by decide) (fun c_184 => ?_) (fun c_184 => absurd (by decide) c_184)
        refine lv_iconst (v := 1) hx hb dL_does_253 (by decide) ?_
        exact W.zret (v := 1) hx hb hr rfl (fun t9 ht9 hW9 => ⟨⟨1, u, rfl, ⟨rfl, hJ⟩, by rw [ht9]; exact hP, va_K.moved hW9.alike hK, hD⟩, hS.F ht9⟩) hS.2.2 dL_does_254
      · rw [c_59]
        refine lv_tableIn (off := 123) (tgt := 182) hx hb dL_does_59 (by decide) (by decide) (by decide) (by decide) ?_
        refine lv_iload hx hb dL_does_182 (lv_at hl 2 rfl) ?_
        refine lv_if_eq (tgt := 253) hx hb dL_does_184 (by decide) (fun c_184 => ?_) (fun c_184 => absurd (by decide) c_184)
        refine lv_iconst (v := 1) hx hb dL_does_253 (by decide) ?_
        exact W.zret (v := 1) hx hb hr rfl (fun t9 ht9 hW9 => ⟨⟨1, u, rfl, ⟨rfl, hJ⟩, by rw [ht9]; exact hP, va_K.moved hW9.alike hK, hD⟩, hS.F ht9⟩) hS.2.2 dL_does_254
      · refine lv_tableOut (tgt := 255) hx hb dL_does_59 (Or.inr (by rw [nI_toInt (by omega)]; omega)) (by decide) ?_
        refine lv_iconst (v := 1) hx hb dL_does_255 (by decide) ?_
        exact W.zret (v := 1) hx hb hr rfl (fun t9 ht9 hW9 => ⟨⟨1, u, rfl, ⟨rfl, hJ⟩, by rw [ht9]; exact hP, va_K.moved hW9.alike hK, hD⟩, hS.F ht9⟩) hS.2.2 dL_does_256
    · have hop : u.2 10 (Wd % n) = -1 := c_33
      refine lv_iconst (v := 1) hx hb dL_does_36 (by decide) ?_
      refine lv_goto (tgt := 41) hx hb dL_does_37 (by decide) ?_
      refine lv_istore (lv' := [(6, .int 1), (5, .int (nI (Wd % n))), (4, .int (nI n)), (0, .ref (a 0)), (1, .int (nI V)), (2, .int (nI Wd)), (3, .int x)]) hx hb dL_does_41 hl (by decide) rfl (fun ls hl => ?_)
      refine lv_aload_n hx hb dL_does_43 rfl (lv_at hl 3 rfl) ?_
      refine pg_iE (pg_rV (As := []) (rest := []) ⟨hx, hb, hml, hown, hts⟩ (cc_held l D cI cZ a H.size u ) (cwV 0 hts gL_does_X4_held rfl rfl rfl (by decide +kernel) ⟨Nat.le_of_ble_eq_true rfl, Nat.le_of_ble_eq_true rfl⟩) hK hP hD 0 (ci := 4) rfl rfl rfl rfl hl.1 rfl (Nat.le_of_ble_eq_true rfl) dL_does_44 ⟨Nat.le_of_ble_eq_true rfl, Nat.le_of_ble_eq_true rfl⟩) hD hS hA (fun H locs hP hD hS => ?_)
      refine lv_istore (lv' := [(7, .int (u.1 5)), (6, .int 1), (5, .int (nI (Wd % n))), (4, .int (nI n)), (0, .ref (a 0)), (1, .int (nI V)), (2, .int (nI Wd)), (3, .int x)]) hx hb dL_does_47 hl (by decide) rfl (fun ls hl => ?_)
      refine lv_aload_n hx hb dL_does_49 rfl (lv_at hl 4 rfl) ?_
      refine pg_iE (pg_rV (As := []) (rest := []) ⟨hx, hb, hml, hown, hts⟩ (cc_returned l D cI cZ a H.size u ) (cwV 0 hts gL_does_X4_returned rfl rfl rfl (by decide +kernel) ⟨Nat.le_of_ble_eq_true rfl, Nat.le_of_ble_eq_true rfl⟩) hK hP hD 0 (ci := 4) rfl rfl rfl rfl hl.1 rfl (Nat.le_of_ble_eq_true rfl) dL_does_50 ⟨Nat.le_of_ble_eq_true rfl, Nat.le_of_ble_eq_true rfl⟩) hD hS hA (fun H locs hP hD hS => ?_)
      refine lv_istore (lv' := [(8, .int (u.1 7)), (7, .int (u.1 5)), (6, .int 1), (5, .int (nI (Wd % n))), (4, .int (nI n)), (0, .ref (a 0)), (1, .int (nI V)), (2, .int (nI Wd)), (3, .int x)]) hx hb dL_does_53 hl (by decide) rfl (fun ls hl => ?_)
      refine lv_iload_n hx hb dL_does_55 rfl (lv_at hl 6 rfl) ?_
      refine lv_bipush (v := 8) hx hb dL_does_56 (by decide) ?_
      refine pg_iremM (k := V) (j := 8) hx hb rfl rfl (by omega) (by omega) (by omega) dL_does_58 ?_
      rcases (show V % 8 = 0 ∨ V % 8 = 1 ∨ V % 8 = 2 ∨ V % 8 = 3 ∨ V % 8 = 4 ∨ 5 ≤ V % 8 by omega) with c_59 | c_59 | c_59 | c_59 | c_59 | c_59
      · rw [c_59]
        refine lv_tableIn (off := 33) (tgt := 92) hx hb dL_does_59 (by decide) (by decide) (by decide) (by decide) ?_
        refine lv_aload_n hx hb dL_does_92 rfl (lv_at hl 5 rfl) ?_
        refine pg_iE (pg_rV (As := []) (rest := []) ⟨hx, hb, hml, hown, hts⟩ (cc_day l D cI cZ a H.size u ) (cwV 0 hts gL_does_X4_day rfl rfl rfl (by decide +kernel) ⟨Nat.le_of_ble_eq_true rfl, Nat.le_of_ble_eq_true rfl⟩) hK hP hD 0 (ci := 4) rfl rfl rfl rfl hl.1 rfl (Nat.le_of_ble_eq_true rfl) dL_does_93 ⟨Nat.le_of_ble_eq_true rfl, Nat.le_of_ble_eq_true rfl⟩) hD hS hA (fun H locs hP hD hS => ?_)
        refine lv_sipush (v := 3500) hx hb dL_does_96 (by decide) ?_
        refine lv_icmp_ge (tgt := 144) hx hb dL_does_99 (by decide) (fun c_99 => ?_) (fun c_99 => ?_)
        · refine lv_iconst (v := 1) hx hb dL_does_144 (by decide) ?_
          exact W.zret (v := 1) hx hb hr rfl (fun t9 ht9 hW9 => ⟨⟨1, u, rfl, ⟨rfl, hJ⟩, by rw [ht9]; exact hP, va_K.moved hW9.alike hK, hD⟩, hS.F ht9⟩) hS.2.2 dL_does_145
        · obtain ⟨d, hm⟩ := id hJ.2.2.2
          have hd : u.1 3 = nI d := hm.1
          have hd2 : d < 3500 := by
            rw [hd] at c_99
            have := hm.2.1
            exact Nat.lt_of_not_le fun q => c_99 (nI_le q (by omega))
          have hA9 := hJ.adv hd hd2 (q := 1 + Wd % 200) (by omega)
          refine lv_aload_n hx hb dL_does_102 rfl (lv_at hl 5 rfl) ?_
          refine lv_iconst (v := 1) hx hb dL_does_103 (by decide) ?_
          refine lv_iload_n hx hb dL_does_104 rfl (lv_at hl 7 rfl) ?_
          refine lv_sipush (v := 200) hx hb dL_does_105 (by decide) ?_
          refine pg_iremM (k := Wd) (j := 200) hx hb rfl rfl (by omega) (by omega) (by omega) dL_does_108 ?_
          refine pg_iaddM (k := 1) (j := (Wd % 200)) hx hb rfl rfl dL_does_109 ?_
          refine pg_iE (pg_rV (As := [.int (nI (1 + (Wd % 200)))]) (rest := []) ⟨hx, hb, hml, hown, hts⟩ (cc_advance_ok l D cI cZ a H.size u n hn h20 (nI (1 + (Wd % 200))) (pz_hAdv hd hd2 (by omega) (by omega))) (cwV 1 hts gL_does_X4_advance rfl rfl rfl (by decide +kernel) ⟨Nat.le_of_ble_eq_true rfl, Nat.le_of_ble_eq_true rfl⟩) hK hP hD 0 (ci := 4) rfl rfl rfl rfl hl.1 rfl (Nat.le_of_ble_eq_true rfl) dL_does_110 ⟨Nat.le_of_ble_eq_true rfl, Nat.le_of_ble_eq_true rfl⟩) hD hS hA (fun H locs hP hD hS => ?_)
          have hP : va_P D vwCl (pg_wB cI cZ a (pz_adv u n (nI (1 + Wd % 200)))) H := hP
          have hD : va_D A (pg_wB cI cZ a (pz_adv u n (nI (1 + Wd % 200)))) := hD
          refine lv_aload_n hx hb dL_does_113 rfl (lv_at hl 5 rfl) ?_
          refine pg_iE (pg_rV (As := []) (rest := [.int (u.1 3 + nI (1 + Wd % 200))]) ⟨hx, hb, hml, hown, hts⟩ (cc_day l D cI cZ a H.size (pz_adv u n (nI (1 + Wd % 200))) ) (cwV 0 hts gL_does_X4_day rfl rfl rfl (by decide +kernel) ⟨Nat.le_of_ble_eq_true rfl, Nat.le_of_ble_eq_true rfl⟩) hK hP hD 0 (ci := 4) rfl rfl rfl rfl hl.1 rfl (Nat.le_of_ble_eq_true rfl) dL_does_114 ⟨Nat.le_of_ble_eq_true rfl, Nat.le_of_ble_eq_true rfl⟩) hD hS hA (fun H locs hP hD hS => ?_)
          refine lv_icmp_ne (tgt := 142) hx hb dL_does_117 (by decide) (fun c_117 => absurd hA9.2.1.symm c_117) (fun c_117 => ?_)
          refine lv_aload_n hx hb dL_does_120 rfl (lv_at hl 5 rfl) ?_
          refine pg_iE (pg_rV (As := []) (rest := []) ⟨hx, hb, hml, hown, hts⟩ (cc_returned l D cI cZ a H.size (pz_adv u n (nI (1 + Wd % 200))) ) (cwV 0 hts gL_does_X4_returned rfl rfl rfl (by decide +kernel) ⟨Nat.le_of_ble_eq_true rfl, Nat.le_of_ble_eq_true rfl⟩) hK hP hD 0 (ci := 4) rfl rfl rfl rfl hl.1 rfl (Nat.le_of_ble_eq_true rfl) dL_does_121 ⟨Nat.le_of_ble_eq_true rfl, Nat.le_of_ble_eq_true rfl⟩) hD hS hA (fun H locs hP hD hS => ?_)
          refine lv_iload hx hb dL_does_124 (lv_at hl 0 rfl) ?_
          refine lv_icmp_ne (tgt := 142) hx hb dL_does_126 (by decide) (fun c_126 => absurd hA9.2.2.1 c_126) (fun c_126 => ?_)
          refine lv_aload_n hx hb dL_does_129 rfl (lv_at hl 5 rfl) ?_
          refine pg_iE (pg_rV (As := []) (rest := []) ⟨hx, hb, hml, hown, hts⟩ (cc_held l D cI cZ a H.size (pz_adv u n (nI (1 + Wd % 200))) ) (cwV 0 hts gL_does_X4_held rfl rfl rfl (by decide +kernel) ⟨Nat.le_of_ble_eq_true rfl, Nat.le_of_ble_eq_true rfl⟩) hK hP hD 0 (ci := 4) rfl rfl rfl rfl hl.1 rfl (Nat.le_of_ble_eq_true rfl) dL_does_130 ⟨Nat.le_of_ble_eq_true rfl, Nat.le_of_ble_eq_true rfl⟩) hD hS hA (fun H locs hP hD hS => ?_)
          refine lv_iload hx hb dL_does_133 (lv_at hl 1 rfl) ?_
          refine lv_icmp_gt (tgt := 142) hx hb dL_does_135 (by decide) (fun c_135 => absurd c_135 hA9.2.2.2) (fun c_135 => ?_)
          refine lv_iconst (v := 1) hx hb dL_does_138 (by decide) ?_
          refine lv_goto (tgt := 143) hx hb dL_does_139 (by decide) ?_
          exact W.zret (v := 1) hx hb hr rfl (fun t9 ht9 hW9 => ⟨⟨1, (pz_adv u n (nI (1 + Wd % 200))), rfl, ⟨rfl, hA9.1⟩, by rw [ht9]; exact hP, va_K.moved hW9.alike hK, hD⟩, hS.F ht9⟩) hS.2.2 dL_does_143
      · rw [c_59]
        refine lv_tableIn (off := 87) (tgt := 146) hx hb dL_does_59 (by decide) (by decide) (by decide) (by decide) ?_
        refine lv_iload hx hb dL_does_146 (lv_at hl 2 rfl) ?_
        refine lv_if_eq (tgt := 180) hx hb dL_does_148 (by decide) (fun c_148 => absurd c_148 (by decide)) (fun c_148 => ?_)
        refine lv_aload_n hx hb dL_does_151 rfl (lv_at hl 5 rfl) ?_
        refine lv_iload hx hb dL_does_152 (lv_at hl 3 rfl) ?_
        refine lv_iconst (v := 0) hx hb dL_does_154 (by decide) ?_
        refine pg_iE (pg_rV (As := [.int (nI (Wd % n)), .int 0]) (rest := []) ⟨hx, hb, hml, hown, hts⟩ (cc_offer_ok l D cI cZ a H.size u n hJ.2.1.1 h20 (nI (Wd % n)) 0 (pz_hOff hj h20 hop (hJ.amo _ hj))) (cwV 2 hts gL_does_X4_offer rfl rfl rfl (by decide +kernel) ⟨Nat.le_of_ble_eq_true rfl, Nat.le_of_ble_eq_true rfl⟩) hK hP hD 0 (ci := 4) rfl rfl rfl rfl hl.1 rfl (Nat.le_of_ble_eq_true rfl) dL_does_155 ⟨Nat.le_of_ble_eq_true rfl, Nat.le_of_ble_eq_true rfl⟩) hD hS hA (fun H locs hP hD hS => ?_)
        have hP : va_P D vwCl (pg_wB cI cZ a (pz_off u (nI (Wd % n)))) H := hP
        have hD : va_D A (pg_wB cI cZ a (pz_off u (nI (Wd % n)))) := hD
        refine W.eq (g2 := F0 m 158 ls [.int (u.2 9 (Wd % n))]) (by rw [hcl]) ?_
        refine lv_iconst (v := (-1)) hx hb dL_does_158 (by decide) ?_
        refine lv_icmp_lt (tgt := 176) hx hb dL_does_159 (by decide) (fun c_159 => absurd c_159 (pz_m1 (hJ.2.1.2.2.2.1 _ hj))) (fun c_159 => ?_)
        refine lv_aload_n hx hb dL_does_162 rfl (lv_at hl 5 rfl) ?_
        refine lv_iload hx hb dL_does_163 (lv_at hl 3 rfl) ?_
        refine lv_iconst (v := 0) hx hb dL_does_165 (by decide) ?_
        refine pg_iE (pg_rV (As := [.int (nI (Wd % n)), .int 0]) (rest := []) ⟨hx, hb, hml, hown, hts⟩ (cc_offer_ok l D cI cZ a H.size (pz_off u (nI (Wd % n))) n (hJ.off (nI (Wd % n))).2.1.1 h20 (nI (Wd % n)) 0 (pz_hOff hj h20 hop (hJ.amo _ hj))) (cwV 2 hts gL_does_X4_offer rfl rfl rfl (by decide +kernel) ⟨Nat.le_of_ble_eq_true rfl, Nat.le_of_ble_eq_true rfl⟩) hK hP hD 0 (ci := 4) rfl rfl rfl rfl hl.1 rfl (Nat.le_of_ble_eq_true rfl) dL_does_166 ⟨Nat.le_of_ble_eq_true rfl, Nat.le_of_ble_eq_true rfl⟩) hD hS hA (fun H locs hP hD hS => ?_)
        have hP : va_P D vwCl (pg_wB cI cZ a (pz_off (pz_off u (nI (Wd % n))) (nI (Wd % n)))) H := hP
        have hD : va_D A (pg_wB cI cZ a (pz_off (pz_off u (nI (Wd % n))) (nI (Wd % n)))) := hD
        refine W.eq (g2 := F0 m 169 ls [.int ((pz_off u (nI (Wd % n))).2 9 (Wd % n))]) (by rw [hcl]) ?_
        refine lv_if_ne (tgt := 176) hx hb dL_does_169 (by decide) (fun c_169 => absurd (pg_updk9 u _) c_169) (fun c_169 => ?_)
        refine lv_iconst (v := 1) hx hb dL_does_172 (by decide) ?_
        refine lv_goto (tgt := 181) hx hb dL_does_173 (by decide) ?_
        exact W.zret (v := 1) hx hb hr rfl (fun t9 ht9 hW9 => ⟨⟨1, (pz_off (pz_off u (nI (Wd % n))) (nI (Wd % n))), rfl, ⟨rfl, (hJ.off _).off _⟩, by rw [ht9]; exact hP, va_K.moved hW9.alike hK, hD⟩, hS.F ht9⟩) hS.2.2 dL_does_181
      · rw [c_59]
        refine lv_tableIn (off := 87) (tgt := 146) hx hb dL_does_59 (by decide) (by decide) (by decide) (by decide) ?_
        refine lv_iload hx hb dL_does_146 (lv_at hl 2 rfl) ?_
        refine lv_if_eq (tgt := 180) hx hb dL_does_148 (by decide) (fun c_148 => absurd c_148 (by decide)) (fun c_148 => ?_)
        refine lv_aload_n hx hb dL_does_151 rfl (lv_at hl 5 rfl) ?_
        refine lv_iload hx hb dL_does_152 (lv_at hl 3 rfl) ?_
        refine lv_iconst (v := 0) hx hb dL_does_154 (by decide) ?_
        refine pg_iE (pg_rV (As := [.int (nI (Wd % n)), .int 0]) (rest := []) ⟨hx, hb, hml, hown, hts⟩ (cc_offer_ok l D cI cZ a H.size u n hJ.2.1.1 h20 (nI (Wd % n)) 0 (pz_hOff hj h20 hop (hJ.amo _ hj))) (cwV 2 hts gL_does_X4_offer rfl rfl rfl (by decide +kernel) ⟨Nat.le_of_ble_eq_true rfl, Nat.le_of_ble_eq_true rfl⟩) hK hP hD 0 (ci := 4) rfl rfl rfl rfl hl.1 rfl (Nat.le_of_ble_eq_true rfl) dL_does_155 ⟨Nat.le_of_ble_eq_true rfl, Nat.le_of_ble_eq_true rfl⟩) hD hS hA (fun H locs hP hD hS => ?_)
        have hP : va_P D vwCl (pg_wB cI cZ a (pz_off u (nI (Wd % n)))) H := hP
        have hD : va_D A (pg_wB cI cZ a (pz_off u (nI (Wd % n)))) := hD
        refine W.eq (g2 := F0 m 158 ls [.int (u.2 9 (Wd % n))]) (by rw [hcl]) ?_
        refine lv_iconst (v := (-1)) hx hb dL_does_158 (by decide) ?_
        refine lv_icmp_lt (tgt := 176) hx hb dL_does_159 (by decide) (fun c_159 => absurd c_159 (pz_m1 (hJ.2.1.2.2.2.1 _ hj))) (fun c_159 => ?_)
        refine lv_aload_n hx hb dL_does_162 rfl (lv_at hl 5 rfl) ?_
        refine lv_iload hx hb dL_does_163 (lv_at hl 3 rfl) ?_
        refine lv_iconst (v := 0) hx hb dL_does_165 (by decide) ?_
        refine pg_iE (pg_rV (As := [.int (nI (Wd % n)), .int 0]) (rest := []) ⟨hx, hb, hml, hown, hts⟩ (cc_offer_ok l D cI cZ a H.size (pz_off u (nI (Wd % n))) n (hJ.off (nI (Wd % n))).2.1.1 h20 (nI (Wd % n)) 0 (pz_hOff hj h20 hop (hJ.amo _ hj))) (cwV 2 hts gL_does_X4_offer rfl rfl rfl (by decide +kernel) ⟨Nat.le_of_ble_eq_true rfl, Nat.le_of_ble_eq_true rfl⟩) hK hP hD 0 (ci := 4) rfl rfl rfl rfl hl.1 rfl (Nat.le_of_ble_eq_true rfl) dL_does_166 ⟨Nat.le_of_ble_eq_true rfl, Nat.le_of_ble_eq_true rfl⟩) hD hS hA (fun H locs hP hD hS => ?_)
        have hP : va_P D vwCl (pg_wB cI cZ a (pz_off (pz_off u (nI (Wd % n))) (nI (Wd % n)))) H := hP
        have hD : va_D A (pg_wB cI cZ a (pz_off (pz_off u (nI (Wd % n))) (nI (Wd % n)))) := hD
        refine W.eq (g2 := F0 m 169 ls [.int ((pz_off u (nI (Wd % n))).2 9 (Wd % n))]) (by rw [hcl]) ?_
        refine lv_if_ne (tgt := 176) hx hb dL_does_169 (by decide) (fun c_169 => absurd (pg_updk9 u _) c_169) (fun c_169 => ?_)
        refine lv_iconst (v := 1) hx hb dL_does_172 (by decide) ?_
        refine lv_goto (tgt := 181) hx hb dL_does_173 (by decide) ?_
        exact W.zret (v := 1) hx hb hr rfl (fun t9 ht9 hW9 => ⟨⟨1, (pz_off (pz_off u (nI (Wd % n))) (nI (Wd % n))), rfl, ⟨rfl, (hJ.off _).off _⟩, by rw [ht9]; exact hP, va_K.moved hW9.alike hK, hD⟩, hS.F ht9⟩) hS.2.2 dL_does_181
      · rw [c_59]
        refine lv_tableIn (off := 123) (tgt := 182) hx hb dL_does_59 (by decide) (by decide) (by decide) (by decide) ?_
        refine lv_iload hx hb dL_does_182 (lv_at hl 2 rfl) ?_
        refine lv_if_eq (tgt := 253) hx hb dL_does_184 (by decide) (fun c_184 => absurd c_184 (by decide)) (fun c_184 => ?_)
        refine lv_aload_n hx hb dL_does_187 rfl (lv_at hl 5 rfl) ?_
        refine pg_iE (pg_rV (As := []) (rest := []) ⟨hx, hb, hml, hown, hts⟩ (cc_due l D cI cZ a H.size u n hn h20) (cwV 0 hts gL_does_X4_due rfl rfl rfl (by decide +kernel) ⟨Nat.le_of_ble_eq_true rfl, Nat.le_of_ble_eq_true rfl⟩) hK hP hD 0 (ci := 4) rfl rfl rfl rfl hl.1 rfl (Nat.le_of_ble_eq_true rfl) dL_does_188 ⟨Nat.le_of_ble_eq_true rfl, Nat.le_of_ble_eq_true rfl⟩) hD hS hA (fun H locs hP hD hS => ?_)
        refine lv_istore (lv' := [(9, .int (pg_all u.2 n)), (8, .int (u.1 7)), (7, .int (u.1 5)), (6, .int 1), (5, .int (nI (Wd % n))), (4, .int (nI n)), (0, .ref (a 0)), (1, .int (nI V)), (2, .int (nI Wd)), (3, .int x)]) hx hb dL_does_191 hl (by decide) rfl (fun ls hl => ?_)
        refine lv_aload_n hx hb dL_does_193 rfl (lv_at hl 6 rfl) ?_
        refine lv_iload hx hb dL_does_194 (lv_at hl 4 rfl) ?_
        refine lv_iload_n hx hb dL_does_196 rfl (lv_at hl 9 rfl) ?_
        refine pg_iE (pg_rV (As := [.int (nI (Wd % n)), .int x]) (rest := []) ⟨hx, hb, hml, hown, hts⟩ (cc_decide_ok l D cI cZ a H.size u n hn h20 (nI (Wd % n)) x (pz_hDec hj h20 hop (hJ.2.1.2.2.2.1 _ hj) (hx9 hn0).2)) (cwV 2 hts gL_does_X4_decide rfl rfl rfl (by decide +kernel) ⟨Nat.le_of_ble_eq_true rfl, Nat.le_of_ble_eq_true rfl⟩) hK hP hD 0 (ci := 4) rfl rfl rfl rfl hl.1 rfl (Nat.le_of_ble_eq_true rfl) dL_does_197 ⟨Nat.le_of_ble_eq_true rfl, Nat.le_of_ble_eq_true rfl⟩) hD hS hA (fun H locs hP hD hS => ?_)
        rw [hcl] at hP hD
        have hP : va_P D vwCl (pg_wB cI cZ a (pg_pay (pg_at u (Wd % n) x) n (u.1 3))) H := hP
        have hD : va_D A (pg_wB cI cZ a (pg_pay (pg_at u (Wd % n) x) n (u.1 3))) := hD
        refine W.eq (g2 := F0 m 200 ls [.int (pg_back (pg_at u (Wd % n) x) n)]) (by rw [hcl]) ?_
        have hE := hJ.dec (j := Wd % n) (x := x) (hx9 hn0).1 hop
        refine lv_istore (lv' := [(10, .int (pg_back (pg_at u (Wd % n) x) n)), (9, .int (pg_all u.2 n)), (8, .int (u.1 7)), (7, .int (u.1 5)), (6, .int 1), (5, .int (nI (Wd % n))), (4, .int (nI n)), (0, .ref (a 0)), (1, .int (nI V)), (2, .int (nI Wd)), (3, .int x)]) hx hb dL_does_200 hl (by decide) rfl (fun ls hl => ?_)
        refine lv_aload_n hx hb dL_does_202 rfl (lv_at hl 7 rfl) ?_
        refine lv_iload hx hb dL_does_203 (lv_at hl 5 rfl) ?_
        refine pg_iE (pg_rV (As := [.int (nI (Wd % n))]) (rest := []) ⟨hx, hb, hml, hown, hts⟩ (cc_settledAt_ok l D cI cZ a H.size (pg_pay (pg_at u (Wd % n) x) n (u.1 3)) n hE.1.2.1.1 h20 (nI (Wd % n)) (pg_numL hj (by omega))) (cwV 1 hts gL_does_X4_settledAt rfl rfl rfl (by decide +kernel) ⟨Nat.le_of_ble_eq_true rfl, Nat.le_of_ble_eq_true rfl⟩) hK hP hD 0 (ci := 4) rfl rfl rfl rfl hl.1 rfl (Nat.le_of_ble_eq_true rfl) dL_does_205 ⟨Nat.le_of_ble_eq_true rfl, Nat.le_of_ble_eq_true rfl⟩) hD hS hA (fun H locs hP hD hS => ?_)
        refine W.eq (g2 := F0 m 208 ls [.int x]) (by rw [hcl, hE.2.1]) ?_
        refine lv_iload_n hx hb dL_does_208 rfl (lv_at hl 10 rfl) ?_
        refine lv_icmp_ne (tgt := 251) hx hb dL_does_209 (by decide) (fun c_209 => absurd rfl c_209) (fun c_209 => ?_)
        refine lv_iload hx hb dL_does_212 (lv_at hl 0 rfl) ?_
        refine lv_aload_n hx hb dL_does_214 rfl (lv_at hl 7 rfl) ?_
        refine pg_iE (pg_rV (As := []) (rest := [.int (pg_back (pg_at u (Wd % n) x) n)]) ⟨hx, hb, hml, hown, hts⟩ (cc_returned l D cI cZ a H.size (pg_pay (pg_at u (Wd % n) x) n (u.1 3)) ) (cwV 0 hts gL_does_X4_returned rfl rfl rfl (by decide +kernel) ⟨Nat.le_of_ble_eq_true rfl, Nat.le_of_ble_eq_true rfl⟩) hK hP hD 0 (ci := 4) rfl rfl rfl rfl hl.1 rfl (Nat.le_of_ble_eq_true rfl) dL_does_215 ⟨Nat.le_of_ble_eq_true rfl, Nat.le_of_ble_eq_true rfl⟩) hD hS hA (fun H locs hP hD hS => ?_)
        refine lv_iload hx hb dL_does_218 (lv_at hl 2 rfl) ?_
        refine lv_isub hx hb dL_does_220 ?_
        refine lv_icmp_ne (tgt := 251) hx hb dL_does_221 (by decide) (fun c_221 => absurd (by rw [hE.2.2.1, pg_acs]) c_221) (fun c_221 => ?_)
        refine lv_aload_n hx hb dL_does_224 rfl (lv_at hl 7 rfl) ?_
        refine pg_iE (pg_rV (As := []) (rest := []) ⟨hx, hb, hml, hown, hts⟩ (cc_due l D cI cZ a H.size (pg_pay (pg_at u (Wd % n) x) n (u.1 3)) n hE.1.2.1.1 h20) (cwV 0 hts gL_does_X4_due rfl rfl rfl (by decide +kernel) ⟨Nat.le_of_ble_eq_true rfl, Nat.le_of_ble_eq_true rfl⟩) hK hP hD 0 (ci := 4) rfl rfl rfl rfl hl.1 rfl (Nat.le_of_ble_eq_true rfl) dL_does_225 ⟨Nat.le_of_ble_eq_true rfl, Nat.le_of_ble_eq_true rfl⟩) hD hS hA (fun H locs hP hD hS => ?_)
        refine lv_iload hx hb dL_does_228 (lv_at hl 1 rfl) ?_
        refine lv_icmp_lt (tgt := 251) hx hb dL_does_230 (by decide) (fun c_230 => absurd c_230 hE.2.2.2.1) (fun c_230 => ?_)
        refine lv_aload_n hx hb dL_does_233 rfl (lv_at hl 7 rfl) ?_
        refine pg_iE (pg_rV (As := []) (rest := []) ⟨hx, hb, hml, hown, hts⟩ (cc_outstanding l D cI cZ a H.size (pg_pay (pg_at u (Wd % n) x) n (u.1 3)) n hE.1.2.1.1 h20) (cwV 0 hts gL_does_X4_outstanding rfl rfl rfl (by decide +kernel) ⟨Nat.le_of_ble_eq_true rfl, Nat.le_of_ble_eq_true rfl⟩) hK hP hD 0 (ci := 4) rfl rfl rfl rfl hl.1 rfl (Nat.le_of_ble_eq_true rfl) dL_does_234 ⟨Nat.le_of_ble_eq_true rfl, Nat.le_of_ble_eq_true rfl⟩) hD hS hA (fun H locs hP hD hS => ?_)
        refine lv_if_eq (tgt := 247) hx hb dL_does_237 (by decide) (fun c_237 => ?_) (fun c_237 => ?_)
        · refine lv_iconst (v := 1) hx hb dL_does_247 (by decide) ?_
          refine lv_goto (tgt := 252) hx hb dL_does_248 (by decide) ?_
          exact W.zret (v := 1) hx hb hr rfl (fun t9 ht9 hW9 => ⟨⟨1, (pg_pay (pg_at u (Wd % n) x) n (u.1 3)), rfl, ⟨rfl, hE.1⟩, by rw [ht9]; exact hP, va_K.moved hW9.alike hK, hD⟩, hS.F ht9⟩) hS.2.2 dL_does_252
        · refine lv_aload_n hx hb dL_does_240 rfl (lv_at hl 7 rfl) ?_
          refine pg_iE (pg_rV (As := []) (rest := []) ⟨hx, hb, hml, hown, hts⟩ (cc_held l D cI cZ a H.size (pg_pay (pg_at u (Wd % n) x) n (u.1 3)) ) (cwV 0 hts gL_does_X4_held rfl rfl rfl (by decide +kernel) ⟨Nat.le_of_ble_eq_true rfl, Nat.le_of_ble_eq_true rfl⟩) hK hP hD 0 (ci := 4) rfl rfl rfl rfl hl.1 rfl (Nat.le_of_ble_eq_true rfl) dL_does_241 ⟨Nat.le_of_ble_eq_true rfl, Nat.le_of_ble_eq_true rfl⟩) hD hS hA (fun H locs hP hD hS => ?_)
          refine lv_if_ne (tgt := 251) hx hb dL_does_244 (by decide) (fun c_244 => absurd (hE.2.2.2.2.resolve_left c_237) c_244) (fun c_244 => ?_)
          refine lv_iconst (v := 1) hx hb dL_does_247 (by decide) ?_
          refine lv_goto (tgt := 252) hx hb dL_does_248 (by decide) ?_
          exact W.zret (v := 1) hx hb hr rfl (fun t9 ht9 hW9 => ⟨⟨1, (pg_pay (pg_at u (Wd % n) x) n (u.1 3)), rfl, ⟨rfl, hE.1⟩, by rw [ht9]; exact hP, va_K.moved hW9.alike hK, hD⟩, hS.F ht9⟩) hS.2.2 dL_does_252
      · rw [c_59]
        refine lv_tableIn (off := 123) (tgt := 182) hx hb dL_does_59 (by decide) (by decide) (by decide) (by decide) ?_
        refine lv_iload hx hb dL_does_182 (lv_at hl 2 rfl) ?_
        refine lv_if_eq (tgt := 253) hx hb dL_does_184 (by decide) (fun c_184 => absurd c_184 (by decide)) (fun c_184 => ?_)
        refine lv_aload_n hx hb dL_does_187 rfl (lv_at hl 5 rfl) ?_
        refine pg_iE (pg_rV (As := []) (rest := []) ⟨hx, hb, hml, hown, hts⟩ (cc_due l D cI cZ a H.size u n hn h20) (cwV 0 hts gL_does_X4_due rfl rfl rfl (by decide +kernel) ⟨Nat.le_of_ble_eq_true rfl, Nat.le_of_ble_eq_true rfl⟩) hK hP hD 0 (ci := 4) rfl rfl rfl rfl hl.1 rfl (Nat.le_of_ble_eq_true rfl) dL_does_188 ⟨Nat.le_of_ble_eq_true rfl, Nat.le_of_ble_eq_true rfl⟩) hD hS hA (fun H locs hP hD hS => ?_)
        refine lv_istore (lv' := [(9, .int (pg_all u.2 n)), (8, .int (u.1 7)), (7, .int (u.1 5)), (6, .int 1), (5, .int (nI (Wd % n))), (4, .int (nI n)), (0, .ref (a 0)), (1, .int (nI V)), (2, .int (nI Wd)), (3, .int x)]) hx hb dL_does_191 hl (by decide) rfl (fun ls hl => ?_)
        refine lv_aload_n hx hb dL_does_193 rfl (lv_at hl 6 rfl) ?_
        refine lv_iload hx hb dL_does_194 (lv_at hl 4 rfl) ?_
        refine lv_iload_n hx hb dL_does_196 rfl (lv_at hl 9 rfl) ?_
        refine pg_iE (pg_rV (As := [.int (nI (Wd % n)), .int x]) (rest := []) ⟨hx, hb, hml, hown, hts⟩ (cc_decide_ok l D cI cZ a H.size u n hn h20 (nI (Wd % n)) x (pz_hDec hj h20 hop (hJ.2.1.2.2.2.1 _ hj) (hx9 hn0).2)) (cwV 2 hts gL_does_X4_decide rfl rfl rfl (by decide +kernel) ⟨Nat.le_of_ble_eq_true rfl, Nat.le_of_ble_eq_true rfl⟩) hK hP hD 0 (ci := 4) rfl rfl rfl rfl hl.1 rfl (Nat.le_of_ble_eq_true rfl) dL_does_197 ⟨Nat.le_of_ble_eq_true rfl, Nat.le_of_ble_eq_true rfl⟩) hD hS hA (fun H locs hP hD hS => ?_)
        rw [hcl] at hP hD
        have hP : va_P D vwCl (pg_wB cI cZ a (pg_pay (pg_at u (Wd % n) x) n (u.1 3))) H := hP
        have hD : va_D A (pg_wB cI cZ a (pg_pay (pg_at u (Wd % n) x) n (u.1 3))) := hD
        refine W.eq (g2 := F0 m 200 ls [.int (pg_back (pg_at u (Wd % n) x) n)]) (by rw [hcl]) ?_
        have hE := hJ.dec (j := Wd % n) (x := x) (hx9 hn0).1 hop
        refine lv_istore (lv' := [(10, .int (pg_back (pg_at u (Wd % n) x) n)), (9, .int (pg_all u.2 n)), (8, .int (u.1 7)), (7, .int (u.1 5)), (6, .int 1), (5, .int (nI (Wd % n))), (4, .int (nI n)), (0, .ref (a 0)), (1, .int (nI V)), (2, .int (nI Wd)), (3, .int x)]) hx hb dL_does_200 hl (by decide) rfl (fun ls hl => ?_)
        refine lv_aload_n hx hb dL_does_202 rfl (lv_at hl 7 rfl) ?_
        refine lv_iload hx hb dL_does_203 (lv_at hl 5 rfl) ?_
        refine pg_iE (pg_rV (As := [.int (nI (Wd % n))]) (rest := []) ⟨hx, hb, hml, hown, hts⟩ (cc_settledAt_ok l D cI cZ a H.size (pg_pay (pg_at u (Wd % n) x) n (u.1 3)) n hE.1.2.1.1 h20 (nI (Wd % n)) (pg_numL hj (by omega))) (cwV 1 hts gL_does_X4_settledAt rfl rfl rfl (by decide +kernel) ⟨Nat.le_of_ble_eq_true rfl, Nat.le_of_ble_eq_true rfl⟩) hK hP hD 0 (ci := 4) rfl rfl rfl rfl hl.1 rfl (Nat.le_of_ble_eq_true rfl) dL_does_205 ⟨Nat.le_of_ble_eq_true rfl, Nat.le_of_ble_eq_true rfl⟩) hD hS hA (fun H locs hP hD hS => ?_)
        refine W.eq (g2 := F0 m 208 ls [.int x]) (by rw [hcl, hE.2.1]) ?_
        refine lv_iload_n hx hb dL_does_208 rfl (lv_at hl 10 rfl) ?_
        refine lv_icmp_ne (tgt := 251) hx hb dL_does_209 (by decide) (fun c_209 => absurd rfl c_209) (fun c_209 => ?_)
        refine lv_iload hx hb dL_does_212 (lv_at hl 0 rfl) ?_
        refine lv_aload_n hx hb dL_does_214 rfl (lv_at hl 7 rfl) ?_
        refine pg_iE (pg_rV (As := []) (rest := [.int (pg_back (pg_at u (Wd % n) x) n)]) ⟨hx, hb, hml, hown, hts⟩ (cc_returned l D cI cZ a H.size (pg_pay (pg_at u (Wd % n) x) n (u.1 3)) ) (cwV 0 hts gL_does_X4_returned rfl rfl rfl (by decide +kernel) ⟨Nat.le_of_ble_eq_true rfl, Nat.le_of_ble_eq_true rfl⟩) hK hP hD 0 (ci := 4) rfl rfl rfl rfl hl.1 rfl (Nat.le_of_ble_eq_true rfl) dL_does_215 ⟨Nat.le_of_ble_eq_true rfl, Nat.le_of_ble_eq_true rfl⟩) hD hS hA (fun H locs hP hD hS => ?_)
        refine lv_iload hx hb dL_does_218 (lv_at hl 2 rfl) ?_
        refine lv_isub hx hb dL_does_220 ?_
        refine lv_icmp_ne (tgt := 251) hx hb dL_does_221 (by decide) (fun c_221 => absurd (by rw [hE.2.2.1, pg_acs]) c_221) (fun c_221 => ?_)
        refine lv_aload_n hx hb dL_does_224 rfl (lv_at hl 7 rfl) ?_
        refine pg_iE (pg_rV (As := []) (rest := []) ⟨hx, hb, hml, hown, hts⟩ (cc_due l D cI cZ a H.size (pg_pay (pg_at u (Wd % n) x) n (u.1 3)) n hE.1.2.1.1 h20) (cwV 0 hts gL_does_X4_due rfl rfl rfl (by decide +kernel) ⟨Nat.le_of_ble_eq_true rfl, Nat.le_of_ble_eq_true rfl⟩) hK hP hD 0 (ci := 4) rfl rfl rfl rfl hl.1 rfl (Nat.le_of_ble_eq_true rfl) dL_does_225 ⟨Nat.le_of_ble_eq_true rfl, Nat.le_of_ble_eq_true rfl⟩) hD hS hA (fun H locs hP hD hS => ?_)
        refine lv_iload hx hb dL_does_228 (lv_at hl 1 rfl) ?_
        refine lv_icmp_lt (tgt := 251) hx hb dL_does_230 (by decide) (fun c_230 => absurd c_230 hE.2.2.2.1) (fun c_230 => ?_)
        refine lv_aload_n hx hb dL_does_233 rfl (lv_at hl 7 rfl) ?_
        refine pg_iE (pg_rV (As := []) (rest := []) ⟨hx, hb, hml, hown, hts⟩ (cc_outstanding l D cI cZ a H.size (pg_pay (pg_at u (Wd % n) x) n (u.1 3)) n hE.1.2.1.1 h20) (cwV 0 hts gL_does_X4_outstanding rfl rfl rfl (by decide +kernel) ⟨Nat.le_of_ble_eq_true rfl, Nat.le_of_ble_eq_true rfl⟩) hK hP hD 0 (ci := 4) rfl rfl rfl rfl hl.1 rfl (Nat.le_of_ble_eq_true rfl) dL_does_234 ⟨Nat.le_of_ble_eq_true rfl, Nat.le_of_ble_eq_true rfl⟩) hD hS hA (fun H locs hP hD hS => ?_)
        refine lv_if_eq (tgt := 247) hx hb dL_does_237 (by decide) (fun c_237 => ?_) (fun c_237 => ?_)
        · refine lv_iconst (v := 1) hx hb dL_does_247 (by decide) ?_
          refine lv_goto (tgt := 252) hx hb dL_does_248 (by decide) ?_
          exact W.zret (v := 1) hx hb hr rfl (fun t9 ht9 hW9 => ⟨⟨1, (pg_pay (pg_at u (Wd % n) x) n (u.1 3)), rfl, ⟨rfl, hE.1⟩, by rw [ht9]; exact hP, va_K.moved hW9.alike hK, hD⟩, hS.F ht9⟩) hS.2.2 dL_does_252
        · refine lv_aload_n hx hb dL_does_240 rfl (lv_at hl 7 rfl) ?_
          refine pg_iE (pg_rV (As := []) (rest := []) ⟨hx, hb, hml, hown, hts⟩ (cc_held l D cI cZ a H.size (pg_pay (pg_at u (Wd % n) x) n (u.1 3)) ) (cwV 0 hts gL_does_X4_held rfl rfl rfl (by decide +kernel) ⟨Nat.le_of_ble_eq_true rfl, Nat.le_of_ble_eq_true rfl⟩) hK hP hD 0 (ci := 4) rfl rfl rfl rfl hl.1 rfl (Nat.le_of_ble_eq_true rfl) dL_does_241 ⟨Nat.le_of_ble_eq_true rfl, Nat.le_of_ble_eq_true rfl⟩) hD hS hA (fun H locs hP hD hS => ?_)
          refine lv_if_ne (tgt := 251) hx hb dL_does_244 (by decide) (fun c_244 => absurd (hE.2.2.2.2.resolve_left c_237) c_244) (fun c_244 => ?_)
          refine lv_iconst (v := 1) hx hb dL_does_247 (by decide) ?_
          refine lv_goto (tgt := 252) hx hb dL_does_248 (by decide) ?_
          exact W.zret (v := 1) hx hb hr rfl (fun t9 ht9 hW9 => ⟨⟨1, (pg_pay (pg_at u (Wd % n) x) n (u.1 3)), rfl, ⟨rfl, hE.1⟩, by rw [ht9]; exact hP, va_K.moved hW9.alike hK, hD⟩, hS.F ht9⟩) hS.2.2 dL_does_252
      · refine lv_tableOut (tgt := 255) hx hb dL_does_59 (Or.inr (by rw [nI_toInt (by omega)]; omega)) (by decide) ?_
        refine lv_iconst (v := 1) hx hb dL_does_255 (by decide) ?_
        exact W.zret (v := 1) hx hb hr rfl (fun t9 ht9 hW9 => ⟨⟨1, u, rfl, ⟨rfl, hJ⟩, by rw [ht9]; exact hP, va_K.moved hW9.alike hK, hD⟩, hS.F ht9⟩) hS.2.2 dL_does_256
  · refine lv_iconst (v := (-1)) hx hb dL_does_11 (by decide) ?_
    refine lv_goto (tgt := 19) hx hb dL_does_12 (by decide) ?_
    refine lv_istore (lv' := [(5, .int (-1)), (4, .int (nI n)), (0, .ref (a 0)), (1, .int (nI V)), (2, .int (nI Wd)), (3, .int x)]) hx hb dL_does_19 hl (by decide) rfl (fun ls hl => ?_)
    refine lv_iload hx hb dL_does_21 (lv_at hl 0 rfl) ?_
    refine lv_if_lt (tgt := 40) hx hb dL_does_23 (by decide) (fun c_23 => ?_) (fun c_23 => absurd (by decide) c_23)
    refine lv_iconst (v := 0) hx hb dL_does_40 (by decide) ?_
    refine lv_istore (lv' := [(6, .int 0), (5, .int (-1)), (4, .int (nI n)), (0, .ref (a 0)), (1, .int (nI V)), (2, .int (nI Wd)), (3, .int x)]) hx hb dL_does_41 hl (by decide) rfl (fun ls hl => ?_)
    refine lv_aload_n hx hb dL_does_43 rfl (lv_at hl 3 rfl) ?_
    refine pg_iE (pg_rV (As := []) (rest := []) ⟨hx, hb, hml, hown, hts⟩ (cc_held l D cI cZ a H.size u ) (cwV 0 hts gL_does_X4_held rfl rfl rfl (by decide +kernel) ⟨Nat.le_of_ble_eq_true rfl, Nat.le_of_ble_eq_true rfl⟩) hK hP hD 0 (ci := 4) rfl rfl rfl rfl hl.1 rfl (Nat.le_of_ble_eq_true rfl) dL_does_44 ⟨Nat.le_of_ble_eq_true rfl, Nat.le_of_ble_eq_true rfl⟩) hD hS hA (fun H locs hP hD hS => ?_)
    refine lv_istore (lv' := [(7, .int (u.1 5)), (6, .int 0), (5, .int (-1)), (4, .int (nI n)), (0, .ref (a 0)), (1, .int (nI V)), (2, .int (nI Wd)), (3, .int x)]) hx hb dL_does_47 hl (by decide) rfl (fun ls hl => ?_)
    refine lv_aload_n hx hb dL_does_49 rfl (lv_at hl 4 rfl) ?_
    refine pg_iE (pg_rV (As := []) (rest := []) ⟨hx, hb, hml, hown, hts⟩ (cc_returned l D cI cZ a H.size u ) (cwV 0 hts gL_does_X4_returned rfl rfl rfl (by decide +kernel) ⟨Nat.le_of_ble_eq_true rfl, Nat.le_of_ble_eq_true rfl⟩) hK hP hD 0 (ci := 4) rfl rfl rfl rfl hl.1 rfl (Nat.le_of_ble_eq_true rfl) dL_does_50 ⟨Nat.le_of_ble_eq_true rfl, Nat.le_of_ble_eq_true rfl⟩) hD hS hA (fun H locs hP hD hS => ?_)
    refine lv_istore (lv' := [(8, .int (u.1 7)), (7, .int (u.1 5)), (6, .int 0), (5, .int (-1)), (4, .int (nI n)), (0, .ref (a 0)), (1, .int (nI V)), (2, .int (nI Wd)), (3, .int x)]) hx hb dL_does_53 hl (by decide) rfl (fun ls hl => ?_)
    refine lv_iload_n hx hb dL_does_55 rfl (lv_at hl 6 rfl) ?_
    refine lv_bipush (v := 8) hx hb dL_does_56 (by decide) ?_
    refine pg_iremM (k := V) (j := 8) hx hb rfl rfl (by omega) (by omega) (by omega) dL_does_58 ?_
    rcases (show V % 8 = 0 ∨ V % 8 = 1 ∨ V % 8 = 2 ∨ V % 8 = 3 ∨ V % 8 = 4 ∨ 5 ≤ V % 8 by omega) with c_59 | c_59 | c_59 | c_59 | c_59 | c_59
    · rw [c_59]
      refine lv_tableIn (off := 33) (tgt := 92) hx hb dL_does_59 (by decide) (by decide) (by decide) (by decide) ?_
      refine lv_aload_n hx hb dL_does_92 rfl (lv_at hl 5 rfl) ?_
      refine pg_iE (pg_rV (As := []) (rest := []) ⟨hx, hb, hml, hown, hts⟩ (cc_day l D cI cZ a H.size u ) (cwV 0 hts gL_does_X4_day rfl rfl rfl (by decide +kernel) ⟨Nat.le_of_ble_eq_true rfl, Nat.le_of_ble_eq_true rfl⟩) hK hP hD 0 (ci := 4) rfl rfl rfl rfl hl.1 rfl (Nat.le_of_ble_eq_true rfl) dL_does_93 ⟨Nat.le_of_ble_eq_true rfl, Nat.le_of_ble_eq_true rfl⟩) hD hS hA (fun H locs hP hD hS => ?_)
      refine lv_sipush (v := 3500) hx hb dL_does_96 (by decide) ?_
      refine lv_icmp_ge (tgt := 144) hx hb dL_does_99 (by decide) (fun c_99 => ?_) (fun c_99 => ?_)
      · refine lv_iconst (v := 1) hx hb dL_does_144 (by decide) ?_
        exact W.zret (v := 1) hx hb hr rfl (fun t9 ht9 hW9 => ⟨⟨1, u, rfl, ⟨rfl, hJ⟩, by rw [ht9]; exact hP, va_K.moved hW9.alike hK, hD⟩, hS.F ht9⟩) hS.2.2 dL_does_145
      · obtain ⟨d, hm⟩ := id hJ.2.2.2
        have hd : u.1 3 = nI d := hm.1
        have hd2 : d < 3500 := by
          rw [hd] at c_99
          have := hm.2.1
          exact Nat.lt_of_not_le fun q => c_99 (nI_le q (by omega))
        have hA9 := hJ.adv hd hd2 (q := 1 + Wd % 200) (by omega)
        refine lv_aload_n hx hb dL_does_102 rfl (lv_at hl 5 rfl) ?_
        refine lv_iconst (v := 1) hx hb dL_does_103 (by decide) ?_
        refine lv_iload_n hx hb dL_does_104 rfl (lv_at hl 7 rfl) ?_
        refine lv_sipush (v := 200) hx hb dL_does_105 (by decide) ?_
        refine pg_iremM (k := Wd) (j := 200) hx hb rfl rfl (by omega) (by omega) (by omega) dL_does_108 ?_
        refine pg_iaddM (k := 1) (j := (Wd % 200)) hx hb rfl rfl dL_does_109 ?_
        refine pg_iE (pg_rV (As := [.int (nI (1 + (Wd % 200)))]) (rest := []) ⟨hx, hb, hml, hown, hts⟩ (cc_advance_ok l D cI cZ a H.size u n hn h20 (nI (1 + (Wd % 200))) (pz_hAdv hd hd2 (by omega) (by omega))) (cwV 1 hts gL_does_X4_advance rfl rfl rfl (by decide +kernel) ⟨Nat.le_of_ble_eq_true rfl, Nat.le_of_ble_eq_true rfl⟩) hK hP hD 0 (ci := 4) rfl rfl rfl rfl hl.1 rfl (Nat.le_of_ble_eq_true rfl) dL_does_110 ⟨Nat.le_of_ble_eq_true rfl, Nat.le_of_ble_eq_true rfl⟩) hD hS hA (fun H locs hP hD hS => ?_)
        have hP : va_P D vwCl (pg_wB cI cZ a (pz_adv u n (nI (1 + Wd % 200)))) H := hP
        have hD : va_D A (pg_wB cI cZ a (pz_adv u n (nI (1 + Wd % 200)))) := hD
        refine lv_aload_n hx hb dL_does_113 rfl (lv_at hl 5 rfl) ?_
        refine pg_iE (pg_rV (As := []) (rest := [.int (u.1 3 + nI (1 + Wd % 200))]) ⟨hx, hb, hml, hown, hts⟩ (cc_day l D cI cZ a H.size (pz_adv u n (nI (1 + Wd % 200))) ) (cwV 0 hts gL_does_X4_day rfl rfl rfl (by decide +kernel) ⟨Nat.le_of_ble_eq_true rfl, Nat.le_of_ble_eq_true rfl⟩) hK hP hD 0 (ci := 4) rfl rfl rfl rfl hl.1 rfl (Nat.le_of_ble_eq_true rfl) dL_does_114 ⟨Nat.le_of_ble_eq_true rfl, Nat.le_of_ble_eq_true rfl⟩) hD hS hA (fun H locs hP hD hS => ?_)
        refine lv_icmp_ne (tgt := 142) hx hb dL_does_117 (by decide) (fun c_117 => absurd hA9.2.1.symm c_117) (fun c_117 => ?_)
        refine lv_aload_n hx hb dL_does_120 rfl (lv_at hl 5 rfl) ?_
        refine pg_iE (pg_rV (As := []) (rest := []) ⟨hx, hb, hml, hown, hts⟩ (cc_returned l D cI cZ a H.size (pz_adv u n (nI (1 + Wd % 200))) ) (cwV 0 hts gL_does_X4_returned rfl rfl rfl (by decide +kernel) ⟨Nat.le_of_ble_eq_true rfl, Nat.le_of_ble_eq_true rfl⟩) hK hP hD 0 (ci := 4) rfl rfl rfl rfl hl.1 rfl (Nat.le_of_ble_eq_true rfl) dL_does_121 ⟨Nat.le_of_ble_eq_true rfl, Nat.le_of_ble_eq_true rfl⟩) hD hS hA (fun H locs hP hD hS => ?_)
        refine lv_iload hx hb dL_does_124 (lv_at hl 0 rfl) ?_
        refine lv_icmp_ne (tgt := 142) hx hb dL_does_126 (by decide) (fun c_126 => absurd hA9.2.2.1 c_126) (fun c_126 => ?_)
        refine lv_aload_n hx hb dL_does_129 rfl (lv_at hl 5 rfl) ?_
        refine pg_iE (pg_rV (As := []) (rest := []) ⟨hx, hb, hml, hown, hts⟩ (cc_held l D cI cZ a H.size (pz_adv u n (nI (1 + Wd % 200))) ) (cwV 0 hts gL_does_X4_held rfl rfl rfl (by decide +kernel) ⟨Nat.le_of_ble_eq_true rfl, Nat.le_of_ble_eq_true rfl⟩) hK hP hD 0 (ci := 4) rfl rfl rfl rfl hl.1 rfl (Nat.le_of_ble_eq_true rfl) dL_does_130 ⟨Nat.le_of_ble_eq_true rfl, Nat.le_of_ble_eq_true rfl⟩) hD hS hA (fun H locs hP hD hS => ?_)
        refine lv_iload hx hb dL_does_133 (lv_at hl 1 rfl) ?_
        refine lv_icmp_gt (tgt := 142) hx hb dL_does_135 (by decide) (fun c_135 => absurd c_135 hA9.2.2.2) (fun c_135 => ?_)
        refine lv_iconst (v := 1) hx hb dL_does_138 (by decide) ?_
        refine lv_goto (tgt := 143) hx hb dL_does_139 (by decide) ?_
        exact W.zret (v := 1) hx hb hr rfl (fun t9 ht9 hW9 => ⟨⟨1, (pz_adv u n (nI (1 + Wd % 200))), rfl, ⟨rfl, hA9.1⟩, by rw [ht9]; exact hP, va_K.moved hW9.alike hK, hD⟩, hS.F ht9⟩) hS.2.2 dL_does_143
    · rw [c_59]
      refine lv_tableIn (off := 87) (tgt := 146) hx hb dL_does_59 (by decide) (by decide) (by decide) (by decide) ?_
      refine lv_iload hx hb dL_does_146 (lv_at hl 2 rfl) ?_
      refine lv_if_eq (tgt := 180) hx hb dL_does_148 (by decide) (fun c_148 => ?_) (fun c_148 => absurd (by decide) c_148)
      refine lv_iconst (v := 1) hx hb dL_does_180 (by decide) ?_
      exact W.zret (v := 1) hx hb hr rfl (fun t9 ht9 hW9 => ⟨⟨1, u, rfl, ⟨rfl, hJ⟩, by rw [ht9]; exact hP, va_K.moved hW9.alike hK, hD⟩, hS.F ht9⟩) hS.2.2 dL_does_181
    · rw [c_59]
      refine lv_tableIn (off := 87) (tgt := 146) hx hb dL_does_59 (by decide) (by decide) (by decide) (by decide) ?_
      refine lv_iload hx hb dL_does_146 (lv_at hl 2 rfl) ?_
      refine lv_if_eq (tgt := 180) hx hb dL_does_148 (by decide) (fun c_148 => ?_) (fun c_148 => absurd (by decide) c_148)
      refine lv_iconst (v := 1) hx hb dL_does_180 (by decide) ?_
      exact W.zret (v := 1) hx hb hr rfl (fun t9 ht9 hW9 => ⟨⟨1, u, rfl, ⟨rfl, hJ⟩, by rw [ht9]; exact hP, va_K.moved hW9.alike hK, hD⟩, hS.F ht9⟩) hS.2.2 dL_does_181
    · rw [c_59]
      refine lv_tableIn (off := 123) (tgt := 182) hx hb dL_does_59 (by decide) (by decide) (by decide) (by decide) ?_
      refine lv_iload hx hb dL_does_182 (lv_at hl 2 rfl) ?_
      refine lv_if_eq (tgt := 253) hx hb dL_does_184 (by decide) (fun c_184 => ?_) (fun c_184 => absurd (by decide) c_184)
      refine lv_iconst (v := 1) hx hb dL_does_253 (by decide) ?_
      exact W.zret (v := 1) hx hb hr rfl (fun t9 ht9 hW9 => ⟨⟨1, u, rfl, ⟨rfl, hJ⟩, by rw [ht9]; exact hP, va_K.moved hW9.alike hK, hD⟩, hS.F ht9⟩) hS.2.2 dL_does_254
    · rw [c_59]
      refine lv_tableIn (off := 123) (tgt := 182) hx hb dL_does_59 (by decide) (by decide) (by decide) (by decide) ?_
      refine lv_iload hx hb dL_does_182 (lv_at hl 2 rfl) ?_
      refine lv_if_eq (tgt := 253) hx hb dL_does_184 (by decide) (fun c_184 => ?_) (fun c_184 => absurd (by decide) c_184)
      refine lv_iconst (v := 1) hx hb dL_does_253 (by decide) ?_
      exact W.zret (v := 1) hx hb hr rfl (fun t9 ht9 hW9 => ⟨⟨1, u, rfl, ⟨rfl, hJ⟩, by rw [ht9]; exact hP, va_K.moved hW9.alike hK, hD⟩, hS.F ht9⟩) hS.2.2 dL_does_254
    · refine lv_tableOut (tgt := 255) hx hb dL_does_59 (Or.inr (by rw [nI_toInt (by omega)]; omega)) (by decide) ?_
      refine lv_iconst (v := 1) hx hb dL_does_255 (by decide) ?_
      exact W.zret (v := 1) hx hb hr rfl (fun t9 ht9 hW9 => ⟨⟨1, u, rfl, ⟨rfl, hJ⟩, by rw [ht9]; exact hP, va_K.moved hW9.alike hK, hD⟩, hS.F ht9⟩) hS.2.2 dL_does_256
