set_option maxHeartbeats 4000000 in
set_option maxRecDepth 100000 in
/-- isWhole(o) -/
theorem ct_isWhole (l : Launch) (D : va_G) (cI cZ : ClassId) (a : Nat → Nat) (sz : Nat) (u : pg_St) (ld am : Nat → Int32) (n t z : Nat) (hJ : pg_J u ld am n t z) : Met l yL_isWhole wsL_isWhole ({ frames := 6, cells := 0, slots := 0, locals := 128 }) (va_Pc [.ref (a 0)] (pg_B D (pg_ty cI cZ) (pg_wB cI cZ a u) sz)) (va_Qi (fun r u' => r = 1 ∧ u' = u) (pg_E D (pg_ty cI cZ) (va_A (pg_wB cI cZ a u) sz) (pg_wB cI cZ a)) (va_A (pg_wB cI cZ a u) sz)) 0 0 (va_A (pg_wB cI cZ a u) sz) := by
  refine Met.ofW (cc := cL_isWhole) (maxL := 2) (ret := (some .boolean)) (by decide) rfl ?_
  intro p e s m args below meth c s₁ B hml hv
  obtain ⟨rfl, hsz, hP, hK, hD0⟩ := hv
  have hx := B.exec
  have hb := B.bytes
  have hr := B.returns
  have hts := atoms_spec (ws := wsL_isWhole) B.pre
  have hown : s.vm.findClass RL = some m.cls := findClass_of_methodNamed B.named
  have hlocks := B.notSynchronized
  subst hsz
  have hD := hD0.self (sz := s.heap.size)
  generalize hAe : va_A (pg_wB cI cZ a u) s.heap.size = A at hD ⊢
  have hA : ∀ q : Nat, s.heap.size ≤ q → A q := fun q h => by rw [← hAe]; exact Or.inr h
  have hS : va_S A s.heap s.heap [] := va_S.rf
  have hl := lv_entry ([.ref (a 0)]) (n := 2) (Nat.le_of_ble_eq_true rfl)
  rw [lg_entry_eq]
  generalize (lg_sl ([.ref (a 0)]) ++ List.replicate (2 - (lg_sl ([.ref (a 0)])).length) Slot.unset).toArray = ls at hl ⊢
  have hl : lv_has ls 2 [(0, .ref (a 0))] := hl
  have hn : u.1 10 = nI n := hJ.2.1.1
  have h20 : n ≤ 20 := hJ.2.1.2.1
  obtain ⟨w1, w2, w3, w4, w5, w6⟩ := hJ.whole
  refine lv_aload_n hx hb dL_isWhole_0 rfl (lv_at hl 0 rfl) ?_
  refine pg_iE (pg_rV (As := []) (rest := []) ⟨hx, hb, hml, hown, hts⟩ (cc_paid l D cI cZ a s.heap.size u ) (cwV 0 hts gL_isWhole_X4_paid rfl rfl rfl (by decide +kernel) ⟨Nat.le_of_ble_eq_true rfl, Nat.le_of_ble_eq_true rfl⟩) hK hP hD 0 (ci := 4) rfl rfl rfl rfl hl.1 rfl (Nat.le_of_ble_eq_true rfl) dL_isWhole_1 ⟨Nat.le_of_ble_eq_true rfl, Nat.le_of_ble_eq_true rfl⟩) hD hS hA (fun H locs hP hD hS => ?_)
  refine lv_aload_n hx hb dL_isWhole_4 rfl (lv_at hl 0 rfl) ?_
  refine pg_iE (pg_rV (As := []) (rest := [.int (u.1 6)]) ⟨hx, hb, hml, hown, hts⟩ (cc_held l D cI cZ a H.size u ) (cwV 0 hts gL_isWhole_X4_held rfl rfl rfl (by decide +kernel) ⟨Nat.le_of_ble_eq_true rfl, Nat.le_of_ble_eq_true rfl⟩) hK hP hD 0 (ci := 4) rfl rfl rfl rfl hl.1 rfl (Nat.le_of_ble_eq_true rfl) dL_isWhole_5 ⟨Nat.le_of_ble_eq_true rfl, Nat.le_of_ble_eq_true rfl⟩) hD hS hA (fun H locs hP hD hS => ?_)
  refine lv_iadd hx hb dL_isWhole_8 ?_
  refine lv_aload_n hx hb dL_isWhole_9 rfl (lv_at hl 0 rfl) ?_
  refine pg_iE (pg_rV (As := []) (rest := [.int ((u.1 6) + (u.1 5))]) ⟨hx, hb, hml, hown, hts⟩ (cc_returned l D cI cZ a H.size u ) (cwV 0 hts gL_isWhole_X4_returned rfl rfl rfl (by decide +kernel) ⟨Nat.le_of_ble_eq_true rfl, Nat.le_of_ble_eq_true rfl⟩) hK hP hD 0 (ci := 4) rfl rfl rfl rfl hl.1 rfl (Nat.le_of_ble_eq_true rfl) dL_isWhole_10 ⟨Nat.le_of_ble_eq_true rfl, Nat.le_of_ble_eq_true rfl⟩) hD hS hA (fun H locs hP hD hS => ?_)
  refine lv_iadd hx hb dL_isWhole_13 ?_
  refine lv_aload_n hx hb dL_isWhole_14 rfl (lv_at hl 0 rfl) ?_
  refine pg_iE (pg_rV (As := []) (rest := [.int (((u.1 6) + (u.1 5)) + (u.1 7))]) ⟨hx, hb, hml, hown, hts⟩ (cc_setOff l D cI cZ a H.size u ) (cwV 0 hts gL_isWhole_X4_setOff rfl rfl rfl (by decide +kernel) ⟨Nat.le_of_ble_eq_true rfl, Nat.le_of_ble_eq_true rfl⟩) hK hP hD 0 (ci := 4) rfl rfl rfl rfl hl.1 rfl (Nat.le_of_ble_eq_true rfl) dL_isWhole_15 ⟨Nat.le_of_ble_eq_true rfl, Nat.le_of_ble_eq_true rfl⟩) hD hS hA (fun H locs hP hD hS => ?_)
  refine lv_iadd hx hb dL_isWhole_18 ?_
  refine lv_aload_n hx hb dL_isWhole_19 rfl (lv_at hl 0 rfl) ?_
  refine pg_iE (pg_rV (As := []) (rest := [.int ((((u.1 6) + (u.1 5)) + (u.1 7)) + (u.1 8))]) ⟨hx, hb, hml, hown, hts⟩ (cc_finalPrice l D cI cZ a H.size u ) (cwV 0 hts gL_isWhole_X4_finalPrice rfl rfl rfl (by decide +kernel) ⟨Nat.le_of_ble_eq_true rfl, Nat.le_of_ble_eq_true rfl⟩) hK hP hD 0 (ci := 4) rfl rfl rfl rfl hl.1 rfl (Nat.le_of_ble_eq_true rfl) dL_isWhole_20 ⟨Nat.le_of_ble_eq_true rfl, Nat.le_of_ble_eq_true rfl⟩) hD hS hA (fun H locs hP hD hS => ?_)
  refine lv_aload_n hx hb dL_isWhole_23 rfl (lv_at hl 0 rfl) ?_
  refine pg_iE (pg_rV (As := []) (rest := [.int (u.1 4), .int ((((u.1 6) + (u.1 5)) + (u.1 7)) + (u.1 8))]) ⟨hx, hb, hml, hown, hts⟩ (cc_owed l D cI cZ a H.size u ) (cwV 0 hts gL_isWhole_X4_owed rfl rfl rfl (by decide +kernel) ⟨Nat.le_of_ble_eq_true rfl, Nat.le_of_ble_eq_true rfl⟩) hK hP hD 0 (ci := 4) rfl rfl rfl rfl hl.1 rfl (Nat.le_of_ble_eq_true rfl) dL_isWhole_24 ⟨Nat.le_of_ble_eq_true rfl, Nat.le_of_ble_eq_true rfl⟩) hD hS hA (fun H locs hP hD hS => ?_)
  refine lv_iadd hx hb dL_isWhole_27 ?_
  refine lv_icmp_ne (tgt := 35) hx hb dL_isWhole_28 (by decide) (fun c_28 => absurd w1 c_28) (fun c_28 => ?_)
  refine lv_iconst (v := 1) hx hb dL_isWhole_31 (by decide) ?_
  refine lv_goto (tgt := 36) hx hb dL_isWhole_32 (by decide) ?_
  refine lv_istore_n (lv' := [(1, .int 1), (0, .ref (a 0))]) hx hb dL_isWhole_36 rfl hl (by decide) rfl (fun ls hl => ?_)
  refine lv_iload_n hx hb dL_isWhole_37 rfl (lv_at hl 0 rfl) ?_
  refine lv_if_eq (tgt := 87) hx hb dL_isWhole_38 (by decide) (fun c_38 => absurd c_38 (by decide)) (fun c_38 => ?_)
  refine lv_aload_n hx hb dL_isWhole_41 rfl (lv_at hl 1 rfl) ?_
  refine pg_iE (pg_rV (As := []) (rest := []) ⟨hx, hb, hml, hown, hts⟩ (cc_outstanding l D cI cZ a H.size u n hn h20) (cwV 0 hts gL_isWhole_X4_outstanding rfl rfl rfl (by decide +kernel) ⟨Nat.le_of_ble_eq_true rfl, Nat.le_of_ble_eq_true rfl⟩) hK hP hD 0 (ci := 4) rfl rfl rfl rfl hl.1 rfl (Nat.le_of_ble_eq_true rfl) dL_isWhole_42 ⟨Nat.le_of_ble_eq_true rfl, Nat.le_of_ble_eq_true rfl⟩) hD hS hA (fun H locs hP hD hS => ?_)
  refine lv_aload_n hx hb dL_isWhole_45 rfl (lv_at hl 1 rfl) ?_
  refine pg_iE (pg_rV (As := []) (rest := [.int (pg_out u n)]) ⟨hx, hb, hml, hown, hts⟩ (cc_due l D cI cZ a H.size u n hn h20) (cwV 0 hts gL_isWhole_X4_due rfl rfl rfl (by decide +kernel) ⟨Nat.le_of_ble_eq_true rfl, Nat.le_of_ble_eq_true rfl⟩) hK hP hD 0 (ci := 4) rfl rfl rfl rfl hl.1 rfl (Nat.le_of_ble_eq_true rfl) dL_isWhole_46 ⟨Nat.le_of_ble_eq_true rfl, Nat.le_of_ble_eq_true rfl⟩) hD hS hA (fun H locs hP hD hS => ?_)
  refine lv_aload_n hx hb dL_isWhole_49 rfl (lv_at hl 1 rfl) ?_
  refine pg_iE (pg_rV (As := []) (rest := [.int (pg_all u.2 n), .int (pg_out u n)]) ⟨hx, hb, hml, hown, hts⟩ (cc_returned l D cI cZ a H.size u ) (cwV 0 hts gL_isWhole_X4_returned rfl rfl rfl (by decide +kernel) ⟨Nat.le_of_ble_eq_true rfl, Nat.le_of_ble_eq_true rfl⟩) hK hP hD 0 (ci := 4) rfl rfl rfl rfl hl.1 rfl (Nat.le_of_ble_eq_true rfl) dL_isWhole_50 ⟨Nat.le_of_ble_eq_true rfl, Nat.le_of_ble_eq_true rfl⟩) hD hS hA (fun H locs hP hD hS => ?_)
  refine lv_isub hx hb dL_isWhole_53 ?_
  refine lv_aload_n hx hb dL_isWhole_54 rfl (lv_at hl 1 rfl) ?_
  refine pg_iE (pg_rV (As := []) (rest := [.int ((pg_all u.2 n) - (u.1 7)), .int (pg_out u n)]) ⟨hx, hb, hml, hown, hts⟩ (cc_setOff l D cI cZ a H.size u ) (cwV 0 hts gL_isWhole_X4_setOff rfl rfl rfl (by decide +kernel) ⟨Nat.le_of_ble_eq_true rfl, Nat.le_of_ble_eq_true rfl⟩) hK hP hD 0 (ci := 4) rfl rfl rfl rfl hl.1 rfl (Nat.le_of_ble_eq_true rfl) dL_isWhole_55 ⟨Nat.le_of_ble_eq_true rfl, Nat.le_of_ble_eq_true rfl⟩) hD hS hA (fun H locs hP hD hS => ?_)
  refine lv_isub hx hb dL_isWhole_58 ?_
  refine lv_icmp_ne (tgt := 87) hx hb dL_isWhole_59 (by decide) (fun c_59 => absurd rfl c_59) (fun c_59 => ?_)
  refine lv_aload_n hx hb dL_isWhole_62 rfl (lv_at hl 1 rfl) ?_
  refine pg_iE (pg_rV (As := []) (rest := []) ⟨hx, hb, hml, hown, hts⟩ (cc_outstanding l D cI cZ a H.size u n hn h20) (cwV 0 hts gL_isWhole_X4_outstanding rfl rfl rfl (by decide +kernel) ⟨Nat.le_of_ble_eq_true rfl, Nat.le_of_ble_eq_true rfl⟩) hK hP hD 0 (ci := 4) rfl rfl rfl rfl hl.1 rfl (Nat.le_of_ble_eq_true rfl) dL_isWhole_63 ⟨Nat.le_of_ble_eq_true rfl, Nat.le_of_ble_eq_true rfl⟩) hD hS hA (fun H locs hP hD hS => ?_)
  refine lv_if_lt (tgt := 87) hx hb dL_isWhole_66 (by decide) (fun c_66 => absurd c_66 w2) (fun c_66 => ?_)
  refine lv_aload_n hx hb dL_isWhole_69 rfl (lv_at hl 1 rfl) ?_
  refine pg_iE (pg_rV (As := []) (rest := []) ⟨hx, hb, hml, hown, hts⟩ (cc_held l D cI cZ a H.size u ) (cwV 0 hts gL_isWhole_X4_held rfl rfl rfl (by decide +kernel) ⟨Nat.le_of_ble_eq_true rfl, Nat.le_of_ble_eq_true rfl⟩) hK hP hD 0 (ci := 4) rfl rfl rfl rfl hl.1 rfl (Nat.le_of_ble_eq_true rfl) dL_isWhole_70 ⟨Nat.le_of_ble_eq_true rfl, Nat.le_of_ble_eq_true rfl⟩) hD hS hA (fun H locs hP hD hS => ?_)
  refine lv_if_lt (tgt := 87) hx hb dL_isWhole_73 (by decide) (fun c_73 => absurd c_73 w3) (fun c_73 => ?_)
  refine lv_aload_n hx hb dL_isWhole_76 rfl (lv_at hl 1 rfl) ?_
  refine pg_iE (pg_rV (As := []) (rest := []) ⟨hx, hb, hml, hown, hts⟩ (cc_paid l D cI cZ a H.size u ) (cwV 0 hts gL_isWhole_X4_paid rfl rfl rfl (by decide +kernel) ⟨Nat.le_of_ble_eq_true rfl, Nat.le_of_ble_eq_true rfl⟩) hK hP hD 0 (ci := 4) rfl rfl rfl rfl hl.1 rfl (Nat.le_of_ble_eq_true rfl) dL_isWhole_77 ⟨Nat.le_of_ble_eq_true rfl, Nat.le_of_ble_eq_true rfl⟩) hD hS hA (fun H locs hP hD hS => ?_)
  refine lv_if_lt (tgt := 87) hx hb dL_isWhole_80 (by decide) (fun c_80 => absurd c_80 w4) (fun c_80 => ?_)
  refine lv_iconst (v := 1) hx hb dL_isWhole_83 (by decide) ?_
  refine lv_goto (tgt := 88) hx hb dL_isWhole_84 (by decide) ?_
  refine lv_istore_n (lv' := [(1, .int 1), (0, .ref (a 0))]) hx hb dL_isWhole_88 rfl hl (by decide) rfl (fun ls hl => ?_)
  refine lv_iload_n hx hb dL_isWhole_89 rfl (lv_at hl 0 rfl) ?_
  refine lv_if_eq (tgt := 143) hx hb dL_isWhole_90 (by decide) (fun c_90 => absurd c_90 (by decide)) (fun c_90 => ?_)
  refine lv_aload_n hx hb dL_isWhole_93 rfl (lv_at hl 1 rfl) ?_
  refine pg_iE (pg_rV (As := []) (rest := []) ⟨hx, hb, hml, hown, hts⟩ (cc_due l D cI cZ a H.size u n hn h20) (cwV 0 hts gL_isWhole_X4_due rfl rfl rfl (by decide +kernel) ⟨Nat.le_of_ble_eq_true rfl, Nat.le_of_ble_eq_true rfl⟩) hK hP hD 0 (ci := 4) rfl rfl rfl rfl hl.1 rfl (Nat.le_of_ble_eq_true rfl) dL_isWhole_94 ⟨Nat.le_of_ble_eq_true rfl, Nat.le_of_ble_eq_true rfl⟩) hD hS hA (fun H locs hP hD hS => ?_)
  refine lv_aload_n hx hb dL_isWhole_97 rfl (lv_at hl 1 rfl) ?_
  refine lv_iconst (v := 0) hx hb dL_isWhole_98 (by decide) ?_
  refine pg_iE (pg_rV (As := [.int (nI 0)]) (rest := [.int (pg_all u.2 n)]) ⟨hx, hb, hml, hown, hts⟩ (cc_dueOf_ok l D cI cZ a H.size u n hn h20 (nI 0) (pg_numL (j := 0) (n := 3) (by decide) (by decide))) (cwV 1 hts gL_isWhole_X4_dueOf rfl rfl rfl (by decide +kernel) ⟨Nat.le_of_ble_eq_true rfl, Nat.le_of_ble_eq_true rfl⟩) hK hP hD 0 (ci := 4) rfl rfl rfl rfl hl.1 rfl (Nat.le_of_ble_eq_true rfl) dL_isWhole_99 ⟨Nat.le_of_ble_eq_true rfl, Nat.le_of_ble_eq_true rfl⟩) hD hS hA (fun H locs hP hD hS => ?_)
  refine W.eq (g2 := F0 m 102 ls [.int (pg_due u.2 n 0), .int (pg_all u.2 n)]) (by rw [nI_clamp (n := 0) (by decide)]) ?_
  refine lv_aload_n hx hb dL_isWhole_102 rfl (lv_at hl 1 rfl) ?_
  refine lv_iconst (v := 1) hx hb dL_isWhole_103 (by decide) ?_
  refine pg_iE (pg_rV (As := [.int (nI 1)]) (rest := [.int (pg_due u.2 n 0), .int (pg_all u.2 n)]) ⟨hx, hb, hml, hown, hts⟩ (cc_dueOf_ok l D cI cZ a H.size u n hn h20 (nI 1) (pg_numL (j := 1) (n := 3) (by decide) (by decide))) (cwV 1 hts gL_isWhole_X4_dueOf rfl rfl rfl (by decide +kernel) ⟨Nat.le_of_ble_eq_true rfl, Nat.le_of_ble_eq_true rfl⟩) hK hP hD 0 (ci := 4) rfl rfl rfl rfl hl.1 rfl (Nat.le_of_ble_eq_true rfl) dL_isWhole_104 ⟨Nat.le_of_ble_eq_true rfl, Nat.le_of_ble_eq_true rfl⟩) hD hS hA (fun H locs hP hD hS => ?_)
  refine W.eq (g2 := F0 m 107 ls [.int (pg_due u.2 n 1), .int (pg_due u.2 n 0), .int (pg_all u.2 n)]) (by rw [nI_clamp (n := 1) (by decide)]) ?_
  refine lv_iadd hx hb dL_isWhole_107 ?_
  refine lv_aload_n hx hb dL_isWhole_108 rfl (lv_at hl 1 rfl) ?_
  refine lv_iconst (v := 2) hx hb dL_isWhole_109 (by decide) ?_
  refine pg_iE (pg_rV (As := [.int (nI 2)]) (rest := [.int ((pg_due u.2 n 0) + (pg_due u.2 n 1)), .int (pg_all u.2 n)]) ⟨hx, hb, hml, hown, hts⟩ (cc_dueOf_ok l D cI cZ a H.size u n hn h20 (nI 2) (pg_numL (j := 2) (n := 3) (by decide) (by decide))) (cwV 1 hts gL_isWhole_X4_dueOf rfl rfl rfl (by decide +kernel) ⟨Nat.le_of_ble_eq_true rfl, Nat.le_of_ble_eq_true rfl⟩) hK hP hD 0 (ci := 4) rfl rfl rfl rfl hl.1 rfl (Nat.le_of_ble_eq_true rfl) dL_isWhole_110 ⟨Nat.le_of_ble_eq_true rfl, Nat.le_of_ble_eq_true rfl⟩) hD hS hA (fun H locs hP hD hS => ?_)
  refine W.eq (g2 := F0 m 113 ls [.int (pg_due u.2 n 2), .int ((pg_due u.2 n 0) + (pg_due u.2 n 1)), .int (pg_all u.2 n)]) (by rw [nI_clamp (n := 2) (by decide)]) ?_
  refine lv_iadd hx hb dL_isWhole_113 ?_
  refine lv_icmp_ne (tgt := 143) hx hb dL_isWhole_114 (by decide) (fun c_114 => absurd (pg_all_m u.2 n).symm c_114) (fun c_114 => ?_)
  refine lv_aload_n hx hb dL_isWhole_117 rfl (lv_at hl 1 rfl) ?_
  refine pg_iE (pg_rV (As := []) (rest := []) ⟨hx, hb, hml, hown, hts⟩ (cc_setOff l D cI cZ a H.size u ) (cwV 0 hts gL_isWhole_X4_setOff rfl rfl rfl (by decide +kernel) ⟨Nat.le_of_ble_eq_true rfl, Nat.le_of_ble_eq_true rfl⟩) hK hP hD 0 (ci := 4) rfl rfl rfl rfl hl.1 rfl (Nat.le_of_ble_eq_true rfl) dL_isWhole_118 ⟨Nat.le_of_ble_eq_true rfl, Nat.le_of_ble_eq_true rfl⟩) hD hS hA (fun H locs hP hD hS => ?_)
  refine lv_aload_n hx hb dL_isWhole_121 rfl (lv_at hl 1 rfl) ?_
  refine pg_iE (pg_rV (As := []) (rest := [.int (u.1 8)]) ⟨hx, hb, hml, hown, hts⟩ (cc_owed l D cI cZ a H.size u ) (cwV 0 hts gL_isWhole_X4_owed rfl rfl rfl (by decide +kernel) ⟨Nat.le_of_ble_eq_true rfl, Nat.le_of_ble_eq_true rfl⟩) hK hP hD 0 (ci := 4) rfl rfl rfl rfl hl.1 rfl (Nat.le_of_ble_eq_true rfl) dL_isWhole_122 ⟨Nat.le_of_ble_eq_true rfl, Nat.le_of_ble_eq_true rfl⟩) hD hS hA (fun H locs hP hD hS => ?_)
  refine lv_icmp_gt (tgt := 143) hx hb dL_isWhole_125 (by decide) (fun c_125 => absurd c_125 w5) (fun c_125 => ?_)
  refine lv_aload_n hx hb dL_isWhole_128 rfl (lv_at hl 1 rfl) ?_
  refine pg_iE (pg_rV (As := []) (rest := []) ⟨hx, hb, hml, hown, hts⟩ (cc_returned l D cI cZ a H.size u ) (cwV 0 hts gL_isWhole_X4_returned rfl rfl rfl (by decide +kernel) ⟨Nat.le_of_ble_eq_true rfl, Nat.le_of_ble_eq_true rfl⟩) hK hP hD 0 (ci := 4) rfl rfl rfl rfl hl.1 rfl (Nat.le_of_ble_eq_true rfl) dL_isWhole_129 ⟨Nat.le_of_ble_eq_true rfl, Nat.le_of_ble_eq_true rfl⟩) hD hS hA (fun H locs hP hD hS => ?_)
  refine lv_aload_n hx hb dL_isWhole_132 rfl (lv_at hl 1 rfl) ?_
  refine pg_iE (pg_rV (As := []) (rest := [.int (u.1 7)]) ⟨hx, hb, hml, hown, hts⟩ (cc_finalPrice l D cI cZ a H.size u ) (cwV 0 hts gL_isWhole_X4_finalPrice rfl rfl rfl (by decide +kernel) ⟨Nat.le_of_ble_eq_true rfl, Nat.le_of_ble_eq_true rfl⟩) hK hP hD 0 (ci := 4) rfl rfl rfl rfl hl.1 rfl (Nat.le_of_ble_eq_true rfl) dL_isWhole_133 ⟨Nat.le_of_ble_eq_true rfl, Nat.le_of_ble_eq_true rfl⟩) hD hS hA (fun H locs hP hD hS => ?_)
  refine lv_icmp_gt (tgt := 143) hx hb dL_isWhole_136 (by decide) (fun c_136 => absurd c_136 w6) (fun c_136 => ?_)
  refine lv_iconst (v := 1) hx hb dL_isWhole_139 (by decide) ?_
  refine lv_goto (tgt := 144) hx hb dL_isWhole_140 (by decide) ?_
  exact W.zret (v := 1) hx hb hr rfl (fun t9 ht9 hW9 => ⟨⟨1, u, rfl, ⟨rfl, rfl⟩, by rw [ht9]; exact hP, va_K.moved hW9.alike hK, hD⟩, hS.F ht9⟩) hS.2.2 dL_isWhole_144
