theorem g_pl {x : Int32} (h1 : ¬ x < 0) (h2 : ¬ 9 < x) : ∃ j : Nat, j < 10 ∧ x = nI j ∧ x.toNatClampNeg = j := by
  obtain ⟨j, hj, e⟩ := nI_of2 (M := 9) (n := 9) (by decide) h1 (by rw [Int32.le_iff_toInt_le]; rw [Int32.lt_iff_toInt_lt] at h2; omega)
  exact ⟨j, by omega, e, by rw [e]; exact nI_clamp (by omega)⟩
theorem g_lt100 {x : Int32} {t : Nat} (e : x = nI t) (h : t ≤ 100) (c : ¬ 100 ≤ x) : t < 100 := by
  rcases Nat.lt_or_ge t 100 with g | g
  · exact g
  · have : t = 100 := by omega
    subst this
    exact absurd (by rw [e]; decide) c
theorem g_le7 {x : Int32} (h1 : ¬ x < 0) (h2 : ¬ 7 < x) : x = 0 ∨ x = 1 ∨ x = 2 ∨ x = 3 ∨ x = 4 ∨ x = 5 ∨ x = 6 ∨ x = 7 := by
  obtain ⟨j, hj, e⟩ := nI_of2 (M := 7) (n := 7) (by decide) h1 (by rw [Int32.le_iff_toInt_le]; rw [Int32.lt_iff_toInt_lt] at h2; omega)
  subst e
  rcases (show j = 0 ∨ j = 1 ∨ j = 2 ∨ j = 3 ∨ j = 4 ∨ j = 5 ∨ j = 6 ∨ j = 7 by omega) with rfl | rfl | rfl | rfl | rfl | rfl | rfl | rfl <;> decide
theorem g_toInt {x : Int32} {k : Int} {y : Int32} (hy : y.toInt = k) (h : x.toInt = k) : x = y := Int32.toInt_inj.mp (h.trans hy.symm)
theorem g_sw05 (x : Int32) : (x.toInt < 0 ∨ 5 < x.toInt) ∨ x = 0 ∨ x = 1 ∨ x = 2 ∨ x = 3 ∨ x = 4 ∨ x = 5 := by
  rcases (show (x.toInt < 0 ∨ 5 < x.toInt) ∨ x.toInt = 0 ∨ x.toInt = 1 ∨ x.toInt = 2 ∨ x.toInt = 3 ∨ x.toInt = 4 ∨ x.toInt = 5 by omega) with h | h | h | h | h | h | h
  · exact Or.inl h
  · exact Or.inr (Or.inl (g_toInt (by decide) h))
  · exact Or.inr (Or.inr (Or.inl (g_toInt (by decide) h)))
  · exact Or.inr (Or.inr (Or.inr (Or.inl (g_toInt (by decide) h))))
  · exact Or.inr (Or.inr (Or.inr (Or.inr (Or.inl (g_toInt (by decide) h)))))
  · exact Or.inr (Or.inr (Or.inr (Or.inr (Or.inr (Or.inl (g_toInt (by decide) h))))))
  · exact Or.inr (Or.inr (Or.inr (Or.inr (Or.inr (Or.inr (g_toInt (by decide) h))))))
theorem g_sw17 (x : Int32) : (x.toInt < 1 ∨ 7 < x.toInt) ∨ x = 1 ∨ x = 2 ∨ x = 3 ∨ x = 4 ∨ x = 5 ∨ x = 6 ∨ x = 7 := by
  rcases (show (x.toInt < 1 ∨ 7 < x.toInt) ∨ x.toInt = 1 ∨ x.toInt = 2 ∨ x.toInt = 3 ∨ x.toInt = 4 ∨ x.toInt = 5 ∨ x.toInt = 6 ∨ x.toInt = 7 by omega) with h | h | h | h | h | h | h | h
  · exact Or.inl h
  · exact Or.inr (Or.inl (g_toInt (by decide) h))
  · exact Or.inr (Or.inr (Or.inl (g_toInt (by decide) h)))
  · exact Or.inr (Or.inr (Or.inr (Or.inl (g_toInt (by decide) h))))
  · exact Or.inr (Or.inr (Or.inr (Or.inr (Or.inl (g_toInt (by decide) h)))))
  · exact Or.inr (Or.inr (Or.inr (Or.inr (Or.inr (Or.inl (g_toInt (by decide) h))))))
  · exact Or.inr (Or.inr (Or.inr (Or.inr (Or.inr (Or.inr (Or.inl (g_toInt (by decide) h)))))))
  · exact Or.inr (Or.inr (Or.inr (Or.inr (Or.inr (Or.inr (Or.inr (g_toInt (by decide) h)))))))
theorem g_sw06 (x : Int32) : (x.toInt < 0 ∨ 6 < x.toInt) ∨ x = 0 ∨ x = 1 ∨ x = 2 ∨ x = 3 ∨ x = 4 ∨ x = 5 ∨ x = 6 := by
  rcases (show (x.toInt < 0 ∨ 6 < x.toInt) ∨ x.toInt = 0 ∨ x.toInt = 1 ∨ x.toInt = 2 ∨ x.toInt = 3 ∨ x.toInt = 4 ∨ x.toInt = 5 ∨ x.toInt = 6 by omega) with h | h | h | h | h | h | h | h
  · exact Or.inl h
  · exact Or.inr (Or.inl (g_toInt (by decide) h))
  · exact Or.inr (Or.inr (Or.inl (g_toInt (by decide) h)))
  · exact Or.inr (Or.inr (Or.inr (Or.inl (g_toInt (by decide) h))))
  · exact Or.inr (Or.inr (Or.inr (Or.inr (Or.inl (g_toInt (by decide) h)))))
  · exact Or.inr (Or.inr (Or.inr (Or.inr (Or.inr (Or.inl (g_toInt (by decide) h))))))
  · exact Or.inr (Or.inr (Or.inr (Or.inr (Or.inr (Or.inr (Or.inl (g_toInt (by decide) h)))))))
  · exact Or.inr (Or.inr (Or.inr (Or.inr (Or.inr (Or.inr (Or.inr (g_toInt (by decide) h)))))))
theorem g_sw07 (x : Int32) : (x.toInt < 0 ∨ 7 < x.toInt) ∨ x = 0 ∨ x = 1 ∨ x = 2 ∨ x = 3 ∨ x = 4 ∨ x = 5 ∨ x = 6 ∨ x = 7 := by
  rcases g_sw06 x with (h | h) | h | h | h | h | h | h | h
  · exact Or.inl (Or.inl h)
  · by_cases h7 : x.toInt = 7
    · exact Or.inr (Or.inr (Or.inr (Or.inr (Or.inr (Or.inr (Or.inr (Or.inr (g_toInt (by decide) h7))))))))
    · exact Or.inl (Or.inr (by omega))
  all_goals simp [h]
set_option maxRecDepth 100000 in
theorem iX2_leave_2 : ∀ w ∈ wsX20, w ∈ wsX2_leave := by decide +kernel
set_option maxHeartbeats 4000000 in
set_option maxRecDepth 100000 in
theorem c_X2_leave (l : Launch) (D : va_G) (cI cH : ClassId) (h : Nat) (q : Nat → Nat) (pf : Nat → Int32) (σ : gh_S) (sz : Nat) (x : Int32) (n w : Nat) (hg : gI n w σ) : gMv l yX2_leave wsX2_leave ({ frames := 0, cells := 0, slots := 0, locals := 0 }) D (wM h q cI pf σ) (gTy cI cH) sz [.ref h, .int (x)] (fun u => u = wM h q cI pf (zLeave σ x)) := by
  refine gEnter (cc := cX2_leave) (maxL := 2) (ret := none) (QF := fun A => va_Qv _ (gPost D A) A) (by decide) rfl (Nat.le_of_ble_eq_true rfl) ?_
  intro p e s m below meth c A ls hX hr hlk hnm hK hN hA hI hl
  have hx := hX.1
  have hb := hX.2.1
  have hts := hX.2.2.2.2
  have hown : s.vm.findClass RX2 = some m.cls := hX.2.2.2.1
  have hin2 := iX2_leave_2
  have hl : lv_has ls 2 [(0, .ref h), (1, .int (x))] := hl
  obtain ⟨hn, hw, ⟨t, ht, htE⟩, hpl, hpar, hrow, hn4, hw30, hz⟩ := id hg
  refine lv_aload_n hx hb dX2_leave_0 rfl (lv_at hl 0 rfl) ?_
  refine mGet (v := .int (σ.2 12)) hX hin2 hK hI 12 (by decide) (hts (.fieldLink RX2 61 "GateHallsModel" "traces" "I") (by decide +kernel)) rfl dX2_leave_1 ?_
  refine lv_bipush (v := 100) hx hb dX2_leave_4 (by decide) ?_
  refine lv_icmp_ge (tgt := 29) hx hb dX2_leave_6 (by decide) (fun c1 => ?_) (fun c1 => ?_)
  · exact gVret hX hr hlk hI (by rw [zLeave, if_pos c1]) dX2_leave_29
  · have ht' := g_lt100 htE ht c1
    refine lv_aload_n hx hb dX2_leave_9 rfl (lv_at hl 0 rfl) ?_
    refine mGet (v := .ref (q 13)) hX hin2 hK hI 13 (by decide) (hts (.fieldLink RX2 40 "GateHallsModel" "traced" "[I") (by decide +kernel)) rfl dX2_leave_10 ?_
    refine lv_aload_n hx hb dX2_leave_13 rfl (lv_at hl 0 rfl) ?_
    refine mGet (v := .int (σ.2 12)) hX hin2 hK hI 12 (by decide) (hts (.fieldLink RX2 61 "GateHallsModel" "traces" "I") (by decide +kernel)) rfl dX2_leave_14 ?_
    refine lv_iload_n hx hb dX2_leave_17 rfl (lv_at hl 1 rfl) ?_
    refine mAst (j := t) (pf' := pf) (σ' := (uA σ 13 (t) (x))) hX hK hI 11 rfl htE (by omega) (by decide) rfl dX2_leave_18 (fun H locs hI => ?_)
    refine lv_aload_n hx hb dX2_leave_19 rfl (lv_at hl 0 rfl) ?_
    refine lv_dup hx hb dX2_leave_20 rfl ?_
    refine mGet (v := .int (σ.2 12)) hX hin2 hK hI 12 (by decide) (hts (.fieldLink RX2 61 "GateHallsModel" "traces" "I") (by decide +kernel)) rfl dX2_leave_21 ?_
    refine lv_iconst (v := 1) hx hb dX2_leave_24 (by decide) ?_
    refine lv_iadd hx hb dX2_leave_25 ?_
    refine mPut hX hin2 hK hI 12 (by decide) (hts (.fieldLink RX2 61 "GateHallsModel" "traces" "I") (by decide +kernel)) rfl rfl rfl dX2_leave_26 (fun H locs hI => ?_)
    exact gVret hX hr hlk hI (by rw [zLeave, if_neg c1, htE, nI_clamp (by omega)]) dX2_leave_29
set_option maxRecDepth 100000 in
theorem iX2_charge_2 : ∀ w ∈ wsX20, w ∈ wsX2_charge := by decide +kernel
set_option maxHeartbeats 4000000 in
set_option maxRecDepth 100000 in
theorem c_X2_charge (l : Launch) (D : va_G) (cI cH : ClassId) (h : Nat) (q : Nat → Nat) (pf : Nat → Int32) (σ : gh_S) (sz : Nat) (i : Nat) (hi : i < 4200) : gMi l yX2_charge wsX2_charge ({ frames := 0, cells := 0, slots := 0, locals := 0 }) D (wM h q cI pf σ) (gTy cI cH) sz [.ref h, .int (nI i)] (fun r u => r = zCharge σ i ∧ u = wM h q cI pf σ) := by
  refine gEnter (cc := cX2_charge) (maxL := 2) (ret := (some .int)) (QF := fun A => va_Qi _ (gPost D A) A) (by decide) rfl (Nat.le_of_ble_eq_true rfl) ?_
  intro p e s m below meth c A ls hX hr hlk hnm hK hN hA hI hl
  have hx := hX.1
  have hb := hX.2.1
  have hts := hX.2.2.2.2
  have hown : s.vm.findClass RX2 = some m.cls := hX.2.2.2.1
  have hin2 := iX2_charge_2
  have hl : lv_has ls 2 [(0, .ref h), (1, .int (nI i))] := hl
  refine lv_aload_n hx hb dX2_charge_0 rfl (lv_at hl 0 rfl) ?_
  refine mGet (v := .ref (q 1)) hX hin2 hK hI 1 (by decide) (hts (.fieldLink RX2 7 "GateHallsModel" "kinds" "[I") (by decide +kernel)) rfl dX2_charge_1 ?_
  refine lv_iload_n hx hb dX2_charge_4 rfl (lv_at hl 1 rfl) ?_
  refine mAld (j := i) hX hK hI 1 rfl rfl (by omega) (by decide) dX2_charge_5 ?_
  refine lv_if_ne (tgt := 18) hx hb dX2_charge_6 (by decide) (fun c1 => ?_) (fun c1 => ?_)
  · refine lv_aload_n hx hb dX2_charge_18 rfl (lv_at hl 0 rfl) ?_
    refine mGet (v := .ref (q 1)) hX hin2 hK hI 1 (by decide) (hts (.fieldLink RX2 7 "GateHallsModel" "kinds" "[I") (by decide +kernel)) rfl dX2_charge_19 ?_
    refine lv_iload_n hx hb dX2_charge_22 rfl (lv_at hl 1 rfl) ?_
    refine mAld (j := i) hX hK hI 1 rfl rfl (by omega) (by decide) dX2_charge_23 ?_
    refine lv_iconst (v := 1) hx hb dX2_charge_24 (by decide) ?_
    refine lv_icmp_ne (tgt := 44) hx hb dX2_charge_25 (by decide) (fun c2 => ?_) (fun c2 => ?_)
    · refine lv_iconst (v := 2) hx hb dX2_charge_44 (by decide) ?_
      refine lv_aload_n hx hb dX2_charge_45 rfl (lv_at hl 0 rfl) ?_
      refine mGet (v := .ref (q 2)) hX hin2 hK hI 2 (by decide) (hts (.fieldLink RX2 13 "GateHallsModel" "fees" "[I") (by decide +kernel)) rfl dX2_charge_46 ?_
      refine lv_iload_n hx hb dX2_charge_49 rfl (lv_at hl 1 rfl) ?_
      refine mAld (j := i) hX hK hI 2 rfl rfl (by omega) (by decide) dX2_charge_50 ?_
      refine lv_aload_n hx hb dX2_charge_51 rfl (lv_at hl 0 rfl) ?_
      refine mGet (v := .ref (q 4)) hX hin2 hK hI 4 (by decide) (hts (.fieldLink RX2 19 "GateHallsModel" "passes" "[I") (by decide +kernel)) rfl dX2_charge_52 ?_
      refine lv_iload_n hx hb dX2_charge_55 rfl (lv_at hl 1 rfl) ?_
      refine mAld (j := i) hX hK hI 4 rfl rfl (by omega) (by decide) dX2_charge_56 ?_
      refine lv_iadd hx hb dX2_charge_57 ?_
      refine lv_imul hx hb dX2_charge_58 ?_
      exact gIret hX hr hlk hI ⟨by rw [zCharge, if_neg c1, if_neg c2], rfl⟩ dX2_charge_59
    · refine lv_aload_n hx hb dX2_charge_28 rfl (lv_at hl 0 rfl) ?_
      refine mGet (v := .ref (q 2)) hX hin2 hK hI 2 (by decide) (hts (.fieldLink RX2 13 "GateHallsModel" "fees" "[I") (by decide +kernel)) rfl dX2_charge_29 ?_
      refine lv_iload_n hx hb dX2_charge_32 rfl (lv_at hl 1 rfl) ?_
      refine mAld (j := i) hX hK hI 2 rfl rfl (by omega) (by decide) dX2_charge_33 ?_
      refine lv_aload_n hx hb dX2_charge_34 rfl (lv_at hl 0 rfl) ?_
      refine mGet (v := .ref (q 4)) hX hin2 hK hI 4 (by decide) (hts (.fieldLink RX2 19 "GateHallsModel" "passes" "[I") (by decide +kernel)) rfl dX2_charge_35 ?_
      refine lv_iload_n hx hb dX2_charge_38 rfl (lv_at hl 1 rfl) ?_
      refine mAld (j := i) hX hK hI 4 rfl rfl (by omega) (by decide) dX2_charge_39 ?_
      refine lv_iadd hx hb dX2_charge_40 ?_
      refine lv_goto (tgt := 59) hx hb dX2_charge_41 (by decide) ?_
      exact gIret hX hr hlk hI ⟨by rw [zCharge, if_neg c1, if_pos c2], rfl⟩ dX2_charge_59
  · refine lv_aload_n hx hb dX2_charge_9 rfl (lv_at hl 0 rfl) ?_
    refine mGet (v := .ref (q 2)) hX hin2 hK hI 2 (by decide) (hts (.fieldLink RX2 13 "GateHallsModel" "fees" "[I") (by decide +kernel)) rfl dX2_charge_10 ?_
    refine lv_iload_n hx hb dX2_charge_13 rfl (lv_at hl 1 rfl) ?_
    refine mAld (j := i) hX hK hI 2 rfl rfl (by omega) (by decide) dX2_charge_14 ?_
    refine lv_goto (tgt := 59) hx hb dX2_charge_15 (by decide) ?_
    exact gIret hX hr hlk hI ⟨by rw [zCharge, if_pos c1], rfl⟩ dX2_charge_59
set_option maxRecDepth 100000 in
theorem iX2_fill_2 : ∀ w ∈ wsX20, w ∈ wsX2_fill := by decide +kernel
set_option maxHeartbeats 4000000 in
set_option maxRecDepth 100000 in
theorem c_X2_fill (l : Launch) (D : va_G) (cI cH : ClassId) (h : Nat) (q : Nat → Nat) (pf : Nat → Int32) (σ : gh_S) (sz : Nat) (x : Int32) : gMi l yX2_fill wsX2_fill ({ frames := 1, cells := 0, slots := 0, locals := 22 }) D (wM h q cI pf σ) (gTy cI cH) sz [.ref h, .int (x)] (fun r u => r = (sFill σ x).1 ∧ u = wM h q cI pf (sFill σ x).2) := by
  refine gEnter (cc := cX2_fill) (maxL := 2) (ret := (some .int)) (QF := fun A => va_Qi _ (gPost D A) A) (by decide) rfl (Nat.le_of_ble_eq_true rfl) ?_
  intro p e s m below meth c A ls hX hr hlk hnm hK hN hA hI hl
  have hx := hX.1
  have hb := hX.2.1
  have hts := hX.2.2.2.2
  have hown : s.vm.findClass RX2 = some m.cls := hX.2.2.2.1
  have hin2 := iX2_fill_2
  have hl : lv_has ls 2 [(0, .ref h), (1, .int (x))] := hl
  refine lv_iload_n hx hb dX2_fill_0 rfl (lv_at hl 1 rfl) ?_
  refine lv_iconst (v := 0) hx hb dX2_fill_1 (by decide) ?_
  refine lv_sipush (v := 1000) hx hb dX2_fill_2 (by decide) ?_
  refine vp_callSi (W.runS (As := [.int (x), .int (0), .int (1000)]) (rest := []) hX (c_X2_in l (x) (0) (1000)) (va_cwS 3 hts gX2_fill_X2_in rfl rfl rfl (by decide +kernel) ⟨Nat.le_of_ble_eq_true rfl, Nat.le_of_ble_eq_true rfl⟩) preEq rfl rfl hl.1 rfl (lv_room (Nat.le_of_ble_eq_true rfl)) dX2_fill_5 ⟨Nat.le_of_ble_eq_true rfl, Nat.le_of_ble_eq_true rfl⟩) (fun r1 hr1 => ?_)
  rcases hr1 with ⟨rfl, ha_r1, hb_r1⟩ | ⟨rfl, hc_r1⟩
  · refine lv_if_ne (tgt := 13) hx hb dX2_fill_8 (by decide) (fun c2 => ?_) (fun c2 => False.elim (by revert c2; decide))
    refine lv_aload_n hx hb dX2_fill_13 rfl (lv_at hl 0 rfl) ?_
    refine lv_aload_n hx hb dX2_fill_14 rfl (lv_at hl 0 rfl) ?_
    refine mGet (v := .int (σ.2 11)) hX hin2 hK hI 11 (by decide) (hts (.fieldLink RX2 57 "GateHallsModel" "purse" "I") (by decide +kernel)) rfl dX2_fill_15 ?_
    refine lv_iload_n hx hb dX2_fill_18 rfl (lv_at hl 1 rfl) ?_
    refine lv_iadd hx hb dX2_fill_19 ?_
    refine lv_ldc (v := 1000000) hx hb hown (hts (.constant RX2 60 (1000000)) (by decide +kernel)) dX2_fill_20 ?_
    refine lv_icmp_le (tgt := 30) hx hb dX2_fill_22 (by decide) (fun c3 => ?_) (fun c3 => ?_)
    · refine lv_aload_n hx hb dX2_fill_30 rfl (lv_at hl 0 rfl) ?_
      refine mGet (v := .int (σ.2 11)) hX hin2 hK hI 11 (by decide) (hts (.fieldLink RX2 57 "GateHallsModel" "purse" "I") (by decide +kernel)) rfl dX2_fill_31 ?_
      refine lv_iload_n hx hb dX2_fill_34 rfl (lv_at hl 1 rfl) ?_
      refine lv_iadd hx hb dX2_fill_35 ?_
      refine mPut hX hin2 hK hI 11 (by decide) (hts (.fieldLink RX2 57 "GateHallsModel" "purse" "I") (by decide +kernel)) rfl rfl rfl dX2_fill_36 (fun H locs hI => ?_)
      refine lv_aload_n hx hb dX2_fill_39 rfl (lv_at hl 0 rfl) ?_
      refine mGet (v := .int ((σ.2 11) + (x))) hX hin2 hK hI 11 (by decide) (hts (.fieldLink RX2 57 "GateHallsModel" "purse" "I") (by decide +kernel)) rfl dX2_fill_40 ?_
      exact gIret hX hr hlk hI (by rw [sFill, if_neg (fun h => h.elim ha_r1 hb_r1), zMin, if_pos c3]; exact ⟨rfl, rfl⟩) dX2_fill_43
    · refine lv_ldc (v := 1000000) hx hb hown (hts (.constant RX2 60 (1000000)) (by decide +kernel)) dX2_fill_25 ?_
      refine lv_goto (tgt := 36) hx hb dX2_fill_27 (by decide) ?_
      refine mPut hX hin2 hK hI 11 (by decide) (hts (.fieldLink RX2 57 "GateHallsModel" "purse" "I") (by decide +kernel)) rfl rfl rfl dX2_fill_36 (fun H locs hI => ?_)
      refine lv_aload_n hx hb dX2_fill_39 rfl (lv_at hl 0 rfl) ?_
      refine mGet (v := .int (1000000)) hX hin2 hK hI 11 (by decide) (hts (.fieldLink RX2 57 "GateHallsModel" "purse" "I") (by decide +kernel)) rfl dX2_fill_40 ?_
      exact gIret hX hr hlk hI (by rw [sFill, if_neg (fun h => h.elim ha_r1 hb_r1), zMin, if_neg c3]; exact ⟨rfl, rfl⟩) dX2_fill_43
  · refine lv_if_ne (tgt := 13) hx hb dX2_fill_8 (by decide) (fun c4 => False.elim (by revert c4; decide)) (fun c4 => ?_)
    refine lv_iconst (v := (-1)) hx hb dX2_fill_11 (by decide) ?_
    exact gIret hX hr hlk hI (by rw [sFill, if_pos hc_r1]; exact ⟨rfl, rfl⟩) dX2_fill_12
set_option maxRecDepth 100000 in
theorem iX2_parent_2 : ∀ w ∈ wsX20, w ∈ wsX2_parent := by decide +kernel
set_option maxHeartbeats 4000000 in
set_option maxRecDepth 100000 in
theorem c_X2_parent (l : Launch) (D : va_G) (cI cH : ClassId) (h : Nat) (q : Nat → Nat) (pf : Nat → Int32) (σ : gh_S) (sz : Nat) (x o : Int32) : gMi l yX2_parent wsX2_parent ({ frames := 1, cells := 0, slots := 0, locals := 22 }) D (wM h q cI pf σ) (gTy cI cH) sz [.ref h, .int (x), .int (o)] (fun r u => r = (sParent σ x o).1 ∧ u = wM h q cI pf (sParent σ x o).2) := by
  refine gEnter (cc := cX2_parent) (maxL := 4) (ret := (some .int)) (QF := fun A => va_Qi _ (gPost D A) A) (by decide) rfl (Nat.le_of_ble_eq_true rfl) ?_
  intro p e s m below meth c A ls hX hr hlk hnm hK hN hA hI hl
  have hx := hX.1
  have hb := hX.2.1
  have hts := hX.2.2.2.2
  have hown : s.vm.findClass RX2 = some m.cls := hX.2.2.2.1
  have hin2 := iX2_parent_2
  have hl : lv_has ls 4 [(0, .ref h), (1, .int (x)), (2, .int (o))] := hl
  refine lv_iload_n hx hb dX2_parent_0 rfl (lv_at hl 1 rfl) ?_
  refine lv_iconst (v := 0) hx hb dX2_parent_1 (by decide) ?_
  refine lv_bipush (v := 9) hx hb dX2_parent_2 (by decide) ?_
  refine vp_callSi (W.runS (As := [.int (x), .int (0), .int (9)]) (rest := []) hX (c_X2_in l (x) (0) (9)) (va_cwS 3 hts gX2_parent_X2_in rfl rfl rfl (by decide +kernel) ⟨Nat.le_of_ble_eq_true rfl, Nat.le_of_ble_eq_true rfl⟩) preEq rfl rfl hl.1 rfl (lv_room (Nat.le_of_ble_eq_true rfl)) dX2_parent_4 ⟨Nat.le_of_ble_eq_true rfl, Nat.le_of_ble_eq_true rfl⟩) (fun r1 hr1 => ?_)
  rcases hr1 with ⟨rfl, ha_r1, hb_r1⟩ | ⟨rfl, hc_r1⟩
  · refine lv_if_eq (tgt := 20) hx hb dX2_parent_7 (by decide) (fun c2 => False.elim (by revert c2; decide)) (fun c2 => ?_)
    refine lv_iload_n hx hb dX2_parent_10 rfl (lv_at hl 2 rfl) ?_
    refine lv_iconst (v := (-1)) hx hb dX2_parent_11 (by decide) ?_
    refine lv_bipush (v := 9) hx hb dX2_parent_12 (by decide) ?_
    refine vp_callSi (W.runS (As := [.int (o), .int ((-1)), .int (9)]) (rest := []) hX (c_X2_in l (o) ((-1)) (9)) (va_cwS 3 hts gX2_parent_X2_in rfl rfl rfl (by decide +kernel) ⟨Nat.le_of_ble_eq_true rfl, Nat.le_of_ble_eq_true rfl⟩) preEq rfl rfl hl.1 rfl (lv_room (Nat.le_of_ble_eq_true rfl)) dX2_parent_14 ⟨Nat.le_of_ble_eq_true rfl, Nat.le_of_ble_eq_true rfl⟩) (fun r3 hr3 => ?_)
    rcases hr3 with ⟨rfl, ha_r3, hb_r3⟩ | ⟨rfl, hc_r3⟩
    · refine lv_if_ne (tgt := 23) hx hb dX2_parent_17 (by decide) (fun c4 => ?_) (fun c4 => False.elim (by revert c4; decide))
      obtain ⟨j, hj, hjE, hjC⟩ := g_pl ha_r1 hb_r1
      refine lv_aload_n hx hb dX2_parent_23 rfl (lv_at hl 0 rfl) ?_
      refine mGet (v := .ref (q 10)) hX hin2 hK hI 10 (by decide) (hts (.fieldLink RX2 37 "GateHallsModel" "parents" "[I") (by decide +kernel)) rfl dX2_parent_24 ?_
      refine lv_iload_n hx hb dX2_parent_27 rfl (lv_at hl 1 rfl) ?_
      refine mAld (j := j) hX hK hI 10 rfl hjE (by omega) (by decide) dX2_parent_28 ?_
      refine lv_istore_n (lv' := [(3, .int (σ.1 10 (j))), (0, .ref h), (1, .int (x)), (2, .int (o))]) hx hb dX2_parent_29 rfl hl (by decide) rfl (fun ls hl => ?_)
      refine lv_aload_n hx hb dX2_parent_30 rfl (lv_at hl 1 rfl) ?_
      refine mGet (v := .ref (q 10)) hX hin2 hK hI 10 (by decide) (hts (.fieldLink RX2 37 "GateHallsModel" "parents" "[I") (by decide +kernel)) rfl dX2_parent_31 ?_
      refine lv_iload_n hx hb dX2_parent_34 rfl (lv_at hl 2 rfl) ?_
      refine lv_iload_n hx hb dX2_parent_35 rfl (lv_at hl 3 rfl) ?_
      refine mAst (j := j) (pf' := pf) (σ' := (uA σ 10 (j) (o))) hX hK hI 10 rfl hjE (by omega) (by decide) rfl dX2_parent_36 (fun H locs hI => ?_)
      refine lv_iload_n hx hb dX2_parent_37 rfl (lv_at hl 0 rfl) ?_
      exact gIret hX hr hlk hI (by rw [sParent, if_neg (fun h => h.elim ha_r1 (fun h => h.elim hb_r1 (fun h => h.elim ha_r3 hb_r3))), hjC]; exact ⟨rfl, rfl⟩) dX2_parent_38
    · refine lv_if_ne (tgt := 23) hx hb dX2_parent_17 (by decide) (fun c5 => False.elim (by revert c5; decide)) (fun c5 => ?_)
      refine lv_bipush (v := (-2)) hx hb dX2_parent_20 (by decide) ?_
      exact gIret hX hr hlk hI (by rw [sParent, if_pos (Or.inr (Or.inr hc_r3))]; exact ⟨rfl, rfl⟩) dX2_parent_22
  · refine lv_if_eq (tgt := 20) hx hb dX2_parent_7 (by decide) (fun c6 => ?_) (fun c6 => False.elim (by revert c6; decide))
    refine lv_bipush (v := (-2)) hx hb dX2_parent_20 (by decide) ?_
    exact gIret hX hr hlk hI (by rw [sParent, if_pos (hc_r1.elim Or.inl (fun h => Or.inr (Or.inl h)))]; exact ⟨rfl, rfl⟩) dX2_parent_22
set_option maxRecDepth 100000 in
theorem iX2_share_2 : ∀ w ∈ wsX20, w ∈ wsX2_share := by decide +kernel
set_option maxHeartbeats 4000000 in
set_option maxRecDepth 100000 in
theorem c_X2_share (l : Launch) (D : va_G) (cI cH : ClassId) (h : Nat) (q : Nat → Nat) (pf : Nat → Int32) (σ : gh_S) (sz : Nat) (x y : Int32) : gMi l yX2_share wsX2_share ({ frames := 1, cells := 0, slots := 0, locals := 22 }) D (wM h q cI pf σ) (gTy cI cH) sz [.ref h, .int (x), .int (y)] (fun r u => r = (sShare σ x y).1 ∧ u = wM h q cI pf (sShare σ x y).2) := by
  refine gEnter (cc := cX2_share) (maxL := 3) (ret := (some .int)) (QF := fun A => va_Qi _ (gPost D A) A) (by decide) rfl (Nat.le_of_ble_eq_true rfl) ?_
  intro p e s m below meth c A ls hX hr hlk hnm hK hN hA hI hl
  have hx := hX.1
  have hb := hX.2.1
  have hts := hX.2.2.2.2
  have hown : s.vm.findClass RX2 = some m.cls := hX.2.2.2.1
  have hin2 := iX2_share_2
  have hl : lv_has ls 3 [(0, .ref h), (1, .int (x)), (2, .int (y))] := hl
  refine lv_iload_n hx hb dX2_share_0 rfl (lv_at hl 1 rfl) ?_
  refine lv_iconst (v := 0) hx hb dX2_share_1 (by decide) ?_
  refine lv_bipush (v := 9) hx hb dX2_share_2 (by decide) ?_
  refine vp_callSi (W.runS (As := [.int (x), .int (0), .int (9)]) (rest := []) hX (c_X2_in l (x) (0) (9)) (va_cwS 3 hts gX2_share_X2_in rfl rfl rfl (by decide +kernel) ⟨Nat.le_of_ble_eq_true rfl, Nat.le_of_ble_eq_true rfl⟩) preEq rfl rfl hl.1 rfl (lv_room (Nat.le_of_ble_eq_true rfl)) dX2_share_4 ⟨Nat.le_of_ble_eq_true rfl, Nat.le_of_ble_eq_true rfl⟩) (fun r1 hr1 => ?_)
  rcases hr1 with ⟨rfl, ha_r1, hb_r1⟩ | ⟨rfl, hc_r1⟩
  · refine lv_if_eq (tgt := 20) hx hb dX2_share_7 (by decide) (fun c2 => False.elim (by revert c2; decide)) (fun c2 => ?_)
    refine lv_iload_n hx hb dX2_share_10 rfl (lv_at hl 2 rfl) ?_
    refine lv_iconst (v := 0) hx hb dX2_share_11 (by decide) ?_
    refine lv_bipush (v := 9) hx hb dX2_share_12 (by decide) ?_
    refine vp_callSi (W.runS (As := [.int (y), .int (0), .int (9)]) (rest := []) hX (c_X2_in l (y) (0) (9)) (va_cwS 3 hts gX2_share_X2_in rfl rfl rfl (by decide +kernel) ⟨Nat.le_of_ble_eq_true rfl, Nat.le_of_ble_eq_true rfl⟩) preEq rfl rfl hl.1 rfl (lv_room (Nat.le_of_ble_eq_true rfl)) dX2_share_14 ⟨Nat.le_of_ble_eq_true rfl, Nat.le_of_ble_eq_true rfl⟩) (fun r3 hr3 => ?_)
    rcases hr3 with ⟨rfl, ha_r3, hb_r3⟩ | ⟨rfl, hc_r3⟩
    · refine lv_if_ne (tgt := 22) hx hb dX2_share_17 (by decide) (fun c4 => ?_) (fun c4 => False.elim (by revert c4; decide))
      obtain ⟨j, hj, hjE, hjC⟩ := g_pl ha_r1 hb_r1
      obtain ⟨k, hk, hkE, hkC⟩ := g_pl ha_r3 hb_r3
      refine lv_aload_n hx hb dX2_share_22 rfl (lv_at hl 0 rfl) ?_
      refine mGet (v := .ref (q 9)) hX hin2 hK hI 9 (by decide) (hts (.fieldLink RX2 34 "GateHallsModel" "places" "[I") (by decide +kernel)) rfl dX2_share_23 ?_
      refine lv_iload_n hx hb dX2_share_26 rfl (lv_at hl 2 rfl) ?_
      refine lv_aload_n hx hb dX2_share_27 rfl (lv_at hl 0 rfl) ?_
      refine mGet (v := .ref (q 9)) hX hin2 hK hI 9 (by decide) (hts (.fieldLink RX2 34 "GateHallsModel" "places" "[I") (by decide +kernel)) rfl dX2_share_28 ?_
      refine lv_iload_n hx hb dX2_share_31 rfl (lv_at hl 1 rfl) ?_
      refine mAld (j := j) hX hK hI 9 rfl hjE (by omega) (by decide) dX2_share_32 ?_
      refine mAst (j := k) (pf' := pf) (σ' := (uA σ 9 (k) (σ.1 9 (j)))) hX hK hI 9 rfl hkE (by omega) (by decide) rfl dX2_share_33 (fun H locs hI => ?_)
      refine lv_aload_n hx hb dX2_share_34 rfl (lv_at hl 0 rfl) ?_
      refine mGet (v := .ref (q 9)) hX hin2 hK hI 9 (by decide) (hts (.fieldLink RX2 34 "GateHallsModel" "places" "[I") (by decide +kernel)) rfl dX2_share_35 ?_
      refine lv_iload_n hx hb dX2_share_38 rfl (lv_at hl 2 rfl) ?_
      refine mAld (j := k) hX hK hI 9 rfl hkE (by omega) (by decide) dX2_share_39 ?_
      refine gTop (y := σ.1 9 (j)) (by simp [uA, uS, upd]) ?_
      refine lv_iconst (v := (-1)) hx hb dX2_share_40 (by decide) ?_
      refine lv_icmp_ne (tgt := 48) hx hb dX2_share_41 (by decide) (fun c5 => ?_) (fun c5 => ?_)
      · refine lv_iconst (v := 1) hx hb dX2_share_48 (by decide) ?_
        exact gIret hX hr hlk hI (by rw [sShare, if_neg (fun h => h.elim ha_r1 (fun h => h.elim hb_r1 (fun h => h.elim ha_r3 hb_r3))), hjC, hkC, if_neg c5]; exact ⟨rfl, rfl⟩) dX2_share_49
      · refine lv_iconst (v := 0) hx hb dX2_share_44 (by decide) ?_
        refine lv_goto (tgt := 49) hx hb dX2_share_45 (by decide) ?_
        exact gIret hX hr hlk hI (by rw [sShare, if_neg (fun h => h.elim ha_r1 (fun h => h.elim hb_r1 (fun h => h.elim ha_r3 hb_r3))), hjC, hkC, if_pos c5]; exact ⟨rfl, rfl⟩) dX2_share_49
    · refine lv_if_ne (tgt := 22) hx hb dX2_share_17 (by decide) (fun c6 => False.elim (by revert c6; decide)) (fun c6 => ?_)
      refine lv_iconst (v := (-1)) hx hb dX2_share_20 (by decide) ?_
      exact gIret hX hr hlk hI (by rw [sShare, if_pos (Or.inr (Or.inr hc_r3))]; exact ⟨rfl, rfl⟩) dX2_share_21
  · refine lv_if_eq (tgt := 20) hx hb dX2_share_7 (by decide) (fun c7 => ?_) (fun c7 => False.elim (by revert c7; decide))
    refine lv_iconst (v := (-1)) hx hb dX2_share_20 (by decide) ?_
    exact gIret hX hr hlk hI (by rw [sShare, if_pos (hc_r1.elim Or.inl (fun h => Or.inr (Or.inl h)))]; exact ⟨rfl, rfl⟩) dX2_share_21
set_option maxRecDepth 100000 in
theorem iX2_hall_2 : ∀ w ∈ wsX20, w ∈ wsX2_hall := by decide +kernel
set_option maxHeartbeats 4000000 in
set_option maxRecDepth 100000 in
theorem c_X2_hall (l : Launch) (D : va_G) (cI cH : ClassId) (h : Nat) (q : Nat → Nat) (pf : Nat → Int32) (σ : gh_S) (sz : Nat) (x k f : Int32) (n w : Nat) (hg : gI n w σ) : gMi l yX2_hall wsX2_hall ({ frames := 1, cells := 0, slots := 0, locals := 22 }) D (wM h q cI pf σ) (gTy cI cH) sz [.ref h, .int (x), .int (k), .int (f)] (fun r u => r = (sHall σ x k f).1 ∧ u = wM h q cI pf (sHall σ x k f).2) := by
  refine gEnter (cc := cX2_hall) (maxL := 4) (ret := (some .int)) (QF := fun A => va_Qi _ (gPost D A) A) (by decide) rfl (Nat.le_of_ble_eq_true rfl) ?_
  intro p e s m below meth c A ls hX hr hlk hnm hK hN hA hI hl
  have hx := hX.1
  have hb := hX.2.1
  have hts := hX.2.2.2.2
  have hown : s.vm.findClass RX2 = some m.cls := hX.2.2.2.1
  have hin2 := iX2_hall_2
  have hl : lv_has ls 4 [(0, .ref h), (1, .int (x)), (2, .int (k)), (3, .int (f))] := hl
  obtain ⟨hn, hw, ⟨t, ht, htE⟩, hpl, hpar, hrow, hn4, hw30, hz⟩ := id hg
  refine lv_iload_n hx hb dX2_hall_0 rfl (lv_at hl 1 rfl) ?_
  refine lv_iconst (v := 0) hx hb dX2_hall_1 (by decide) ?_
  refine lv_bipush (v := 9) hx hb dX2_hall_2 (by decide) ?_
  refine vp_callSi (W.runS (As := [.int (x), .int (0), .int (9)]) (rest := []) hX (c_X2_in l (x) (0) (9)) (va_cwS 3 hts gX2_hall_X2_in rfl rfl rfl (by decide +kernel) ⟨Nat.le_of_ble_eq_true rfl, Nat.le_of_ble_eq_true rfl⟩) preEq rfl rfl hl.1 rfl (lv_room (Nat.le_of_ble_eq_true rfl)) dX2_hall_4 ⟨Nat.le_of_ble_eq_true rfl, Nat.le_of_ble_eq_true rfl⟩) (fun r1 hr1 => ?_)
  rcases hr1 with ⟨rfl, ha_r1, hb_r1⟩ | ⟨rfl, hc_r1⟩
  · refine lv_if_eq (tgt := 30) hx hb dX2_hall_7 (by decide) (fun c2 => False.elim (by revert c2; decide)) (fun c2 => ?_)
    refine lv_iload_n hx hb dX2_hall_10 rfl (lv_at hl 2 rfl) ?_
    refine lv_iconst (v := 0) hx hb dX2_hall_11 (by decide) ?_
    refine lv_iconst (v := 2) hx hb dX2_hall_12 (by decide) ?_
    refine vp_callSi (W.runS (As := [.int (k), .int (0), .int (2)]) (rest := []) hX (c_X2_in l (k) (0) (2)) (va_cwS 3 hts gX2_hall_X2_in rfl rfl rfl (by decide +kernel) ⟨Nat.le_of_ble_eq_true rfl, Nat.le_of_ble_eq_true rfl⟩) preEq rfl rfl hl.1 rfl (lv_room (Nat.le_of_ble_eq_true rfl)) dX2_hall_13 ⟨Nat.le_of_ble_eq_true rfl, Nat.le_of_ble_eq_true rfl⟩) (fun r3 hr3 => ?_)
    rcases hr3 with ⟨rfl, ha_r3, hb_r3⟩ | ⟨rfl, hc_r3⟩
    · refine lv_if_eq (tgt := 30) hx hb dX2_hall_16 (by decide) (fun c4 => False.elim (by revert c4; decide)) (fun c4 => ?_)
      refine lv_iload_n hx hb dX2_hall_19 rfl (lv_at hl 3 rfl) ?_
      refine lv_iconst (v := 0) hx hb dX2_hall_20 (by decide) ?_
      refine lv_sipush (v := 1000) hx hb dX2_hall_21 (by decide) ?_
      refine vp_callSi (W.runS (As := [.int (f), .int (0), .int (1000)]) (rest := []) hX (c_X2_in l (f) (0) (1000)) (va_cwS 3 hts gX2_hall_X2_in rfl rfl rfl (by decide +kernel) ⟨Nat.le_of_ble_eq_true rfl, Nat.le_of_ble_eq_true rfl⟩) preEq rfl rfl hl.1 rfl (lv_room (Nat.le_of_ble_eq_true rfl)) dX2_hall_24 ⟨Nat.le_of_ble_eq_true rfl, Nat.le_of_ble_eq_true rfl⟩) (fun r5 hr5 => ?_)
      rcases hr5 with ⟨rfl, ha_r5, hb_r5⟩ | ⟨rfl, hc_r5⟩
      · refine lv_if_ne (tgt := 32) hx hb dX2_hall_27 (by decide) (fun c6 => ?_) (fun c6 => False.elim (by revert c6; decide))
        obtain ⟨j, hj, hjE, hjC⟩ := g_pl ha_r1 hb_r1
        have hnC : (σ.2 0).toNatClampNeg = n := by rw [hn]; exact nI_clamp (by omega)
        refine lv_aload_n hx hb dX2_hall_32 rfl (lv_at hl 0 rfl) ?_
        refine mGet (v := .ref (q 1)) hX hin2 hK hI 1 (by decide) (hts (.fieldLink RX2 7 "GateHallsModel" "kinds" "[I") (by decide +kernel)) rfl dX2_hall_33 ?_
        refine lv_aload_n hx hb dX2_hall_36 rfl (lv_at hl 0 rfl) ?_
        refine mGet (v := .int (σ.2 0)) hX hin2 hK hI 0 (by decide) (hts (.fieldLink RX2 53 "GateHallsModel" "halls" "I") (by decide +kernel)) rfl dX2_hall_37 ?_
        refine lv_iload_n hx hb dX2_hall_40 rfl (lv_at hl 2 rfl) ?_
        refine mAst (j := n) (pf' := pf) (σ' := (uA σ 1 (n) (k))) hX hK hI 1 rfl hn (by omega) (by decide) rfl dX2_hall_41 (fun H locs hI => ?_)
        refine lv_aload_n hx hb dX2_hall_42 rfl (lv_at hl 0 rfl) ?_
        refine mGet (v := .ref (q 2)) hX hin2 hK hI 2 (by decide) (hts (.fieldLink RX2 13 "GateHallsModel" "fees" "[I") (by decide +kernel)) rfl dX2_hall_43 ?_
        refine lv_aload_n hx hb dX2_hall_46 rfl (lv_at hl 0 rfl) ?_
        refine mGet (v := .int (σ.2 0)) hX hin2 hK hI 0 (by decide) (hts (.fieldLink RX2 53 "GateHallsModel" "halls" "I") (by decide +kernel)) rfl dX2_hall_47 ?_
        refine lv_iload_n hx hb dX2_hall_50 rfl (lv_at hl 3 rfl) ?_
        refine mAst (j := n) (pf' := pf) (σ' := (uA (uA σ 1 (n) (k)) 2 (n) (f))) hX hK hI 2 rfl hn (by omega) (by decide) rfl dX2_hall_51 (fun H locs hI => ?_)
        refine lv_aload_n hx hb dX2_hall_52 rfl (lv_at hl 0 rfl) ?_
        refine mGet (v := .ref (q 9)) hX hin2 hK hI 9 (by decide) (hts (.fieldLink RX2 34 "GateHallsModel" "places" "[I") (by decide +kernel)) rfl dX2_hall_53 ?_
        refine lv_iload_n hx hb dX2_hall_56 rfl (lv_at hl 1 rfl) ?_
        refine lv_aload_n hx hb dX2_hall_57 rfl (lv_at hl 0 rfl) ?_
        refine mGet (v := .int (σ.2 0)) hX hin2 hK hI 0 (by decide) (hts (.fieldLink RX2 53 "GateHallsModel" "halls" "I") (by decide +kernel)) rfl dX2_hall_58 ?_
        refine mAst (j := j) (pf' := pf) (σ' := (uA (uA (uA σ 1 (n) (k)) 2 (n) (f)) 9 (j) (σ.2 0))) hX hK hI 9 rfl hjE (by omega) (by decide) rfl dX2_hall_61 (fun H locs hI => ?_)
        refine lv_aload_n hx hb dX2_hall_62 rfl (lv_at hl 0 rfl) ?_
        refine lv_dup hx hb dX2_hall_63 rfl ?_
        refine mGet (v := .int (σ.2 0)) hX hin2 hK hI 0 (by decide) (hts (.fieldLink RX2 53 "GateHallsModel" "halls" "I") (by decide +kernel)) rfl dX2_hall_64 ?_
        refine lv_iconst (v := 1) hx hb dX2_hall_67 (by decide) ?_
        refine lv_iadd hx hb dX2_hall_68 ?_
        refine mPut hX hin2 hK hI 0 (by decide) (hts (.fieldLink RX2 53 "GateHallsModel" "halls" "I") (by decide +kernel)) rfl rfl rfl dX2_hall_69 (fun H locs hI => ?_)
        refine lv_aload_n hx hb dX2_hall_72 rfl (lv_at hl 0 rfl) ?_
        refine mGet (v := .int ((σ.2 0) + (1))) hX hin2 hK hI 0 (by decide) (hts (.fieldLink RX2 53 "GateHallsModel" "halls" "I") (by decide +kernel)) rfl dX2_hall_73 ?_
        refine lv_iconst (v := 1) hx hb dX2_hall_76 (by decide) ?_
        refine lv_isub hx hb dX2_hall_77 ?_
        exact gIret hX hr hlk hI (by rw [sHall, if_neg (fun h => h.elim ha_r1 (fun h => h.elim hb_r1 (fun h => h.elim ha_r3 (fun h => h.elim hb_r3 (fun h => h.elim ha_r5 hb_r5))))), hjC, hnC]; exact ⟨Int32.add_sub_cancel _ _, rfl⟩) dX2_hall_78
      · refine lv_if_ne (tgt := 32) hx hb dX2_hall_27 (by decide) (fun c7 => False.elim (by revert c7; decide)) (fun c7 => ?_)
        refine lv_iconst (v := (-1)) hx hb dX2_hall_30 (by decide) ?_
        exact gIret hX hr hlk hI (by rw [sHall, if_pos (Or.inr (Or.inr (Or.inr (Or.inr hc_r5))))]; exact ⟨rfl, rfl⟩) dX2_hall_31
    · refine lv_if_eq (tgt := 30) hx hb dX2_hall_16 (by decide) (fun c8 => ?_) (fun c8 => False.elim (by revert c8; decide))
      refine lv_iconst (v := (-1)) hx hb dX2_hall_30 (by decide) ?_
      exact gIret hX hr hlk hI (by rw [sHall, if_pos (Or.inr (Or.inr (hc_r3.elim Or.inl (fun h => Or.inr (Or.inl h)))))]; exact ⟨rfl, rfl⟩) dX2_hall_31
  · refine lv_if_eq (tgt := 30) hx hb dX2_hall_7 (by decide) (fun c9 => ?_) (fun c9 => False.elim (by revert c9; decide))
    refine lv_iconst (v := (-1)) hx hb dX2_hall_30 (by decide) ?_
    exact gIret hX hr hlk hI (by rw [sHall, if_pos (hc_r1.elim Or.inl (fun h => Or.inr (Or.inl h)))]; exact ⟨rfl, rfl⟩) dX2_hall_31
set_option maxRecDepth 100000 in
theorem iX2_gifts_2 : ∀ w ∈ wsX20, w ∈ wsX2_gifts := by decide +kernel
set_option maxHeartbeats 4000000 in
set_option maxRecDepth 100000 in
theorem c_X2_gifts (l : Launch) (D : va_G) (cI cH : ClassId) (h : Nat) (q : Nat → Nat) (pf : Nat → Int32) (σ : gh_S) (sz : Nat) (x : Int32) (n w : Nat) (hg : gI n w σ) : gMi l yX2_gifts wsX2_gifts ({ frames := 1, cells := 0, slots := 0, locals := 22 }) D (wM h q cI pf σ) (gTy cI cH) sz [.ref h, .int (x)] (fun r u => r = sGifts σ x ∧ u = wM h q cI pf σ) := by
  refine gEnter (cc := cX2_gifts) (maxL := 2) (ret := (some .int)) (QF := fun A => va_Qi _ (gPost D A) A) (by decide) rfl (Nat.le_of_ble_eq_true rfl) ?_
  intro p e s m below meth c A ls hX hr hlk hnm hK hN hA hI hl
  have hx := hX.1
  have hb := hX.2.1
  have hts := hX.2.2.2.2
  have hown : s.vm.findClass RX2 = some m.cls := hX.2.2.2.1
  have hin2 := iX2_gifts_2
  have hl : lv_has ls 2 [(0, .ref h), (1, .int (x))] := hl
  obtain ⟨hn, hw, ⟨t, ht, htE⟩, hpl, hpar, hrow, hn4, hw30, hz⟩ := id hg
  refine lv_iload_n hx hb dX2_gifts_0 rfl (lv_at hl 1 rfl) ?_
  refine lv_iconst (v := 0) hx hb dX2_gifts_1 (by decide) ?_
  refine lv_bipush (v := 9) hx hb dX2_gifts_2 (by decide) ?_
  refine vp_callSi (W.runS (As := [.int (x), .int (0), .int (9)]) (rest := []) hX (c_X2_in l (x) (0) (9)) (va_cwS 3 hts gX2_gifts_X2_in rfl rfl rfl (by decide +kernel) ⟨Nat.le_of_ble_eq_true rfl, Nat.le_of_ble_eq_true rfl⟩) preEq rfl rfl hl.1 rfl (lv_room (Nat.le_of_ble_eq_true rfl)) dX2_gifts_4 ⟨Nat.le_of_ble_eq_true rfl, Nat.le_of_ble_eq_true rfl⟩) (fun r1 hr1 => ?_)
  rcases hr1 with ⟨rfl, ha_r1, hb_r1⟩ | ⟨rfl, hc_r1⟩
  · refine lv_if_eq (tgt := 34) hx hb dX2_gifts_7 (by decide) (fun c2 => False.elim (by revert c2; decide)) (fun c2 => ?_)
    obtain ⟨j, hj, hjE, hjC⟩ := g_pl ha_r1 hb_r1
    refine lv_aload_n hx hb dX2_gifts_10 rfl (lv_at hl 0 rfl) ?_
    refine mGet (v := .ref (q 9)) hX hin2 hK hI 9 (by decide) (hts (.fieldLink RX2 34 "GateHallsModel" "places" "[I") (by decide +kernel)) rfl dX2_gifts_11 ?_
    refine lv_iload_n hx hb dX2_gifts_14 rfl (lv_at hl 1 rfl) ?_
    refine mAld (j := j) hX hK hI 9 rfl hjE (by omega) (by decide) dX2_gifts_15 ?_
    refine lv_iconst (v := (-1)) hx hb dX2_gifts_16 (by decide) ?_
    refine lv_icmp_eq (tgt := 34) hx hb dX2_gifts_17 (by decide) (fun c3 => ?_) (fun c3 => ?_)
    · refine lv_iconst (v := 0) hx hb dX2_gifts_34 (by decide) ?_
      exact gIret hX hr hlk hI ⟨by rw [sGifts, if_neg (fun h => h.elim ha_r1 hb_r1), hjC, if_pos c3], rfl⟩ dX2_gifts_35
    · obtain ⟨i, hi, hiE⟩ := (hpl j (by omega)).resolve_left c3
      have hiC : (σ.1 9 j).toNatClampNeg = i := by rw [hiE]; exact nI_clamp (by omega)
      refine lv_aload_n hx hb dX2_gifts_20 rfl (lv_at hl 0 rfl) ?_
      refine mGet (v := .ref (q 3)) hX hin2 hK hI 3 (by decide) (hts (.fieldLink RX2 16 "GateHallsModel" "gifts" "[I") (by decide +kernel)) rfl dX2_gifts_21 ?_
      refine lv_aload_n hx hb dX2_gifts_24 rfl (lv_at hl 0 rfl) ?_
      refine mGet (v := .ref (q 9)) hX hin2 hK hI 9 (by decide) (hts (.fieldLink RX2 34 "GateHallsModel" "places" "[I") (by decide +kernel)) rfl dX2_gifts_25 ?_
      refine lv_iload_n hx hb dX2_gifts_28 rfl (lv_at hl 1 rfl) ?_
      refine mAld (j := j) hX hK hI 9 rfl hjE (by omega) (by decide) dX2_gifts_29 ?_
      refine mAld (j := i) hX hK hI 3 rfl hiE (by omega) (by decide) dX2_gifts_30 ?_
      refine lv_goto (tgt := 35) hx hb dX2_gifts_31 (by decide) ?_
      exact gIret hX hr hlk hI ⟨by rw [sGifts, if_neg (fun h => h.elim ha_r1 hb_r1), hjC, if_neg c3, hiC], rfl⟩ dX2_gifts_35
  · refine lv_if_eq (tgt := 34) hx hb dX2_gifts_7 (by decide) (fun c4 => ?_) (fun c4 => False.elim (by revert c4; decide))
    refine lv_iconst (v := 0) hx hb dX2_gifts_34 (by decide) ?_
    exact gIret hX hr hlk hI ⟨by rw [sGifts, if_pos hc_r1], rfl⟩ dX2_gifts_35
theorem g_trace {x T : Int32} {t : Nat} (e : T = nI t) (ht : t ≤ 100) : T - 1 < x ↔ T ≤ x := by
  subst e
  rw [Int32.lt_iff_toInt_lt, Int32.le_iff_toInt_le]
  have h1 : (nI t - 1).toInt = (t : Int) - 1 := by
    have := pk_sub_toInt (a := t) (b := 1) (by omega) (by omega)
    exact this
  rw [h1, nI_toInt (by omega)]
  omega
theorem g_tin {x T : Int32} {t : Nat} (e : T = nI t) (ht : t ≤ 100) (h0 : ¬ x < 0) (h1 : ¬ T ≤ x) : ∃ k : Nat, k < t ∧ x = nI k ∧ x.toNatClampNeg = k := by
  obtain ⟨k, hk, rfl⟩ := nI_of h0
  refine ⟨k, ?_, rfl, nI_clamp hk⟩
  rcases Nat.lt_or_ge k t with g | g
  · exact g
  · exact absurd (by rw [e]; exact nI_le g hk) h1
set_option maxRecDepth 100000 in
theorem iX2_trace_2 : ∀ w ∈ wsX20, w ∈ wsX2_trace := by decide +kernel
set_option maxHeartbeats 4000000 in
set_option maxRecDepth 100000 in
theorem c_X2_trace (l : Launch) (D : va_G) (cI cH : ClassId) (h : Nat) (q : Nat → Nat) (pf : Nat → Int32) (σ : gh_S) (sz : Nat) (x : Int32) (n w : Nat) (hg : gI n w σ) : gMi l yX2_trace wsX2_trace ({ frames := 1, cells := 0, slots := 0, locals := 22 }) D (wM h q cI pf σ) (gTy cI cH) sz [.ref h, .int (x)] (fun r u => r = sTrace σ x ∧ u = wM h q cI pf σ) := by
  refine gEnter (cc := cX2_trace) (maxL := 2) (ret := (some .int)) (QF := fun A => va_Qi _ (gPost D A) A) (by decide) rfl (Nat.le_of_ble_eq_true rfl) ?_
  intro p e s m below meth c A ls hX hr hlk hnm hK hN hA hI hl
  have hx := hX.1
  have hb := hX.2.1
  have hts := hX.2.2.2.2
  have hown : s.vm.findClass RX2 = some m.cls := hX.2.2.2.1
  have hin2 := iX2_trace_2
  have hl : lv_has ls 2 [(0, .ref h), (1, .int (x))] := hl
  obtain ⟨hn, hw, ⟨t, ht, htE⟩, hpl, hpar, hrow, hn4, hw30, hz⟩ := id hg
  refine lv_iload_n hx hb dX2_trace_0 rfl (lv_at hl 1 rfl) ?_
  refine lv_iconst (v := (-1)) hx hb dX2_trace_1 (by decide) ?_
  refine lv_icmp_ne (tgt := 12) hx hb dX2_trace_2 (by decide) (fun c1 => ?_) (fun c1 => ?_)
  · refine lv_iload_n hx hb dX2_trace_12 rfl (lv_at hl 1 rfl) ?_
    refine lv_iconst (v := 0) hx hb dX2_trace_13 (by decide) ?_
    refine lv_aload_n hx hb dX2_trace_14 rfl (lv_at hl 0 rfl) ?_
    refine mGet (v := .int (σ.2 12)) hX hin2 hK hI 12 (by decide) (hts (.fieldLink RX2 61 "GateHallsModel" "traces" "I") (by decide +kernel)) rfl dX2_trace_15 ?_
    refine lv_iconst (v := 1) hx hb dX2_trace_18 (by decide) ?_
    refine lv_isub hx hb dX2_trace_19 ?_
    refine vp_callSi (W.runS (As := [.int (x), .int (0), .int ((σ.2 12) - (1))]) (rest := []) hX (c_X2_in l (x) (0) ((σ.2 12) - (1))) (va_cwS 3 hts gX2_trace_X2_in rfl rfl rfl (by decide +kernel) ⟨Nat.le_of_ble_eq_true rfl, Nat.le_of_ble_eq_true rfl⟩) preEq rfl rfl hl.1 rfl (lv_room (Nat.le_of_ble_eq_true rfl)) dX2_trace_20 ⟨Nat.le_of_ble_eq_true rfl, Nat.le_of_ble_eq_true rfl⟩) (fun r2 hr2 => ?_)
    rcases hr2 with ⟨rfl, ha_r2, hb_r2⟩ | ⟨rfl, hc_r2⟩
    · refine lv_if_eq (tgt := 35) hx hb dX2_trace_23 (by decide) (fun c3 => False.elim (by revert c3; decide)) (fun c3 => ?_)
      obtain ⟨k, hk, hkE, hkC⟩ := g_tin htE ht ha_r2 (fun z => hb_r2 ((g_trace htE ht).mpr z))
      refine lv_aload_n hx hb dX2_trace_26 rfl (lv_at hl 0 rfl) ?_
      refine mGet (v := .ref (q 13)) hX hin2 hK hI 13 (by decide) (hts (.fieldLink RX2 40 "GateHallsModel" "traced" "[I") (by decide +kernel)) rfl dX2_trace_27 ?_
      refine lv_iload_n hx hb dX2_trace_30 rfl (lv_at hl 1 rfl) ?_
      refine mAld (j := k) hX hK hI 11 rfl hkE (by omega) (by decide) dX2_trace_31 ?_
      refine lv_goto (tgt := 36) hx hb dX2_trace_32 (by decide) ?_
      exact gIret hX hr hlk hI ⟨by rw [sTrace, if_neg c1, if_neg (fun z => z.elim ha_r2 (fun z => hb_r2 ((g_trace htE ht).mpr z))), hkC], rfl⟩ dX2_trace_36
    · refine lv_if_eq (tgt := 35) hx hb dX2_trace_23 (by decide) (fun c4 => ?_) (fun c4 => False.elim (by revert c4; decide))
      refine lv_iconst (v := (-1)) hx hb dX2_trace_35 (by decide) ?_
      exact gIret hX hr hlk hI ⟨by rw [sTrace, if_neg c1, if_pos (hc_r2.elim Or.inl (fun z => Or.inr ((g_trace htE ht).mp z)))], rfl⟩ dX2_trace_36
  · refine lv_aload_n hx hb dX2_trace_5 rfl (lv_at hl 0 rfl) ?_
    refine mGet (v := .int (σ.2 12)) hX hin2 hK hI 12 (by decide) (hts (.fieldLink RX2 61 "GateHallsModel" "traces" "I") (by decide +kernel)) rfl dX2_trace_6 ?_
    refine lv_goto (tgt := 36) hx hb dX2_trace_9 (by decide) ?_
    exact gIret hX hr hlk hI ⟨by rw [sTrace, if_pos c1], rfl⟩ dX2_trace_36
theorem zFact_out {σ : gh_S} {i : Nat} {w : Int32} (h : w < 0 ∨ 7 < w) : zFact σ i w = -1 := by
  have hk : ∀ k : Int32, ¬ k < 0 → ¬ 7 < k → ¬ w = k := fun k a b e => by subst e; exact h.elim a b
  unfold zFact
  rw [if_neg (hk 0 (by decide) (by decide)), if_neg (hk 1 (by decide) (by decide)), if_neg (hk 2 (by decide) (by decide)), if_neg (hk 3 (by decide) (by decide)), if_neg (hk 4 (by decide) (by decide)), if_neg (hk 5 (by decide) (by decide)), if_neg (hk 6 (by decide) (by decide)), if_neg (hk 7 (by decide) (by decide))]
set_option maxRecDepth 100000 in
theorem iX2_told_2 : ∀ w ∈ wsX20, w ∈ wsX2_told := by decide +kernel
set_option maxHeartbeats 4000000 in
set_option maxRecDepth 100000 in
theorem c_X2_told (l : Launch) (D : va_G) (cI cH : ClassId) (h : Nat) (q : Nat → Nat) (pf : Nat → Int32) (σ : gh_S) (sz : Nat) (x y : Int32) (n w : Nat) (hg : gI n w σ) : gMi l yX2_told wsX2_told ({ frames := 1, cells := 0, slots := 0, locals := 22 }) D (wM h q cI pf σ) (gTy cI cH) sz [.ref h, .int (x), .int (y)] (fun r u => r = sTold σ x y ∧ u = wM h q cI pf σ) := by
  refine gEnter (cc := cX2_told) (maxL := 4) (ret := (some .int)) (QF := fun A => va_Qi _ (gPost D A) A) (by decide) rfl (Nat.le_of_ble_eq_true rfl) ?_
  intro p e s m below meth c A ls hX hr hlk hnm hK hN hA hI hl
  have hx := hX.1
  have hb := hX.2.1
  have hts := hX.2.2.2.2
  have hown : s.vm.findClass RX2 = some m.cls := hX.2.2.2.1
  have hin2 := iX2_told_2
  have hl : lv_has ls 4 [(0, .ref h), (1, .int (x)), (2, .int (y))] := hl
  obtain ⟨hn, hw, ⟨t, ht, htE⟩, hpl, hpar, hrow, hn4, hw30, hz⟩ := id hg
  refine lv_iload_n hx hb dX2_told_0 rfl (lv_at hl 1 rfl) ?_
  refine lv_iconst (v := 0) hx hb dX2_told_1 (by decide) ?_
  refine lv_bipush (v := 9) hx hb dX2_told_2 (by decide) ?_
  refine vp_callSi (W.runS (As := [.int (x), .int (0), .int (9)]) (rest := []) hX (c_X2_in l (x) (0) (9)) (va_cwS 3 hts gX2_told_X2_in rfl rfl rfl (by decide +kernel) ⟨Nat.le_of_ble_eq_true rfl, Nat.le_of_ble_eq_true rfl⟩) preEq rfl rfl hl.1 rfl (lv_room (Nat.le_of_ble_eq_true rfl)) dX2_told_4 ⟨Nat.le_of_ble_eq_true rfl, Nat.le_of_ble_eq_true rfl⟩) (fun r1 hr1 => ?_)
  rcases hr1 with ⟨rfl, ha_r1, hb_r1⟩ | ⟨rfl, hc_r1⟩
  · refine lv_if_eq (tgt := 30) hx hb dX2_told_7 (by decide) (fun c2 => False.elim (by revert c2; decide)) (fun c2 => ?_)
    obtain ⟨j, hj, hjE, hjC⟩ := g_pl ha_r1 hb_r1
    refine lv_aload_n hx hb dX2_told_10 rfl (lv_at hl 0 rfl) ?_
    refine mGet (v := .ref (q 9)) hX hin2 hK hI 9 (by decide) (hts (.fieldLink RX2 34 "GateHallsModel" "places" "[I") (by decide +kernel)) rfl dX2_told_11 ?_
    refine lv_iload_n hx hb dX2_told_14 rfl (lv_at hl 1 rfl) ?_
    refine mAld (j := j) hX hK hI 9 rfl hjE (by omega) (by decide) dX2_told_15 ?_
    refine lv_iconst (v := (-1)) hx hb dX2_told_16 (by decide) ?_
    refine lv_icmp_eq (tgt := 30) hx hb dX2_told_17 (by decide) (fun c3 => ?_) (fun c3 => ?_)
    · refine lv_iconst (v := (-1)) hx hb dX2_told_30 (by decide) ?_
      exact gIret hX hr hlk hI ⟨by rw [sTold, if_neg (fun h => h.elim ha_r1 hb_r1), hjC, if_pos c3], rfl⟩ dX2_told_31
    · obtain ⟨i, hi, hiE⟩ := (hpl j (by omega)).resolve_left c3
      have hiC : (σ.1 9 j).toNatClampNeg = i := by rw [hiE]; exact nI_clamp (by omega)
      refine lv_iload_n hx hb dX2_told_20 rfl (lv_at hl 2 rfl) ?_
      refine lv_iconst (v := 0) hx hb dX2_told_21 (by decide) ?_
      refine lv_bipush (v := 7) hx hb dX2_told_22 (by decide) ?_
      refine vp_callSi (W.runS (As := [.int (y), .int (0), .int (7)]) (rest := []) hX (c_X2_in l (y) (0) (7)) (va_cwS 3 hts gX2_told_X2_in rfl rfl rfl (by decide +kernel) ⟨Nat.le_of_ble_eq_true rfl, Nat.le_of_ble_eq_true rfl⟩) preEq rfl rfl hl.1 rfl (lv_room (Nat.le_of_ble_eq_true rfl)) dX2_told_24 ⟨Nat.le_of_ble_eq_true rfl, Nat.le_of_ble_eq_true rfl⟩) (fun r4 hr4 => ?_)
      rcases hr4 with ⟨rfl, ha_r4, hb_r4⟩ | ⟨rfl, hc_r4⟩
      · refine lv_if_ne (tgt := 32) hx hb dX2_told_27 (by decide) (fun c5 => ?_) (fun c5 => False.elim (by revert c5; decide))
        refine lv_aload_n hx hb dX2_told_32 rfl (lv_at hl 0 rfl) ?_
        refine mGet (v := .ref (q 9)) hX hin2 hK hI 9 (by decide) (hts (.fieldLink RX2 34 "GateHallsModel" "places" "[I") (by decide +kernel)) rfl dX2_told_33 ?_
        refine lv_iload_n hx hb dX2_told_36 rfl (lv_at hl 1 rfl) ?_
        refine mAld (j := j) hX hK hI 9 rfl hjE (by omega) (by decide) dX2_told_37 ?_
        refine lv_istore_n (lv' := [(3, .int (σ.1 9 (j))), (0, .ref h), (1, .int (x)), (2, .int (y))]) hx hb dX2_told_38 rfl hl (by decide) rfl (fun ls hl => ?_)
        refine lv_iload_n hx hb dX2_told_39 rfl (lv_at hl 3 rfl) ?_
        rcases g_le7 ha_r4 hb_r4 with rfl | rfl | rfl | rfl | rfl | rfl | rfl | rfl
        · refine lv_tableIn (tgt := 84) (off := 44) hx hb dX2_told_40 (by decide) (by decide) (by decide) (by decide) ?_
          refine lv_iload_n hx hb dX2_told_84 rfl (lv_at hl 0 rfl) ?_
          exact gIret hX hr hlk hI ⟨by rw [sTold, if_neg (fun h => h.elim ha_r1 hb_r1), hjC, if_neg c3, hiC]; first | rfl | exact hiE | (rw [hiE]; rfl), rfl⟩ dX2_told_85
        · refine lv_tableIn (tgt := 86) (off := 46) hx hb dX2_told_40 (by decide) (by decide) (by decide) (by decide) ?_
          refine lv_aload_n hx hb dX2_told_86 rfl (lv_at hl 1 rfl) ?_
          refine mGet (v := .ref (q 1)) hX hin2 hK hI 1 (by decide) (hts (.fieldLink RX2 7 "GateHallsModel" "kinds" "[I") (by decide +kernel)) rfl dX2_told_87 ?_
          refine lv_iload_n hx hb dX2_told_90 rfl (lv_at hl 0 rfl) ?_
          refine mAld (j := i) hX hK hI 1 rfl hiE (by omega) (by decide) dX2_told_91 ?_
          exact gIret hX hr hlk hI ⟨by rw [sTold, if_neg (fun h => h.elim ha_r1 hb_r1), hjC, if_neg c3, hiC]; first | rfl | exact hiE | (rw [hiE]; rfl), rfl⟩ dX2_told_92
        · refine lv_tableIn (tgt := 93) (off := 53) hx hb dX2_told_40 (by decide) (by decide) (by decide) (by decide) ?_
          refine lv_aload_n hx hb dX2_told_93 rfl (lv_at hl 1 rfl) ?_
          refine mGet (v := .ref (q 2)) hX hin2 hK hI 2 (by decide) (hts (.fieldLink RX2 13 "GateHallsModel" "fees" "[I") (by decide +kernel)) rfl dX2_told_94 ?_
          refine lv_iload_n hx hb dX2_told_97 rfl (lv_at hl 0 rfl) ?_
          refine mAld (j := i) hX hK hI 2 rfl hiE (by omega) (by decide) dX2_told_98 ?_
          exact gIret hX hr hlk hI ⟨by rw [sTold, if_neg (fun h => h.elim ha_r1 hb_r1), hjC, if_neg c3, hiC]; first | rfl | exact hiE | (rw [hiE]; rfl), rfl⟩ dX2_told_99
        · refine lv_tableIn (tgt := 100) (off := 60) hx hb dX2_told_40 (by decide) (by decide) (by decide) (by decide) ?_
          refine lv_aload_n hx hb dX2_told_100 rfl (lv_at hl 1 rfl) ?_
          refine mGet (v := .ref (q 4)) hX hin2 hK hI 4 (by decide) (hts (.fieldLink RX2 19 "GateHallsModel" "passes" "[I") (by decide +kernel)) rfl dX2_told_101 ?_
          refine lv_iload_n hx hb dX2_told_104 rfl (lv_at hl 0 rfl) ?_
          refine mAld (j := i) hX hK hI 4 rfl hiE (by omega) (by decide) dX2_told_105 ?_
          exact gIret hX hr hlk hI ⟨by rw [sTold, if_neg (fun h => h.elim ha_r1 hb_r1), hjC, if_neg c3, hiC]; first | rfl | exact hiE | (rw [hiE]; rfl), rfl⟩ dX2_told_106
        · refine lv_tableIn (tgt := 107) (off := 67) hx hb dX2_told_40 (by decide) (by decide) (by decide) (by decide) ?_
          refine lv_aload_n hx hb dX2_told_107 rfl (lv_at hl 1 rfl) ?_
          refine mGet (v := .ref (q 5)) hX hin2 hK hI 5 (by decide) (hts (.fieldLink RX2 22 "GateHallsModel" "asks" "[I") (by decide +kernel)) rfl dX2_told_108 ?_
          refine lv_iload_n hx hb dX2_told_111 rfl (lv_at hl 0 rfl) ?_
          refine mAld (j := i) hX hK hI 5 rfl hiE (by omega) (by decide) dX2_told_112 ?_
          exact gIret hX hr hlk hI ⟨by rw [sTold, if_neg (fun h => h.elim ha_r1 hb_r1), hjC, if_neg c3, hiC]; first | rfl | exact hiE | (rw [hiE]; rfl), rfl⟩ dX2_told_113
        · refine lv_tableIn (tgt := 114) (off := 74) hx hb dX2_told_40 (by decide) (by decide) (by decide) (by decide) ?_
          refine lv_aload_n hx hb dX2_told_114 rfl (lv_at hl 1 rfl) ?_
          refine mGet (v := .ref (q 6)) hX hin2 hK hI 6 (by decide) (hts (.fieldLink RX2 25 "GateHallsModel" "paid" "[I") (by decide +kernel)) rfl dX2_told_115 ?_
          refine lv_iload_n hx hb dX2_told_118 rfl (lv_at hl 0 rfl) ?_
          refine mAld (j := i) hX hK hI 6 rfl hiE (by omega) (by decide) dX2_told_119 ?_
          exact gIret hX hr hlk hI ⟨by rw [sTold, if_neg (fun h => h.elim ha_r1 hb_r1), hjC, if_neg c3, hiC]; first | rfl | exact hiE | (rw [hiE]; rfl), rfl⟩ dX2_told_120
        · refine lv_tableIn (tgt := 121) (off := 81) hx hb dX2_told_40 (by decide) (by decide) (by decide) (by decide) ?_
          refine lv_aload_n hx hb dX2_told_121 rfl (lv_at hl 1 rfl) ?_
          refine mGet (v := .ref (q 7)) hX hin2 hK hI 7 (by decide) (hts (.fieldLink RX2 28 "GateHallsModel" "inside" "[I") (by decide +kernel)) rfl dX2_told_122 ?_
          refine lv_iload_n hx hb dX2_told_125 rfl (lv_at hl 0 rfl) ?_
          refine mAld (j := i) hX hK hI 7 rfl hiE (by omega) (by decide) dX2_told_126 ?_
          exact gIret hX hr hlk hI ⟨by rw [sTold, if_neg (fun h => h.elim ha_r1 hb_r1), hjC, if_neg c3, hiC]; first | rfl | exact hiE | (rw [hiE]; rfl), rfl⟩ dX2_told_127
        · refine lv_tableOut (tgt := 128) hx hb dX2_told_40 (by decide) (by decide) ?_
          refine lv_aload_n hx hb dX2_told_128 rfl (lv_at hl 1 rfl) ?_
          refine mGet (v := .ref (q 8)) hX hin2 hK hI 8 (by decide) (hts (.fieldLink RX2 31 "GateHallsModel" "mosts" "[I") (by decide +kernel)) rfl dX2_told_129 ?_
          refine lv_iload_n hx hb dX2_told_132 rfl (lv_at hl 0 rfl) ?_
          refine mAld (j := i) hX hK hI 8 rfl hiE (by omega) (by decide) dX2_told_133 ?_
          exact gIret hX hr hlk hI ⟨by rw [sTold, if_neg (fun h => h.elim ha_r1 hb_r1), hjC, if_neg c3, hiC]; first | rfl | exact hiE | (rw [hiE]; rfl), rfl⟩ dX2_told_134
      · refine lv_if_ne (tgt := 32) hx hb dX2_told_27 (by decide) (fun c6 => False.elim (by revert c6; decide)) (fun c6 => ?_)
        refine lv_iconst (v := (-1)) hx hb dX2_told_30 (by decide) ?_
        exact gIret hX hr hlk hI ⟨by rw [sTold, if_neg (fun h => h.elim ha_r1 hb_r1), hjC, if_neg c3, zFact_out hc_r4], rfl⟩ dX2_told_31
  · refine lv_if_eq (tgt := 30) hx hb dX2_told_7 (by decide) (fun c7 => ?_) (fun c7 => False.elim (by revert c7; decide))
    refine lv_iconst (v := (-1)) hx hb dX2_told_30 (by decide) ?_
    exact gIret hX hr hlk hI ⟨by rw [sTold, if_pos hc_r1], rfl⟩ dX2_told_31
set_option maxRecDepth 100000 in
theorem iX2_rich_2 : ∀ w ∈ wsX20, w ∈ wsX2_rich := by decide +kernel
set_option maxHeartbeats 4000000 in
set_option maxRecDepth 100000 in
theorem c_X2_rich (l : Launch) (D : va_G) (cI cH : ClassId) (h : Nat) (q : Nat → Nat) (pf : Nat → Int32) (σ : gh_S) (sz : Nat) (x : Int64) : gMi l yX2_rich wsX2_rich ({ frames := 0, cells := 0, slots := 0, locals := 0 }) D (wM h q cI pf σ) (gTy cI cH) sz [.ref h, .long (x)] (fun r u => r = (zRich σ x).1 ∧ u = wM h q cI pf (zRich σ x).2) := by
  refine gEnter (cc := cX2_rich) (maxL := 5) (ret := (some .int)) (QF := fun A => va_Qi _ (gPost D A) A) (by decide) rfl (Nat.le_of_ble_eq_true rfl) ?_
  intro p e s m below meth c A ls hX hr hlk hnm hK hN hA hI hl
  have hx := hX.1
  have hb := hX.2.1
  have hts := hX.2.2.2.2
  have hown : s.vm.findClass RX2 = some m.cls := hX.2.2.2.1
  have hin2 := iX2_rich_2
  have hl : lv_has ls 5 [(0, .ref h), (1, .long (x))] := hl
  refine lv_aload_n hx hb dX2_rich_0 rfl (lv_at hl 0 rfl) ?_
  refine mGet (v := .int (σ.2 11)) hX hin2 hK hI 11 (by decide) (hts (.fieldLink RX2 57 "GateHallsModel" "purse" "I") (by decide +kernel)) rfl dX2_rich_1 ?_
  refine lv_i2l (v := Int32.toInt64 (σ.2 11)) hx hb dX2_rich_4 rfl ?_
  refine lv_lload_n hx hb dX2_rich_5 rfl (lv_at hl 1 rfl) ?_
  refine lv_ladd hx hb dX2_rich_6 ?_
  refine lv_lstore_n (lv' := [(3, .long ((Int32.toInt64 (σ.2 11)) + (x))), (0, .ref h), (1, .long (x))]) hx hb dX2_rich_7 rfl hl (by decide) rfl (fun ls hl => ?_)
  refine lv_lload_n hx hb dX2_rich_8 rfl (lv_at hl 0 rfl) ?_
  refine lv_lconst (v := 0) hx hb dX2_rich_9 (by decide) ?_
  refine W.lcmp hx hb dX2_rich_10 ?_
  refine lv_if_lt (tgt := 22) hx hb dX2_rich_11 (by decide) (fun c1 => ?_) (fun c1 => ?_)
  · refine lv_bipush (v := 22) hx hb dX2_rich_22 (by decide) ?_
    exact gIret hX hr hlk hI (by rw [zRich, if_pos c1]; exact ⟨rfl, rfl⟩) dX2_rich_24
  · refine lv_lload_n hx hb dX2_rich_14 rfl (lv_at hl 0 rfl) ?_
    refine lv_ldc2 (v := 1000000) hx hb hown (hts (.constantLong RX2 84 (1000000)) (by decide +kernel)) dX2_rich_15 ?_
    refine W.lcmp hx hb dX2_rich_18 ?_
    refine lv_if_le (tgt := 25) hx hb dX2_rich_19 (by decide) (fun c2 => ?_) (fun c2 => ?_)
    · refine lv_aload_n hx hb dX2_rich_25 rfl (lv_at hl 1 rfl) ?_
      refine lv_lload_n hx hb dX2_rich_26 rfl (lv_at hl 0 rfl) ?_
      refine lv_l2i (v := Int64.toInt32 ((Int32.toInt64 (σ.2 11)) + (x))) hx hb dX2_rich_27 rfl ?_
      refine mPut hX hin2 hK hI 11 (by decide) (hts (.fieldLink RX2 57 "GateHallsModel" "purse" "I") (by decide +kernel)) rfl rfl rfl dX2_rich_28 (fun H locs hI => ?_)
      refine lv_iconst (v := 0) hx hb dX2_rich_31 (by decide) ?_
      exact gIret hX hr hlk hI (by rw [zRich, if_neg c1, if_pos c2]; exact ⟨rfl, rfl⟩) dX2_rich_32
    · refine lv_bipush (v := 22) hx hb dX2_rich_22 (by decide) ?_
      exact gIret hX hr hlk hI (by rw [zRich, if_neg c1, if_neg c2]; exact ⟨rfl, rfl⟩) dX2_rich_24
