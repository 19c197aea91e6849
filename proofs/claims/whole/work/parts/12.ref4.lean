set_option maxRecDepth 100000 in
theorem iX2_goesOn_2 : ∀ w ∈ wsX20, w ∈ wsX2_goesOn := by decide +kernel
set_option maxHeartbeats 4000000 in
set_option maxRecDepth 100000 in
theorem c_X2_goesOn (l : Launch) (D : va_G) (cI cH : ClassId) (h : Nat) (q : Nat → Nat) (pf : Nat → Int32) (σ : gh_S) (sz : Nat) (x : Int32) (n w : Nat) (hw20 : w + 20 ≤ 30) (hg : gI n w σ) : gMi l yX2_goesOn wsX2_goesOn ({ frames := 3, cells := 0, slots := 0, locals := 68 }) D (wM h q cI pf σ) (gTy cI cH) sz [.ref h, .int (x)] (fun r u => ∃ pf' : Nat → Int32, r = (zDoes σ 5 x).1 ∧ u = wM h q cI pf' (zDoes σ 5 x).2) := by
  refine gEnter (cc := cX2_goesOn) (maxL := 7) (ret := (some .int)) (QF := fun A => va_Qi _ (gPost D A) A) (by decide) rfl (Nat.le_of_ble_eq_true rfl) ?_
  intro p e s m below meth c A ls hX hr hlk hnm hK hN hA hI hl
  have hx := hX.1
  have hb := hX.2.1
  have hts := hX.2.2.2.2
  have hown : s.vm.findClass RX2 = some m.cls := hX.2.2.2.1
  have hin2 := iX2_goesOn_2
  have hl : lv_has ls 7 [(0, .ref h), (1, .int (x))] := hl
  obtain ⟨hn, hw, ⟨t, ht, htE⟩, hpl, hpar, hrow, hn4, hw30, hz⟩ := id hg
  refine lv_aload_n hx hb dX2_goesOn_0 rfl (lv_at hl 0 rfl) ?_
  refine mGet (v := .int (σ.2 17)) hX hin2 hK hI 17 (by decide) (hts (.fieldLink RX2 68 "GateHallsModel" "within" "I") (by decide +kernel)) rfl dX2_goesOn_1 ?_
  refine gTop (y := nI w) hw ?_
  refine lv_istore_n (lv' := [(2, .int (nI w)), (0, .ref h), (1, .int (x))]) hx hb dX2_goesOn_4 rfl hl (by decide) rfl (fun ls hl => ?_)
  refine lv_iconst (v := 1) hx hb dX2_goesOn_5 (by decide) ?_
  refine lv_istore_n (lv' := [(3, .int (1)), (2, .int (nI w)), (0, .ref h), (1, .int (x))]) hx hb dX2_goesOn_6 rfl hl (by decide) rfl (fun ls hl => ?_)
  refine lv_iload_n hx hb dX2_goesOn_7 rfl (lv_at hl 3 rfl) ?_
  refine lv_istore (lv' := [(4, .int (x)), (3, .int (1)), (2, .int (nI w)), (0, .ref h), (1, .int (x))]) hx hb dX2_goesOn_8 hl (by decide) rfl (fun ls hl => ?_)
  refine lv_iconst (v := 1) hx hb dX2_goesOn_10 (by decide) ?_
  refine lv_istore (lv' := [(5, .int (1)), (4, .int (x)), (3, .int (1)), (2, .int (nI w)), (0, .ref h), (1, .int (x))]) hx hb dX2_goesOn_11 hl (by decide) rfl (fun ls hl => ?_)
  have loop : ∀ (f a w' : Nat) (mm : Int32) (τ : gh_S) (pf : Nat → Int32) (H : Heap) (locs : List Loc) (ls : Array Slot), a + f = 3 → f ≤ 2 → w ≤ w' → w' + 10 * f ≤ 30 → gI n w' τ → zOn f τ mm = zOn 2 σ x → InW D A s.heap (wM h q cI pf τ) H locs → lv_has ls 7 [(0, .ref h), (2, .int (nI w)), (3, .int (nI a)), (4, .int (mm)), (5, .int (1))] → W p l e ({ frames := 3, cells := 0, slots := 0, locals := 68 }) s m ([.ref h, .int (x)] : List Value).toArray below meth c H locs 0 0 (MQ below (va_Qi (fun r u => ∃ pf' : Nat → Int32, r = (zDoes σ 5 x).1 ∧ u = wM h q cI pf' (zDoes σ 5 x).2) (gPost D A) A) ([.ref h, .int (x)] : List Value).toArray s 0 0 A) (F0 m 13 ls []) := by
    intro f
    induction f with
    | zero =>
      intro a w' mm τ pf H locs ls ha hf hww hw30' hgT hE hI hl
      refine lv_iload hx hb dX2_goesOn_13 (lv_at hl 4 rfl) ?_
      refine lv_if_eq (tgt := 69) hx hb dX2_goesOn_15 (by decide) (fun c1 => False.elim (by revert c1; decide)) (fun c1 => ?_)
      refine lv_iload_n hx hb dX2_goesOn_18 rfl (lv_at hl 2 rfl) ?_
      refine lv_iconst (v := 3) hx hb dX2_goesOn_19 (by decide) ?_
      refine lv_icmp_ne (tgt := 25) hx hb dX2_goesOn_20 (by decide) (fun c2 => absurd (show nI a = 3 by rw [show a = 3 by omega]; rfl) c2) (fun c2 => ?_)
      refine lv_iconst (v := 2) hx hb dX2_goesOn_23 (by decide) ?_
      exact gIret hX hr hlk hI ⟨pf, by rw [zDoes5, ← hE, zOn, if_neg (show ¬ (2 : Int32) = 0 by decide)], by rw [zDoes5, ← hE, zOn, if_neg (show ¬ (2 : Int32) = 0 by decide)]⟩ dX2_goesOn_24
    | succ f ih =>
      intro a w' mm τ pf H locs ls ha hf hww hw30' hgT hE hI hl
      refine lv_iload hx hb dX2_goesOn_13 (lv_at hl 4 rfl) ?_
      refine lv_if_eq (tgt := 69) hx hb dX2_goesOn_15 (by decide) (fun c3 => False.elim (by revert c3; decide)) (fun c3 => ?_)
      refine lv_iload_n hx hb dX2_goesOn_18 rfl (lv_at hl 2 rfl) ?_
      refine lv_iconst (v := 3) hx hb dX2_goesOn_19 (by decide) ?_
      refine lv_icmp_ne (tgt := 25) hx hb dX2_goesOn_20 (by decide) (fun c4 => ?_) (fun c4 => absurd c4 (fun z => by have := (nI_eq (a := a) (b := 3) (by omega) (by omega)).mp z; omega))
      refine lv_aload_n hx hb dX2_goesOn_25 rfl (lv_at hl 0 rfl) ?_
      refine lv_iload hx hb dX2_goesOn_26 (lv_at hl 3 rfl) ?_
      refine vp_callSi (W.runS (As := [.int (mm)]) (rest := [.ref h]) hX (c_X2_ten l (mm)) (va_cwS 1 hts gX2_goesOn_X2_ten rfl rfl rfl (by decide +kernel) ⟨Nat.le_of_ble_eq_true rfl, Nat.le_of_ble_eq_true rfl⟩) preEq rfl rfl hl.1 rfl (lv_room (Nat.le_of_ble_eq_true rfl)) dX2_goesOn_28 ⟨Nat.le_of_ble_eq_true rfl, Nat.le_of_ble_eq_true rfl⟩) (fun r5 hr5 => ?_)
      obtain ⟨j, hj, hjE⟩ := zTen_in mm
      refine gTop (y := nI j) (hr5.trans hjE) ?_
      refine gCalli (va_runV (As := [.int (nI j)]) (rest := []) hX (c_X2_goTo l D cI cH h q pf τ H.size j n w' hj (by omega) hgT) (cwV 1 hts gX2_goesOn_X2_goTo rfl rfl rfl (by decide +kernel) ⟨Nat.le_of_ble_eq_true rfl, Nat.le_of_ble_eq_true rfl⟩) ⟨gPre_blind, gRecv hI hK (ci := 2) (q0 := 0) rfl rfl, gPre_ok hI hK hN⟩ rfl rfl hl.1 rfl (lv_room (Nat.le_of_ble_eq_true rfl)) dX2_goesOn_31 ⟨Nat.zero_le _, Nat.zero_le _⟩) hI hA (fun r6 ur6 H locs hr6 hI => ?_)
      obtain ⟨pf', hr6, rfl⟩ := hr6
      obtain ⟨w2, hw21, hw22, hg2, -⟩ := gI_go (n := n) (w := w') (p := nI j) (by omega) ⟨j, hj, rfl⟩ hgT
      rw [← hjE] at hr6 hg2 hI
      refine lv_istore (lv' := [(6, .int (r6)), (0, .ref h), (2, .int (nI w)), (3, .int (nI a)), (4, .int (mm)), (5, .int (1))]) hx hb dX2_goesOn_34 hl (by decide) rfl (fun ls hl => ?_)
      refine lv_iload hx hb dX2_goesOn_36 (lv_at hl 0 rfl) ?_
      refine lv_if_eq (tgt := 44) hx hb dX2_goesOn_38 (by decide) (fun c7 => ?_) (fun c7 => ?_)
      · refine lv_iinc (v := nI (a + 1)) (lv' := [(3, .int (nI (a + 1))), (6, .int (r6)), (0, .ref h), (2, .int (nI w)), (4, .int (mm)), (5, .int (1))]) hx hb dX2_goesOn_44 hl (k := 3) rfl (nI_1 _) (by decide) rfl (fun ls hl => ?_)
        refine lv_iload hx hb dX2_goesOn_47 (lv_at hl 4 rfl) ?_
        refine lv_bipush (v := 10) hx hb dX2_goesOn_49 (by decide) ?_
        refine lv_idiv hx hb dX2_goesOn_51 (by decide) ?_
        refine lv_istore (lv' := [(4, .int ((mm) / (10))), (3, .int (nI (a + 1))), (6, .int (r6)), (0, .ref h), (2, .int (nI w)), (5, .int (1))]) hx hb dX2_goesOn_52 hl (by decide) rfl (fun ls hl => ?_)
        refine lv_iload hx hb dX2_goesOn_54 (lv_at hl 0 rfl) ?_
        refine lv_if_eq (tgt := 63) hx hb dX2_goesOn_56 (by decide) (fun c8 => ?_) (fun c8 => ?_)
        · refine lv_iconst (v := 0) hx hb dX2_goesOn_63 (by decide) ?_
          refine lv_istore (lv' := [(5, .int (0)), (4, .int ((mm) / (10))), (3, .int (nI (a + 1))), (6, .int (r6)), (0, .ref h), (2, .int (nI w))]) hx hb dX2_goesOn_64 hl (by decide) rfl (fun ls hl => ?_)
          refine lv_goto (tgt := 13) hx hb dX2_goesOn_66 (by decide) ?_
          refine lv_iload hx hb dX2_goesOn_13 (lv_at hl 0 rfl) ?_
          refine lv_if_eq (tgt := 69) hx hb dX2_goesOn_15 (by decide) (fun c9 => ?_) (fun c9 => False.elim (by revert c9; decide))
          refine lv_aload_n hx hb dX2_goesOn_69 rfl (lv_at hl 4 rfl) ?_
          refine lv_iload_n hx hb dX2_goesOn_70 rfl (lv_at hl 5 rfl) ?_
          refine gCallv (va_runV (As := [.int (nI w)]) (rest := []) hX (c_X2_leaveTo l D cI cH h q pf' (zGo τ (zTen mm)).2 H.size w n w2 (by omega) hg2) (cwV 1 hts gX2_goesOn_X2_leaveTo rfl rfl rfl (by decide +kernel) ⟨Nat.le_of_ble_eq_true rfl, Nat.le_of_ble_eq_true rfl⟩) ⟨gPre_blind, gRecv hI hK (ci := 2) (q0 := 0) rfl rfl, gPre_ok hI hK hN⟩ rfl rfl hl.1 rfl (lv_room (Nat.le_of_ble_eq_true rfl)) dX2_goesOn_71 ⟨Nat.zero_le _, Nat.zero_le _⟩) hI hA (fun ur10 H locs hr10 hI => ?_)
          subst hr10
          refine lv_iconst (v := 0) hx hb dX2_goesOn_74 (by decide) ?_
          exact gIret hX hr hlk hI ⟨pf', by rw [zDoes5, ← hE, zOn, if_pos (c := (zGo τ (zTen mm)).1 = 0) (by rw [← hr6]; exact c7), if_pos c8, if_pos (by rw [← hr6]; exact c7), zW_of hg2, zW_of hg], by rw [zDoes5, ← hE, zOn, if_pos (c := (zGo τ (zTen mm)).1 = 0) (by rw [← hr6]; exact c7), if_pos c8, if_pos (by rw [← hr6]; exact c7), zW_of hg2, zW_of hg]⟩ dX2_goesOn_75
        · refine lv_iconst (v := 1) hx hb dX2_goesOn_59 (by decide) ?_
          refine lv_goto (tgt := 64) hx hb dX2_goesOn_60 (by decide) ?_
          refine lv_istore (lv' := [(5, .int (1)), (4, .int ((mm) / (10))), (3, .int (nI (a + 1))), (6, .int (r6)), (0, .ref h), (2, .int (nI w))]) hx hb dX2_goesOn_64 hl (by decide) rfl (fun ls hl => ?_)
          refine lv_goto (tgt := 13) hx hb dX2_goesOn_66 (by decide) ?_
          exact ih (a + 1) w2 _ _ pf' _ _ ls (by omega) (by omega) (by omega) (by omega) hg2 (by rw [← hE, zOn, if_pos (c := (zGo τ (zTen mm)).1 = 0) (by rw [← hr6]; exact c7), if_neg c8]) hI (lv_sub hl [4, 5, 2, 1, 0] rfl)
      · refine lv_iload hx hb dX2_goesOn_41 (lv_at hl 0 rfl) ?_
        exact gIret hX hr hlk hI ⟨pf', by rw [zDoes5, ← hE, zOn, if_neg (c := (zGo τ (zTen mm)).1 = 0) (by rw [← hr6]; exact c7), if_neg (by rw [← hr6]; exact c7)]; exact hr6, by rw [zDoes5, ← hE, zOn, if_neg (c := (zGo τ (zTen mm)).1 = 0) (by rw [← hr6]; exact c7), if_neg (by rw [← hr6]; exact c7)]⟩ dX2_goesOn_43
  exact loop 2 1 w x σ pf _ _ ls (by omega) (by omega) (Nat.le_refl _) (by omega) hg rfl hI (lv_sub hl [4, 3, 2, 1, 0] rfl)
set_option maxRecDepth 100000 in
theorem iX2_does_2 : ∀ w ∈ wsX20, w ∈ wsX2_does := by decide +kernel
set_option maxHeartbeats 4000000 in
set_option maxRecDepth 100000 in
theorem c_X2_does (l : Launch) (D : va_G) (cI cH : ClassId) (h : Nat) (q : Nat → Nat) (pf : Nat → Int32) (σ : gh_S) (sz : Nat) (x y : Int32) (n w : Nat) (hw1 : 0 < w) (hw10 : w ≤ 10) (hg : gI n w σ) : gMi l yX2_does wsX2_does ({ frames := 4, cells := 0, slots := 0, locals := 94 }) D (wM h q cI pf σ) (gTy cI cH) sz [.ref h, .int (x), .int (y)] (fun r u => ∃ pf' : Nat → Int32, r = (zDoes σ x y).1 ∧ u = wM h q cI pf' (zDoes σ x y).2) := by
  refine gEnter (cc := cX2_does) (maxL := 4) (ret := (some .int)) (QF := fun A => va_Qi _ (gPost D A) A) (by decide) rfl (Nat.le_of_ble_eq_true rfl) ?_
  intro p e s m below meth c A ls hX hr hlk hnm hK hN hA hI hl
  have hx := hX.1
  have hb := hX.2.1
  have hts := hX.2.2.2.2
  have hown : s.vm.findClass RX2 = some m.cls := hX.2.2.2.1
  have hin2 := iX2_does_2
  have hl : lv_has ls 4 [(0, .ref h), (1, .int (x)), (2, .int (y))] := hl
  obtain ⟨hn, hw, ⟨t, ht, htE⟩, hpl, hpar, hrow, hn4, hw30, hz⟩ := id hg
  obtain ⟨i, hi, hIn, hiE, e1⟩ := zInner_of hw1 hg
  refine lv_aload_n hx hb dX2_does_0 rfl (lv_at hl 0 rfl) ?_
  refine mGet (v := .ref (q 18)) hX hin2 hK hI 18 (by decide) (hts (.fieldLink RX2 43 "GateHallsModel" "row" "[I") (by decide +kernel)) rfl dX2_does_1 ?_
  refine lv_aload_n hx hb dX2_does_4 rfl (lv_at hl 0 rfl) ?_
  refine mGet (v := .int (σ.2 17)) hX hin2 hK hI 17 (by decide) (hts (.fieldLink RX2 68 "GateHallsModel" "within" "I") (by decide +kernel)) rfl dX2_does_5 ?_
  refine lv_iconst (v := 1) hx hb dX2_does_8 (by decide) ?_
  refine lv_isub hx hb dX2_does_9 ?_
  refine mAld (j := w - 1) hX hK hI 12 rfl e1 (by omega) (by decide) dX2_does_10 ?_
  refine lv_istore_n (lv' := [(3, .int (σ.1 18 (w - 1))), (0, .ref h), (1, .int (x)), (2, .int (y))]) hx hb dX2_does_11 rfl hl (by decide) rfl (fun ls hl => ?_)
  refine lv_iload_n hx hb dX2_does_12 rfl (lv_at hl 2 rfl) ?_
  rcases g_sw17 x with h1 | rfl | rfl | rfl | rfl | rfl | rfl | rfl
  · refine lv_tableOut (tgt := 156) hx hb dX2_does_13 h1 (by decide) ?_
    refine lv_iconst (v := 0) hx hb dX2_does_156 (by decide) ?_
    exact gIret hX hr hlk hI ⟨pf, by rw [zDoes_out h1], by rw [zDoes_out h1]⟩ dX2_does_157
  · refine lv_tableIn (tgt := 56) (off := 43) hx hb dX2_does_13 (by decide) (by decide) (by decide) (by decide) ?_
    refine lv_aload_n hx hb dX2_does_56 rfl (lv_at hl 1 rfl) ?_
    refine mGet (v := .ref (q 3)) hX hin2 hK hI 3 (by decide) (hts (.fieldLink RX2 16 "GateHallsModel" "gifts" "[I") (by decide +kernel)) rfl dX2_does_57 ?_
    refine lv_iload_n hx hb dX2_does_60 rfl (lv_at hl 0 rfl) ?_
    refine lv_aload_n hx hb dX2_does_61 rfl (lv_at hl 1 rfl) ?_
    refine mGet (v := .ref (q 3)) hX hin2 hK hI 3 (by decide) (hts (.fieldLink RX2 16 "GateHallsModel" "gifts" "[I") (by decide +kernel)) rfl dX2_does_62 ?_
    refine lv_iload_n hx hb dX2_does_65 rfl (lv_at hl 0 rfl) ?_
    refine mAld (j := i) hX hK hI 3 rfl hiE (by omega) (by decide) dX2_does_66 ?_
    refine lv_iload_n hx hb dX2_does_67 rfl (lv_at hl 3 rfl) ?_
    refine lv_iadd hx hb dX2_does_68 ?_
    refine mAst (j := i) (pf' := pf) (σ' := (uA σ 3 (i) ((σ.1 3 (i)) + (y)))) hX hK hI 3 rfl hiE (by omega) (by decide) rfl dX2_does_69 (fun H locs hI => ?_)
    refine lv_iconst (v := 0) hx hb dX2_does_70 (by decide) ?_
    exact gIret hX hr hlk hI ⟨pf, by rw [zDoes_deed (by decide) hIn]; rfl, by rw [zDoes_deed (by decide) hIn]; rfl⟩ dX2_does_71
  · refine lv_tableIn (tgt := 72) (off := 59) hx hb dX2_does_13 (by decide) (by decide) (by decide) (by decide) ?_
    refine lv_aload_n hx hb dX2_does_72 rfl (lv_at hl 1 rfl) ?_
    refine lv_aload_n hx hb dX2_does_73 rfl (lv_at hl 1 rfl) ?_
    refine mGet (v := .ref (q 3)) hX hin2 hK hI 3 (by decide) (hts (.fieldLink RX2 16 "GateHallsModel" "gifts" "[I") (by decide +kernel)) rfl dX2_does_74 ?_
    refine lv_iload_n hx hb dX2_does_77 rfl (lv_at hl 0 rfl) ?_
    refine mAld (j := i) hX hK hI 3 rfl hiE (by omega) (by decide) dX2_does_78 ?_
    refine lv_i2l (v := Int32.toInt64 (σ.1 3 (i))) hx hb dX2_does_79 rfl ?_
    refine gCalli (va_runV (As := [.long (Int32.toInt64 (σ.1 3 (i)))]) (rest := []) hX (c_X2_rich l D cI cH h q pf σ _ (Int32.toInt64 (σ.1 3 (i)))) (cwV 1 hts gX2_does_X2_rich rfl rfl rfl (by decide +kernel) ⟨Nat.le_of_ble_eq_true rfl, Nat.le_of_ble_eq_true rfl⟩) ⟨gPre_blind, gRecv hI hK (ci := 2) (q0 := 0) rfl rfl, gPre_ok hI hK hN⟩ rfl rfl hl.1 rfl (lv_room (Nat.le_of_ble_eq_true rfl)) dX2_does_80 ⟨Nat.zero_le _, Nat.zero_le _⟩) hI hA (fun r2 ur2 H locs hr2 hI => ?_)
    obtain ⟨hr2, rfl⟩ := hr2
    refine lv_if_eq (tgt := 89) hx hb dX2_does_83 (by decide) (fun c3 => ?_) (fun c3 => ?_)
    · refine lv_aload_n hx hb dX2_does_89 rfl (lv_at hl 1 rfl) ?_
      refine mGet (v := .ref (q 3)) hX hin2 hK hI 3 (by decide) (hts (.fieldLink RX2 16 "GateHallsModel" "gifts" "[I") (by decide +kernel)) rfl dX2_does_90 ?_
      refine lv_iload_n hx hb dX2_does_93 rfl (lv_at hl 0 rfl) ?_
      refine lv_iconst (v := 0) hx hb dX2_does_94 (by decide) ?_
      refine mAst (j := i) (pf' := pf) (σ' := (uA (zRich σ (Int32.toInt64 (σ.1 3 (i)))).2 3 (i) (0))) hX hK hI 3 rfl hiE (by omega) (by decide) rfl dX2_does_95 (fun H locs hI => ?_)
      refine lv_iconst (v := 0) hx hb dX2_does_96 (by decide) ?_
      exact gIret hX hr hlk hI ⟨pf, by rw [zDoes_deed (by decide) hIn]; unfold zDeed; rw [if_neg (by decide), if_pos rfl, if_pos (show (zRich σ (σ.1 3 i).toInt64).1 = 0 by rw [← hr2]; exact c3)], by rw [zDoes_deed (by decide) hIn]; unfold zDeed; rw [if_neg (by decide), if_pos rfl, if_pos (show (zRich σ (σ.1 3 i).toInt64).1 = 0 by rw [← hr2]; exact c3)]⟩ dX2_does_97
    · refine lv_bipush (v := 22) hx hb dX2_does_86 (by decide) ?_
      exact gIret hX hr hlk hI ⟨pf, by rw [zDoes_deed (by decide) hIn]; unfold zDeed; rw [if_neg (by decide), if_pos rfl, if_neg (show ¬ (zRich σ (σ.1 3 i).toInt64).1 = 0 by rw [← hr2]; exact c3)], by rw [zDoes_deed (by decide) hIn]; unfold zDeed; rw [if_neg (by decide), if_pos rfl, if_neg (show ¬ (zRich σ (σ.1 3 i).toInt64).1 = 0 by rw [← hr2]; exact c3)]; rw [zRich_fail (by rw [← hr2]; exact c3)]⟩ dX2_does_88
  · refine lv_tableIn (tgt := 98) (off := 85) hx hb dX2_does_13 (by decide) (by decide) (by decide) (by decide) ?_
    refine lv_iload_n hx hb dX2_does_98 rfl (lv_at hl 3 rfl) ?_
    refine lv_if_ne (tgt := 105) hx hb dX2_does_99 (by decide) (fun c4 => ?_) (fun c4 => ?_)
    · refine lv_aload_n hx hb dX2_does_105 rfl (lv_at hl 1 rfl) ?_
      refine mGet (v := .ref (q 3)) hX hin2 hK hI 3 (by decide) (hts (.fieldLink RX2 16 "GateHallsModel" "gifts" "[I") (by decide +kernel)) rfl dX2_does_106 ?_
      refine lv_iload_n hx hb dX2_does_109 rfl (lv_at hl 0 rfl) ?_
      refine lv_aload_n hx hb dX2_does_110 rfl (lv_at hl 1 rfl) ?_
      refine mGet (v := .ref (q 3)) hX hin2 hK hI 3 (by decide) (hts (.fieldLink RX2 16 "GateHallsModel" "gifts" "[I") (by decide +kernel)) rfl dX2_does_111 ?_
      refine lv_iload_n hx hb dX2_does_114 rfl (lv_at hl 0 rfl) ?_
      refine mAld (j := i) hX hK hI 3 rfl hiE (by omega) (by decide) dX2_does_115 ?_
      refine lv_iload_n hx hb dX2_does_116 rfl (lv_at hl 3 rfl) ?_
      refine lv_idiv hx hb dX2_does_117 c4 ?_
      refine mAst (j := i) (pf' := pf) (σ' := (uA σ 3 (i) ((σ.1 3 (i)) / (y)))) hX hK hI 3 rfl hiE (by omega) (by decide) rfl dX2_does_118 (fun H locs hI => ?_)
      refine lv_iconst (v := 0) hx hb dX2_does_119 (by decide) ?_
      exact gIret hX hr hlk hI ⟨pf, by rw [zDoes_deed (by decide) hIn]; unfold zDeed; rw [if_neg (by decide), if_neg (by decide), if_pos rfl, if_neg c4], by rw [zDoes_deed (by decide) hIn]; unfold zDeed; rw [if_neg (by decide), if_neg (by decide), if_pos rfl, if_neg c4]⟩ dX2_does_120
    · refine lv_bipush (v := 6) hx hb dX2_does_102 (by decide) ?_
      exact gIret hX hr hlk hI ⟨pf, by rw [zDoes_deed (by decide) hIn]; unfold zDeed; rw [if_neg (by decide), if_neg (by decide), if_pos rfl, if_pos c4], by rw [zDoes_deed (by decide) hIn]; unfold zDeed; rw [if_neg (by decide), if_neg (by decide), if_pos rfl, if_pos c4]⟩ dX2_does_104
  · refine lv_tableIn (tgt := 121) (off := 108) hx hb dX2_does_13 (by decide) (by decide) (by decide) (by decide) ?_
    refine lv_aload_n hx hb dX2_does_121 rfl (lv_at hl 1 rfl) ?_
    refine mGet (v := .ref (q 9)) hX hin2 hK hI 9 (by decide) (hts (.fieldLink RX2 34 "GateHallsModel" "places" "[I") (by decide +kernel)) rfl dX2_does_122 ?_
    refine lv_iload_n hx hb dX2_does_125 rfl (lv_at hl 3 rfl) ?_
    refine vp_callSi (W.runS (As := [.int (y)]) (rest := [.ref (q 9)]) hX (c_X2_ten l (y)) (va_cwS 1 hts gX2_does_X2_ten rfl rfl rfl (by decide +kernel) ⟨Nat.le_of_ble_eq_true rfl, Nat.le_of_ble_eq_true rfl⟩) preEq rfl rfl hl.1 rfl (lv_room (Nat.le_of_ble_eq_true rfl)) dX2_does_126 ⟨Nat.le_of_ble_eq_true rfl, Nat.le_of_ble_eq_true rfl⟩) (fun r5 hr5 => ?_)
    obtain ⟨j, hj, hjE⟩ := zTen_in y
    have hjC : (zTen y).toNatClampNeg = j := by rw [hjE]; exact nI_clamp (by omega)
    refine lv_iconst (v := (-1)) hx hb dX2_does_129 (by decide) ?_
    refine mAst (j := j) (pf' := pf) (σ' := (uA σ 9 (j) ((-1)))) hX hK hI 9 rfl (hr5.trans hjE) (by omega) (by decide) rfl dX2_does_130 (fun H locs hI => ?_)
    refine lv_iconst (v := 0) hx hb dX2_does_131 (by decide) ?_
    exact gIret hX hr hlk hI ⟨pf, by rw [zDoes_deed (by decide) hIn]; unfold zDeed; rw [if_neg (by decide), if_neg (by decide), if_neg (by decide), if_pos rfl], by rw [zDoes_deed (by decide) hIn]; unfold zDeed; rw [if_neg (by decide), if_neg (by decide), if_neg (by decide), if_pos rfl]; rw [hjC]⟩ dX2_does_132
  · refine lv_tableIn (tgt := 133) (off := 120) hx hb dX2_does_13 (by decide) (by decide) (by decide) (by decide) ?_
    refine lv_aload_n hx hb dX2_does_133 rfl (lv_at hl 1 rfl) ?_
    refine lv_iload_n hx hb dX2_does_134 rfl (lv_at hl 3 rfl) ?_
    refine gCalli (va_runV (As := [.int (y)]) (rest := []) hX (c_X2_goesOn l D cI cH h q pf σ _ y n w (by omega) hg) (cwV 1 hts gX2_does_X2_goesOn rfl rfl rfl (by decide +kernel) ⟨Nat.le_of_ble_eq_true rfl, Nat.le_of_ble_eq_true rfl⟩) ⟨gPre_blind, gRecv hI hK (ci := 2) (q0 := 0) rfl rfl, gPre_ok hI hK hN⟩ rfl rfl hl.1 rfl (lv_room (Nat.le_of_ble_eq_true rfl)) dX2_does_135 ⟨Nat.zero_le _, Nat.zero_le _⟩) hI hA (fun r6 ur6 H locs hr6 hI => ?_)
    obtain ⟨pf', hr6, rfl⟩ := hr6
    exact gIret hX hr hlk hI ⟨pf', hr6, rfl⟩ dX2_does_138
  · refine lv_tableIn (tgt := 139) (off := 126) hx hb dX2_does_13 (by decide) (by decide) (by decide) (by decide) ?_
    refine lv_bipush (v := 20) hx hb dX2_does_139 (by decide) ?_
    refine lv_iload_n hx hb dX2_does_141 rfl (lv_at hl 3 rfl) ?_
    refine lv_iconst (v := 3) hx hb dX2_does_142 (by decide) ?_
    refine lv_iand hx hb dX2_does_143 ?_
    refine lv_iadd hx hb dX2_does_144 ?_
    exact gIret hX hr hlk hI ⟨pf, by rw [zDoes_deed (by decide) hIn]; unfold zDeed; rw [if_neg (by decide), if_neg (by decide), if_neg (by decide), if_neg (by decide), if_pos rfl], by rw [zDoes_deed (by decide) hIn]; unfold zDeed; rw [if_neg (by decide), if_neg (by decide), if_neg (by decide), if_neg (by decide), if_pos rfl]⟩ dX2_does_145
  · refine lv_tableIn (tgt := 146) (off := 133) hx hb dX2_does_13 (by decide) (by decide) (by decide) (by decide) ?_
    refine lv_aload_n hx hb dX2_does_146 rfl (lv_at hl 1 rfl) ?_
    refine lv_aload_n hx hb dX2_does_147 rfl (lv_at hl 1 rfl) ?_
    refine mGet (v := .int (σ.2 17)) hX hin2 hK hI 17 (by decide) (hts (.fieldLink RX2 68 "GateHallsModel" "within" "I") (by decide +kernel)) rfl dX2_does_148 ?_
    refine lv_i2l (v := Int32.toInt64 (σ.2 17)) hx hb dX2_does_151 rfl ?_
    refine gCalli (va_runV (As := [.long (Int32.toInt64 (σ.2 17))]) (rest := []) hX (c_X2_rich l D cI cH h q pf σ _ (Int32.toInt64 (σ.2 17))) (cwV 1 hts gX2_does_X2_rich rfl rfl rfl (by decide +kernel) ⟨Nat.le_of_ble_eq_true rfl, Nat.le_of_ble_eq_true rfl⟩) ⟨gPre_blind, gRecv hI hK (ci := 2) (q0 := 0) rfl rfl, gPre_ok hI hK hN⟩ rfl rfl hl.1 rfl (lv_room (Nat.le_of_ble_eq_true rfl)) dX2_does_152 ⟨Nat.zero_le _, Nat.zero_le _⟩) hI hA (fun r7 ur7 H locs hr7 hI => ?_)
    obtain ⟨hr7, rfl⟩ := hr7
    exact gIret hX hr hlk hI ⟨pf, by rw [zDoes_deed (by decide) hIn]; unfold zDeed; rw [if_neg (by decide), if_neg (by decide), if_neg (by decide), if_neg (by decide), if_neg (by decide), if_pos rfl]; exact hr7, by rw [zDoes_deed (by decide) hIn]; unfold zDeed; rw [if_neg (by decide), if_neg (by decide), if_neg (by decide), if_neg (by decide), if_neg (by decide), if_pos rfl]⟩ dX2_does_155
