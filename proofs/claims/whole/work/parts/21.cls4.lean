set_option maxRecDepth 100000 in
theorem iX1_walkTo_1 : ∀ w ∈ wsX10, w ∈ wsX1_walkTo := by decide +kernel
set_option maxRecDepth 100000 in
theorem iX1_doDeed_0 : ∀ w ∈ wsX00, w ∈ wsX1_doDeed := by decide +kernel
set_option maxRecDepth 100000 in
theorem iX1_doDeed_1 : ∀ w ∈ wsX10, w ∈ wsX1_doDeed := by decide +kernel
theorem zDeed2 {σ : gh_S} {i : Nat} {y : Int32} : zDeed σ i 2 y = (if (zRich σ (σ.1 3 i).toInt64).1 = 0 then (0, uA (zRich σ (σ.1 3 i).toInt64).2 3 i 0) else (22, σ)) := by
  unfold zDeed
  rw [if_neg (by decide), if_pos rfl]
theorem zDeed3 {σ : gh_S} {i : Nat} {y : Int32} : zDeed σ i 3 y = (if y = 0 then (6, σ) else (0, uA σ 3 i (σ.1 3 i / y))) := by
  unfold zDeed
  rw [if_neg (by decide), if_neg (by decide), if_pos rfl]
theorem zGo_none8 {σ : gh_S} {p : Int32} (h : ∀ j, j ≤ 10 → zOrb (σ.1 10) p j ≠ -1) : zGo σ p = (8, uS σ 15 (σ.2 15 + 1)) := by
  unfold zGo
  rw [zLen_no h]
set_option maxHeartbeats 4000000 in
set_option maxRecDepth 100000 in
theorem c_walkTo_0 (l : Launch) (D : va_G) (cI cH : ClassId) (g : Nat) (q : Nat → Nat) (ad : Nat → Nat) (pf : Nat → Int32) (n : Nat) (σ : gh_S) (sz : Nat) (p0 w : Nat) (x y : Int32) (hp : p0 < 10) (hw10 : w + 10 * 0 ≤ 30) (hg : gI n w σ) (hkd : gKd n σ) : gMi l yX1_walkTo wsX1_walkTo ({ frames := 0, cells := 0, slots := 0, locals := 0 }) D (wCn g q cI cH ad pf n σ) (gTy cI cH) sz [.ref g, .int (nI p0), .int (x), .int (y), .int (3)] (fun r u => ∃ pf' : Nat → Int32, r = (zWT 0 σ (nI p0) x y).1 ∧ u = wCn g q cI cH ad pf' n (zWT 0 σ (nI p0) x y).2) := by
  refine gEnter (cc := cX1_walkTo) (maxL := 8) (ret := (some .int)) (QF := fun A => va_Qi _ (gPost D A) A) (by decide) rfl (Nat.le_of_ble_eq_true rfl) ?_
  intro p e s m below meth c A ls hX hr hlk hnm hK hN hA hI hl
  have hx := hX.1
  have hb := hX.2.1
  have hts := hX.2.2.2.2
  have hown : s.vm.findClass RX1 = some m.cls := hX.2.2.2.1
  have hin1 := iX1_walkTo_1
  have hl : lv_has ls 8 [(0, .ref g), (1, .int (nI p0)), (2, .int (x)), (3, .int (y)), (4, .int (3))] := hl
  have hI : InW D A s.heap (wCr g q cI cH ad pf (gfh ad σ) (gfp ad σ) n σ) s.heap [] := hI
  refine lv_iload hx hb dX1_walkTo_0 (lv_at hl 4 rfl) ?_
  refine lv_iconst (v := 3) hx hb dX1_walkTo_2 (by decide) ?_
  refine lv_icmp_lt (tgt := 8) hx hb dX1_walkTo_3 (by decide) (fun c1 => False.elim (by revert c1; decide)) (fun c1 => ?_)
  refine lv_iconst (v := 2) hx hb dX1_walkTo_6 (by decide) ?_
  exact gIret hX hr hlk hI ⟨pf, rfl, rfl⟩ dX1_walkTo_7
set_option maxHeartbeats 4000000 in
set_option maxRecDepth 100000 in
theorem c_walkOn_0 (l : Launch) (D : va_G) (cI cH : ClassId) (g : Nat) (q : Nat → Nat) (ad : Nat → Nat) (pf : Nat → Int32) (n : Nat) (σ : gh_S) (sz : Nat) (w : Nat) (y : Int32) (hw10 : w + 10 * 0 ≤ 30) (hg : gI n w σ) (hkd : gKd n σ) : gMi l yX1_walkOn wsX1_walkOn ({ frames := 1, cells := 0, slots := 0, locals := 27 }) D (wCn g q cI cH ad pf n σ) (gTy cI cH) sz [.ref g, .int (y), .int (3)] (fun r u => ∃ pf' : Nat → Int32, r = (zWT 0 σ (zTen y) (if y / 10 = 0 then 0 else 5) (y / 10)).1 ∧ u = wCn g q cI cH ad pf' n (zWT 0 σ (zTen y) (if y / 10 = 0 then 0 else 5) (y / 10)).2) := by
  refine gEnter (cc := cX1_walkOn) (maxL := 4) (ret := (some .int)) (QF := fun A => va_Qi _ (gPost D A) A) (by decide) rfl (Nat.le_of_ble_eq_true rfl) ?_
  intro p e s m below meth c A ls hX hr hlk hnm hK hN hA hI hl
  have hx := hX.1
  have hb := hX.2.1
  have hts := hX.2.2.2.2
  have hown : s.vm.findClass RX1 = some m.cls := hX.2.2.2.1
  have hl : lv_has ls 4 [(0, .ref g), (1, .int (y)), (2, .int (3))] := hl
  have hI : InW D A s.heap (wCr g q cI cH ad pf (gfh ad σ) (gfp ad σ) n σ) s.heap [] := hI
  refine lv_iload_n hx hb dX1_walkOn_0 rfl (lv_at hl 1 rfl) ?_
  refine lv_bipush (v := 10) hx hb dX1_walkOn_1 (by decide) ?_
  refine lv_idiv hx hb dX1_walkOn_3 (by decide) ?_
  refine lv_istore_n (lv' := [(3, .int ((y) / (10))), (0, .ref g), (1, .int (y)), (2, .int (3))]) hx hb dX1_walkOn_4 rfl hl (by decide) rfl (fun ls hl => ?_)
  refine lv_aload_n hx hb dX1_walkOn_5 rfl (lv_at hl 1 rfl) ?_
  refine lv_iload_n hx hb dX1_walkOn_6 rfl (lv_at hl 2 rfl) ?_
  refine lv_bipush (v := 10) hx hb dX1_walkOn_7 (by decide) ?_
  refine vp_callSi (W.runS (As := [.int (y), .int (10)]) (rest := [.ref g]) hX (c_fm10 l (y)) (va_cwS 2 hts gX1_walkOn_J9_floorMod_7cf53 rfl rfl rfl (by decide +kernel) ⟨Nat.le_of_ble_eq_true rfl, Nat.le_of_ble_eq_true rfl⟩) preEq rfl rfl hl.1 rfl (lv_room (Nat.le_of_ble_eq_true rfl)) dX1_walkOn_9 ⟨Nat.le_of_ble_eq_true rfl, Nat.le_of_ble_eq_true rfl⟩) (fun r1 hr1 => ?_)
  obtain ⟨j, hj, hjE⟩ := zTen_in y
  refine gTop (y := nI j) (hr1.trans hjE) ?_
  refine lv_iload_n hx hb dX1_walkOn_12 rfl (lv_at hl 0 rfl) ?_
  refine lv_if_ne (tgt := 20) hx hb dX1_walkOn_13 (by decide) (fun c2 => ?_) (fun c2 => ?_)
  · refine lv_iconst (v := 5) hx hb dX1_walkOn_20 (by decide) ?_
    refine lv_iload_n hx hb dX1_walkOn_21 rfl (lv_at hl 0 rfl) ?_
    refine lv_iload_n hx hb dX1_walkOn_22 rfl (lv_at hl 3 rfl) ?_
    have hI : InW D A s.heap (wCn g q cI cH ad pf n σ) s.heap [] := hI
    refine gCalli (va_runV (As := [.int (nI j), .int (5), .int ((y) / (10)), .int (3)]) (rest := []) hX (c_walkTo_0 l D cI cH g q ad pf n σ _ j w (5) ((y) / (10)) hj (by omega) hg hkd) (cwV 4 hts gX1_walkOn_X1_walkTo rfl rfl rfl (by decide +kernel) ⟨Nat.le_of_ble_eq_true rfl, Nat.le_of_ble_eq_true rfl⟩) ⟨gPre_blind, gRecv hI hK (ci := 1) (q0 := 0) rfl rfl, gPre_ok hI hK hN⟩ rfl rfl hl.1 rfl (lv_room (Nat.le_of_ble_eq_true rfl)) dX1_walkOn_23 ⟨Nat.zero_le _, Nat.zero_le _⟩) hI hA (fun r3 ur3 H locs hr3 hI => ?_)
    obtain ⟨pf', hr3, rfl⟩ := hr3
    exact gIret hX hr hlk hI ⟨pf', by rw [hjE, if_neg c2]; exact hr3, by rw [hjE, if_neg c2]⟩ dX1_walkOn_26
  · refine lv_iconst (v := 0) hx hb dX1_walkOn_16 (by decide) ?_
    refine lv_goto (tgt := 21) hx hb dX1_walkOn_17 (by decide) ?_
    refine lv_iload_n hx hb dX1_walkOn_21 rfl (lv_at hl 0 rfl) ?_
    refine lv_iload_n hx hb dX1_walkOn_22 rfl (lv_at hl 3 rfl) ?_
    have hI : InW D A s.heap (wCn g q cI cH ad pf n σ) s.heap [] := hI
    refine gCalli (va_runV (As := [.int (nI j), .int (0), .int ((y) / (10)), .int (3)]) (rest := []) hX (c_walkTo_0 l D cI cH g q ad pf n σ _ j w (0) ((y) / (10)) hj (by omega) hg hkd) (cwV 4 hts gX1_walkOn_X1_walkTo rfl rfl rfl (by decide +kernel) ⟨Nat.le_of_ble_eq_true rfl, Nat.le_of_ble_eq_true rfl⟩) ⟨gPre_blind, gRecv hI hK (ci := 1) (q0 := 0) rfl rfl, gPre_ok hI hK hN⟩ rfl rfl hl.1 rfl (lv_room (Nat.le_of_ble_eq_true rfl)) dX1_walkOn_23 ⟨Nat.zero_le _, Nat.zero_le _⟩) hI hA (fun r4 ur4 H locs hr4 hI => ?_)
    obtain ⟨pf', hr4, rfl⟩ := hr4
    exact gIret hX hr hlk hI ⟨pf', by rw [hjE, if_pos c2]; exact hr4, by rw [hjE, if_pos c2]⟩ dX1_walkOn_26
set_option maxHeartbeats 4000000 in
set_option maxRecDepth 100000 in
theorem c_doDeed_0 (l : Launch) (D : va_G) (cI cH : ClassId) (g : Nat) (q : Nat → Nat) (ad : Nat → Nat) (pf : Nat → Int32) (n : Nat) (σ : gh_S) (sz : Nat) (w : Nat) (x y : Int32) (hw10 : w + 10 * 0 ≤ 30) (hw1 : 0 < w) (hg : gI n w σ) (hkd : gKd n σ) : gMi l yX1_doDeed wsX1_doDeed ({ frames := 2, cells := 0, slots := 0, locals := 50 }) D (wCn g q cI cH ad pf n σ) (gTy cI cH) sz [.ref g, .int (x), .int (y), .int (3)] (fun r u => ∃ pf' : Nat → Int32, r = (zDD 0 σ x y).1 ∧ u = wCn g q cI cH ad pf' n (zDD 0 σ x y).2) := by
  refine gEnter (cc := cX1_doDeed) (maxL := 5) (ret := (some .int)) (QF := fun A => va_Qi _ (gPost D A) A) (by decide) rfl (Nat.le_of_ble_eq_true rfl) ?_
  intro p e s m below meth c A ls hX hr hlk hnm hK hN hA hI hl
  have hx := hX.1
  have hb := hX.2.1
  have hts := hX.2.2.2.2
  have hown : s.vm.findClass RX1 = some m.cls := hX.2.2.2.1
  have hin0 := iX1_doDeed_0
  have hin1 := iX1_doDeed_1
  have hl : lv_has ls 5 [(0, .ref g), (1, .int (x)), (2, .int (y)), (3, .int (3))] := hl
  have hI : InW D A s.heap (wCr g q cI cH ad pf (gfh ad σ) (gfp ad σ) n σ) s.heap [] := hI
  obtain ⟨hn, hw, ⟨t, ht, htE⟩, hpl, hpar, hrow, hn4, hw30, hz⟩ := id hg
  obtain ⟨i, hi, hIn, hiE, e1⟩ := zInner_of hw1 hg
  refine lv_aload_n hx hb dX1_doDeed_0 rfl (lv_at hl 0 rfl) ?_
  have hI : InW D A s.heap (wCn g q cI cH ad pf n σ) s.heap [] := hI
  refine gCallq (va_runV (As := []) (rest := []) hX (c_X1_innermost l D cI cH g q ad pf n σ _ w i hw1 hg hi hiE) (cwV 0 hts gX1_doDeed_X1_innermost rfl rfl rfl (by decide +kernel) ⟨Nat.le_of_ble_eq_true rfl, Nat.le_of_ble_eq_true rfl⟩) ⟨gPre_blind, gRecv hI hK (ci := 1) (q0 := 0) rfl rfl, gPre_ok hI hK hN⟩ rfl rfl hl.1 rfl (lv_room (Nat.le_of_ble_eq_true rfl)) dX1_doDeed_1 ⟨Nat.zero_le _, Nat.zero_le _⟩) hI hA (fun r1 ur1 H locs hr1 hI => ?_)
  obtain ⟨rfl, rfl⟩ := hr1
  refine gTopR ?_
  refine lv_astore (lv' := [(4, .ref (ad i)), (0, .ref g), (1, .int (x)), (2, .int (y)), (3, .int (3))]) hx hb dX1_doDeed_4 hl (by decide) rfl (fun ls hl => ?_)
  refine lv_aload hx hb dX1_doDeed_6 (lv_at hl 0 rfl) ?_
  refine lv_ifnonnull (tgt := 13) hx hb dX1_doDeed_8 (by decide) ?_
  refine lv_iload_n hx hb dX1_doDeed_13 rfl (lv_at hl 2 rfl) ?_
  rcases g_sw17 x with h2 | rfl | rfl | rfl | rfl | rfl | rfl | rfl
  · refine lv_tableOut (tgt := 122) hx hb dX1_doDeed_14 h2 (by decide) ?_
    refine lv_iconst (v := 0) hx hb dX1_doDeed_122 (by decide) ?_
    exact gIret hX hr hlk hI ⟨pf, by rw [zDD_out h2], by rw [zDD_out h2]⟩ dX1_doDeed_123
  · refine lv_tableIn (tgt := 56) (off := 42) hx hb dX1_doDeed_14 (by decide) (by decide) (by decide) (by decide) ?_
    refine lv_aload hx hb dX1_doDeed_56 (lv_at hl 0 rfl) ?_
    refine lv_dup hx hb dX1_doDeed_58 rfl ?_
    refine hGet (i := i) (v := .int (σ.1 3 (i))) hX hin0 hK hI hi 3 (by decide) hN.2.1 rfl dX1_doDeed_59 ?_
    refine lv_iload_n hx hb dX1_doDeed_62 rfl (lv_at hl 3 rfl) ?_
    refine lv_iadd hx hb dX1_doDeed_63 ?_
    refine hPut (i := i) hX hin0 hK hI hi 3 (by decide) hN.2.1 rfl rfl gHs3 (by decide) (by decide) dX1_doDeed_64 (fun H locs hI => ?_)
    refine lv_iconst (v := 0) hx hb dX1_doDeed_67 (by decide) ?_
    exact gIret hX hr hlk hI ⟨pf, by rw [zDD_deed (by decide) hIn]; rfl, by rw [zDD_deed (by decide) hIn]; rfl⟩ dX1_doDeed_68
  · refine lv_tableIn (tgt := 69) (off := 55) hx hb dX1_doDeed_14 (by decide) (by decide) (by decide) (by decide) ?_
    refine lv_aload_n hx hb dX1_doDeed_69 rfl (lv_at hl 1 rfl) ?_
    refine lv_aload hx hb dX1_doDeed_70 (lv_at hl 0 rfl) ?_
    have hI : InW D A s.heap (wCn g q cI cH ad pf n σ) H locs := hI
    refine gCalli (va_runV (As := [.ref (ad i)]) (rest := []) hX (c_X1_takeGifts l D cI cH g q ad pf n σ _ i hi) (cwV 1 hts gX1_doDeed_X1_takeGifts rfl rfl rfl (by decide +kernel) ⟨Nat.le_of_ble_eq_true rfl, Nat.le_of_ble_eq_true rfl⟩) ⟨gPre_blind, gRecv hI hK (ci := 1) (q0 := 0) rfl rfl, gPre_ok hI hK hN⟩ rfl rfl hl.1 rfl (lv_room (Nat.le_of_ble_eq_true rfl)) dX1_doDeed_72 ⟨Nat.zero_le _, Nat.zero_le _⟩) hI hA (fun r3 ur3 H locs hr3 hI => ?_)
    obtain ⟨hr3, rfl⟩ := hr3
    exact gIret hX hr hlk hI ⟨pf, by rw [zDD_deed (by decide) hIn]; rw [zDeed2]; exact hr3, by rw [zDD_deed (by decide) hIn]; rw [zDeed2]⟩ dX1_doDeed_75
  · refine lv_tableIn (tgt := 76) (off := 62) hx hb dX1_doDeed_14 (by decide) (by decide) (by decide) (by decide) ?_
    refine lv_aload hx hb dX1_doDeed_76 (lv_at hl 0 rfl) ?_
    refine lv_iload_n hx hb dX1_doDeed_78 rfl (lv_at hl 3 rfl) ?_
    have hI : InW D A s.heap (wCn g q cI cH ad pf n σ) H locs := hI
    refine gCalli (va_runS (As := [.ref (ad i), .int (y)]) (rest := []) hX (c_X1_divideGifts l D cI cH g q ad pf n σ _ i hi y) (va_cwS 2 hts gX1_doDeed_X1_divideGifts rfl rfl rfl (by decide +kernel) ⟨Nat.le_of_ble_eq_true rfl, Nat.le_of_ble_eq_true rfl⟩) ⟨gPre_blind, gPre_ok hI hK hN⟩ rfl rfl hl.1 rfl (lv_room (Nat.le_of_ble_eq_true rfl)) dX1_doDeed_79 ⟨Nat.zero_le _, Nat.zero_le _⟩) hI hA (fun r4 ur4 H locs hr4 hI => ?_)
    obtain ⟨hr4, rfl⟩ := hr4
    exact gIret hX hr hlk hI ⟨pf, by rw [zDD_deed (by decide) hIn]; rw [zDeed3]; exact hr4, by rw [zDD_deed (by decide) hIn]; rw [zDeed3]⟩ dX1_doDeed_82
  · refine lv_tableIn (tgt := 83) (off := 69) hx hb dX1_doDeed_14 (by decide) (by decide) (by decide) (by decide) ?_
    refine lv_aload_n hx hb dX1_doDeed_83 rfl (lv_at hl 1 rfl) ?_
    refine cGet (v := .ref (q 0)) hX hin1 hK hI 0 (by decide) (hts (.fieldLink RX1 11 "GateHalls" "halls" "[LGateHalls$Hall;") (by decide +kernel)) rfl dX1_doDeed_84 ?_
    refine lv_iload_n hx hb dX1_doDeed_87 rfl (lv_at hl 3 rfl) ?_
    refine lv_bipush (v := 10) hx hb dX1_doDeed_88 (by decide) ?_
    refine vp_callSi (W.runS (As := [.int (y), .int (10)]) (rest := [.ref (q 0)]) hX (c_fm10 l (y)) (va_cwS 2 hts gX1_doDeed_J9_floorMod_7cf53 rfl rfl rfl (by decide +kernel) ⟨Nat.le_of_ble_eq_true rfl, Nat.le_of_ble_eq_true rfl⟩) preEq rfl rfl hl.1 rfl (lv_room (Nat.le_of_ble_eq_true rfl)) dX1_doDeed_90 ⟨Nat.le_of_ble_eq_true rfl, Nat.le_of_ble_eq_true rfl⟩) (fun r5 hr5 => ?_)
    obtain ⟨j, hj, hjE⟩ := zTen_in y
    have hjC : (zTen y).toNatClampNeg = j := by rw [hjE]; exact nI_clamp (by omega)
    refine lv_null hx hb dX1_doDeed_93 ?_
    refine gQstN (j := j) (w' := wCr g q cI cH ad pf (va_up (gfh ad σ) (j) none) (gfp ad σ) n σ) hX hK hI 1 1 rfl rfl (hr5.trans hjE) (by omega) (by decide) rfl dX1_doDeed_94 (fun H locs hI => ?_)
    refine lv_iconst (v := 0) hx hb dX1_doDeed_95 (by decide) ?_
    exact gIret hX hr hlk hI ⟨pf, by rw [zDD_deed (by decide) hIn]; unfold zDeed; rw [if_neg (by decide), if_neg (by decide), if_neg (by decide), if_pos rfl], by rw [zDD_deed (by decide) hIn]; unfold zDeed; rw [if_neg (by decide), if_neg (by decide), if_neg (by decide), if_pos rfl]; rw [hjC, gfh_none hj]; rfl⟩ dX1_doDeed_96
  · refine lv_tableIn (tgt := 97) (off := 83) hx hb dX1_doDeed_14 (by decide) (by decide) (by decide) (by decide) ?_
    refine lv_aload_n hx hb dX1_doDeed_97 rfl (lv_at hl 1 rfl) ?_
    refine lv_iload_n hx hb dX1_doDeed_98 rfl (lv_at hl 3 rfl) ?_
    refine lv_iload_n hx hb dX1_doDeed_99 rfl (lv_at hl 4 rfl) ?_
    have hI : InW D A s.heap (wCn g q cI cH ad pf n σ) H locs := hI
    refine gCalli (va_runV (As := [.int (y), .int (3)]) (rest := []) hX (c_walkOn_0 l D cI cH g q ad pf n σ _ w y (by omega) hg hkd) (cwV 2 hts gX1_doDeed_X1_walkOn rfl rfl rfl (by decide +kernel) ⟨Nat.le_of_ble_eq_true rfl, Nat.le_of_ble_eq_true rfl⟩) ⟨gPre_blind, gRecv hI hK (ci := 1) (q0 := 0) rfl rfl, gPre_ok hI hK hN⟩ rfl rfl hl.1 rfl (lv_room (Nat.le_of_ble_eq_true rfl)) dX1_doDeed_100 ⟨Nat.zero_le _, Nat.zero_le _⟩) hI hA (fun r6 ur6 H locs hr6 hI => ?_)
    obtain ⟨pf', hr6, rfl⟩ := hr6
    exact gIret hX hr hlk hI ⟨pf', by rw [zDD5]; exact hr6, by rw [zDD5]⟩ dX1_doDeed_103
  · refine lv_tableIn (tgt := 104) (off := 90) hx hb dX1_doDeed_14 (by decide) (by decide) (by decide) (by decide) ?_
    refine lv_bipush (v := 20) hx hb dX1_doDeed_104 (by decide) ?_
    refine lv_iload_n hx hb dX1_doDeed_106 rfl (lv_at hl 3 rfl) ?_
    refine lv_iconst (v := 4) hx hb dX1_doDeed_107 (by decide) ?_
    refine vp_callSi (W.runS (As := [.int (y), .int (4)]) (rest := [.int (20)]) hX (c_fm4 l (y)) (va_cwS 2 hts gX1_doDeed_J9_floorMod_7cf53 rfl rfl rfl (by decide +kernel) ⟨Nat.le_of_ble_eq_true rfl, Nat.le_of_ble_eq_true rfl⟩) preEq rfl rfl hl.1 rfl (lv_room (Nat.le_of_ble_eq_true rfl)) dX1_doDeed_108 ⟨Nat.le_of_ble_eq_true rfl, Nat.le_of_ble_eq_true rfl⟩) (fun r7 hr7 => ?_)
    refine lv_iadd hx hb dX1_doDeed_111 ?_
    exact gIret hX hr hlk hI ⟨pf, by rw [zDD_deed (by decide) hIn]; unfold zDeed; rw [if_neg (by decide), if_neg (by decide), if_neg (by decide), if_neg (by decide), if_pos rfl]; rw [hr7], by rw [zDD_deed (by decide) hIn]; unfold zDeed; rw [if_neg (by decide), if_neg (by decide), if_neg (by decide), if_neg (by decide), if_pos rfl]⟩ dX1_doDeed_112
  · refine lv_tableIn (tgt := 113) (off := 99) hx hb dX1_doDeed_14 (by decide) (by decide) (by decide) (by decide) ?_
    refine lv_aload_n hx hb dX1_doDeed_113 rfl (lv_at hl 1 rfl) ?_
    refine lv_aload_n hx hb dX1_doDeed_114 rfl (lv_at hl 1 rfl) ?_
    refine cGet (v := .int (σ.2 17)) hX hin1 hK hI 6 (by decide) (hts (.fieldLink RX1 96 "GateHalls" "depth" "I") (by decide +kernel)) rfl dX1_doDeed_115 ?_
    have hI : InW D A s.heap (wCn g q cI cH ad pf n σ) H locs := hI
    refine gCalli (va_runV (As := [.int (σ.2 17)]) (rest := []) hX (c_X1_addToPurse l D cI cH g q ad pf n σ _ (σ.2 17)) (cwV 1 hts gX1_doDeed_X1_addToPurse rfl rfl rfl (by decide +kernel) ⟨Nat.le_of_ble_eq_true rfl, Nat.le_of_ble_eq_true rfl⟩) ⟨gPre_blind, gRecv hI hK (ci := 1) (q0 := 0) rfl rfl, gPre_ok hI hK hN⟩ rfl rfl hl.1 rfl (lv_room (Nat.le_of_ble_eq_true rfl)) dX1_doDeed_118 ⟨Nat.zero_le _, Nat.zero_le _⟩) hI hA (fun r8 ur8 H locs hr8 hI => ?_)
    obtain ⟨hr8, rfl⟩ := hr8
    exact gIret hX hr hlk hI ⟨pf, by rw [zDD_deed (by decide) hIn]; unfold zDeed; rw [if_neg (by decide), if_neg (by decide), if_neg (by decide), if_neg (by decide), if_neg (by decide), if_pos rfl]; exact hr8, by rw [zDD_deed (by decide) hIn]; unfold zDeed; rw [if_neg (by decide), if_neg (by decide), if_neg (by decide), if_neg (by decide), if_neg (by decide), if_pos rfl]⟩ dX1_doDeed_121
set_option maxHeartbeats 4000000 in
set_option maxRecDepth 100000 in
theorem c_walkTo_1 (l : Launch) (D : va_G) (cI cH : ClassId) (g : Nat) (q : Nat → Nat) (ad : Nat → Nat) (pf : Nat → Int32) (n : Nat) (σ : gh_S) (sz : Nat) (p0 w : Nat) (x y : Int32) (hp : p0 < 10) (hw10 : w + 10 * 1 ≤ 30) (hg : gI n w σ) (hkd : gKd n σ) : gMi l yX1_walkTo wsX1_walkTo ({ frames := 4, cells := 0, slots := 0, locals := 90 }) D (wCn g q cI cH ad pf n σ) (gTy cI cH) sz [.ref g, .int (nI p0), .int (x), .int (y), .int (2)] (fun r u => ∃ pf' : Nat → Int32, r = (zWT 1 σ (nI p0) x y).1 ∧ u = wCn g q cI cH ad pf' n (zWT 1 σ (nI p0) x y).2) := by
  refine gEnter (cc := cX1_walkTo) (maxL := 8) (ret := (some .int)) (QF := fun A => va_Qi _ (gPost D A) A) (by decide) rfl (Nat.le_of_ble_eq_true rfl) ?_
  intro p e s m below meth c A ls hX hr hlk hnm hK hN hA hI hl
  have hx := hX.1
  have hb := hX.2.1
  have hts := hX.2.2.2.2
  have hown : s.vm.findClass RX1 = some m.cls := hX.2.2.2.1
  have hin1 := iX1_walkTo_1
  have hl : lv_has ls 8 [(0, .ref g), (1, .int (nI p0)), (2, .int (x)), (3, .int (y)), (4, .int (2))] := hl
  have hI : InW D A s.heap (wCr g q cI cH ad pf (gfh ad σ) (gfp ad σ) n σ) s.heap [] := hI
  obtain ⟨hn, hw, ⟨t, ht, htE⟩, hpl, hpar, hrow, hn4, hw30, hz⟩ := id hg
  have hg1 : gI n w (uS σ 15 (σ.2 15 + 1)) := gI_uS 15 _ (by decide) (by decide) (by decide) hg
  refine lv_iload hx hb dX1_walkTo_0 (lv_at hl 4 rfl) ?_
  refine lv_iconst (v := 3) hx hb dX1_walkTo_2 (by decide) ?_
  refine lv_icmp_lt (tgt := 8) hx hb dX1_walkTo_3 (by decide) (fun c1 => ?_) (fun c1 => False.elim (by revert c1; decide))
  refine lv_aload_n hx hb dX1_walkTo_8 rfl (lv_at hl 0 rfl) ?_
  refine lv_dup hx hb dX1_walkTo_9 rfl ?_
  refine cGet (v := .int (σ.2 15)) hX hin1 hK hI 11 (by decide) (hts (.fieldLink RX1 90 "GateHalls" "walksBegun" "I") (by decide +kernel)) rfl dX1_walkTo_10 ?_
  refine lv_iconst (v := 1) hx hb dX1_walkTo_13 (by decide) ?_
  refine lv_iadd hx hb dX1_walkTo_14 ?_
  refine cPut (σ' := (uS σ 15 ((σ.2 15) + (1)))) hX hin1 hK hI 11 (by decide) (hts (.fieldLink RX1 90 "GateHalls" "walksBegun" "I") (by decide +kernel)) rfl rfl rfl dX1_walkTo_15 (fun H locs hI => ?_)
  refine lv_aload_n hx hb dX1_walkTo_18 rfl (lv_at hl 0 rfl) ?_
  refine lv_iload_n hx hb dX1_walkTo_19 rfl (lv_at hl 1 rfl) ?_
  have hI : InW D A s.heap (wCn g q cI cH ad pf n (uS σ 15 ((σ.2 15) + (1)))) H locs := hI
  refine gCalli (va_runV (As := [.int (nI p0)]) (rest := []) hX (c_X1_findPath l D cI cH g q ad pf n (uS σ 15 ((σ.2 15) + (1))) _ p0 w hp hg1) (cwV 1 hts gX1_walkTo_X1_findPath rfl rfl rfl (by decide +kernel) ⟨Nat.le_of_ble_eq_true rfl, Nat.le_of_ble_eq_true rfl⟩) ⟨gPre_blind, gRecv hI hK (ci := 1) (q0 := 0) rfl rfl, gPre_ok hI hK hN⟩ rfl rfl hl.1 rfl (lv_room (Nat.le_of_ble_eq_true rfl)) dX1_walkTo_20 ⟨Nat.zero_le _, Nat.zero_le _⟩) hI hA (fun r2 ur2 H locs hr2 hI => ?_)
  obtain ⟨pf', rfl, hr2⟩ := hr2
  rcases hr2 with ⟨k, hk10, hk0, rfl, hkE, hkj⟩ | ⟨rfl, hall⟩
  · have hGo : zGo σ (nI p0) = zDown (zOrb (σ.1 10) (nI p0)) k (uS σ 15 (σ.2 15 + 1)) := zGo_some hk10 (fun j hj => (hkj j hj).2) hkE
    obtain ⟨w', hw1, hw2, hgG, hw3⟩ := gI_go (p := nI p0) (by omega) ⟨p0, hp, rfl⟩ hg
    have hkG : gKd n (zGo σ (nI p0)).2 := gKd_of k_go hkd
    refine lv_istore (lv' := [(5, .int (nI k)), (0, .ref g), (1, .int (nI p0)), (2, .int (x)), (3, .int (y)), (4, .int (2))]) hx hb dX1_walkTo_23 hl (by decide) rfl (fun ls hl => ?_)
    refine lv_iload hx hb dX1_walkTo_25 (lv_at hl 0 rfl) ?_
    refine lv_if_ne (tgt := 33) hx hb dX1_walkTo_27 (by decide) (fun c3 => ?_) (fun c3 => absurd c3 (nI_ne0 hk0 (by omega)))
    refine lv_aload_n hx hb dX1_walkTo_33 rfl (lv_at hl 1 rfl) ?_
    refine cGet (v := .int (σ.2 17)) hX hin1 hK hI 6 (by decide) (hts (.fieldLink RX1 96 "GateHalls" "depth" "I") (by decide +kernel)) rfl dX1_walkTo_34 ?_
    refine gTop (y := nI w) hw ?_
    refine lv_istore (lv' := [(6, .int (nI w)), (5, .int (nI k)), (0, .ref g), (1, .int (nI p0)), (2, .int (x)), (3, .int (y)), (4, .int (2))]) hx hb dX1_walkTo_37 hl (by decide) rfl (fun ls hl => ?_)
    refine lv_aload_n hx hb dX1_walkTo_39 rfl (lv_at hl 2 rfl) ?_
    refine lv_iload hx hb dX1_walkTo_40 (lv_at hl 1 rfl) ?_
    have hI : InW D A s.heap (wCn g q cI cH ad pf' n (uS σ 15 ((σ.2 15) + (1)))) H locs := hI
    refine gCalli (va_runV (As := [.int (nI k)]) (rest := []) hX (c_X1_passPath l D cI cH g q ad pf' n (uS σ 15 ((σ.2 15) + (1))) _ (zOrb (σ.1 10) (nI p0)) k w hk10 (by omega) (fun j hj => ⟨(hkj j hj).1, (zOrb_in hg ⟨p0, hp, rfl⟩ j).resolve_left (hkj j hj).2⟩) hg1 hkd) (cwV 1 hts gX1_walkTo_X1_passPath rfl rfl rfl (by decide +kernel) ⟨Nat.le_of_ble_eq_true rfl, Nat.le_of_ble_eq_true rfl⟩) ⟨gPre_blind, gRecv hI hK (ci := 1) (q0 := 0) rfl rfl, gPre_ok hI hK hN⟩ rfl rfl hl.1 rfl (lv_room (Nat.le_of_ble_eq_true rfl)) dX1_walkTo_42 ⟨Nat.zero_le _, Nat.zero_le _⟩) hI hA (fun r4 ur4 H locs hr4 hI => ?_)
    obtain ⟨hr4, rfl⟩ := hr4
    have hGo1 := congrArg Prod.fst hGo
    have hGo2 := congrArg Prod.snd hGo
    have hI : InW D A s.heap (wCn g q cI cH ad pf' n (zGo σ (nI p0)).2) H locs := by rw [hGo2]; exact hI
    have hr4G : r4 = (zGo σ (nI p0)).1 := by rw [hGo1]; exact hr4
    refine lv_istore (lv' := [(7, .int (r4)), (6, .int (nI w)), (5, .int (nI k)), (0, .ref g), (1, .int (nI p0)), (2, .int (x)), (3, .int (y)), (4, .int (2))]) hx hb dX1_walkTo_45 hl (by decide) rfl (fun ls hl => ?_)
    refine lv_iload hx hb dX1_walkTo_47 (lv_at hl 0 rfl) ?_
    refine lv_if_ne (tgt := 64) hx hb dX1_walkTo_49 (by decide) (fun c5 => ?_) (fun c5 => ?_)
    · have hc0 : ¬ (zGo σ (nI p0)).1 = 0 := by rw [← hr4G]; exact c5
      refine lv_aload_n hx hb dX1_walkTo_64 rfl (lv_at hl 3 rfl) ?_
      refine lv_iload hx hb dX1_walkTo_65 (lv_at hl 1 rfl) ?_
      have hI : InW D A s.heap (wCn g q cI cH ad pf' n (zGo σ (nI p0)).2) H locs := hI
      refine gCallv (va_runV (As := [.int (nI w)]) (rest := []) hX (c_X1_leaveUntil l D cI cH g q ad pf' n (zGo σ (nI p0)).2 _ w w' (by omega) hgG) (cwV 1 hts gX1_walkTo_X1_leaveUntil rfl rfl rfl (by decide +kernel) ⟨Nat.le_of_ble_eq_true rfl, Nat.le_of_ble_eq_true rfl⟩) ⟨gPre_blind, gRecv hI hK (ci := 1) (q0 := 0) rfl rfl, gPre_ok hI hK hN⟩ rfl rfl hl.1 rfl (lv_room (Nat.le_of_ble_eq_true rfl)) dX1_walkTo_67 ⟨Nat.zero_le _, Nat.zero_le _⟩) hI hA (fun ur6 H locs hr6 hI => ?_)
      subst hr6
      refine lv_iload hx hb dX1_walkTo_70 (lv_at hl 0 rfl) ?_
      exact gIret hX hr hlk hI ⟨_, by rw [zWT_no hc0]; exact hr4G, by rw [zWT_no hc0]; show _ = wCn g q cI cH ad pf' n (zPops _ (zW _ - zW σ)); rw [zW_of hgG, zW_of hg]⟩ dX1_walkTo_72
    · have hc0 : (zGo σ (nI p0)).1 = 0 := by rw [← hr4G]; exact c5
      refine lv_aload_n hx hb dX1_walkTo_52 rfl (lv_at hl 3 rfl) ?_
      refine lv_iload_n hx hb dX1_walkTo_53 rfl (lv_at hl 5 rfl) ?_
      refine lv_iload_n hx hb dX1_walkTo_54 rfl (lv_at hl 6 rfl) ?_
      refine lv_iload hx hb dX1_walkTo_55 (lv_at hl 7 rfl) ?_
      refine lv_iconst (v := 1) hx hb dX1_walkTo_57 (by decide) ?_
      refine lv_iadd hx hb dX1_walkTo_58 ?_
      refine gTop (y := 3) (by decide) ?_
      have hI : InW D A s.heap (wCn g q cI cH ad pf' n (zGo σ (nI p0)).2) H locs := hI
      refine gCalli (va_runV (As := [.int (x), .int (y), .int (3)]) (rest := []) hX (c_doDeed_0 l D cI cH g q ad pf' n (zGo σ (nI p0)).2 _ w' x y (by omega) (by have := hw3 hc0; omega) hgG hkG) (cwV 3 hts gX1_walkTo_X1_doDeed rfl rfl rfl (by decide +kernel) ⟨Nat.le_of_ble_eq_true rfl, Nat.le_of_ble_eq_true rfl⟩) ⟨gPre_blind, gRecv hI hK (ci := 1) (q0 := 0) rfl rfl, gPre_ok hI hK hN⟩ rfl rfl hl.1 rfl (lv_room (Nat.le_of_ble_eq_true rfl)) dX1_walkTo_59 ⟨Nat.zero_le _, Nat.zero_le _⟩) hI hA (fun r7 ur7 H locs hr7 hI => ?_)
      obtain ⟨pf'', hr7, rfl⟩ := hr7
      have hgD := gI_dd (f := 0) (x := x) (y := y) (by omega) (by have := hw3 hc0; omega) hgG
      refine lv_istore (lv' := [(7, .int (r7)), (6, .int (nI w)), (5, .int (nI k)), (0, .ref g), (1, .int (nI p0)), (2, .int (x)), (3, .int (y)), (4, .int (2))]) hx hb dX1_walkTo_62 hl (by decide) rfl (fun ls hl => ?_)
      refine lv_aload_n hx hb dX1_walkTo_64 rfl (lv_at hl 3 rfl) ?_
      refine lv_iload hx hb dX1_walkTo_65 (lv_at hl 1 rfl) ?_
      have hI : InW D A s.heap (wCn g q cI cH ad pf'' n (zDD 0 (zGo σ (nI p0)).2 x y).2) H locs := hI
      refine gCallv (va_runV (As := [.int (nI w)]) (rest := []) hX (c_X1_leaveUntil l D cI cH g q ad pf'' n (zDD 0 (zGo σ (nI p0)).2 x y).2 _ w w' (by omega) hgD) (cwV 1 hts gX1_walkTo_X1_leaveUntil rfl rfl rfl (by decide +kernel) ⟨Nat.le_of_ble_eq_true rfl, Nat.le_of_ble_eq_true rfl⟩) ⟨gPre_blind, gRecv hI hK (ci := 1) (q0 := 0) rfl rfl, gPre_ok hI hK hN⟩ rfl rfl hl.1 rfl (lv_room (Nat.le_of_ble_eq_true rfl)) dX1_walkTo_67 ⟨Nat.zero_le _, Nat.zero_le _⟩) hI hA (fun ur8 H locs hr8 hI => ?_)
      subst hr8
      refine lv_iload hx hb dX1_walkTo_70 (lv_at hl 0 rfl) ?_
      exact gIret hX hr hlk hI ⟨_, by rw [zWT_go hc0]; exact hr7, by rw [zWT_go hc0]; show _ = wCn g q cI cH ad pf'' n (zPops _ (zW _ - zW σ)); rw [zW_of hgD, zW_of hg]⟩ dX1_walkTo_72
  · have hGo : zGo σ (nI p0) = (8, (uS σ 15 (σ.2 15 + 1))) := zGo_none8 hall
    refine lv_istore (lv' := [(5, .int (0)), (0, .ref g), (1, .int (nI p0)), (2, .int (x)), (3, .int (y)), (4, .int (2))]) hx hb dX1_walkTo_23 hl (by decide) rfl (fun ls hl => ?_)
    refine lv_iload hx hb dX1_walkTo_25 (lv_at hl 0 rfl) ?_
    refine lv_if_ne (tgt := 33) hx hb dX1_walkTo_27 (by decide) (fun c9 => False.elim (by revert c9; decide)) (fun c9 => ?_)
    refine lv_bipush (v := 8) hx hb dX1_walkTo_30 (by decide) ?_
    exact gIret hX hr hlk hI ⟨_, by rw [zWT_no (by rw [hGo]; exact (show ¬ (8 : Int32) = 0 by decide)), hGo], by rw [zWT_no (by rw [hGo]; exact (show ¬ (8 : Int32) = 0 by decide)), hGo]; show _ = wCn g q cI cH ad pf' n (zPops (uS σ 15 (σ.2 15 + 1)) (zW σ - zW σ)); rw [Nat.sub_self]; rfl⟩ dX1_walkTo_32
set_option maxHeartbeats 4000000 in
set_option maxRecDepth 100000 in
theorem c_walkOn_1 (l : Launch) (D : va_G) (cI cH : ClassId) (g : Nat) (q : Nat → Nat) (ad : Nat → Nat) (pf : Nat → Int32) (n : Nat) (σ : gh_S) (sz : Nat) (w : Nat) (y : Int32) (hw10 : w + 10 * 1 ≤ 30) (hg : gI n w σ) (hkd : gKd n σ) : gMi l yX1_walkOn wsX1_walkOn ({ frames := 5, cells := 0, slots := 0, locals := 117 }) D (wCn g q cI cH ad pf n σ) (gTy cI cH) sz [.ref g, .int (y), .int (2)] (fun r u => ∃ pf' : Nat → Int32, r = (zWT 1 σ (zTen y) (if y / 10 = 0 then 0 else 5) (y / 10)).1 ∧ u = wCn g q cI cH ad pf' n (zWT 1 σ (zTen y) (if y / 10 = 0 then 0 else 5) (y / 10)).2) := by
  refine gEnter (cc := cX1_walkOn) (maxL := 4) (ret := (some .int)) (QF := fun A => va_Qi _ (gPost D A) A) (by decide) rfl (Nat.le_of_ble_eq_true rfl) ?_
  intro p e s m below meth c A ls hX hr hlk hnm hK hN hA hI hl
  have hx := hX.1
  have hb := hX.2.1
  have hts := hX.2.2.2.2
  have hown : s.vm.findClass RX1 = some m.cls := hX.2.2.2.1
  have hl : lv_has ls 4 [(0, .ref g), (1, .int (y)), (2, .int (2))] := hl
  have hI : InW D A s.heap (wCr g q cI cH ad pf (gfh ad σ) (gfp ad σ) n σ) s.heap [] := hI
  refine lv_iload_n hx hb dX1_walkOn_0 rfl (lv_at hl 1 rfl) ?_
  refine lv_bipush (v := 10) hx hb dX1_walkOn_1 (by decide) ?_
  refine lv_idiv hx hb dX1_walkOn_3 (by decide) ?_
  refine lv_istore_n (lv' := [(3, .int ((y) / (10))), (0, .ref g), (1, .int (y)), (2, .int (2))]) hx hb dX1_walkOn_4 rfl hl (by decide) rfl (fun ls hl => ?_)
  refine lv_aload_n hx hb dX1_walkOn_5 rfl (lv_at hl 1 rfl) ?_
  refine lv_iload_n hx hb dX1_walkOn_6 rfl (lv_at hl 2 rfl) ?_
  refine lv_bipush (v := 10) hx hb dX1_walkOn_7 (by decide) ?_
  refine vp_callSi (W.runS (As := [.int (y), .int (10)]) (rest := [.ref g]) hX (c_fm10 l (y)) (va_cwS 2 hts gX1_walkOn_J9_floorMod_7cf53 rfl rfl rfl (by decide +kernel) ⟨Nat.le_of_ble_eq_true rfl, Nat.le_of_ble_eq_true rfl⟩) preEq rfl rfl hl.1 rfl (lv_room (Nat.le_of_ble_eq_true rfl)) dX1_walkOn_9 ⟨Nat.le_of_ble_eq_true rfl, Nat.le_of_ble_eq_true rfl⟩) (fun r1 hr1 => ?_)
  obtain ⟨j, hj, hjE⟩ := zTen_in y
  refine gTop (y := nI j) (hr1.trans hjE) ?_
  refine lv_iload_n hx hb dX1_walkOn_12 rfl (lv_at hl 0 rfl) ?_
  refine lv_if_ne (tgt := 20) hx hb dX1_walkOn_13 (by decide) (fun c2 => ?_) (fun c2 => ?_)
  · refine lv_iconst (v := 5) hx hb dX1_walkOn_20 (by decide) ?_
    refine lv_iload_n hx hb dX1_walkOn_21 rfl (lv_at hl 0 rfl) ?_
    refine lv_iload_n hx hb dX1_walkOn_22 rfl (lv_at hl 3 rfl) ?_
    have hI : InW D A s.heap (wCn g q cI cH ad pf n σ) s.heap [] := hI
    refine gCalli (va_runV (As := [.int (nI j), .int (5), .int ((y) / (10)), .int (2)]) (rest := []) hX (c_walkTo_1 l D cI cH g q ad pf n σ _ j w (5) ((y) / (10)) hj (by omega) hg hkd) (cwV 4 hts gX1_walkOn_X1_walkTo rfl rfl rfl (by decide +kernel) ⟨Nat.le_of_ble_eq_true rfl, Nat.le_of_ble_eq_true rfl⟩) ⟨gPre_blind, gRecv hI hK (ci := 1) (q0 := 0) rfl rfl, gPre_ok hI hK hN⟩ rfl rfl hl.1 rfl (lv_room (Nat.le_of_ble_eq_true rfl)) dX1_walkOn_23 ⟨Nat.zero_le _, Nat.zero_le _⟩) hI hA (fun r3 ur3 H locs hr3 hI => ?_)
    obtain ⟨pf', hr3, rfl⟩ := hr3
    exact gIret hX hr hlk hI ⟨pf', by rw [hjE, if_neg c2]; exact hr3, by rw [hjE, if_neg c2]⟩ dX1_walkOn_26
  · refine lv_iconst (v := 0) hx hb dX1_walkOn_16 (by decide) ?_
    refine lv_goto (tgt := 21) hx hb dX1_walkOn_17 (by decide) ?_
    refine lv_iload_n hx hb dX1_walkOn_21 rfl (lv_at hl 0 rfl) ?_
    refine lv_iload_n hx hb dX1_walkOn_22 rfl (lv_at hl 3 rfl) ?_
    have hI : InW D A s.heap (wCn g q cI cH ad pf n σ) s.heap [] := hI
    refine gCalli (va_runV (As := [.int (nI j), .int (0), .int ((y) / (10)), .int (2)]) (rest := []) hX (c_walkTo_1 l D cI cH g q ad pf n σ _ j w (0) ((y) / (10)) hj (by omega) hg hkd) (cwV 4 hts gX1_walkOn_X1_walkTo rfl rfl rfl (by decide +kernel) ⟨Nat.le_of_ble_eq_true rfl, Nat.le_of_ble_eq_true rfl⟩) ⟨gPre_blind, gRecv hI hK (ci := 1) (q0 := 0) rfl rfl, gPre_ok hI hK hN⟩ rfl rfl hl.1 rfl (lv_room (Nat.le_of_ble_eq_true rfl)) dX1_walkOn_23 ⟨Nat.zero_le _, Nat.zero_le _⟩) hI hA (fun r4 ur4 H locs hr4 hI => ?_)
    obtain ⟨pf', hr4, rfl⟩ := hr4
    exact gIret hX hr hlk hI ⟨pf', by rw [hjE, if_pos c2]; exact hr4, by rw [hjE, if_pos c2]⟩ dX1_walkOn_26
set_option maxHeartbeats 4000000 in
set_option maxRecDepth 100000 in
theorem c_doDeed_1 (l : Launch) (D : va_G) (cI cH : ClassId) (g : Nat) (q : Nat → Nat) (ad : Nat → Nat) (pf : Nat → Int32) (n : Nat) (σ : gh_S) (sz : Nat) (w : Nat) (x y : Int32) (hw10 : w + 10 * 1 ≤ 30) (hw1 : 0 < w) (hg : gI n w σ) (hkd : gKd n σ) : gMi l yX1_doDeed wsX1_doDeed ({ frames := 6, cells := 0, slots := 0, locals := 140 }) D (wCn g q cI cH ad pf n σ) (gTy cI cH) sz [.ref g, .int (x), .int (y), .int (2)] (fun r u => ∃ pf' : Nat → Int32, r = (zDD 1 σ x y).1 ∧ u = wCn g q cI cH ad pf' n (zDD 1 σ x y).2) := by
  refine gEnter (cc := cX1_doDeed) (maxL := 5) (ret := (some .int)) (QF := fun A => va_Qi _ (gPost D A) A) (by decide) rfl (Nat.le_of_ble_eq_true rfl) ?_
  intro p e s m below meth c A ls hX hr hlk hnm hK hN hA hI hl
  have hx := hX.1
  have hb := hX.2.1
  have hts := hX.2.2.2.2
  have hown : s.vm.findClass RX1 = some m.cls := hX.2.2.2.1
  have hin0 := iX1_doDeed_0
  have hin1 := iX1_doDeed_1
  have hl : lv_has ls 5 [(0, .ref g), (1, .int (x)), (2, .int (y)), (3, .int (2))] := hl
  have hI : InW D A s.heap (wCr g q cI cH ad pf (gfh ad σ) (gfp ad σ) n σ) s.heap [] := hI
  obtain ⟨hn, hw, ⟨t, ht, htE⟩, hpl, hpar, hrow, hn4, hw30, hz⟩ := id hg
  obtain ⟨i, hi, hIn, hiE, e1⟩ := zInner_of hw1 hg
  refine lv_aload_n hx hb dX1_doDeed_0 rfl (lv_at hl 0 rfl) ?_
  have hI : InW D A s.heap (wCn g q cI cH ad pf n σ) s.heap [] := hI
  refine gCallq (va_runV (As := []) (rest := []) hX (c_X1_innermost l D cI cH g q ad pf n σ _ w i hw1 hg hi hiE) (cwV 0 hts gX1_doDeed_X1_innermost rfl rfl rfl (by decide +kernel) ⟨Nat.le_of_ble_eq_true rfl, Nat.le_of_ble_eq_true rfl⟩) ⟨gPre_blind, gRecv hI hK (ci := 1) (q0 := 0) rfl rfl, gPre_ok hI hK hN⟩ rfl rfl hl.1 rfl (lv_room (Nat.le_of_ble_eq_true rfl)) dX1_doDeed_1 ⟨Nat.zero_le _, Nat.zero_le _⟩) hI hA (fun r1 ur1 H locs hr1 hI => ?_)
  obtain ⟨rfl, rfl⟩ := hr1
  refine gTopR ?_
  refine lv_astore (lv' := [(4, .ref (ad i)), (0, .ref g), (1, .int (x)), (2, .int (y)), (3, .int (2))]) hx hb dX1_doDeed_4 hl (by decide) rfl (fun ls hl => ?_)
  refine lv_aload hx hb dX1_doDeed_6 (lv_at hl 0 rfl) ?_
  refine lv_ifnonnull (tgt := 13) hx hb dX1_doDeed_8 (by decide) ?_
  refine lv_iload_n hx hb dX1_doDeed_13 rfl (lv_at hl 2 rfl) ?_
  rcases g_sw17 x with h2 | rfl | rfl | rfl | rfl | rfl | rfl | rfl
  · refine lv_tableOut (tgt := 122) hx hb dX1_doDeed_14 h2 (by decide) ?_
    refine lv_iconst (v := 0) hx hb dX1_doDeed_122 (by decide) ?_
    exact gIret hX hr hlk hI ⟨pf, by rw [zDD_out h2], by rw [zDD_out h2]⟩ dX1_doDeed_123
  · refine lv_tableIn (tgt := 56) (off := 42) hx hb dX1_doDeed_14 (by decide) (by decide) (by decide) (by decide) ?_
    refine lv_aload hx hb dX1_doDeed_56 (lv_at hl 0 rfl) ?_
    refine lv_dup hx hb dX1_doDeed_58 rfl ?_
    refine hGet (i := i) (v := .int (σ.1 3 (i))) hX hin0 hK hI hi 3 (by decide) hN.2.1 rfl dX1_doDeed_59 ?_
    refine lv_iload_n hx hb dX1_doDeed_62 rfl (lv_at hl 3 rfl) ?_
    refine lv_iadd hx hb dX1_doDeed_63 ?_
    refine hPut (i := i) hX hin0 hK hI hi 3 (by decide) hN.2.1 rfl rfl gHs3 (by decide) (by decide) dX1_doDeed_64 (fun H locs hI => ?_)
    refine lv_iconst (v := 0) hx hb dX1_doDeed_67 (by decide) ?_
    exact gIret hX hr hlk hI ⟨pf, by rw [zDD_deed (by decide) hIn]; rfl, by rw [zDD_deed (by decide) hIn]; rfl⟩ dX1_doDeed_68
  · refine lv_tableIn (tgt := 69) (off := 55) hx hb dX1_doDeed_14 (by decide) (by decide) (by decide) (by decide) ?_
    refine lv_aload_n hx hb dX1_doDeed_69 rfl (lv_at hl 1 rfl) ?_
    refine lv_aload hx hb dX1_doDeed_70 (lv_at hl 0 rfl) ?_
    have hI : InW D A s.heap (wCn g q cI cH ad pf n σ) H locs := hI
    refine gCalli (va_runV (As := [.ref (ad i)]) (rest := []) hX (c_X1_takeGifts l D cI cH g q ad pf n σ _ i hi) (cwV 1 hts gX1_doDeed_X1_takeGifts rfl rfl rfl (by decide +kernel) ⟨Nat.le_of_ble_eq_true rfl, Nat.le_of_ble_eq_true rfl⟩) ⟨gPre_blind, gRecv hI hK (ci := 1) (q0 := 0) rfl rfl, gPre_ok hI hK hN⟩ rfl rfl hl.1 rfl (lv_room (Nat.le_of_ble_eq_true rfl)) dX1_doDeed_72 ⟨Nat.zero_le _, Nat.zero_le _⟩) hI hA (fun r3 ur3 H locs hr3 hI => ?_)
    obtain ⟨hr3, rfl⟩ := hr3
    exact gIret hX hr hlk hI ⟨pf, by rw [zDD_deed (by decide) hIn]; rw [zDeed2]; exact hr3, by rw [zDD_deed (by decide) hIn]; rw [zDeed2]⟩ dX1_doDeed_75
  · refine lv_tableIn (tgt := 76) (off := 62) hx hb dX1_doDeed_14 (by decide) (by decide) (by decide) (by decide) ?_
    refine lv_aload hx hb dX1_doDeed_76 (lv_at hl 0 rfl) ?_
    refine lv_iload_n hx hb dX1_doDeed_78 rfl (lv_at hl 3 rfl) ?_
    have hI : InW D A s.heap (wCn g q cI cH ad pf n σ) H locs := hI
    refine gCalli (va_runS (As := [.ref (ad i), .int (y)]) (rest := []) hX (c_X1_divideGifts l D cI cH g q ad pf n σ _ i hi y) (va_cwS 2 hts gX1_doDeed_X1_divideGifts rfl rfl rfl (by decide +kernel) ⟨Nat.le_of_ble_eq_true rfl, Nat.le_of_ble_eq_true rfl⟩) ⟨gPre_blind, gPre_ok hI hK hN⟩ rfl rfl hl.1 rfl (lv_room (Nat.le_of_ble_eq_true rfl)) dX1_doDeed_79 ⟨Nat.zero_le _, Nat.zero_le _⟩) hI hA (fun r4 ur4 H locs hr4 hI => ?_)
    obtain ⟨hr4, rfl⟩ := hr4
    exact gIret hX hr hlk hI ⟨pf, by rw [zDD_deed (by decide) hIn]; rw [zDeed3]; exact hr4, by rw [zDD_deed (by decide) hIn]; rw [zDeed3]⟩ dX1_doDeed_82
  · refine lv_tableIn (tgt := 83) (off := 69) hx hb dX1_doDeed_14 (by decide) (by decide) (by decide) (by decide) ?_
    refine lv_aload_n hx hb dX1_doDeed_83 rfl (lv_at hl 1 rfl) ?_
    refine cGet (v := .ref (q 0)) hX hin1 hK hI 0 (by decide) (hts (.fieldLink RX1 11 "GateHalls" "halls" "[LGateHalls$Hall;") (by decide +kernel)) rfl dX1_doDeed_84 ?_
    refine lv_iload_n hx hb dX1_doDeed_87 rfl (lv_at hl 3 rfl) ?_
    refine lv_bipush (v := 10) hx hb dX1_doDeed_88 (by decide) ?_
    refine vp_callSi (W.runS (As := [.int (y), .int (10)]) (rest := [.ref (q 0)]) hX (c_fm10 l (y)) (va_cwS 2 hts gX1_doDeed_J9_floorMod_7cf53 rfl rfl rfl (by decide +kernel) ⟨Nat.le_of_ble_eq_true rfl, Nat.le_of_ble_eq_true rfl⟩) preEq rfl rfl hl.1 rfl (lv_room (Nat.le_of_ble_eq_true rfl)) dX1_doDeed_90 ⟨Nat.le_of_ble_eq_true rfl, Nat.le_of_ble_eq_true rfl⟩) (fun r5 hr5 => ?_)
    obtain ⟨j, hj, hjE⟩ := zTen_in y
    have hjC : (zTen y).toNatClampNeg = j := by rw [hjE]; exact nI_clamp (by omega)
    refine lv_null hx hb dX1_doDeed_93 ?_
    refine gQstN (j := j) (w' := wCr g q cI cH ad pf (va_up (gfh ad σ) (j) none) (gfp ad σ) n σ) hX hK hI 1 1 rfl rfl (hr5.trans hjE) (by omega) (by decide) rfl dX1_doDeed_94 (fun H locs hI => ?_)
    refine lv_iconst (v := 0) hx hb dX1_doDeed_95 (by decide) ?_
    exact gIret hX hr hlk hI ⟨pf, by rw [zDD_deed (by decide) hIn]; unfold zDeed; rw [if_neg (by decide), if_neg (by decide), if_neg (by decide), if_pos rfl], by rw [zDD_deed (by decide) hIn]; unfold zDeed; rw [if_neg (by decide), if_neg (by decide), if_neg (by decide), if_pos rfl]; rw [hjC, gfh_none hj]; rfl⟩ dX1_doDeed_96
  · refine lv_tableIn (tgt := 97) (off := 83) hx hb dX1_doDeed_14 (by decide) (by decide) (by decide) (by decide) ?_
    refine lv_aload_n hx hb dX1_doDeed_97 rfl (lv_at hl 1 rfl) ?_
    refine lv_iload_n hx hb dX1_doDeed_98 rfl (lv_at hl 3 rfl) ?_
    refine lv_iload_n hx hb dX1_doDeed_99 rfl (lv_at hl 4 rfl) ?_
    have hI : InW D A s.heap (wCn g q cI cH ad pf n σ) H locs := hI
    refine gCalli (va_runV (As := [.int (y), .int (2)]) (rest := []) hX (c_walkOn_1 l D cI cH g q ad pf n σ _ w y (by omega) hg hkd) (cwV 2 hts gX1_doDeed_X1_walkOn rfl rfl rfl (by decide +kernel) ⟨Nat.le_of_ble_eq_true rfl, Nat.le_of_ble_eq_true rfl⟩) ⟨gPre_blind, gRecv hI hK (ci := 1) (q0 := 0) rfl rfl, gPre_ok hI hK hN⟩ rfl rfl hl.1 rfl (lv_room (Nat.le_of_ble_eq_true rfl)) dX1_doDeed_100 ⟨Nat.zero_le _, Nat.zero_le _⟩) hI hA (fun r6 ur6 H locs hr6 hI => ?_)
    obtain ⟨pf', hr6, rfl⟩ := hr6
    exact gIret hX hr hlk hI ⟨pf', by rw [zDD5]; exact hr6, by rw [zDD5]⟩ dX1_doDeed_103
  · refine lv_tableIn (tgt := 104) (off := 90) hx hb dX1_doDeed_14 (by decide) (by decide) (by decide) (by decide) ?_
    refine lv_bipush (v := 20) hx hb dX1_doDeed_104 (by decide) ?_
    refine lv_iload_n hx hb dX1_doDeed_106 rfl (lv_at hl 3 rfl) ?_
    refine lv_iconst (v := 4) hx hb dX1_doDeed_107 (by decide) ?_
    refine vp_callSi (W.runS (As := [.int (y), .int (4)]) (rest := [.int (20)]) hX (c_fm4 l (y)) (va_cwS 2 hts gX1_doDeed_J9_floorMod_7cf53 rfl rfl rfl (by decide +kernel) ⟨Nat.le_of_ble_eq_true rfl, Nat.le_of_ble_eq_true rfl⟩) preEq rfl rfl hl.1 rfl (lv_room (Nat.le_of_ble_eq_true rfl)) dX1_doDeed_108 ⟨Nat.le_of_ble_eq_true rfl, Nat.le_of_ble_eq_true rfl⟩) (fun r7 hr7 => ?_)
    refine lv_iadd hx hb dX1_doDeed_111 ?_
    exact gIret hX hr hlk hI ⟨pf, by rw [zDD_deed (by decide) hIn]; unfold zDeed; rw [if_neg (by decide), if_neg (by decide), if_neg (by decide), if_neg (by decide), if_pos rfl]; rw [hr7], by rw [zDD_deed (by decide) hIn]; unfold zDeed; rw [if_neg (by decide), if_neg (by decide), if_neg (by decide), if_neg (by decide), if_pos rfl]⟩ dX1_doDeed_112
  · refine lv_tableIn (tgt := 113) (off := 99) hx hb dX1_doDeed_14 (by decide) (by decide) (by decide) (by decide) ?_
    refine lv_aload_n hx hb dX1_doDeed_113 rfl (lv_at hl 1 rfl) ?_
    refine lv_aload_n hx hb dX1_doDeed_114 rfl (lv_at hl 1 rfl) ?_
    refine cGet (v := .int (σ.2 17)) hX hin1 hK hI 6 (by decide) (hts (.fieldLink RX1 96 "GateHalls" "depth" "I") (by decide +kernel)) rfl dX1_doDeed_115 ?_
    have hI : InW D A s.heap (wCn g q cI cH ad pf n σ) H locs := hI
    refine gCalli (va_runV (As := [.int (σ.2 17)]) (rest := []) hX (c_X1_addToPurse l D cI cH g q ad pf n σ _ (σ.2 17)) (cwV 1 hts gX1_doDeed_X1_addToPurse rfl rfl rfl (by decide +kernel) ⟨Nat.le_of_ble_eq_true rfl, Nat.le_of_ble_eq_true rfl⟩) ⟨gPre_blind, gRecv hI hK (ci := 1) (q0 := 0) rfl rfl, gPre_ok hI hK hN⟩ rfl rfl hl.1 rfl (lv_room (Nat.le_of_ble_eq_true rfl)) dX1_doDeed_118 ⟨Nat.zero_le _, Nat.zero_le _⟩) hI hA (fun r8 ur8 H locs hr8 hI => ?_)
    obtain ⟨hr8, rfl⟩ := hr8
    exact gIret hX hr hlk hI ⟨pf, by rw [zDD_deed (by decide) hIn]; unfold zDeed; rw [if_neg (by decide), if_neg (by decide), if_neg (by decide), if_neg (by decide), if_neg (by decide), if_pos rfl]; exact hr8, by rw [zDD_deed (by decide) hIn]; unfold zDeed; rw [if_neg (by decide), if_neg (by decide), if_neg (by decide), if_neg (by decide), if_neg (by decide), if_pos rfl]⟩ dX1_doDeed_121
set_option maxHeartbeats 4000000 in
set_option maxRecDepth 100000 in
theorem c_walkTo_2 (l : Launch) (D : va_G) (cI cH : ClassId) (g : Nat) (q : Nat → Nat) (ad : Nat → Nat) (pf : Nat → Int32) (n : Nat) (σ : gh_S) (sz : Nat) (p0 w : Nat) (x y : Int32) (hp : p0 < 10) (hw10 : w + 10 * 2 ≤ 30) (hg : gI n w σ) (hkd : gKd n σ) : gMi l yX1_walkTo wsX1_walkTo ({ frames := 7, cells := 0, slots := 0, locals := 164 }) D (wCn g q cI cH ad pf n σ) (gTy cI cH) sz [.ref g, .int (nI p0), .int (x), .int (y), .int (1)] (fun r u => ∃ pf' : Nat → Int32, r = (zWT 2 σ (nI p0) x y).1 ∧ u = wCn g q cI cH ad pf' n (zWT 2 σ (nI p0) x y).2) := by
  refine gEnter (cc := cX1_walkTo) (maxL := 8) (ret := (some .int)) (QF := fun A => va_Qi _ (gPost D A) A) (by decide) rfl (Nat.le_of_ble_eq_true rfl) ?_
  intro p e s m below meth c A ls hX hr hlk hnm hK hN hA hI hl
  have hx := hX.1
  have hb := hX.2.1
  have hts := hX.2.2.2.2
  have hown : s.vm.findClass RX1 = some m.cls := hX.2.2.2.1
  have hin1 := iX1_walkTo_1
  have hl : lv_has ls 8 [(0, .ref g), (1, .int (nI p0)), (2, .int (x)), (3, .int (y)), (4, .int (1))] := hl
  have hI : InW D A s.heap (wCr g q cI cH ad pf (gfh ad σ) (gfp ad σ) n σ) s.heap [] := hI
  obtain ⟨hn, hw, ⟨t, ht, htE⟩, hpl, hpar, hrow, hn4, hw30, hz⟩ := id hg
  have hg1 : gI n w (uS σ 15 (σ.2 15 + 1)) := gI_uS 15 _ (by decide) (by decide) (by decide) hg
  refine lv_iload hx hb dX1_walkTo_0 (lv_at hl 4 rfl) ?_
  refine lv_iconst (v := 3) hx hb dX1_walkTo_2 (by decide) ?_
  refine lv_icmp_lt (tgt := 8) hx hb dX1_walkTo_3 (by decide) (fun c1 => ?_) (fun c1 => False.elim (by revert c1; decide))
  refine lv_aload_n hx hb dX1_walkTo_8 rfl (lv_at hl 0 rfl) ?_
  refine lv_dup hx hb dX1_walkTo_9 rfl ?_
  refine cGet (v := .int (σ.2 15)) hX hin1 hK hI 11 (by decide) (hts (.fieldLink RX1 90 "GateHalls" "walksBegun" "I") (by decide +kernel)) rfl dX1_walkTo_10 ?_
  refine lv_iconst (v := 1) hx hb dX1_walkTo_13 (by decide) ?_
  refine lv_iadd hx hb dX1_walkTo_14 ?_
  refine cPut (σ' := (uS σ 15 ((σ.2 15) + (1)))) hX hin1 hK hI 11 (by decide) (hts (.fieldLink RX1 90 "GateHalls" "walksBegun" "I") (by decide +kernel)) rfl rfl rfl dX1_walkTo_15 (fun H locs hI => ?_)
  refine lv_aload_n hx hb dX1_walkTo_18 rfl (lv_at hl 0 rfl) ?_
  refine lv_iload_n hx hb dX1_walkTo_19 rfl (lv_at hl 1 rfl) ?_
  have hI : InW D A s.heap (wCn g q cI cH ad pf n (uS σ 15 ((σ.2 15) + (1)))) H locs := hI
  refine gCalli (va_runV (As := [.int (nI p0)]) (rest := []) hX (c_X1_findPath l D cI cH g q ad pf n (uS σ 15 ((σ.2 15) + (1))) _ p0 w hp hg1) (cwV 1 hts gX1_walkTo_X1_findPath rfl rfl rfl (by decide +kernel) ⟨Nat.le_of_ble_eq_true rfl, Nat.le_of_ble_eq_true rfl⟩) ⟨gPre_blind, gRecv hI hK (ci := 1) (q0 := 0) rfl rfl, gPre_ok hI hK hN⟩ rfl rfl hl.1 rfl (lv_room (Nat.le_of_ble_eq_true rfl)) dX1_walkTo_20 ⟨Nat.zero_le _, Nat.zero_le _⟩) hI hA (fun r2 ur2 H locs hr2 hI => ?_)
  obtain ⟨pf', rfl, hr2⟩ := hr2
  rcases hr2 with ⟨k, hk10, hk0, rfl, hkE, hkj⟩ | ⟨rfl, hall⟩
  · have hGo : zGo σ (nI p0) = zDown (zOrb (σ.1 10) (nI p0)) k (uS σ 15 (σ.2 15 + 1)) := zGo_some hk10 (fun j hj => (hkj j hj).2) hkE
    obtain ⟨w', hw1, hw2, hgG, hw3⟩ := gI_go (p := nI p0) (by omega) ⟨p0, hp, rfl⟩ hg
    have hkG : gKd n (zGo σ (nI p0)).2 := gKd_of k_go hkd
    refine lv_istore (lv' := [(5, .int (nI k)), (0, .ref g), (1, .int (nI p0)), (2, .int (x)), (3, .int (y)), (4, .int (1))]) hx hb dX1_walkTo_23 hl (by decide) rfl (fun ls hl => ?_)
    refine lv_iload hx hb dX1_walkTo_25 (lv_at hl 0 rfl) ?_
    refine lv_if_ne (tgt := 33) hx hb dX1_walkTo_27 (by decide) (fun c3 => ?_) (fun c3 => absurd c3 (nI_ne0 hk0 (by omega)))
    refine lv_aload_n hx hb dX1_walkTo_33 rfl (lv_at hl 1 rfl) ?_
    refine cGet (v := .int (σ.2 17)) hX hin1 hK hI 6 (by decide) (hts (.fieldLink RX1 96 "GateHalls" "depth" "I") (by decide +kernel)) rfl dX1_walkTo_34 ?_
    refine gTop (y := nI w) hw ?_
    refine lv_istore (lv' := [(6, .int (nI w)), (5, .int (nI k)), (0, .ref g), (1, .int (nI p0)), (2, .int (x)), (3, .int (y)), (4, .int (1))]) hx hb dX1_walkTo_37 hl (by decide) rfl (fun ls hl => ?_)
    refine lv_aload_n hx hb dX1_walkTo_39 rfl (lv_at hl 2 rfl) ?_
    refine lv_iload hx hb dX1_walkTo_40 (lv_at hl 1 rfl) ?_
    have hI : InW D A s.heap (wCn g q cI cH ad pf' n (uS σ 15 ((σ.2 15) + (1)))) H locs := hI
    refine gCalli (va_runV (As := [.int (nI k)]) (rest := []) hX (c_X1_passPath l D cI cH g q ad pf' n (uS σ 15 ((σ.2 15) + (1))) _ (zOrb (σ.1 10) (nI p0)) k w hk10 (by omega) (fun j hj => ⟨(hkj j hj).1, (zOrb_in hg ⟨p0, hp, rfl⟩ j).resolve_left (hkj j hj).2⟩) hg1 hkd) (cwV 1 hts gX1_walkTo_X1_passPath rfl rfl rfl (by decide +kernel) ⟨Nat.le_of_ble_eq_true rfl, Nat.le_of_ble_eq_true rfl⟩) ⟨gPre_blind, gRecv hI hK (ci := 1) (q0 := 0) rfl rfl, gPre_ok hI hK hN⟩ rfl rfl hl.1 rfl (lv_room (Nat.le_of_ble_eq_true rfl)) dX1_walkTo_42 ⟨Nat.zero_le _, Nat.zero_le _⟩) hI hA (fun r4 ur4 H locs hr4 hI => ?_)
    obtain ⟨hr4, rfl⟩ := hr4
    have hGo1 := congrArg Prod.fst hGo
    have hGo2 := congrArg Prod.snd hGo
    have hI : InW D A s.heap (wCn g q cI cH ad pf' n (zGo σ (nI p0)).2) H locs := by rw [hGo2]; exact hI
    have hr4G : r4 = (zGo σ (nI p0)).1 := by rw [hGo1]; exact hr4
    refine lv_istore (lv' := [(7, .int (r4)), (6, .int (nI w)), (5, .int (nI k)), (0, .ref g), (1, .int (nI p0)), (2, .int (x)), (3, .int (y)), (4, .int (1))]) hx hb dX1_walkTo_45 hl (by decide) rfl (fun ls hl => ?_)
    refine lv_iload hx hb dX1_walkTo_47 (lv_at hl 0 rfl) ?_
    refine lv_if_ne (tgt := 64) hx hb dX1_walkTo_49 (by decide) (fun c5 => ?_) (fun c5 => ?_)
    · have hc0 : ¬ (zGo σ (nI p0)).1 = 0 := by rw [← hr4G]; exact c5
      refine lv_aload_n hx hb dX1_walkTo_64 rfl (lv_at hl 3 rfl) ?_
      refine lv_iload hx hb dX1_walkTo_65 (lv_at hl 1 rfl) ?_
      have hI : InW D A s.heap (wCn g q cI cH ad pf' n (zGo σ (nI p0)).2) H locs := hI
      refine gCallv (va_runV (As := [.int (nI w)]) (rest := []) hX (c_X1_leaveUntil l D cI cH g q ad pf' n (zGo σ (nI p0)).2 _ w w' (by omega) hgG) (cwV 1 hts gX1_walkTo_X1_leaveUntil rfl rfl rfl (by decide +kernel) ⟨Nat.le_of_ble_eq_true rfl, Nat.le_of_ble_eq_true rfl⟩) ⟨gPre_blind, gRecv hI hK (ci := 1) (q0 := 0) rfl rfl, gPre_ok hI hK hN⟩ rfl rfl hl.1 rfl (lv_room (Nat.le_of_ble_eq_true rfl)) dX1_walkTo_67 ⟨Nat.zero_le _, Nat.zero_le _⟩) hI hA (fun ur6 H locs hr6 hI => ?_)
      subst hr6
      refine lv_iload hx hb dX1_walkTo_70 (lv_at hl 0 rfl) ?_
      exact gIret hX hr hlk hI ⟨_, by rw [zWT_no hc0]; exact hr4G, by rw [zWT_no hc0]; show _ = wCn g q cI cH ad pf' n (zPops _ (zW _ - zW σ)); rw [zW_of hgG, zW_of hg]⟩ dX1_walkTo_72
    · have hc0 : (zGo σ (nI p0)).1 = 0 := by rw [← hr4G]; exact c5
      refine lv_aload_n hx hb dX1_walkTo_52 rfl (lv_at hl 3 rfl) ?_
      refine lv_iload_n hx hb dX1_walkTo_53 rfl (lv_at hl 5 rfl) ?_
      refine lv_iload_n hx hb dX1_walkTo_54 rfl (lv_at hl 6 rfl) ?_
      refine lv_iload hx hb dX1_walkTo_55 (lv_at hl 7 rfl) ?_
      refine lv_iconst (v := 1) hx hb dX1_walkTo_57 (by decide) ?_
      refine lv_iadd hx hb dX1_walkTo_58 ?_
      refine gTop (y := 2) (by decide) ?_
      have hI : InW D A s.heap (wCn g q cI cH ad pf' n (zGo σ (nI p0)).2) H locs := hI
      refine gCalli (va_runV (As := [.int (x), .int (y), .int (2)]) (rest := []) hX (c_doDeed_1 l D cI cH g q ad pf' n (zGo σ (nI p0)).2 _ w' x y (by omega) (by have := hw3 hc0; omega) hgG hkG) (cwV 3 hts gX1_walkTo_X1_doDeed rfl rfl rfl (by decide +kernel) ⟨Nat.le_of_ble_eq_true rfl, Nat.le_of_ble_eq_true rfl⟩) ⟨gPre_blind, gRecv hI hK (ci := 1) (q0 := 0) rfl rfl, gPre_ok hI hK hN⟩ rfl rfl hl.1 rfl (lv_room (Nat.le_of_ble_eq_true rfl)) dX1_walkTo_59 ⟨Nat.zero_le _, Nat.zero_le _⟩) hI hA (fun r7 ur7 H locs hr7 hI => ?_)
      obtain ⟨pf'', hr7, rfl⟩ := hr7
      have hgD := gI_dd (f := 1) (x := x) (y := y) (by omega) (by have := hw3 hc0; omega) hgG
      refine lv_istore (lv' := [(7, .int (r7)), (6, .int (nI w)), (5, .int (nI k)), (0, .ref g), (1, .int (nI p0)), (2, .int (x)), (3, .int (y)), (4, .int (1))]) hx hb dX1_walkTo_62 hl (by decide) rfl (fun ls hl => ?_)
      refine lv_aload_n hx hb dX1_walkTo_64 rfl (lv_at hl 3 rfl) ?_
      refine lv_iload hx hb dX1_walkTo_65 (lv_at hl 1 rfl) ?_
      have hI : InW D A s.heap (wCn g q cI cH ad pf'' n (zDD 1 (zGo σ (nI p0)).2 x y).2) H locs := hI
      refine gCallv (va_runV (As := [.int (nI w)]) (rest := []) hX (c_X1_leaveUntil l D cI cH g q ad pf'' n (zDD 1 (zGo σ (nI p0)).2 x y).2 _ w w' (by omega) hgD) (cwV 1 hts gX1_walkTo_X1_leaveUntil rfl rfl rfl (by decide +kernel) ⟨Nat.le_of_ble_eq_true rfl, Nat.le_of_ble_eq_true rfl⟩) ⟨gPre_blind, gRecv hI hK (ci := 1) (q0 := 0) rfl rfl, gPre_ok hI hK hN⟩ rfl rfl hl.1 rfl (lv_room (Nat.le_of_ble_eq_true rfl)) dX1_walkTo_67 ⟨Nat.zero_le _, Nat.zero_le _⟩) hI hA (fun ur8 H locs hr8 hI => ?_)
      subst hr8
      refine lv_iload hx hb dX1_walkTo_70 (lv_at hl 0 rfl) ?_
      exact gIret hX hr hlk hI ⟨_, by rw [zWT_go hc0]; exact hr7, by rw [zWT_go hc0]; show _ = wCn g q cI cH ad pf'' n (zPops _ (zW _ - zW σ)); rw [zW_of hgD, zW_of hg]⟩ dX1_walkTo_72
  · have hGo : zGo σ (nI p0) = (8, (uS σ 15 (σ.2 15 + 1))) := zGo_none8 hall
    refine lv_istore (lv' := [(5, .int (0)), (0, .ref g), (1, .int (nI p0)), (2, .int (x)), (3, .int (y)), (4, .int (1))]) hx hb dX1_walkTo_23 hl (by decide) rfl (fun ls hl => ?_)
    refine lv_iload hx hb dX1_walkTo_25 (lv_at hl 0 rfl) ?_
    refine lv_if_ne (tgt := 33) hx hb dX1_walkTo_27 (by decide) (fun c9 => False.elim (by revert c9; decide)) (fun c9 => ?_)
    refine lv_bipush (v := 8) hx hb dX1_walkTo_30 (by decide) ?_
    exact gIret hX hr hlk hI ⟨_, by rw [zWT_no (by rw [hGo]; exact (show ¬ (8 : Int32) = 0 by decide)), hGo], by rw [zWT_no (by rw [hGo]; exact (show ¬ (8 : Int32) = 0 by decide)), hGo]; show _ = wCn g q cI cH ad pf' n (zPops (uS σ 15 (σ.2 15 + 1)) (zW σ - zW σ)); rw [Nat.sub_self]; rfl⟩ dX1_walkTo_32
set_option maxHeartbeats 4000000 in
set_option maxRecDepth 100000 in
theorem c_walkOn_2 (l : Launch) (D : va_G) (cI cH : ClassId) (g : Nat) (q : Nat → Nat) (ad : Nat → Nat) (pf : Nat → Int32) (n : Nat) (σ : gh_S) (sz : Nat) (w : Nat) (y : Int32) (hw10 : w + 10 * 2 ≤ 30) (hg : gI n w σ) (hkd : gKd n σ) : gMi l yX1_walkOn wsX1_walkOn ({ frames := 8, cells := 0, slots := 0, locals := 191 }) D (wCn g q cI cH ad pf n σ) (gTy cI cH) sz [.ref g, .int (y), .int (1)] (fun r u => ∃ pf' : Nat → Int32, r = (zWT 2 σ (zTen y) (if y / 10 = 0 then 0 else 5) (y / 10)).1 ∧ u = wCn g q cI cH ad pf' n (zWT 2 σ (zTen y) (if y / 10 = 0 then 0 else 5) (y / 10)).2) := by
  refine gEnter (cc := cX1_walkOn) (maxL := 4) (ret := (some .int)) (QF := fun A => va_Qi _ (gPost D A) A) (by decide) rfl (Nat.le_of_ble_eq_true rfl) ?_
  intro p e s m below meth c A ls hX hr hlk hnm hK hN hA hI hl
  have hx := hX.1
  have hb := hX.2.1
  have hts := hX.2.2.2.2
  have hown : s.vm.findClass RX1 = some m.cls := hX.2.2.2.1
  have hl : lv_has ls 4 [(0, .ref g), (1, .int (y)), (2, .int (1))] := hl
  have hI : InW D A s.heap (wCr g q cI cH ad pf (gfh ad σ) (gfp ad σ) n σ) s.heap [] := hI
  refine lv_iload_n hx hb dX1_walkOn_0 rfl (lv_at hl 1 rfl) ?_
  refine lv_bipush (v := 10) hx hb dX1_walkOn_1 (by decide) ?_
  refine lv_idiv hx hb dX1_walkOn_3 (by decide) ?_
  refine lv_istore_n (lv' := [(3, .int ((y) / (10))), (0, .ref g), (1, .int (y)), (2, .int (1))]) hx hb dX1_walkOn_4 rfl hl (by decide) rfl (fun ls hl => ?_)
  refine lv_aload_n hx hb dX1_walkOn_5 rfl (lv_at hl 1 rfl) ?_
  refine lv_iload_n hx hb dX1_walkOn_6 rfl (lv_at hl 2 rfl) ?_
  refine lv_bipush (v := 10) hx hb dX1_walkOn_7 (by decide) ?_
  refine vp_callSi (W.runS (As := [.int (y), .int (10)]) (rest := [.ref g]) hX (c_fm10 l (y)) (va_cwS 2 hts gX1_walkOn_J9_floorMod_7cf53 rfl rfl rfl (by decide +kernel) ⟨Nat.le_of_ble_eq_true rfl, Nat.le_of_ble_eq_true rfl⟩) preEq rfl rfl hl.1 rfl (lv_room (Nat.le_of_ble_eq_true rfl)) dX1_walkOn_9 ⟨Nat.le_of_ble_eq_true rfl, Nat.le_of_ble_eq_true rfl⟩) (fun r1 hr1 => ?_)
  obtain ⟨j, hj, hjE⟩ := zTen_in y
  refine gTop (y := nI j) (hr1.trans hjE) ?_
  refine lv_iload_n hx hb dX1_walkOn_12 rfl (lv_at hl 0 rfl) ?_
  refine lv_if_ne (tgt := 20) hx hb dX1_walkOn_13 (by decide) (fun c2 => ?_) (fun c2 => ?_)
  · refine lv_iconst (v := 5) hx hb dX1_walkOn_20 (by decide) ?_
    refine lv_iload_n hx hb dX1_walkOn_21 rfl (lv_at hl 0 rfl) ?_
    refine lv_iload_n hx hb dX1_walkOn_22 rfl (lv_at hl 3 rfl) ?_
    have hI : InW D A s.heap (wCn g q cI cH ad pf n σ) s.heap [] := hI
    refine gCalli (va_runV (As := [.int (nI j), .int (5), .int ((y) / (10)), .int (1)]) (rest := []) hX (c_walkTo_2 l D cI cH g q ad pf n σ _ j w (5) ((y) / (10)) hj (by omega) hg hkd) (cwV 4 hts gX1_walkOn_X1_walkTo rfl rfl rfl (by decide +kernel) ⟨Nat.le_of_ble_eq_true rfl, Nat.le_of_ble_eq_true rfl⟩) ⟨gPre_blind, gRecv hI hK (ci := 1) (q0 := 0) rfl rfl, gPre_ok hI hK hN⟩ rfl rfl hl.1 rfl (lv_room (Nat.le_of_ble_eq_true rfl)) dX1_walkOn_23 ⟨Nat.zero_le _, Nat.zero_le _⟩) hI hA (fun r3 ur3 H locs hr3 hI => ?_)
    obtain ⟨pf', hr3, rfl⟩ := hr3
    exact gIret hX hr hlk hI ⟨pf', by rw [hjE, if_neg c2]; exact hr3, by rw [hjE, if_neg c2]⟩ dX1_walkOn_26
  · refine lv_iconst (v := 0) hx hb dX1_walkOn_16 (by decide) ?_
    refine lv_goto (tgt := 21) hx hb dX1_walkOn_17 (by decide) ?_
    refine lv_iload_n hx hb dX1_walkOn_21 rfl (lv_at hl 0 rfl) ?_
    refine lv_iload_n hx hb dX1_walkOn_22 rfl (lv_at hl 3 rfl) ?_
    have hI : InW D A s.heap (wCn g q cI cH ad pf n σ) s.heap [] := hI
    refine gCalli (va_runV (As := [.int (nI j), .int (0), .int ((y) / (10)), .int (1)]) (rest := []) hX (c_walkTo_2 l D cI cH g q ad pf n σ _ j w (0) ((y) / (10)) hj (by omega) hg hkd) (cwV 4 hts gX1_walkOn_X1_walkTo rfl rfl rfl (by decide +kernel) ⟨Nat.le_of_ble_eq_true rfl, Nat.le_of_ble_eq_true rfl⟩) ⟨gPre_blind, gRecv hI hK (ci := 1) (q0 := 0) rfl rfl, gPre_ok hI hK hN⟩ rfl rfl hl.1 rfl (lv_room (Nat.le_of_ble_eq_true rfl)) dX1_walkOn_23 ⟨Nat.zero_le _, Nat.zero_le _⟩) hI hA (fun r4 ur4 H locs hr4 hI => ?_)
    obtain ⟨pf', hr4, rfl⟩ := hr4
    exact gIret hX hr hlk hI ⟨pf', by rw [hjE, if_pos c2]; exact hr4, by rw [hjE, if_pos c2]⟩ dX1_walkOn_26
set_option maxHeartbeats 4000000 in
set_option maxRecDepth 100000 in
theorem c_doDeed_2 (l : Launch) (D : va_G) (cI cH : ClassId) (g : Nat) (q : Nat → Nat) (ad : Nat → Nat) (pf : Nat → Int32) (n : Nat) (σ : gh_S) (sz : Nat) (w : Nat) (x y : Int32) (hw10 : w + 10 * 2 ≤ 30) (hw1 : 0 < w) (hg : gI n w σ) (hkd : gKd n σ) : gMi l yX1_doDeed wsX1_doDeed ({ frames := 9, cells := 0, slots := 0, locals := 214 }) D (wCn g q cI cH ad pf n σ) (gTy cI cH) sz [.ref g, .int (x), .int (y), .int (1)] (fun r u => ∃ pf' : Nat → Int32, r = (zDD 2 σ x y).1 ∧ u = wCn g q cI cH ad pf' n (zDD 2 σ x y).2) := by
  refine gEnter (cc := cX1_doDeed) (maxL := 5) (ret := (some .int)) (QF := fun A => va_Qi _ (gPost D A) A) (by decide) rfl (Nat.le_of_ble_eq_true rfl) ?_
  intro p e s m below meth c A ls hX hr hlk hnm hK hN hA hI hl
  have hx := hX.1
  have hb := hX.2.1
  have hts := hX.2.2.2.2
  have hown : s.vm.findClass RX1 = some m.cls := hX.2.2.2.1
  have hin0 := iX1_doDeed_0
  have hin1 := iX1_doDeed_1
  have hl : lv_has ls 5 [(0, .ref g), (1, .int (x)), (2, .int (y)), (3, .int (1))] := hl
  have hI : InW D A s.heap (wCr g q cI cH ad pf (gfh ad σ) (gfp ad σ) n σ) s.heap [] := hI
  obtain ⟨hn, hw, ⟨t, ht, htE⟩, hpl, hpar, hrow, hn4, hw30, hz⟩ := id hg
  obtain ⟨i, hi, hIn, hiE, e1⟩ := zInner_of hw1 hg
  refine lv_aload_n hx hb dX1_doDeed_0 rfl (lv_at hl 0 rfl) ?_
  have hI : InW D A s.heap (wCn g q cI cH ad pf n σ) s.heap [] := hI
  refine gCallq (va_runV (As := []) (rest := []) hX (c_X1_innermost l D cI cH g q ad pf n σ _ w i hw1 hg hi hiE) (cwV 0 hts gX1_doDeed_X1_innermost rfl rfl rfl (by decide +kernel) ⟨Nat.le_of_ble_eq_true rfl, Nat.le_of_ble_eq_true rfl⟩) ⟨gPre_blind, gRecv hI hK (ci := 1) (q0 := 0) rfl rfl, gPre_ok hI hK hN⟩ rfl rfl hl.1 rfl (lv_room (Nat.le_of_ble_eq_true rfl)) dX1_doDeed_1 ⟨Nat.zero_le _, Nat.zero_le _⟩) hI hA (fun r1 ur1 H locs hr1 hI => ?_)
  obtain ⟨rfl, rfl⟩ := hr1
  refine gTopR ?_
  refine lv_astore (lv' := [(4, .ref (ad i)), (0, .ref g), (1, .int (x)), (2, .int (y)), (3, .int (1))]) hx hb dX1_doDeed_4 hl (by decide) rfl (fun ls hl => ?_)
  refine lv_aload hx hb dX1_doDeed_6 (lv_at hl 0 rfl) ?_
  refine lv_ifnonnull (tgt := 13) hx hb dX1_doDeed_8 (by decide) ?_
  refine lv_iload_n hx hb dX1_doDeed_13 rfl (lv_at hl 2 rfl) ?_
  rcases g_sw17 x with h2 | rfl | rfl | rfl | rfl | rfl | rfl | rfl
  · refine lv_tableOut (tgt := 122) hx hb dX1_doDeed_14 h2 (by decide) ?_
    refine lv_iconst (v := 0) hx hb dX1_doDeed_122 (by decide) ?_
    exact gIret hX hr hlk hI ⟨pf, by rw [zDD_out h2], by rw [zDD_out h2]⟩ dX1_doDeed_123
  · refine lv_tableIn (tgt := 56) (off := 42) hx hb dX1_doDeed_14 (by decide) (by decide) (by decide) (by decide) ?_
    refine lv_aload hx hb dX1_doDeed_56 (lv_at hl 0 rfl) ?_
    refine lv_dup hx hb dX1_doDeed_58 rfl ?_
    refine hGet (i := i) (v := .int (σ.1 3 (i))) hX hin0 hK hI hi 3 (by decide) hN.2.1 rfl dX1_doDeed_59 ?_
    refine lv_iload_n hx hb dX1_doDeed_62 rfl (lv_at hl 3 rfl) ?_
    refine lv_iadd hx hb dX1_doDeed_63 ?_
    refine hPut (i := i) hX hin0 hK hI hi 3 (by decide) hN.2.1 rfl rfl gHs3 (by decide) (by decide) dX1_doDeed_64 (fun H locs hI => ?_)
    refine lv_iconst (v := 0) hx hb dX1_doDeed_67 (by decide) ?_
    exact gIret hX hr hlk hI ⟨pf, by rw [zDD_deed (by decide) hIn]; rfl, by rw [zDD_deed (by decide) hIn]; rfl⟩ dX1_doDeed_68
  · refine lv_tableIn (tgt := 69) (off := 55) hx hb dX1_doDeed_14 (by decide) (by decide) (by decide) (by decide) ?_
    refine lv_aload_n hx hb dX1_doDeed_69 rfl (lv_at hl 1 rfl) ?_
    refine lv_aload hx hb dX1_doDeed_70 (lv_at hl 0 rfl) ?_
    have hI : InW D A s.heap (wCn g q cI cH ad pf n σ) H locs := hI
    refine gCalli (va_runV (As := [.ref (ad i)]) (rest := []) hX (c_X1_takeGifts l D cI cH g q ad pf n σ _ i hi) (cwV 1 hts gX1_doDeed_X1_takeGifts rfl rfl rfl (by decide +kernel) ⟨Nat.le_of_ble_eq_true rfl, Nat.le_of_ble_eq_true rfl⟩) ⟨gPre_blind, gRecv hI hK (ci := 1) (q0 := 0) rfl rfl, gPre_ok hI hK hN⟩ rfl rfl hl.1 rfl (lv_room (Nat.le_of_ble_eq_true rfl)) dX1_doDeed_72 ⟨Nat.zero_le _, Nat.zero_le _⟩) hI hA (fun r3 ur3 H locs hr3 hI => ?_)
    obtain ⟨hr3, rfl⟩ := hr3
    exact gIret hX hr hlk hI ⟨pf, by rw [zDD_deed (by decide) hIn]; rw [zDeed2]; exact hr3, by rw [zDD_deed (by decide) hIn]; rw [zDeed2]⟩ dX1_doDeed_75
  · refine lv_tableIn (tgt := 76) (off := 62) hx hb dX1_doDeed_14 (by decide) (by decide) (by decide) (by decide) ?_
    refine lv_aload hx hb dX1_doDeed_76 (lv_at hl 0 rfl) ?_
    refine lv_iload_n hx hb dX1_doDeed_78 rfl (lv_at hl 3 rfl) ?_
    have hI : InW D A s.heap (wCn g q cI cH ad pf n σ) H locs := hI
    refine gCalli (va_runS (As := [.ref (ad i), .int (y)]) (rest := []) hX (c_X1_divideGifts l D cI cH g q ad pf n σ _ i hi y) (va_cwS 2 hts gX1_doDeed_X1_divideGifts rfl rfl rfl (by decide +kernel) ⟨Nat.le_of_ble_eq_true rfl, Nat.le_of_ble_eq_true rfl⟩) ⟨gPre_blind, gPre_ok hI hK hN⟩ rfl rfl hl.1 rfl (lv_room (Nat.le_of_ble_eq_true rfl)) dX1_doDeed_79 ⟨Nat.zero_le _, Nat.zero_le _⟩) hI hA (fun r4 ur4 H locs hr4 hI => ?_)
    obtain ⟨hr4, rfl⟩ := hr4
    exact gIret hX hr hlk hI ⟨pf, by rw [zDD_deed (by decide) hIn]; rw [zDeed3]; exact hr4, by rw [zDD_deed (by decide) hIn]; rw [zDeed3]⟩ dX1_doDeed_82
  · refine lv_tableIn (tgt := 83) (off := 69) hx hb dX1_doDeed_14 (by decide) (by decide) (by decide) (by decide) ?_
    refine lv_aload_n hx hb dX1_doDeed_83 rfl (lv_at hl 1 rfl) ?_
    refine cGet (v := .ref (q 0)) hX hin1 hK hI 0 (by decide) (hts (.fieldLink RX1 11 "GateHalls" "halls" "[LGateHalls$Hall;") (by decide +kernel)) rfl dX1_doDeed_84 ?_
    refine lv_iload_n hx hb dX1_doDeed_87 rfl (lv_at hl 3 rfl) ?_
    refine lv_bipush (v := 10) hx hb dX1_doDeed_88 (by decide) ?_
    refine vp_callSi (W.runS (As := [.int (y), .int (10)]) (rest := [.ref (q 0)]) hX (c_fm10 l (y)) (va_cwS 2 hts gX1_doDeed_J9_floorMod_7cf53 rfl rfl rfl (by decide +kernel) ⟨Nat.le_of_ble_eq_true rfl, Nat.le_of_ble_eq_true rfl⟩) preEq rfl rfl hl.1 rfl (lv_room (Nat.le_of_ble_eq_true rfl)) dX1_doDeed_90 ⟨Nat.le_of_ble_eq_true rfl, Nat.le_of_ble_eq_true rfl⟩) (fun r5 hr5 => ?_)
    obtain ⟨j, hj, hjE⟩ := zTen_in y
    have hjC : (zTen y).toNatClampNeg = j := by rw [hjE]; exact nI_clamp (by omega)
    refine lv_null hx hb dX1_doDeed_93 ?_
    refine gQstN (j := j) (w' := wCr g q cI cH ad pf (va_up (gfh ad σ) (j) none) (gfp ad σ) n σ) hX hK hI 1 1 rfl rfl (hr5.trans hjE) (by omega) (by decide) rfl dX1_doDeed_94 (fun H locs hI => ?_)
    refine lv_iconst (v := 0) hx hb dX1_doDeed_95 (by decide) ?_
    exact gIret hX hr hlk hI ⟨pf, by rw [zDD_deed (by decide) hIn]; unfold zDeed; rw [if_neg (by decide), if_neg (by decide), if_neg (by decide), if_pos rfl], by rw [zDD_deed (by decide) hIn]; unfold zDeed; rw [if_neg (by decide), if_neg (by decide), if_neg (by decide), if_pos rfl]; rw [hjC, gfh_none hj]; rfl⟩ dX1_doDeed_96
  · refine lv_tableIn (tgt := 97) (off := 83) hx hb dX1_doDeed_14 (by decide) (by decide) (by decide) (by decide) ?_
    refine lv_aload_n hx hb dX1_doDeed_97 rfl (lv_at hl 1 rfl) ?_
    refine lv_iload_n hx hb dX1_doDeed_98 rfl (lv_at hl 3 rfl) ?_
    refine lv_iload_n hx hb dX1_doDeed_99 rfl (lv_at hl 4 rfl) ?_
    have hI : InW D A s.heap (wCn g q cI cH ad pf n σ) H locs := hI
    refine gCalli (va_runV (As := [.int (y), .int (1)]) (rest := []) hX (c_walkOn_2 l D cI cH g q ad pf n σ _ w y (by omega) hg hkd) (cwV 2 hts gX1_doDeed_X1_walkOn rfl rfl rfl (by decide +kernel) ⟨Nat.le_of_ble_eq_true rfl, Nat.le_of_ble_eq_true rfl⟩) ⟨gPre_blind, gRecv hI hK (ci := 1) (q0 := 0) rfl rfl, gPre_ok hI hK hN⟩ rfl rfl hl.1 rfl (lv_room (Nat.le_of_ble_eq_true rfl)) dX1_doDeed_100 ⟨Nat.zero_le _, Nat.zero_le _⟩) hI hA (fun r6 ur6 H locs hr6 hI => ?_)
    obtain ⟨pf', hr6, rfl⟩ := hr6
    exact gIret hX hr hlk hI ⟨pf', by rw [zDD5]; exact hr6, by rw [zDD5]⟩ dX1_doDeed_103
  · refine lv_tableIn (tgt := 104) (off := 90) hx hb dX1_doDeed_14 (by decide) (by decide) (by decide) (by decide) ?_
    refine lv_bipush (v := 20) hx hb dX1_doDeed_104 (by decide) ?_
    refine lv_iload_n hx hb dX1_doDeed_106 rfl (lv_at hl 3 rfl) ?_
    refine lv_iconst (v := 4) hx hb dX1_doDeed_107 (by decide) ?_
    refine vp_callSi (W.runS (As := [.int (y), .int (4)]) (rest := [.int (20)]) hX (c_fm4 l (y)) (va_cwS 2 hts gX1_doDeed_J9_floorMod_7cf53 rfl rfl rfl (by decide +kernel) ⟨Nat.le_of_ble_eq_true rfl, Nat.le_of_ble_eq_true rfl⟩) preEq rfl rfl hl.1 rfl (lv_room (Nat.le_of_ble_eq_true rfl)) dX1_doDeed_108 ⟨Nat.le_of_ble_eq_true rfl, Nat.le_of_ble_eq_true rfl⟩) (fun r7 hr7 => ?_)
    refine lv_iadd hx hb dX1_doDeed_111 ?_
    exact gIret hX hr hlk hI ⟨pf, by rw [zDD_deed (by decide) hIn]; unfold zDeed; rw [if_neg (by decide), if_neg (by decide), if_neg (by decide), if_neg (by decide), if_pos rfl]; rw [hr7], by rw [zDD_deed (by decide) hIn]; unfold zDeed; rw [if_neg (by decide), if_neg (by decide), if_neg (by decide), if_neg (by decide), if_pos rfl]⟩ dX1_doDeed_112
  · refine lv_tableIn (tgt := 113) (off := 99) hx hb dX1_doDeed_14 (by decide) (by decide) (by decide) (by decide) ?_
    refine lv_aload_n hx hb dX1_doDeed_113 rfl (lv_at hl 1 rfl) ?_
    refine lv_aload_n hx hb dX1_doDeed_114 rfl (lv_at hl 1 rfl) ?_
    refine cGet (v := .int (σ.2 17)) hX hin1 hK hI 6 (by decide) (hts (.fieldLink RX1 96 "GateHalls" "depth" "I") (by decide +kernel)) rfl dX1_doDeed_115 ?_
    have hI : InW D A s.heap (wCn g q cI cH ad pf n σ) H locs := hI
    refine gCalli (va_runV (As := [.int (σ.2 17)]) (rest := []) hX (c_X1_addToPurse l D cI cH g q ad pf n σ _ (σ.2 17)) (cwV 1 hts gX1_doDeed_X1_addToPurse rfl rfl rfl (by decide +kernel) ⟨Nat.le_of_ble_eq_true rfl, Nat.le_of_ble_eq_true rfl⟩) ⟨gPre_blind, gRecv hI hK (ci := 1) (q0 := 0) rfl rfl, gPre_ok hI hK hN⟩ rfl rfl hl.1 rfl (lv_room (Nat.le_of_ble_eq_true rfl)) dX1_doDeed_118 ⟨Nat.zero_le _, Nat.zero_le _⟩) hI hA (fun r8 ur8 H locs hr8 hI => ?_)
    obtain ⟨hr8, rfl⟩ := hr8
    exact gIret hX hr hlk hI ⟨pf, by rw [zDD_deed (by decide) hIn]; unfold zDeed; rw [if_neg (by decide), if_neg (by decide), if_neg (by decide), if_neg (by decide), if_neg (by decide), if_pos rfl]; exact hr8, by rw [zDD_deed (by decide) hIn]; unfold zDeed; rw [if_neg (by decide), if_neg (by decide), if_neg (by decide), if_neg (by decide), if_neg (by decide), if_pos rfl]⟩ dX1_doDeed_121
set_option maxHeartbeats 4000000 in
set_option maxRecDepth 100000 in
theorem c_walkTo_3 (l : Launch) (D : va_G) (cI cH : ClassId) (g : Nat) (q : Nat → Nat) (ad : Nat → Nat) (pf : Nat → Int32) (n : Nat) (σ : gh_S) (sz : Nat) (p0 w : Nat) (x y : Int32) (hp : p0 < 10) (hw10 : w + 10 * 3 ≤ 30) (hg : gI n w σ) (hkd : gKd n σ) : gMi l yX1_walkTo wsX1_walkTo ({ frames := 10, cells := 0, slots := 0, locals := 238 }) D (wCn g q cI cH ad pf n σ) (gTy cI cH) sz [.ref g, .int (nI p0), .int (x), .int (y), .int (0)] (fun r u => ∃ pf' : Nat → Int32, r = (zWT 3 σ (nI p0) x y).1 ∧ u = wCn g q cI cH ad pf' n (zWT 3 σ (nI p0) x y).2) := by
  refine gEnter (cc := cX1_walkTo) (maxL := 8) (ret := (some .int)) (QF := fun A => va_Qi _ (gPost D A) A) (by decide) rfl (Nat.le_of_ble_eq_true rfl) ?_
  intro p e s m below meth c A ls hX hr hlk hnm hK hN hA hI hl
  have hx := hX.1
  have hb := hX.2.1
  have hts := hX.2.2.2.2
  have hown : s.vm.findClass RX1 = some m.cls := hX.2.2.2.1
  have hin1 := iX1_walkTo_1
  have hl : lv_has ls 8 [(0, .ref g), (1, .int (nI p0)), (2, .int (x)), (3, .int (y)), (4, .int (0))] := hl
  have hI : InW D A s.heap (wCr g q cI cH ad pf (gfh ad σ) (gfp ad σ) n σ) s.heap [] := hI
  obtain ⟨hn, hw, ⟨t, ht, htE⟩, hpl, hpar, hrow, hn4, hw30, hz⟩ := id hg
  have hg1 : gI n w (uS σ 15 (σ.2 15 + 1)) := gI_uS 15 _ (by decide) (by decide) (by decide) hg
  refine lv_iload hx hb dX1_walkTo_0 (lv_at hl 4 rfl) ?_
  refine lv_iconst (v := 3) hx hb dX1_walkTo_2 (by decide) ?_
  refine lv_icmp_lt (tgt := 8) hx hb dX1_walkTo_3 (by decide) (fun c1 => ?_) (fun c1 => False.elim (by revert c1; decide))
  refine lv_aload_n hx hb dX1_walkTo_8 rfl (lv_at hl 0 rfl) ?_
  refine lv_dup hx hb dX1_walkTo_9 rfl ?_
  refine cGet (v := .int (σ.2 15)) hX hin1 hK hI 11 (by decide) (hts (.fieldLink RX1 90 "GateHalls" "walksBegun" "I") (by decide +kernel)) rfl dX1_walkTo_10 ?_
  refine lv_iconst (v := 1) hx hb dX1_walkTo_13 (by decide) ?_
  refine lv_iadd hx hb dX1_walkTo_14 ?_
  refine cPut (σ' := (uS σ 15 ((σ.2 15) + (1)))) hX hin1 hK hI 11 (by decide) (hts (.fieldLink RX1 90 "GateHalls" "walksBegun" "I") (by decide +kernel)) rfl rfl rfl dX1_walkTo_15 (fun H locs hI => ?_)
  refine lv_aload_n hx hb dX1_walkTo_18 rfl (lv_at hl 0 rfl) ?_
  refine lv_iload_n hx hb dX1_walkTo_19 rfl (lv_at hl 1 rfl) ?_
  have hI : InW D A s.heap (wCn g q cI cH ad pf n (uS σ 15 ((σ.2 15) + (1)))) H locs := hI
  refine gCalli (va_runV (As := [.int (nI p0)]) (rest := []) hX (c_X1_findPath l D cI cH g q ad pf n (uS σ 15 ((σ.2 15) + (1))) _ p0 w hp hg1) (cwV 1 hts gX1_walkTo_X1_findPath rfl rfl rfl (by decide +kernel) ⟨Nat.le_of_ble_eq_true rfl, Nat.le_of_ble_eq_true rfl⟩) ⟨gPre_blind, gRecv hI hK (ci := 1) (q0 := 0) rfl rfl, gPre_ok hI hK hN⟩ rfl rfl hl.1 rfl (lv_room (Nat.le_of_ble_eq_true rfl)) dX1_walkTo_20 ⟨Nat.zero_le _, Nat.zero_le _⟩) hI hA (fun r2 ur2 H locs hr2 hI => ?_)
  obtain ⟨pf', rfl, hr2⟩ := hr2
  rcases hr2 with ⟨k, hk10, hk0, rfl, hkE, hkj⟩ | ⟨rfl, hall⟩
  · have hGo : zGo σ (nI p0) = zDown (zOrb (σ.1 10) (nI p0)) k (uS σ 15 (σ.2 15 + 1)) := zGo_some hk10 (fun j hj => (hkj j hj).2) hkE
    obtain ⟨w', hw1, hw2, hgG, hw3⟩ := gI_go (p := nI p0) (by omega) ⟨p0, hp, rfl⟩ hg
    have hkG : gKd n (zGo σ (nI p0)).2 := gKd_of k_go hkd
    refine lv_istore (lv' := [(5, .int (nI k)), (0, .ref g), (1, .int (nI p0)), (2, .int (x)), (3, .int (y)), (4, .int (0))]) hx hb dX1_walkTo_23 hl (by decide) rfl (fun ls hl => ?_)
    refine lv_iload hx hb dX1_walkTo_25 (lv_at hl 0 rfl) ?_
    refine lv_if_ne (tgt := 33) hx hb dX1_walkTo_27 (by decide) (fun c3 => ?_) (fun c3 => absurd c3 (nI_ne0 hk0 (by omega)))
    refine lv_aload_n hx hb dX1_walkTo_33 rfl (lv_at hl 1 rfl) ?_
    refine cGet (v := .int (σ.2 17)) hX hin1 hK hI 6 (by decide) (hts (.fieldLink RX1 96 "GateHalls" "depth" "I") (by decide +kernel)) rfl dX1_walkTo_34 ?_
    refine gTop (y := nI w) hw ?_
    refine lv_istore (lv' := [(6, .int (nI w)), (5, .int (nI k)), (0, .ref g), (1, .int (nI p0)), (2, .int (x)), (3, .int (y)), (4, .int (0))]) hx hb dX1_walkTo_37 hl (by decide) rfl (fun ls hl => ?_)
    refine lv_aload_n hx hb dX1_walkTo_39 rfl (lv_at hl 2 rfl) ?_
    refine lv_iload hx hb dX1_walkTo_40 (lv_at hl 1 rfl) ?_
    have hI : InW D A s.heap (wCn g q cI cH ad pf' n (uS σ 15 ((σ.2 15) + (1)))) H locs := hI
    refine gCalli (va_runV (As := [.int (nI k)]) (rest := []) hX (c_X1_passPath l D cI cH g q ad pf' n (uS σ 15 ((σ.2 15) + (1))) _ (zOrb (σ.1 10) (nI p0)) k w hk10 (by omega) (fun j hj => ⟨(hkj j hj).1, (zOrb_in hg ⟨p0, hp, rfl⟩ j).resolve_left (hkj j hj).2⟩) hg1 hkd) (cwV 1 hts gX1_walkTo_X1_passPath rfl rfl rfl (by decide +kernel) ⟨Nat.le_of_ble_eq_true rfl, Nat.le_of_ble_eq_true rfl⟩) ⟨gPre_blind, gRecv hI hK (ci := 1) (q0 := 0) rfl rfl, gPre_ok hI hK hN⟩ rfl rfl hl.1 rfl (lv_room (Nat.le_of_ble_eq_true rfl)) dX1_walkTo_42 ⟨Nat.zero_le _, Nat.zero_le _⟩) hI hA (fun r4 ur4 H locs hr4 hI => ?_)
    obtain ⟨hr4, rfl⟩ := hr4
    have hGo1 := congrArg Prod.fst hGo
    have hGo2 := congrArg Prod.snd hGo
    have hI : InW D A s.heap (wCn g q cI cH ad pf' n (zGo σ (nI p0)).2) H locs := by rw [hGo2]; exact hI
    have hr4G : r4 = (zGo σ (nI p0)).1 := by rw [hGo1]; exact hr4
    refine lv_istore (lv' := [(7, .int (r4)), (6, .int (nI w)), (5, .int (nI k)), (0, .ref g), (1, .int (nI p0)), (2, .int (x)), (3, .int (y)), (4, .int (0))]) hx hb dX1_walkTo_45 hl (by decide) rfl (fun ls hl => ?_)
    refine lv_iload hx hb dX1_walkTo_47 (lv_at hl 0 rfl) ?_
    refine lv_if_ne (tgt := 64) hx hb dX1_walkTo_49 (by decide) (fun c5 => ?_) (fun c5 => ?_)
    · have hc0 : ¬ (zGo σ (nI p0)).1 = 0 := by rw [← hr4G]; exact c5
      refine lv_aload_n hx hb dX1_walkTo_64 rfl (lv_at hl 3 rfl) ?_
      refine lv_iload hx hb dX1_walkTo_65 (lv_at hl 1 rfl) ?_
      have hI : InW D A s.heap (wCn g q cI cH ad pf' n (zGo σ (nI p0)).2) H locs := hI
      refine gCallv (va_runV (As := [.int (nI w)]) (rest := []) hX (c_X1_leaveUntil l D cI cH g q ad pf' n (zGo σ (nI p0)).2 _ w w' (by omega) hgG) (cwV 1 hts gX1_walkTo_X1_leaveUntil rfl rfl rfl (by decide +kernel) ⟨Nat.le_of_ble_eq_true rfl, Nat.le_of_ble_eq_true rfl⟩) ⟨gPre_blind, gRecv hI hK (ci := 1) (q0 := 0) rfl rfl, gPre_ok hI hK hN⟩ rfl rfl hl.1 rfl (lv_room (Nat.le_of_ble_eq_true rfl)) dX1_walkTo_67 ⟨Nat.zero_le _, Nat.zero_le _⟩) hI hA (fun ur6 H locs hr6 hI => ?_)
      subst hr6
      refine lv_iload hx hb dX1_walkTo_70 (lv_at hl 0 rfl) ?_
      exact gIret hX hr hlk hI ⟨_, by rw [zWT_no hc0]; exact hr4G, by rw [zWT_no hc0]; show _ = wCn g q cI cH ad pf' n (zPops _ (zW _ - zW σ)); rw [zW_of hgG, zW_of hg]⟩ dX1_walkTo_72
    · have hc0 : (zGo σ (nI p0)).1 = 0 := by rw [← hr4G]; exact c5
      refine lv_aload_n hx hb dX1_walkTo_52 rfl (lv_at hl 3 rfl) ?_
      refine lv_iload_n hx hb dX1_walkTo_53 rfl (lv_at hl 5 rfl) ?_
      refine lv_iload_n hx hb dX1_walkTo_54 rfl (lv_at hl 6 rfl) ?_
      refine lv_iload hx hb dX1_walkTo_55 (lv_at hl 7 rfl) ?_
      refine lv_iconst (v := 1) hx hb dX1_walkTo_57 (by decide) ?_
      refine lv_iadd hx hb dX1_walkTo_58 ?_
      refine gTop (y := 1) (by decide) ?_
      have hI : InW D A s.heap (wCn g q cI cH ad pf' n (zGo σ (nI p0)).2) H locs := hI
      refine gCalli (va_runV (As := [.int (x), .int (y), .int (1)]) (rest := []) hX (c_doDeed_2 l D cI cH g q ad pf' n (zGo σ (nI p0)).2 _ w' x y (by omega) (by have := hw3 hc0; omega) hgG hkG) (cwV 3 hts gX1_walkTo_X1_doDeed rfl rfl rfl (by decide +kernel) ⟨Nat.le_of_ble_eq_true rfl, Nat.le_of_ble_eq_true rfl⟩) ⟨gPre_blind, gRecv hI hK (ci := 1) (q0 := 0) rfl rfl, gPre_ok hI hK hN⟩ rfl rfl hl.1 rfl (lv_room (Nat.le_of_ble_eq_true rfl)) dX1_walkTo_59 ⟨Nat.zero_le _, Nat.zero_le _⟩) hI hA (fun r7 ur7 H locs hr7 hI => ?_)
      obtain ⟨pf'', hr7, rfl⟩ := hr7
      have hgD := gI_dd (f := 2) (x := x) (y := y) (by omega) (by have := hw3 hc0; omega) hgG
      refine lv_istore (lv' := [(7, .int (r7)), (6, .int (nI w)), (5, .int (nI k)), (0, .ref g), (1, .int (nI p0)), (2, .int (x)), (3, .int (y)), (4, .int (0))]) hx hb dX1_walkTo_62 hl (by decide) rfl (fun ls hl => ?_)
      refine lv_aload_n hx hb dX1_walkTo_64 rfl (lv_at hl 3 rfl) ?_
      refine lv_iload hx hb dX1_walkTo_65 (lv_at hl 1 rfl) ?_
      have hI : InW D A s.heap (wCn g q cI cH ad pf'' n (zDD 2 (zGo σ (nI p0)).2 x y).2) H locs := hI
      refine gCallv (va_runV (As := [.int (nI w)]) (rest := []) hX (c_X1_leaveUntil l D cI cH g q ad pf'' n (zDD 2 (zGo σ (nI p0)).2 x y).2 _ w w' (by omega) hgD) (cwV 1 hts gX1_walkTo_X1_leaveUntil rfl rfl rfl (by decide +kernel) ⟨Nat.le_of_ble_eq_true rfl, Nat.le_of_ble_eq_true rfl⟩) ⟨gPre_blind, gRecv hI hK (ci := 1) (q0 := 0) rfl rfl, gPre_ok hI hK hN⟩ rfl rfl hl.1 rfl (lv_room (Nat.le_of_ble_eq_true rfl)) dX1_walkTo_67 ⟨Nat.zero_le _, Nat.zero_le _⟩) hI hA (fun ur8 H locs hr8 hI => ?_)
      subst hr8
      refine lv_iload hx hb dX1_walkTo_70 (lv_at hl 0 rfl) ?_
      exact gIret hX hr hlk hI ⟨_, by rw [zWT_go hc0]; exact hr7, by rw [zWT_go hc0]; show _ = wCn g q cI cH ad pf'' n (zPops _ (zW _ - zW σ)); rw [zW_of hgD, zW_of hg]⟩ dX1_walkTo_72
  · have hGo : zGo σ (nI p0) = (8, (uS σ 15 (σ.2 15 + 1))) := zGo_none8 hall
    refine lv_istore (lv' := [(5, .int (0)), (0, .ref g), (1, .int (nI p0)), (2, .int (x)), (3, .int (y)), (4, .int (0))]) hx hb dX1_walkTo_23 hl (by decide) rfl (fun ls hl => ?_)
    refine lv_iload hx hb dX1_walkTo_25 (lv_at hl 0 rfl) ?_
    refine lv_if_ne (tgt := 33) hx hb dX1_walkTo_27 (by decide) (fun c9 => False.elim (by revert c9; decide)) (fun c9 => ?_)
    refine lv_bipush (v := 8) hx hb dX1_walkTo_30 (by decide) ?_
    exact gIret hX hr hlk hI ⟨_, by rw [zWT_no (by rw [hGo]; exact (show ¬ (8 : Int32) = 0 by decide)), hGo], by rw [zWT_no (by rw [hGo]; exact (show ¬ (8 : Int32) = 0 by decide)), hGo]; show _ = wCn g q cI cH ad pf' n (zPops (uS σ 15 (σ.2 15 + 1)) (zW σ - zW σ)); rw [Nat.sub_self]; rfl⟩ dX1_walkTo_32
theorem begin_eq {σ : gh_S} (h : σ.2 17 = 0) : sBegin σ = uS (uS σ 12 0) 16 0 := by
  unfold sBegin
  apply Prod.ext
  · rfl
  · funext j
    show upd (upd (upd σ.2 12 0) 16 0) 17 0 j = upd (upd σ.2 12 0) 16 0 j
    by_cases hj : j = 17
    · subst hj
      simp [upd, h]
    · simp [upd, hj]
set_option maxRecDepth 100000 in
theorem iX1_walk_1 : ∀ w ∈ wsX10, w ∈ wsX1_walk := by decide +kernel
set_option maxHeartbeats 4000000 in
set_option maxRecDepth 100000 in
theorem c_X1_walk (l : Launch) (D : va_G) (cI cH : ClassId) (g : Nat) (q : Nat → Nat) (ad : Nat → Nat) (pf : Nat → Int32) (n : Nat) (σ : gh_S) (sz : Nat) (x y z : Int32) (hg : gI n 0 σ) (hkd : gKd n σ) : gMi l yX1_walk wsX1_walk ({ frames := 11, cells := 0, slots := 0, locals := 265 }) D (wCn g q cI cH ad pf n σ) (gTy cI cH) sz [.ref g, .int (x), .int (y), .int (z)] (fun r u => ∃ pf' : Nat → Int32, r = (sWalk σ x y z).1 ∧ u = wCn g q cI cH ad pf' n (sWalk σ x y z).2) := by
  refine gEnter (cc := cX1_walk) (maxL := 4) (ret := (some .int)) (QF := fun A => va_Qi _ (gPost D A) A) (by decide) rfl (Nat.le_of_ble_eq_true rfl) ?_
  intro p e s m below meth c A ls hX hr hlk hnm hK hN hA hI hl
  have hx := hX.1
  have hb := hX.2.1
  have hts := hX.2.2.2.2
  have hown : s.vm.findClass RX1 = some m.cls := hX.2.2.2.1
  have hin1 := iX1_walk_1
  have hl : lv_has ls 4 [(0, .ref g), (1, .int (x)), (2, .int (y)), (3, .int (z))] := hl
  have hI : InW D A s.heap (wCr g q cI cH ad pf (gfh ad σ) (gfp ad σ) n σ) s.heap [] := hI
  refine lv_iload_n hx hb dX1_walk_0 rfl (lv_at hl 1 rfl) ?_
  refine vp_callSi (W.runS (As := [.int (x)]) (rest := []) hX (c_X1_isPlace l (x)) (va_cwS 1 hts gX1_walk_X1_isPlace rfl rfl rfl (by decide +kernel) ⟨Nat.le_of_ble_eq_true rfl, Nat.le_of_ble_eq_true rfl⟩) preEq rfl rfl hl.1 rfl (lv_room (Nat.le_of_ble_eq_true rfl)) dX1_walk_1 ⟨Nat.le_of_ble_eq_true rfl, Nat.le_of_ble_eq_true rfl⟩) (fun r1 hr1 => ?_)
  rcases hr1 with ⟨rfl, ha_r1, hb_r1⟩ | ⟨rfl, hc_r1⟩
  · refine lv_if_eq (tgt := 17) hx hb dX1_walk_4 (by decide) (fun c2 => False.elim (by revert c2; decide)) (fun c2 => ?_)
    refine lv_iload_n hx hb dX1_walk_7 rfl (lv_at hl 2 rfl) ?_
    refine lv_if_lt (tgt := 17) hx hb dX1_walk_8 (by decide) (fun c3 => ?_) (fun c3 => ?_)
    · refine lv_iconst (v := (-1)) hx hb dX1_walk_17 (by decide) ?_
      exact gIret hX hr hlk hI ⟨pf, by rw [sWalk, if_pos (Or.inr (Or.inr (Or.inl c3)))], by rw [sWalk, if_pos (Or.inr (Or.inr (Or.inl c3)))]⟩ dX1_walk_18
    · refine lv_iload_n hx hb dX1_walk_11 rfl (lv_at hl 2 rfl) ?_
      refine lv_bipush (v := 7) hx hb dX1_walk_12 (by decide) ?_
      refine lv_icmp_le (tgt := 19) hx hb dX1_walk_14 (by decide) (fun c4 => ?_) (fun c4 => ?_)
      · obtain ⟨j, hj, hjE, hjC⟩ := g_pl ha_r1 hb_r1
        refine lv_aload_n hx hb dX1_walk_19 rfl (lv_at hl 0 rfl) ?_
        refine lv_iconst (v := 0) hx hb dX1_walk_20 (by decide) ?_
        refine cPut (σ' := (uS σ 12 (0))) hX hin1 hK hI 9 (by decide) (hts (.fieldLink RX1 55 "GateHalls" "marksLeft" "I") (by decide +kernel)) rfl rfl rfl dX1_walk_21 (fun H locs hI => ?_)
        refine lv_aload_n hx hb dX1_walk_24 rfl (lv_at hl 0 rfl) ?_
        refine lv_iconst (v := 0) hx hb dX1_walk_25 (by decide) ?_
        refine cPut (σ' := (uS (uS σ 12 (0)) 16 (0))) hX hin1 hK hI 7 (by decide) (hts (.fieldLink RX1 58 "GateHalls" "deepest" "I") (by decide +kernel)) rfl rfl rfl dX1_walk_26 (fun H locs hI => ?_)
        refine lv_aload_n hx hb dX1_walk_29 rfl (lv_at hl 0 rfl) ?_
        have hgB := gI_begin hg
        have hI : InW D A s.heap (wCn g q cI cH ad pf n (sBegin σ)) H locs := by
          rw [begin_eq (hg.2.1.trans nI_0)]
          exact hI
        refine lv_aload_n hx hb dX1_walk_30 rfl (lv_at hl 0 rfl) ?_
        refine lv_iload_n hx hb dX1_walk_31 rfl (lv_at hl 1 rfl) ?_
        refine gTop (y := nI j) hjE ?_
        refine lv_iload_n hx hb dX1_walk_32 rfl (lv_at hl 2 rfl) ?_
        refine lv_iload_n hx hb dX1_walk_33 rfl (lv_at hl 3 rfl) ?_
        refine lv_iconst (v := 0) hx hb dX1_walk_34 (by decide) ?_
        have hI : InW D A s.heap (wCn g q cI cH ad pf n (sBegin σ)) H locs := hI
        refine gCalli (va_runV (As := [.int (nI j), .int (y), .int (z), .int (0)]) (rest := [.ref g]) hX (c_walkTo_3 l D cI cH g q ad pf n (sBegin σ) _ j 0 y z hj (by omega) hgB hkd) (cwV 4 hts gX1_walk_X1_walkTo rfl rfl rfl (by decide +kernel) ⟨Nat.le_of_ble_eq_true rfl, Nat.le_of_ble_eq_true rfl⟩) ⟨gPre_blind, gRecv hI hK (ci := 1) (q0 := 0) rfl rfl, gPre_ok hI hK hN⟩ rfl rfl hl.1 rfl (lv_room (Nat.le_of_ble_eq_true rfl)) dX1_walk_35 ⟨Nat.zero_le _, Nat.zero_le _⟩) hI hA (fun r5 ur5 H locs hr5 hI => ?_)
        obtain ⟨pf', hr5, rfl⟩ := hr5
        rw [← hjE] at hr5 hI
        have hgF := gI_wt 3 0 (p := x) (x := y) (y := z) (by omega) ⟨j, hj, hjE⟩ hgB
        refine cPut (σ' := (uS (zWT 3 (sBegin σ) x y z).2 14 (r5))) hX hin1 hK hI 10 (by decide) (hts (.fieldLink RX1 65 "GateHalls" "latestFailure" "I") (by decide +kernel)) rfl rfl rfl dX1_walk_38 (fun H locs hI => ?_)
        refine lv_aload_n hx hb dX1_walk_41 rfl (lv_at hl 0 rfl) ?_
        refine cGet (v := .int (r5)) hX hin1 hK hI 10 (by decide) (hts (.fieldLink RX1 65 "GateHalls" "latestFailure" "I") (by decide +kernel)) rfl dX1_walk_42 ?_
        refine lv_if_ne (tgt := 52) hx hb dX1_walk_45 (by decide) (fun c6 => ?_) (fun c6 => ?_)
        · refine lv_bipush (v := (-10)) hx hb dX1_walk_52 (by decide) ?_
          refine lv_aload_n hx hb dX1_walk_54 rfl (lv_at hl 0 rfl) ?_
          refine cGet (v := .int (r5)) hX hin1 hK hI 10 (by decide) (hts (.fieldLink RX1 65 "GateHalls" "latestFailure" "I") (by decide +kernel)) rfl dX1_walk_55 ?_
          refine lv_isub hx hb dX1_walk_58 ?_
          exact gIret hX hr hlk hI ⟨pf', by rw [sWalk, if_neg (fun h => h.elim ha_r1 (fun h => h.elim hb_r1 (fun h => h.elim c3 (g_nlt_of_le c4))))]; dsimp only; rw [← hr5, if_neg c6], by rw [sWalk, if_neg (fun h => h.elim ha_r1 (fun h => h.elim hb_r1 (fun h => h.elim c3 (g_nlt_of_le c4))))]; dsimp only; rw [← hr5]; rfl⟩ dX1_walk_59
        · refine lv_iconst (v := 1) hx hb dX1_walk_48 (by decide) ?_
          refine lv_goto (tgt := 59) hx hb dX1_walk_49 (by decide) ?_
          exact gIret hX hr hlk hI ⟨pf', by rw [sWalk, if_neg (fun h => h.elim ha_r1 (fun h => h.elim hb_r1 (fun h => h.elim c3 (g_nlt_of_le c4))))]; dsimp only; rw [← hr5, if_pos c6], by rw [sWalk, if_neg (fun h => h.elim ha_r1 (fun h => h.elim hb_r1 (fun h => h.elim c3 (g_nlt_of_le c4))))]; dsimp only; rw [← hr5]; rfl⟩ dX1_walk_59
      · refine lv_iconst (v := (-1)) hx hb dX1_walk_17 (by decide) ?_
        exact gIret hX hr hlk hI ⟨pf, by rw [sWalk, if_pos (Or.inr (Or.inr (Or.inr (g_lt_of_nle c4))))], by rw [sWalk, if_pos (Or.inr (Or.inr (Or.inr (g_lt_of_nle c4))))]⟩ dX1_walk_18
  · refine lv_if_eq (tgt := 17) hx hb dX1_walk_4 (by decide) (fun c7 => ?_) (fun c7 => False.elim (by revert c7; decide))
    refine lv_iconst (v := (-1)) hx hb dX1_walk_17 (by decide) ?_
    exact gIret hX hr hlk hI ⟨pf, by rw [sWalk, if_pos (hc_r1.elim Or.inl (fun h => Or.inr (Or.inl h)))], by rw [sWalk, if_pos (hc_r1.elim Or.inl (fun h => Or.inr (Or.inl h)))]⟩ dX1_walk_18
