set_option maxRecDepth 100000 in
theorem iX1_leaveMark_1 : ∀ w ∈ wsX10, w ∈ wsX1_leaveMark := by decide +kernel
set_option maxHeartbeats 4000000 in
set_option maxRecDepth 100000 in
theorem c_X1_leaveMark (l : Launch) (D : va_G) (cI cH : ClassId) (g : Nat) (q : Nat → Nat) (ad : Nat → Nat) (pf : Nat → Int32) (n : Nat) (σ : gh_S) (sz : Nat) (x : Int32) (w : Nat) (hg : gI n w σ) : gMv l yX1_leaveMark wsX1_leaveMark ({ frames := 0, cells := 0, slots := 0, locals := 0 }) D (wCn g q cI cH ad pf n σ) (gTy cI cH) sz [.ref g, .int (x)] (fun u => u = wCn g q cI cH ad pf n (zLeave σ x)) := by
  refine gEnter (cc := cX1_leaveMark) (maxL := 2) (ret := none) (QF := fun A => va_Qv _ (gPost D A) A) (by decide) rfl (Nat.le_of_ble_eq_true rfl) ?_
  intro p e s m below meth c A ls hX hr hlk hnm hK hN hA hI hl
  have hx := hX.1
  have hb := hX.2.1
  have hts := hX.2.2.2.2
  have hown : s.vm.findClass RX1 = some m.cls := hX.2.2.2.1
  have hin1 := iX1_leaveMark_1
  have hl : lv_has ls 2 [(0, .ref g), (1, .int (x))] := hl
  have hI : InW D A s.heap (wCr g q cI cH ad pf (gfh ad σ) (gfp ad σ) n σ) s.heap [] := hI
  obtain ⟨hn, hw, ⟨t, ht, htE⟩, hpl, hpar, hrow, hn4, hw30, hz⟩ := id hg
  refine lv_aload_n hx hb dX1_leaveMark_0 rfl (lv_at hl 0 rfl) ?_
  refine cGet (v := .int (σ.2 12)) hX hin1 hK hI 9 (by decide) (hts (.fieldLink RX1 55 "GateHalls" "marksLeft" "I") (by decide +kernel)) rfl dX1_leaveMark_1 ?_
  refine lv_if_lt (tgt := 36) hx hb dX1_leaveMark_4 (by decide) (fun c1 => absurd c1 (by rw [htE]; exact nI_pos (by omega))) (fun c1 => ?_)
  refine lv_aload_n hx hb dX1_leaveMark_7 rfl (lv_at hl 0 rfl) ?_
  refine cGet (v := .int (σ.2 12)) hX hin1 hK hI 9 (by decide) (hts (.fieldLink RX1 55 "GateHalls" "marksLeft" "I") (by decide +kernel)) rfl dX1_leaveMark_8 ?_
  refine lv_bipush (v := 100) hx hb dX1_leaveMark_11 (by decide) ?_
  refine lv_icmp_ge (tgt := 36) hx hb dX1_leaveMark_13 (by decide) (fun c2 => ?_) (fun c2 => ?_)
  · exact gVret hX hr hlk hI (by rw [zLeave, if_pos c2]) dX1_leaveMark_36
  · have ht' := g_lt100 htE ht c2
    refine lv_aload_n hx hb dX1_leaveMark_16 rfl (lv_at hl 0 rfl) ?_
    refine cGet (v := .ref (q 8)) hX hin1 hK hI 8 (by decide) (hts (.fieldLink RX1 25 "GateHalls" "marks" "[I") (by decide +kernel)) rfl dX1_leaveMark_17 ?_
    refine lv_aload_n hx hb dX1_leaveMark_20 rfl (lv_at hl 0 rfl) ?_
    refine cGet (v := .int (σ.2 12)) hX hin1 hK hI 9 (by decide) (hts (.fieldLink RX1 55 "GateHalls" "marksLeft" "I") (by decide +kernel)) rfl dX1_leaveMark_21 ?_
    refine lv_iload_n hx hb dX1_leaveMark_24 rfl (lv_at hl 1 rfl) ?_
    refine gAst (j := t) (w' := wCr g q cI cH ad pf (gfh ad σ) (gfp ad σ) n (uA σ 13 (t) (x))) hX hK hI 5 0 rfl rfl htE (by omega) (by decide) rfl dX1_leaveMark_25 (fun H locs hI => ?_)
    refine lv_aload_n hx hb dX1_leaveMark_26 rfl (lv_at hl 0 rfl) ?_
    refine lv_dup hx hb dX1_leaveMark_27 rfl ?_
    refine cGet (v := .int (σ.2 12)) hX hin1 hK hI 9 (by decide) (hts (.fieldLink RX1 55 "GateHalls" "marksLeft" "I") (by decide +kernel)) rfl dX1_leaveMark_28 ?_
    refine lv_iconst (v := 1) hx hb dX1_leaveMark_31 (by decide) ?_
    refine lv_iadd hx hb dX1_leaveMark_32 ?_
    refine cPut (σ' := (uS (uA σ 13 (t) (x)) 12 ((σ.2 12) + (1)))) hX hin1 hK hI 9 (by decide) (hts (.fieldLink RX1 55 "GateHalls" "marksLeft" "I") (by decide +kernel)) rfl rfl rfl dX1_leaveMark_33 (fun H locs hI => ?_)
    exact gVret hX hr hlk hI (by rw [zLeave, if_neg c2, htE, nI_clamp (by omega)]; rfl) dX1_leaveMark_36
set_option maxRecDepth 100000 in
theorem iX1_addToPurse_1 : ∀ w ∈ wsX10, w ∈ wsX1_addToPurse := by decide +kernel
set_option maxHeartbeats 4000000 in
set_option maxRecDepth 100000 in
theorem c_X1_addToPurse (l : Launch) (D : va_G) (cI cH : ClassId) (g : Nat) (q : Nat → Nat) (ad : Nat → Nat) (pf : Nat → Int32) (n : Nat) (σ : gh_S) (sz : Nat) (x : Int32) : gMi l yX1_addToPurse wsX1_addToPurse ({ frames := 0, cells := 0, slots := 0, locals := 0 }) D (wCn g q cI cH ad pf n σ) (gTy cI cH) sz [.ref g, .int (x)] (fun r u => r = (zRich σ x.toInt64).1 ∧ u = wCn g q cI cH ad pf n (zRich σ x.toInt64).2) := by
  refine gEnter (cc := cX1_addToPurse) (maxL := 4) (ret := (some .int)) (QF := fun A => va_Qi _ (gPost D A) A) (by decide) rfl (Nat.le_of_ble_eq_true rfl) ?_
  intro p e s m below meth c A ls hX hr hlk hnm hK hN hA hI hl
  have hx := hX.1
  have hb := hX.2.1
  have hts := hX.2.2.2.2
  have hown : s.vm.findClass RX1 = some m.cls := hX.2.2.2.1
  have hin1 := iX1_addToPurse_1
  have hl : lv_has ls 4 [(0, .ref g), (1, .int (x))] := hl
  have hI : InW D A s.heap (wCr g q cI cH ad pf (gfh ad σ) (gfp ad σ) n σ) s.heap [] := hI
  refine lv_aload_n hx hb dX1_addToPurse_0 rfl (lv_at hl 0 rfl) ?_
  refine cGet (v := .int (σ.2 11)) hX hin1 hK hI 2 (by decide) (hts (.fieldLink RX1 45 "GateHalls" "purse" "I") (by decide +kernel)) rfl dX1_addToPurse_1 ?_
  refine lv_i2l (v := Int32.toInt64 (σ.2 11)) hx hb dX1_addToPurse_4 rfl ?_
  refine lv_iload_n hx hb dX1_addToPurse_5 rfl (lv_at hl 1 rfl) ?_
  refine lv_i2l (v := Int32.toInt64 (x)) hx hb dX1_addToPurse_6 rfl ?_
  refine lv_ladd hx hb dX1_addToPurse_7 ?_
  refine lv_lstore_n (lv' := [(2, .long ((Int32.toInt64 (σ.2 11)) + (Int32.toInt64 (x)))), (0, .ref g), (1, .int (x))]) hx hb dX1_addToPurse_8 rfl hl (by decide) rfl (fun ls hl => ?_)
  refine lv_lload_n hx hb dX1_addToPurse_9 rfl (lv_at hl 0 rfl) ?_
  refine lv_lconst (v := 0) hx hb dX1_addToPurse_10 (by decide) ?_
  refine W.lcmp hx hb dX1_addToPurse_11 ?_
  refine lv_if_lt (tgt := 23) hx hb dX1_addToPurse_12 (by decide) (fun c1 => ?_) (fun c1 => ?_)
  · refine lv_bipush (v := 22) hx hb dX1_addToPurse_23 (by decide) ?_
    exact gIret hX hr hlk hI (by rw [zRich, if_pos c1]; exact ⟨rfl, rfl⟩) dX1_addToPurse_25
  · refine lv_lload_n hx hb dX1_addToPurse_15 rfl (lv_at hl 0 rfl) ?_
    refine lv_ldc2 (v := 1000000) hx hb hown (hts (.constantLong RX1 159 (1000000)) (by decide +kernel)) dX1_addToPurse_16 ?_
    refine W.lcmp hx hb dX1_addToPurse_19 ?_
    refine lv_if_le (tgt := 26) hx hb dX1_addToPurse_20 (by decide) (fun c2 => ?_) (fun c2 => ?_)
    · refine lv_aload_n hx hb dX1_addToPurse_26 rfl (lv_at hl 1 rfl) ?_
      refine lv_lload_n hx hb dX1_addToPurse_27 rfl (lv_at hl 0 rfl) ?_
      refine lv_l2i (v := Int64.toInt32 ((Int32.toInt64 (σ.2 11)) + (Int32.toInt64 (x)))) hx hb dX1_addToPurse_28 rfl ?_
      refine cPut (σ' := (uS σ 11 (Int64.toInt32 ((Int32.toInt64 (σ.2 11)) + (Int32.toInt64 (x)))))) hX hin1 hK hI 2 (by decide) (hts (.fieldLink RX1 45 "GateHalls" "purse" "I") (by decide +kernel)) rfl rfl rfl dX1_addToPurse_29 (fun H locs hI => ?_)
      refine lv_iconst (v := 0) hx hb dX1_addToPurse_32 (by decide) ?_
      exact gIret hX hr hlk hI (by rw [zRich, if_neg c1, if_pos c2]; exact ⟨rfl, rfl⟩) dX1_addToPurse_33
    · refine lv_bipush (v := 22) hx hb dX1_addToPurse_23 (by decide) ?_
      exact gIret hX hr hlk hI (by rw [zRich, if_neg c1, if_neg c2]; exact ⟨rfl, rfl⟩) dX1_addToPurse_25
set_option maxRecDepth 100000 in
theorem iX1_divideGifts_0 : ∀ w ∈ wsX00, w ∈ wsX1_divideGifts := by decide +kernel
set_option maxHeartbeats 4000000 in
set_option maxRecDepth 100000 in
theorem c_X1_divideGifts (l : Launch) (D : va_G) (cI cH : ClassId) (g : Nat) (q : Nat → Nat) (ad : Nat → Nat) (pf : Nat → Int32) (n : Nat) (σ : gh_S) (sz : Nat) (i : Nat) (hi : i < n) (y : Int32) : gMi l yX1_divideGifts wsX1_divideGifts ({ frames := 0, cells := 0, slots := 0, locals := 0 }) D (wCn g q cI cH ad pf n σ) (gTy cI cH) sz [.ref (ad i), .int (y)] (fun r u => r = (if y = 0 then ((6 : Int32), σ) else (0, uA σ 3 i (σ.1 3 i / y))).1 ∧ u = wCn g q cI cH ad pf n (if y = 0 then ((6 : Int32), σ) else (0, uA σ 3 i (σ.1 3 i / y))).2) := by
  refine gEnter (cc := cX1_divideGifts) (maxL := 2) (ret := (some .int)) (QF := fun A => va_Qi _ (gPost D A) A) (by decide) rfl (Nat.le_of_ble_eq_true rfl) ?_
  intro p e s m below meth c A ls hX hr hlk hnm hK hN hA hI hl
  have hx := hX.1
  have hb := hX.2.1
  have hts := hX.2.2.2.2
  have hown : s.vm.findClass RX1 = some m.cls := hX.2.2.2.1
  have hin0 := iX1_divideGifts_0
  have hl : lv_has ls 2 [(0, .ref (ad i)), (1, .int (y))] := hl
  have hI : InW D A s.heap (wCr g q cI cH ad pf (gfh ad σ) (gfp ad σ) n σ) s.heap [] := hI
  refine lv_iload_n hx hb dX1_divideGifts_0 rfl (lv_at hl 1 rfl) ?_
  refine lv_if_ne (tgt := 7) hx hb dX1_divideGifts_1 (by decide) (fun c1 => ?_) (fun c1 => ?_)
  · refine lv_aload_n hx hb dX1_divideGifts_7 rfl (lv_at hl 0 rfl) ?_
    refine lv_dup hx hb dX1_divideGifts_8 rfl ?_
    refine hGet (i := i) (v := .int (σ.1 3 (i))) hX hin0 hK hI hi 3 (by decide) hN.2.1 rfl dX1_divideGifts_9 ?_
    refine lv_iload_n hx hb dX1_divideGifts_12 rfl (lv_at hl 1 rfl) ?_
    refine lv_idiv hx hb dX1_divideGifts_13 c1 ?_
    refine hPut (i := i) hX hin0 hK hI hi 3 (by decide) hN.2.1 rfl rfl gHs3 (by decide) (by decide) dX1_divideGifts_14 (fun H locs hI => ?_)
    refine lv_iconst (v := 0) hx hb dX1_divideGifts_17 (by decide) ?_
    exact gIret hX hr hlk hI (by rw [if_neg c1]; exact ⟨rfl, rfl⟩) dX1_divideGifts_18
  · refine lv_bipush (v := 6) hx hb dX1_divideGifts_4 (by decide) ?_
    exact gIret hX hr hlk hI (by rw [if_pos c1]; exact ⟨rfl, rfl⟩) dX1_divideGifts_6
set_option maxRecDepth 100000 in
theorem iX1_takeGifts_0 : ∀ w ∈ wsX00, w ∈ wsX1_takeGifts := by decide +kernel
set_option maxRecDepth 100000 in
theorem iX1_takeGifts_1 : ∀ w ∈ wsX10, w ∈ wsX1_takeGifts := by decide +kernel
set_option maxHeartbeats 4000000 in
set_option maxRecDepth 100000 in
theorem c_X1_takeGifts (l : Launch) (D : va_G) (cI cH : ClassId) (g : Nat) (q : Nat → Nat) (ad : Nat → Nat) (pf : Nat → Int32) (n : Nat) (σ : gh_S) (sz : Nat) (i : Nat) (hi : i < n) : gMi l yX1_takeGifts wsX1_takeGifts ({ frames := 1, cells := 0, slots := 0, locals := 23 }) D (wCn g q cI cH ad pf n σ) (gTy cI cH) sz [.ref g, .ref (ad i)] (fun r u => r = (if (zRich σ (σ.1 3 i).toInt64).1 = 0 then ((0 : Int32), uA (zRich σ (σ.1 3 i).toInt64).2 3 i 0) else (22, σ)).1 ∧ u = wCn g q cI cH ad pf n (if (zRich σ (σ.1 3 i).toInt64).1 = 0 then ((0 : Int32), uA (zRich σ (σ.1 3 i).toInt64).2 3 i 0) else (22, σ)).2) := by
  refine gEnter (cc := cX1_takeGifts) (maxL := 3) (ret := (some .int)) (QF := fun A => va_Qi _ (gPost D A) A) (by decide) rfl (Nat.le_of_ble_eq_true rfl) ?_
  intro p e s m below meth c A ls hX hr hlk hnm hK hN hA hI hl
  have hx := hX.1
  have hb := hX.2.1
  have hts := hX.2.2.2.2
  have hown : s.vm.findClass RX1 = some m.cls := hX.2.2.2.1
  have hin0 := iX1_takeGifts_0
  have hin1 := iX1_takeGifts_1
  have hl : lv_has ls 3 [(0, .ref g), (1, .ref (ad i))] := hl
  have hI : InW D A s.heap (wCr g q cI cH ad pf (gfh ad σ) (gfp ad σ) n σ) s.heap [] := hI
  refine lv_aload_n hx hb dX1_takeGifts_0 rfl (lv_at hl 0 rfl) ?_
  refine lv_aload_n hx hb dX1_takeGifts_1 rfl (lv_at hl 1 rfl) ?_
  refine hGet (i := i) (v := .int (σ.1 3 (i))) hX hin0 hK hI hi 3 (by decide) hN.2.1 rfl dX1_takeGifts_2 ?_
  have hI : InW D A s.heap (wCn g q cI cH ad pf n σ) s.heap [] := hI
  refine gCalli (va_runV (As := [.int (σ.1 3 (i))]) (rest := []) hX (c_X1_addToPurse l D cI cH g q ad pf n σ _ (σ.1 3 (i))) (cwV 1 hts gX1_takeGifts_X1_addToPurse rfl rfl rfl (by decide +kernel) ⟨Nat.le_of_ble_eq_true rfl, Nat.le_of_ble_eq_true rfl⟩) ⟨gPre_blind, gRecv hI hK (ci := 1) (q0 := 0) rfl rfl, gPre_ok hI hK hN⟩ rfl rfl hl.1 rfl (lv_room (Nat.le_of_ble_eq_true rfl)) dX1_takeGifts_5 ⟨Nat.zero_le _, Nat.zero_le _⟩) hI hA (fun r1 ur1 H locs hr1 hI => ?_)
  obtain ⟨hr1, rfl⟩ := hr1
  refine lv_istore_n (lv' := [(2, .int (r1)), (0, .ref g), (1, .ref (ad i))]) hx hb dX1_takeGifts_8 rfl hl (by decide) rfl (fun ls hl => ?_)
  refine lv_iload_n hx hb dX1_takeGifts_9 rfl (lv_at hl 0 rfl) ?_
  refine lv_if_ne (tgt := 18) hx hb dX1_takeGifts_10 (by decide) (fun c2 => ?_) (fun c2 => ?_)
  · refine lv_iload_n hx hb dX1_takeGifts_18 rfl (lv_at hl 0 rfl) ?_
    exact gIret hX hr hlk hI (by rw [if_neg (by rw [← hr1]; exact c2)]; exact ⟨by rw [hr1, zRich_fail (by rw [← hr1]; exact c2)], by rw [zRich_fail (by rw [← hr1]; exact c2)]⟩) dX1_takeGifts_19
  · refine lv_aload_n hx hb dX1_takeGifts_13 rfl (lv_at hl 2 rfl) ?_
    refine lv_iconst (v := 0) hx hb dX1_takeGifts_14 (by decide) ?_
    refine hPut (i := i) hX hin0 hK hI hi 3 (by decide) hN.2.1 rfl rfl gHs3 (by decide) (by decide) dX1_takeGifts_15 (fun H locs hI => ?_)
    refine lv_iload_n hx hb dX1_takeGifts_18 rfl (lv_at hl 0 rfl) ?_
    exact gIret hX hr hlk hI (by rw [if_pos (by rw [← hr1]; exact c2)]; exact ⟨c2, rfl⟩) dX1_takeGifts_19
set_option maxRecDepth 100000 in
theorem iX1_innermost_1 : ∀ w ∈ wsX10, w ∈ wsX1_innermost := by decide +kernel
set_option maxHeartbeats 4000000 in
set_option maxRecDepth 100000 in
theorem c_X1_innermost (l : Launch) (D : va_G) (cI cH : ClassId) (g : Nat) (q : Nat → Nat) (ad : Nat → Nat) (pf : Nat → Int32) (n : Nat) (σ : gh_S) (sz : Nat) (w i : Nat) (hw1 : 0 < w) (hg : gI n w σ) (hi : i < n) (hiE : σ.1 18 (w - 1) = nI i) : gMq l yX1_innermost wsX1_innermost ({ frames := 0, cells := 0, slots := 0, locals := 0 }) D (wCn g q cI cH ad pf n σ) (gTy cI cH) sz [.ref g] (fun r u => r = some (ad i) ∧ u = wCn g q cI cH ad pf n σ) := by
  refine gEnter (cc := cX1_innermost) (maxL := 1) (ret := (some (.object "GateHalls$Hall"))) (QF := fun A => va_Qq _ (gPost D A) A) (by decide) rfl (Nat.le_of_ble_eq_true rfl) ?_
  intro p e s m below meth c A ls hX hr hlk hnm hK hN hA hI hl
  have hx := hX.1
  have hb := hX.2.1
  have hts := hX.2.2.2.2
  have hown : s.vm.findClass RX1 = some m.cls := hX.2.2.2.1
  have hin1 := iX1_innermost_1
  have hl : lv_has ls 1 [(0, .ref g)] := hl
  have hI : InW D A s.heap (wCr g q cI cH ad pf (gfh ad σ) (gfp ad σ) n σ) s.heap [] := hI
  obtain ⟨hn, hw, ⟨t, ht, htE⟩, hpl, hpar, hrow, hn4, hw30, hz⟩ := id hg
  have e1 : σ.2 17 - 1 = nI (w - 1) := by rw [hw, show w = (w - 1) + 1 by omega]; exact nI_pred _
  refine lv_aload_n hx hb dX1_innermost_0 rfl (lv_at hl 0 rfl) ?_
  refine cGet (v := .int (σ.2 17)) hX hin1 hK hI 6 (by decide) (hts (.fieldLink RX1 96 "GateHalls" "depth" "I") (by decide +kernel)) rfl dX1_innermost_1 ?_
  refine lv_if_le (tgt := 33) hx hb dX1_innermost_4 (by decide) (fun c1 => absurd c1 (by rw [hw]; exact nI_nle (by omega) (by omega))) (fun c1 => ?_)
  refine lv_aload_n hx hb dX1_innermost_7 rfl (lv_at hl 0 rfl) ?_
  refine cGet (v := .int (σ.2 17)) hX hin1 hK hI 6 (by decide) (hts (.fieldLink RX1 96 "GateHalls" "depth" "I") (by decide +kernel)) rfl dX1_innermost_8 ?_
  refine lv_aload_n hx hb dX1_innermost_11 rfl (lv_at hl 0 rfl) ?_
  refine cGet (v := .ref (q 5)) hX hin1 hK hI 5 (by decide) (hts (.fieldLink RX1 22 "GateHalls" "passed" "[LGateHalls$Hall;") (by decide +kernel)) rfl dX1_innermost_12 ?_
  refine gAlen (n := 30) hX hK hI 4 1 rfl rfl rfl dX1_innermost_15 ?_
  refine lv_icmp_gt (tgt := 33) hx hb dX1_innermost_16 (by decide) (fun c2 => absurd c2 (by rw [hw]; exact nI_nlt (by omega) (by omega))) (fun c2 => ?_)
  refine lv_aload_n hx hb dX1_innermost_19 rfl (lv_at hl 0 rfl) ?_
  refine cGet (v := .ref (q 5)) hX hin1 hK hI 5 (by decide) (hts (.fieldLink RX1 22 "GateHalls" "passed" "[LGateHalls$Hall;") (by decide +kernel)) rfl dX1_innermost_20 ?_
  refine lv_aload_n hx hb dX1_innermost_23 rfl (lv_at hl 0 rfl) ?_
  refine cGet (v := .int (σ.2 17)) hX hin1 hK hI 6 (by decide) (hts (.fieldLink RX1 96 "GateHalls" "depth" "I") (by decide +kernel)) rfl dX1_innermost_24 ?_
  refine lv_iconst (v := 1) hx hb dX1_innermost_27 (by decide) ?_
  refine lv_isub hx hb dX1_innermost_28 ?_
  refine gQld (j := w - 1) hX hK hI 4 1 rfl rfl e1 (by omega) (by decide) dX1_innermost_29 ?_
  refine gTopQ (y := some (ad i)) (gfp_at hw (by omega) (by omega) (by omega) hiE) ?_
  refine lv_goto (tgt := 34) hx hb dX1_innermost_30 (by decide) ?_
  exact gQret hX hr hlk hI ⟨rfl, rfl⟩ dX1_innermost_34
set_option maxRecDepth 100000 in
theorem iX1_hallAt_1 : ∀ w ∈ wsX10, w ∈ wsX1_hallAt := by decide +kernel
set_option maxHeartbeats 4000000 in
set_option maxRecDepth 100000 in
theorem c_X1_hallAt (l : Launch) (D : va_G) (cI cH : ClassId) (g : Nat) (q : Nat → Nat) (ad : Nat → Nat) (pf : Nat → Int32) (n : Nat) (σ : gh_S) (sz : Nat) (x : Int32) : gMq l yX1_hallAt wsX1_hallAt ({ frames := 1, cells := 0, slots := 0, locals := 20 }) D (wCn g q cI cH ad pf n σ) (gTy cI cH) sz [.ref g, .int (x)] (fun r u => u = wCn g q cI cH ad pf n σ ∧ ((r = none ∧ (x < 0 ∨ 9 < x)) ∨ (∃ j : Nat, j < 10 ∧ x = nI j ∧ r = gfh ad σ j))) := by
  refine gEnter (cc := cX1_hallAt) (maxL := 2) (ret := (some (.object "GateHalls$Hall"))) (QF := fun A => va_Qq _ (gPost D A) A) (by decide) rfl (Nat.le_of_ble_eq_true rfl) ?_
  intro p e s m below meth c A ls hX hr hlk hnm hK hN hA hI hl
  have hx := hX.1
  have hb := hX.2.1
  have hts := hX.2.2.2.2
  have hown : s.vm.findClass RX1 = some m.cls := hX.2.2.2.1
  have hin1 := iX1_hallAt_1
  have hl : lv_has ls 2 [(0, .ref g), (1, .int (x))] := hl
  have hI : InW D A s.heap (wCr g q cI cH ad pf (gfh ad σ) (gfp ad σ) n σ) s.heap [] := hI
  refine lv_iload_n hx hb dX1_hallAt_0 rfl (lv_at hl 1 rfl) ?_
  refine vp_callSi (W.runS (As := [.int (x)]) (rest := []) hX (c_X1_isPlace l (x)) (va_cwS 1 hts gX1_hallAt_X1_isPlace rfl rfl rfl (by decide +kernel) ⟨Nat.le_of_ble_eq_true rfl, Nat.le_of_ble_eq_true rfl⟩) preEq rfl rfl hl.1 rfl (lv_room (Nat.le_of_ble_eq_true rfl)) dX1_hallAt_1 ⟨Nat.le_of_ble_eq_true rfl, Nat.le_of_ble_eq_true rfl⟩) (fun r1 hr1 => ?_)
  rcases hr1 with ⟨rfl, ha_r1, hb_r1⟩ | ⟨rfl, hc_r1⟩
  · refine lv_if_eq (tgt := 16) hx hb dX1_hallAt_4 (by decide) (fun c2 => False.elim (by revert c2; decide)) (fun c2 => ?_)
    obtain ⟨j, hj, hjE, hjC⟩ := g_pl ha_r1 hb_r1
    refine lv_aload_n hx hb dX1_hallAt_7 rfl (lv_at hl 0 rfl) ?_
    refine cGet (v := .ref (q 0)) hX hin1 hK hI 0 (by decide) (hts (.fieldLink RX1 11 "GateHalls" "halls" "[LGateHalls$Hall;") (by decide +kernel)) rfl dX1_hallAt_8 ?_
    refine lv_iload_n hx hb dX1_hallAt_11 rfl (lv_at hl 1 rfl) ?_
    refine gQld (j := j) hX hK hI 1 1 rfl rfl hjE (by omega) (by decide) dX1_hallAt_12 ?_
    refine lv_goto (tgt := 17) hx hb dX1_hallAt_13 (by decide) ?_
    exact gQret hX hr hlk hI ⟨rfl, Or.inr ⟨j, hj, hjE, rfl⟩⟩ dX1_hallAt_17
  · refine lv_if_eq (tgt := 16) hx hb dX1_hallAt_4 (by decide) (fun c3 => ?_) (fun c3 => False.elim (by revert c3; decide))
    refine lv_null hx hb dX1_hallAt_16 ?_
    exact gQret (r := none) hX hr hlk hI ⟨rfl, Or.inl ⟨rfl, hc_r1⟩⟩ dX1_hallAt_17
set_option maxRecDepth 100000 in
theorem iX1_gifts_0 : ∀ w ∈ wsX00, w ∈ wsX1_gifts := by decide +kernel
set_option maxRecDepth 100000 in
theorem iX1_gifts_1 : ∀ w ∈ wsX10, w ∈ wsX1_gifts := by decide +kernel
set_option maxHeartbeats 4000000 in
set_option maxRecDepth 100000 in
theorem c_X1_gifts (l : Launch) (D : va_G) (cI cH : ClassId) (g : Nat) (q : Nat → Nat) (ad : Nat → Nat) (pf : Nat → Int32) (n : Nat) (σ : gh_S) (sz : Nat) (x : Int32) (w : Nat) (hg : gI n w σ) : gMi l yX1_gifts wsX1_gifts ({ frames := 2, cells := 0, slots := 0, locals := 41 }) D (wCn g q cI cH ad pf n σ) (gTy cI cH) sz [.ref g, .int (x)] (fun r u => r = sGifts σ x ∧ u = wCn g q cI cH ad pf n σ) := by
  refine gEnter (cc := cX1_gifts) (maxL := 3) (ret := (some .int)) (QF := fun A => va_Qi _ (gPost D A) A) (by decide) rfl (Nat.le_of_ble_eq_true rfl) ?_
  intro p e s m below meth c A ls hX hr hlk hnm hK hN hA hI hl
  have hx := hX.1
  have hb := hX.2.1
  have hts := hX.2.2.2.2
  have hown : s.vm.findClass RX1 = some m.cls := hX.2.2.2.1
  have hin0 := iX1_gifts_0
  have hin1 := iX1_gifts_1
  have hl : lv_has ls 3 [(0, .ref g), (1, .int (x))] := hl
  have hI : InW D A s.heap (wCr g q cI cH ad pf (gfh ad σ) (gfp ad σ) n σ) s.heap [] := hI
  obtain ⟨hn, hw, ⟨t, ht, htE⟩, hpl, hpar, hrow, hn4, hw30, hz⟩ := id hg
  refine lv_aload_n hx hb dX1_gifts_0 rfl (lv_at hl 0 rfl) ?_
  refine lv_iload_n hx hb dX1_gifts_1 rfl (lv_at hl 1 rfl) ?_
  have hI : InW D A s.heap (wCn g q cI cH ad pf n σ) s.heap [] := hI
  refine gCallq (va_runV (As := [.int (x)]) (rest := []) hX (c_X1_hallAt l D cI cH g q ad pf n σ _ (x)) (cwV 1 hts gX1_gifts_X1_hallAt rfl rfl rfl (by decide +kernel) ⟨Nat.le_of_ble_eq_true rfl, Nat.le_of_ble_eq_true rfl⟩) ⟨gPre_blind, gRecv hI hK (ci := 1) (q0 := 0) rfl rfl, gPre_ok hI hK hN⟩ rfl rfl hl.1 rfl (lv_room (Nat.le_of_ble_eq_true rfl)) dX1_gifts_2 ⟨Nat.zero_le _, Nat.zero_le _⟩) hI hA (fun r1 ur1 H locs hr1 hI => ?_)
  obtain ⟨rfl, hr1⟩ := hr1
  rcases hr1 with ⟨rfl, hbad⟩ | ⟨j, hj, hjE, hr1E⟩
  · refine gTopN ?_
    refine lv_astore_nN (lv' := [(2, .null), (0, .ref g), (1, .int (x))]) hx hb dX1_gifts_5 rfl hl (by decide) rfl (fun ls hl => ?_)
    refine lv_aload_nN hx hb dX1_gifts_6 rfl (lv_at hl 0 rfl) ?_
    refine lv_ifnonnullN hx hb dX1_gifts_7 ?_
    refine lv_iconst (v := 0) hx hb dX1_gifts_10 (by decide) ?_
    refine lv_goto (tgt := 18) hx hb dX1_gifts_11 (by decide) ?_
    exact gIret hX hr hlk hI ⟨by rw [sGifts, if_pos hbad], rfl⟩ dX1_gifts_18
  · have hjC : (x).toNatClampNeg = j := by rw [hjE]; exact nI_clamp (by omega)
    by_cases hno : σ.1 9 j = -1
    · refine gTopQ (y := none) (hr1E.trans (gfh_no hno)) ?_
      refine gTopN ?_
      refine lv_astore_nN (lv' := [(2, .null), (0, .ref g), (1, .int (x))]) hx hb dX1_gifts_5 rfl hl (by decide) rfl (fun ls hl => ?_)
      refine lv_aload_nN hx hb dX1_gifts_6 rfl (lv_at hl 0 rfl) ?_
      refine lv_ifnonnullN hx hb dX1_gifts_7 ?_
      refine lv_iconst (v := 0) hx hb dX1_gifts_10 (by decide) ?_
      refine lv_goto (tgt := 18) hx hb dX1_gifts_11 (by decide) ?_
      exact gIret hX hr hlk hI ⟨by rw [sGifts, if_neg (fun h => by rw [hjE] at h; exact h.elim (nI_pos (by omega)) (fun h => absurd h (by rw [show (9 : Int32) = nI 9 from rfl]; exact nI_nlt (by omega) (by omega)))), hjC, if_pos hno], rfl⟩ dX1_gifts_18
    · obtain ⟨i, hi, hiE⟩ := (hpl j hj).resolve_left hno
      have hiC : (σ.1 9 j).toNatClampNeg = i := by rw [hiE]; exact nI_clamp (by omega)
      refine gTopQ (y := some (ad i)) (hr1E.trans (gfh_at hj (by omega) hiE)) ?_
      refine gTopR ?_
      refine lv_astore_n (lv' := [(2, .ref (ad i)), (0, .ref g), (1, .int (x))]) hx hb dX1_gifts_5 rfl hl (by decide) rfl (fun ls hl => ?_)
      refine lv_aload_n hx hb dX1_gifts_6 rfl (lv_at hl 0 rfl) ?_
      refine lv_ifnonnull (tgt := 14) hx hb dX1_gifts_7 (by decide) ?_
      refine lv_aload_n hx hb dX1_gifts_14 rfl (lv_at hl 0 rfl) ?_
      refine hGet (i := i) (v := .int (σ.1 3 (i))) hX hin0 hK hI hi 3 (by decide) hN.2.1 rfl dX1_gifts_15 ?_
      exact gIret hX hr hlk hI ⟨by rw [sGifts, if_neg (fun h => by rw [hjE] at h; exact h.elim (nI_pos (by omega)) (fun h => absurd h (by rw [show (9 : Int32) = nI 9 from rfl]; exact nI_nlt (by omega) (by omega)))), hjC, if_neg hno, hiC], rfl⟩ dX1_gifts_18
set_option maxRecDepth 100000 in
theorem iX1_told_0 : ∀ w ∈ wsX00, w ∈ wsX1_told := by decide +kernel
set_option maxRecDepth 100000 in
theorem iX1_told_1 : ∀ w ∈ wsX10, w ∈ wsX1_told := by decide +kernel
set_option maxHeartbeats 4000000 in
set_option maxRecDepth 100000 in
theorem c_X1_told (l : Launch) (D : va_G) (cI cH : ClassId) (g : Nat) (q : Nat → Nat) (ad : Nat → Nat) (pf : Nat → Int32) (n : Nat) (σ : gh_S) (sz : Nat) (x y : Int32) (w : Nat) (hg : gI n w σ) : gMi l yX1_told wsX1_told ({ frames := 2, cells := 0, slots := 0, locals := 41 }) D (wCn g q cI cH ad pf n σ) (gTy cI cH) sz [.ref g, .int (x), .int (y)] (fun r u => r = sTold σ x y ∧ u = wCn g q cI cH ad pf n σ) := by
  refine gEnter (cc := cX1_told) (maxL := 4) (ret := (some .int)) (QF := fun A => va_Qi _ (gPost D A) A) (by decide) rfl (Nat.le_of_ble_eq_true rfl) ?_
  intro p e s m below meth c A ls hX hr hlk hnm hK hN hA hI hl
  have hx := hX.1
  have hb := hX.2.1
  have hts := hX.2.2.2.2
  have hown : s.vm.findClass RX1 = some m.cls := hX.2.2.2.1
  have hin0 := iX1_told_0
  have hin1 := iX1_told_1
  have hl : lv_has ls 4 [(0, .ref g), (1, .int (x)), (2, .int (y))] := hl
  have hI : InW D A s.heap (wCr g q cI cH ad pf (gfh ad σ) (gfp ad σ) n σ) s.heap [] := hI
  obtain ⟨hn, hw, ⟨t, ht, htE⟩, hpl, hpar, hrow, hn4, hw30, hz⟩ := id hg
  refine lv_aload_n hx hb dX1_told_0 rfl (lv_at hl 0 rfl) ?_
  refine lv_iload_n hx hb dX1_told_1 rfl (lv_at hl 1 rfl) ?_
  have hI : InW D A s.heap (wCn g q cI cH ad pf n σ) s.heap [] := hI
  refine gCallq (va_runV (As := [.int (x)]) (rest := []) hX (c_X1_hallAt l D cI cH g q ad pf n σ _ (x)) (cwV 1 hts gX1_told_X1_hallAt rfl rfl rfl (by decide +kernel) ⟨Nat.le_of_ble_eq_true rfl, Nat.le_of_ble_eq_true rfl⟩) ⟨gPre_blind, gRecv hI hK (ci := 1) (q0 := 0) rfl rfl, gPre_ok hI hK hN⟩ rfl rfl hl.1 rfl (lv_room (Nat.le_of_ble_eq_true rfl)) dX1_told_2 ⟨Nat.zero_le _, Nat.zero_le _⟩) hI hA (fun r1 ur1 H locs hr1 hI => ?_)
  obtain ⟨rfl, hr1⟩ := hr1
  rcases hr1 with ⟨rfl, hbad⟩ | ⟨j, hj, hjE, hr1E⟩
  · refine gTopN ?_
    refine lv_astore_nN (lv' := [(3, .null), (0, .ref g), (1, .int (x)), (2, .int (y))]) hx hb dX1_told_5 rfl hl (by decide) rfl (fun ls hl => ?_)
    refine lv_aload_nN hx hb dX1_told_6 rfl (lv_at hl 0 rfl) ?_
    refine lv_ifnonnullN hx hb dX1_told_7 ?_
    refine lv_iconst (v := (-1)) hx hb dX1_told_10 (by decide) ?_
    refine lv_goto (tgt := 19) hx hb dX1_told_11 (by decide) ?_
    exact gIret hX hr hlk hI ⟨by rw [sTold, if_pos hbad], rfl⟩ dX1_told_19
  · have hjC : (x).toNatClampNeg = j := by rw [hjE]; exact nI_clamp (by omega)
    by_cases hno : σ.1 9 j = -1
    · refine gTopQ (y := none) (hr1E.trans (gfh_no hno)) ?_
      refine gTopN ?_
      refine lv_astore_nN (lv' := [(3, .null), (0, .ref g), (1, .int (x)), (2, .int (y))]) hx hb dX1_told_5 rfl hl (by decide) rfl (fun ls hl => ?_)
      refine lv_aload_nN hx hb dX1_told_6 rfl (lv_at hl 0 rfl) ?_
      refine lv_ifnonnullN hx hb dX1_told_7 ?_
      refine lv_iconst (v := (-1)) hx hb dX1_told_10 (by decide) ?_
      refine lv_goto (tgt := 19) hx hb dX1_told_11 (by decide) ?_
      exact gIret hX hr hlk hI ⟨by rw [sTold, if_neg (fun h => by rw [hjE] at h; exact h.elim (nI_pos (by omega)) (fun h => absurd h (by rw [show (9 : Int32) = nI 9 from rfl]; exact nI_nlt (by omega) (by omega)))), hjC, if_pos hno], rfl⟩ dX1_told_19
    · obtain ⟨i, hi, hiE⟩ := (hpl j hj).resolve_left hno
      have hiC : (σ.1 9 j).toNatClampNeg = i := by rw [hiE]; exact nI_clamp (by omega)
      refine gTopQ (y := some (ad i)) (hr1E.trans (gfh_at hj (by omega) hiE)) ?_
      refine gTopR ?_
      refine lv_astore_n (lv' := [(3, .ref (ad i)), (0, .ref g), (1, .int (x)), (2, .int (y))]) hx hb dX1_told_5 rfl hl (by decide) rfl (fun ls hl => ?_)
      refine lv_aload_n hx hb dX1_told_6 rfl (lv_at hl 0 rfl) ?_
      refine lv_ifnonnull (tgt := 14) hx hb dX1_told_7 (by decide) ?_
      refine lv_aload_n hx hb dX1_told_14 rfl (lv_at hl 0 rfl) ?_
      refine lv_iload_n hx hb dX1_told_15 rfl (lv_at hl 3 rfl) ?_
      have hI : InW D A s.heap (wCn g q cI cH ad pf n σ) H locs := hI
      refine gCalli (va_runVN (As := [.int (y)]) (rest := []) hX (c_X0_fact l D cI cH (wCn g q cI cH ad pf n σ) (ad i) (6 + i) (nI i) (σ.1 1 i) (σ.1 2 i) (σ.1 3 i) (σ.1 4 i) (σ.1 5 i) (σ.1 6 i) (σ.1 7 i) (σ.1 8 i) H.size (y) (wCr_hall hi)) ⟨va_cnB 1 hts gX1_told_X0_fact_n79 rfl rfl rfl hN.2.2.2.2.2.2.2.2.2 (hts (.initialized RX0) (by decide +kernel)) (by decide +kernel) ⟨Nat.le_of_ble_eq_true rfl, Nat.le_of_ble_eq_true rfl⟩, hts (.instanceMethod yX0_fact) (by decide +kernel), hts (.selects RX0 yX0_fact yX0_fact) (by decide +kernel)⟩ ⟨gPre_blind, gRecv hI hK (ci := 0) (q0 := 6 + i) rfl (wCr_hall hi), gPre_ok hI hK hN⟩ rfl rfl hl.1 rfl (lv_room (Nat.le_of_ble_eq_true rfl)) dX1_told_16 ⟨Nat.zero_le _, Nat.zero_le _⟩) hI hA (fun r2 ur2 H locs hr2 hI => ?_)
      obtain ⟨hr2, rfl⟩ := hr2
      exact gIret hX hr hlk hI ⟨by rw [sTold, if_neg (fun h => by rw [hjE] at h; exact h.elim (nI_pos (by omega)) (fun h => absurd h (by rw [show (9 : Int32) = nI 9 from rfl]; exact nI_nlt (by omega) (by omega)))), hjC, if_neg hno, hiC]; exact hr2, rfl⟩ dX1_told_19
set_option maxRecDepth 100000 in
theorem iX1_trace_1 : ∀ w ∈ wsX10, w ∈ wsX1_trace := by decide +kernel
set_option maxHeartbeats 4000000 in
set_option maxRecDepth 100000 in
theorem c_X1_trace (l : Launch) (D : va_G) (cI cH : ClassId) (g : Nat) (q : Nat → Nat) (ad : Nat → Nat) (pf : Nat → Int32) (n : Nat) (σ : gh_S) (sz : Nat) (x : Int32) (w : Nat) (hg : gI n w σ) : gMi l yX1_trace wsX1_trace ({ frames := 0, cells := 0, slots := 0, locals := 0 }) D (wCn g q cI cH ad pf n σ) (gTy cI cH) sz [.ref g, .int (x)] (fun r u => r = sTrace σ x ∧ u = wCn g q cI cH ad pf n σ) := by
  refine gEnter (cc := cX1_trace) (maxL := 2) (ret := (some .int)) (QF := fun A => va_Qi _ (gPost D A) A) (by decide) rfl (Nat.le_of_ble_eq_true rfl) ?_
  intro p e s m below meth c A ls hX hr hlk hnm hK hN hA hI hl
  have hx := hX.1
  have hb := hX.2.1
  have hts := hX.2.2.2.2
  have hown : s.vm.findClass RX1 = some m.cls := hX.2.2.2.1
  have hin1 := iX1_trace_1
  have hl : lv_has ls 2 [(0, .ref g), (1, .int (x))] := hl
  have hI : InW D A s.heap (wCr g q cI cH ad pf (gfh ad σ) (gfp ad σ) n σ) s.heap [] := hI
  obtain ⟨hn, hw, ⟨t, ht, htE⟩, hpl, hpar, hrow, hn4, hw30, hz⟩ := id hg
  refine lv_iload_n hx hb dX1_trace_0 rfl (lv_at hl 1 rfl) ?_
  refine lv_iconst (v := (-1)) hx hb dX1_trace_1 (by decide) ?_
  refine lv_icmp_ne (tgt := 10) hx hb dX1_trace_2 (by decide) (fun c1 => ?_) (fun c1 => ?_)
  · refine lv_iload_n hx hb dX1_trace_10 rfl (lv_at hl 1 rfl) ?_
    refine lv_if_lt (tgt := 37) hx hb dX1_trace_11 (by decide) (fun c2 => ?_) (fun c2 => ?_)
    · refine lv_iconst (v := (-1)) hx hb dX1_trace_37 (by decide) ?_
      exact gIret hX hr hlk hI ⟨by rw [sTrace, if_neg c1, if_pos (Or.inl c2)], rfl⟩ dX1_trace_38
    · refine lv_iload_n hx hb dX1_trace_14 rfl (lv_at hl 1 rfl) ?_
      refine lv_aload_n hx hb dX1_trace_15 rfl (lv_at hl 0 rfl) ?_
      refine cGet (v := .int (σ.2 12)) hX hin1 hK hI 9 (by decide) (hts (.fieldLink RX1 55 "GateHalls" "marksLeft" "I") (by decide +kernel)) rfl dX1_trace_16 ?_
      refine lv_icmp_ge (tgt := 37) hx hb dX1_trace_19 (by decide) (fun c3 => ?_) (fun c3 => ?_)
      · refine lv_iconst (v := (-1)) hx hb dX1_trace_37 (by decide) ?_
        exact gIret hX hr hlk hI ⟨by rw [sTrace, if_neg c1, if_pos (Or.inr c3)], rfl⟩ dX1_trace_38
      · refine lv_iload_n hx hb dX1_trace_22 rfl (lv_at hl 1 rfl) ?_
        refine lv_bipush (v := 100) hx hb dX1_trace_23 (by decide) ?_
        obtain ⟨k, hk, hkE, hkC⟩ := g_tin htE ht c2 c3
        refine lv_icmp_ge (tgt := 37) hx hb dX1_trace_25 (by decide) (fun c4 => absurd c4 (by rw [hkE]; exact g_nle (B := 100) rfl (by omega) (by decide))) (fun c4 => ?_)
        refine lv_aload_n hx hb dX1_trace_28 rfl (lv_at hl 0 rfl) ?_
        refine cGet (v := .ref (q 8)) hX hin1 hK hI 8 (by decide) (hts (.fieldLink RX1 25 "GateHalls" "marks" "[I") (by decide +kernel)) rfl dX1_trace_29 ?_
        refine lv_iload_n hx hb dX1_trace_32 rfl (lv_at hl 1 rfl) ?_
        refine gAld (j := k) hX hK hI 5 0 rfl rfl hkE (by omega) (by decide) dX1_trace_33 ?_
        refine lv_goto (tgt := 38) hx hb dX1_trace_34 (by decide) ?_
        exact gIret hX hr hlk hI ⟨by rw [sTrace, if_neg c1, if_neg (fun z => z.elim c2 c3), hkC], rfl⟩ dX1_trace_38
  · refine lv_aload_n hx hb dX1_trace_5 rfl (lv_at hl 0 rfl) ?_
    refine cGet (v := .int (σ.2 12)) hX hin1 hK hI 9 (by decide) (hts (.fieldLink RX1 55 "GateHalls" "marksLeft" "I") (by decide +kernel)) rfl dX1_trace_6 ?_
    exact gIret hX hr hlk hI ⟨by rw [sTrace, if_pos c1], rfl⟩ dX1_trace_9
theorem zMin_eq {x : Int32} : (if (1000000 : Int32) < x then 1000000 else x) = zMin x := by
  unfold zMin
  by_cases c : x ≤ 1000000
  · rw [if_pos c, if_neg]
    rw [Int32.lt_iff_toInt_lt]
    rw [Int32.le_iff_toInt_le] at c
    omega
  · rw [if_neg c, if_pos]
    rw [Int32.lt_iff_toInt_lt]
    rw [Int32.le_iff_toInt_le] at c
    omega
theorem sFill_ok {σ : gh_S} {x : Int32} (h1 : ¬ x < 0) (h2 : ¬ 1000 < x) : sFill σ x = (zMin (σ.2 11 + x), uS σ 11 (zMin (σ.2 11 + x))) := by
  unfold sFill
  rw [if_neg (fun h => h.elim h1 h2)]
theorem g_nlt_of_le {x y : Int32} (h : x ≤ y) : ¬ y < x := by
  rw [Int32.lt_iff_toInt_lt]; rw [Int32.le_iff_toInt_le] at h; omega
theorem g_lt_of_nle {x y : Int32} (h : ¬ x ≤ y) : y < x := by
  rw [Int32.lt_iff_toInt_lt]; rw [Int32.le_iff_toInt_le] at h; omega
set_option maxRecDepth 100000 in
theorem iX1_fill_1 : ∀ w ∈ wsX10, w ∈ wsX1_fill := by decide +kernel
set_option maxHeartbeats 4000000 in
set_option maxRecDepth 100000 in
theorem c_X1_fill (l : Launch) (D : va_G) (cI cH : ClassId) (g : Nat) (q : Nat → Nat) (ad : Nat → Nat) (pf : Nat → Int32) (n : Nat) (σ : gh_S) (sz : Nat) (x : Int32) : gMi l yX1_fill wsX1_fill ({ frames := 1, cells := 0, slots := 0, locals := 24 }) D (wCn g q cI cH ad pf n σ) (gTy cI cH) sz [.ref g, .int (x)] (fun r u => r = (sFill σ x).1 ∧ u = wCn g q cI cH ad pf n (sFill σ x).2) := by
  refine gEnter (cc := cX1_fill) (maxL := 2) (ret := (some .int)) (QF := fun A => va_Qi _ (gPost D A) A) (by decide) rfl (Nat.le_of_ble_eq_true rfl) ?_
  intro p e s m below meth c A ls hX hr hlk hnm hK hN hA hI hl
  have hx := hX.1
  have hb := hX.2.1
  have hts := hX.2.2.2.2
  have hown : s.vm.findClass RX1 = some m.cls := hX.2.2.2.1
  have hin1 := iX1_fill_1
  have hl : lv_has ls 2 [(0, .ref g), (1, .int (x))] := hl
  have hI : InW D A s.heap (wCr g q cI cH ad pf (gfh ad σ) (gfp ad σ) n σ) s.heap [] := hI
  refine lv_iload_n hx hb dX1_fill_0 rfl (lv_at hl 1 rfl) ?_
  refine lv_if_lt (tgt := 11) hx hb dX1_fill_1 (by decide) (fun c1 => ?_) (fun c1 => ?_)
  · refine lv_iconst (v := (-1)) hx hb dX1_fill_11 (by decide) ?_
    exact gIret hX hr hlk hI (by rw [sFill, if_pos (Or.inl c1)]; exact ⟨rfl, rfl⟩) dX1_fill_12
  · refine lv_iload_n hx hb dX1_fill_4 rfl (lv_at hl 1 rfl) ?_
    refine lv_sipush (v := 1000) hx hb dX1_fill_5 (by decide) ?_
    refine lv_icmp_le (tgt := 13) hx hb dX1_fill_8 (by decide) (fun c2 => ?_) (fun c2 => ?_)
    · refine lv_aload_n hx hb dX1_fill_13 rfl (lv_at hl 0 rfl) ?_
      refine lv_aload_n hx hb dX1_fill_14 rfl (lv_at hl 0 rfl) ?_
      refine cGet (v := .int (σ.2 11)) hX hin1 hK hI 2 (by decide) (hts (.fieldLink RX1 45 "GateHalls" "purse" "I") (by decide +kernel)) rfl dX1_fill_15 ?_
      refine lv_iload_n hx hb dX1_fill_18 rfl (lv_at hl 1 rfl) ?_
      refine lv_iadd hx hb dX1_fill_19 ?_
      refine lv_ldc (v := 1000000) hx hb hown (hts (.constant RX1 48 (1000000)) (by decide +kernel)) dX1_fill_20 ?_
      refine va_mmin hx hb (hX.2.2.1.trans hl.1.symm) hown (hts (.methodLink RX1 49 Lib.Math.min.name) (by decide +kernel)) (hts (.static Lib.Math.min.name) (by decide +kernel)) (hts (.initialized "java/lang/Math") (by decide +kernel)) (hts (.code Lib.Math.min.name Lib.Math.min.code 2 (some .int)) (by decide +kernel)) (Nat.le_of_ble_eq_true rfl) (Nat.le_of_ble_eq_true rfl) (Nat.le_of_ble_eq_true rfl) (Nat.le_of_ble_eq_true rfl) dX1_fill_22 ?_
      refine cPut (σ' := (uS σ 11 (if (1000000) < ((σ.2 11) + (x)) then (1000000) else ((σ.2 11) + (x))))) hX hin1 hK hI 2 (by decide) (hts (.fieldLink RX1 45 "GateHalls" "purse" "I") (by decide +kernel)) rfl rfl rfl dX1_fill_25 (fun H locs hI => ?_)
      refine lv_aload_n hx hb dX1_fill_28 rfl (lv_at hl 0 rfl) ?_
      refine cGet (v := .int (if (1000000) < ((σ.2 11) + (x)) then (1000000) else ((σ.2 11) + (x)))) hX hin1 hK hI 2 (by decide) (hts (.fieldLink RX1 45 "GateHalls" "purse" "I") (by decide +kernel)) rfl dX1_fill_29 ?_
      exact gIret hX hr hlk hI (by rw [sFill_ok c1 (g_nlt_of_le c2), ← zMin_eq]; exact ⟨rfl, rfl⟩) dX1_fill_32
    · refine lv_iconst (v := (-1)) hx hb dX1_fill_11 (by decide) ?_
      exact gIret hX hr hlk hI (by rw [sFill, if_pos (Or.inr (g_lt_of_nle c2))]; exact ⟨rfl, rfl⟩) dX1_fill_12
theorem g_m1a {x : Int32} (h : x < 0) (h2 : ¬ x = -1) : x < -1 := by
  rw [Int32.lt_iff_toInt_lt] at h ⊢
  have h1 : (-1 : Int32).toInt = -1 := by decide
  have h0 : (0 : Int32).toInt = 0 := by decide
  rw [h0] at h
  rw [h1]
  have : x.toInt ≠ -1 := fun e => h2 (Int32.toInt_inj.mp (e.trans h1.symm))
  omega
theorem g_m1b {x : Int32} (h : ¬ x < 0) : ¬ x < -1 := by
  rw [Int32.lt_iff_toInt_lt] at h ⊢
  have h1 : (-1 : Int32).toInt = -1 := by decide
  have h0 : (0 : Int32).toInt = 0 := by decide
  rw [h0] at h
  rw [h1]
  omega
set_option maxRecDepth 100000 in
theorem iX1_parent_1 : ∀ w ∈ wsX10, w ∈ wsX1_parent := by decide +kernel
set_option maxHeartbeats 4000000 in
set_option maxRecDepth 100000 in
theorem c_X1_parent (l : Launch) (D : va_G) (cI cH : ClassId) (g : Nat) (q : Nat → Nat) (ad : Nat → Nat) (pf : Nat → Int32) (n : Nat) (σ : gh_S) (sz : Nat) (x o : Int32) : gMi l yX1_parent wsX1_parent ({ frames := 1, cells := 0, slots := 0, locals := 20 }) D (wCn g q cI cH ad pf n σ) (gTy cI cH) sz [.ref g, .int (x), .int (o)] (fun r u => r = (sParent σ x o).1 ∧ u = wCn g q cI cH ad pf n (sParent σ x o).2) := by
  refine gEnter (cc := cX1_parent) (maxL := 4) (ret := (some .int)) (QF := fun A => va_Qi _ (gPost D A) A) (by decide) rfl (Nat.le_of_ble_eq_true rfl) ?_
  intro p e s m below meth c A ls hX hr hlk hnm hK hN hA hI hl
  have hx := hX.1
  have hb := hX.2.1
  have hts := hX.2.2.2.2
  have hown : s.vm.findClass RX1 = some m.cls := hX.2.2.2.1
  have hin1 := iX1_parent_1
  have hl : lv_has ls 4 [(0, .ref g), (1, .int (x)), (2, .int (o))] := hl
  have hI : InW D A s.heap (wCr g q cI cH ad pf (gfh ad σ) (gfp ad σ) n σ) s.heap [] := hI
  refine lv_iload_n hx hb dX1_parent_0 rfl (lv_at hl 1 rfl) ?_
  refine vp_callSi (W.runS (As := [.int (x)]) (rest := []) hX (c_X1_isPlace l (x)) (va_cwS 1 hts gX1_parent_X1_isPlace rfl rfl rfl (by decide +kernel) ⟨Nat.le_of_ble_eq_true rfl, Nat.le_of_ble_eq_true rfl⟩) preEq rfl rfl hl.1 rfl (lv_room (Nat.le_of_ble_eq_true rfl)) dX1_parent_1 ⟨Nat.le_of_ble_eq_true rfl, Nat.le_of_ble_eq_true rfl⟩) (fun r1 hr1 => ?_)
  rcases hr1 with ⟨rfl, ha_r1, hb_r1⟩ | ⟨rfl, hc_r1⟩
  · refine lv_if_eq (tgt := 19) hx hb dX1_parent_4 (by decide) (fun c2 => False.elim (by revert c2; decide)) (fun c2 => ?_)
    refine lv_iload_n hx hb dX1_parent_7 rfl (lv_at hl 2 rfl) ?_
    refine lv_iconst (v := (-1)) hx hb dX1_parent_8 (by decide) ?_
    refine lv_icmp_eq (tgt := 22) hx hb dX1_parent_9 (by decide) (fun c3 => ?_) (fun c3 => ?_)
    · obtain ⟨j, hj, hjE, hjC⟩ := g_pl ha_r1 hb_r1
      refine lv_aload_n hx hb dX1_parent_22 rfl (lv_at hl 0 rfl) ?_
      refine cGet (v := .ref (q 1)) hX hin1 hK hI 1 (by decide) (hts (.fieldLink RX1 15 "GateHalls" "parents" "[I") (by decide +kernel)) rfl dX1_parent_23 ?_
      refine lv_iload_n hx hb dX1_parent_26 rfl (lv_at hl 1 rfl) ?_
      refine gAld (j := j) hX hK hI 2 0 rfl rfl hjE (by omega) (by decide) dX1_parent_27 ?_
      refine lv_istore_n (lv' := [(3, .int (σ.1 10 (j))), (0, .ref g), (1, .int (x)), (2, .int (o))]) hx hb dX1_parent_28 rfl hl (by decide) rfl (fun ls hl => ?_)
      refine lv_aload_n hx hb dX1_parent_29 rfl (lv_at hl 1 rfl) ?_
      refine cGet (v := .ref (q 1)) hX hin1 hK hI 1 (by decide) (hts (.fieldLink RX1 15 "GateHalls" "parents" "[I") (by decide +kernel)) rfl dX1_parent_30 ?_
      refine lv_iload_n hx hb dX1_parent_33 rfl (lv_at hl 2 rfl) ?_
      refine lv_iload_n hx hb dX1_parent_34 rfl (lv_at hl 3 rfl) ?_
      refine gAst (j := j) (w' := wCr g q cI cH ad pf (gfh ad σ) (gfp ad σ) n (uA σ 10 (j) (o))) hX hK hI 2 0 rfl rfl hjE (by omega) (by decide) rfl dX1_parent_35 (fun H locs hI => ?_)
      refine lv_iload_n hx hb dX1_parent_36 rfl (lv_at hl 0 rfl) ?_
      exact gIret hX hr hlk hI (by rw [sParent, if_neg (fun h => h.elim ha_r1 (fun h => h.elim hb_r1 (fun h => by subst c3; exact absurd h (by decide)))), hjC]; exact ⟨rfl, rfl⟩) dX1_parent_37
    · refine lv_iload_n hx hb dX1_parent_12 rfl (lv_at hl 2 rfl) ?_
      refine vp_callSi (W.runS (As := [.int (o)]) (rest := []) hX (c_X1_isPlace l (o)) (va_cwS 1 hts gX1_parent_X1_isPlace rfl rfl rfl (by decide +kernel) ⟨Nat.le_of_ble_eq_true rfl, Nat.le_of_ble_eq_true rfl⟩) preEq rfl rfl hl.1 rfl (lv_room (Nat.le_of_ble_eq_true rfl)) dX1_parent_13 ⟨Nat.le_of_ble_eq_true rfl, Nat.le_of_ble_eq_true rfl⟩) (fun r4 hr4 => ?_)
      rcases hr4 with ⟨rfl, ha_r4, hb_r4⟩ | ⟨rfl, hc_r4⟩
      · refine lv_if_ne (tgt := 22) hx hb dX1_parent_16 (by decide) (fun c5 => ?_) (fun c5 => False.elim (by revert c5; decide))
        obtain ⟨j, hj, hjE, hjC⟩ := g_pl ha_r1 hb_r1
        refine lv_aload_n hx hb dX1_parent_22 rfl (lv_at hl 0 rfl) ?_
        refine cGet (v := .ref (q 1)) hX hin1 hK hI 1 (by decide) (hts (.fieldLink RX1 15 "GateHalls" "parents" "[I") (by decide +kernel)) rfl dX1_parent_23 ?_
        refine lv_iload_n hx hb dX1_parent_26 rfl (lv_at hl 1 rfl) ?_
        refine gAld (j := j) hX hK hI 2 0 rfl rfl hjE (by omega) (by decide) dX1_parent_27 ?_
        refine lv_istore_n (lv' := [(3, .int (σ.1 10 (j))), (0, .ref g), (1, .int (x)), (2, .int (o))]) hx hb dX1_parent_28 rfl hl (by decide) rfl (fun ls hl => ?_)
        refine lv_aload_n hx hb dX1_parent_29 rfl (lv_at hl 1 rfl) ?_
        refine cGet (v := .ref (q 1)) hX hin1 hK hI 1 (by decide) (hts (.fieldLink RX1 15 "GateHalls" "parents" "[I") (by decide +kernel)) rfl dX1_parent_30 ?_
        refine lv_iload_n hx hb dX1_parent_33 rfl (lv_at hl 2 rfl) ?_
        refine lv_iload_n hx hb dX1_parent_34 rfl (lv_at hl 3 rfl) ?_
        refine gAst (j := j) (w' := wCr g q cI cH ad pf (gfh ad σ) (gfp ad σ) n (uA σ 10 (j) (o))) hX hK hI 2 0 rfl rfl hjE (by omega) (by decide) rfl dX1_parent_35 (fun H locs hI => ?_)
        refine lv_iload_n hx hb dX1_parent_36 rfl (lv_at hl 0 rfl) ?_
        exact gIret hX hr hlk hI (by rw [sParent, if_neg (fun h => h.elim ha_r1 (fun h => h.elim hb_r1 (fun h => h.elim (g_m1b ha_r4) hb_r4))), hjC]; exact ⟨rfl, rfl⟩) dX1_parent_37
      · refine lv_if_ne (tgt := 22) hx hb dX1_parent_16 (by decide) (fun c6 => False.elim (by revert c6; decide)) (fun c6 => ?_)
        refine lv_bipush (v := (-2)) hx hb dX1_parent_19 (by decide) ?_
        exact gIret hX hr hlk hI (by rw [sParent, if_pos (Or.inr (Or.inr (hc_r4.elim (fun h => Or.inl (g_m1a h c3)) Or.inr)))]; exact ⟨rfl, rfl⟩) dX1_parent_21
  · refine lv_if_eq (tgt := 19) hx hb dX1_parent_4 (by decide) (fun c7 => ?_) (fun c7 => False.elim (by revert c7; decide))
    refine lv_bipush (v := (-2)) hx hb dX1_parent_19 (by decide) ?_
    exact gIret hX hr hlk hI (by rw [sParent, if_pos (hc_r1.elim Or.inl (fun h => Or.inr (Or.inl h)))]; exact ⟨rfl, rfl⟩) dX1_parent_21
set_option maxRecDepth 100000 in
theorem iX1_share_1 : ∀ w ∈ wsX10, w ∈ wsX1_share := by decide +kernel
set_option maxHeartbeats 4000000 in
set_option maxRecDepth 100000 in
theorem c_X1_share (l : Launch) (D : va_G) (cI cH : ClassId) (g : Nat) (q : Nat → Nat) (ad : Nat → Nat) (pf : Nat → Int32) (n : Nat) (σ : gh_S) (sz : Nat) (x y : Int32) (w : Nat) (hg : gI n w σ) : gMi l yX1_share wsX1_share ({ frames := 1, cells := 0, slots := 0, locals := 20 }) D (wCn g q cI cH ad pf n σ) (gTy cI cH) sz [.ref g, .int (x), .int (y)] (fun r u => r = (sShare σ x y).1 ∧ u = wCn g q cI cH ad pf n (sShare σ x y).2) := by
  refine gEnter (cc := cX1_share) (maxL := 3) (ret := (some .int)) (QF := fun A => va_Qi _ (gPost D A) A) (by decide) rfl (Nat.le_of_ble_eq_true rfl) ?_
  intro p e s m below meth c A ls hX hr hlk hnm hK hN hA hI hl
  have hx := hX.1
  have hb := hX.2.1
  have hts := hX.2.2.2.2
  have hown : s.vm.findClass RX1 = some m.cls := hX.2.2.2.1
  have hin1 := iX1_share_1
  have hl : lv_has ls 3 [(0, .ref g), (1, .int (x)), (2, .int (y))] := hl
  have hI : InW D A s.heap (wCr g q cI cH ad pf (gfh ad σ) (gfp ad σ) n σ) s.heap [] := hI
  obtain ⟨hn, hw, ⟨t, ht, htE⟩, hpl, hpar, hrow, hn4, hw30, hz⟩ := id hg
  refine lv_iload_n hx hb dX1_share_0 rfl (lv_at hl 1 rfl) ?_
  refine vp_callSi (W.runS (As := [.int (x)]) (rest := []) hX (c_X1_isPlace l (x)) (va_cwS 1 hts gX1_share_X1_isPlace rfl rfl rfl (by decide +kernel) ⟨Nat.le_of_ble_eq_true rfl, Nat.le_of_ble_eq_true rfl⟩) preEq rfl rfl hl.1 rfl (lv_room (Nat.le_of_ble_eq_true rfl)) dX1_share_1 ⟨Nat.le_of_ble_eq_true rfl, Nat.le_of_ble_eq_true rfl⟩) (fun r1 hr1 => ?_)
  rcases hr1 with ⟨rfl, ha_r1, hb_r1⟩ | ⟨rfl, hc_r1⟩
  · refine lv_if_eq (tgt := 14) hx hb dX1_share_4 (by decide) (fun c2 => False.elim (by revert c2; decide)) (fun c2 => ?_)
    refine lv_iload_n hx hb dX1_share_7 rfl (lv_at hl 2 rfl) ?_
    refine vp_callSi (W.runS (As := [.int (y)]) (rest := []) hX (c_X1_isPlace l (y)) (va_cwS 1 hts gX1_share_X1_isPlace rfl rfl rfl (by decide +kernel) ⟨Nat.le_of_ble_eq_true rfl, Nat.le_of_ble_eq_true rfl⟩) preEq rfl rfl hl.1 rfl (lv_room (Nat.le_of_ble_eq_true rfl)) dX1_share_8 ⟨Nat.le_of_ble_eq_true rfl, Nat.le_of_ble_eq_true rfl⟩) (fun r3 hr3 => ?_)
    rcases hr3 with ⟨rfl, ha_r3, hb_r3⟩ | ⟨rfl, hc_r3⟩
    · refine lv_if_ne (tgt := 16) hx hb dX1_share_11 (by decide) (fun c4 => ?_) (fun c4 => False.elim (by revert c4; decide))
      obtain ⟨j, hj, hjE, hjC⟩ := g_pl ha_r1 hb_r1
      obtain ⟨k, hk, hkE, hkC⟩ := g_pl ha_r3 hb_r3
      by_cases hno : σ.1 9 j = -1
      · refine lv_aload_n hx hb dX1_share_16 rfl (lv_at hl 0 rfl) ?_
        refine cGet (v := .ref (q 0)) hX hin1 hK hI 0 (by decide) (hts (.fieldLink RX1 11 "GateHalls" "halls" "[LGateHalls$Hall;") (by decide +kernel)) rfl dX1_share_17 ?_
        refine lv_iload_n hx hb dX1_share_20 rfl (lv_at hl 2 rfl) ?_
        refine lv_aload_n hx hb dX1_share_21 rfl (lv_at hl 0 rfl) ?_
        refine cGet (v := .ref (q 0)) hX hin1 hK hI 0 (by decide) (hts (.fieldLink RX1 11 "GateHalls" "halls" "[LGateHalls$Hall;") (by decide +kernel)) rfl dX1_share_22 ?_
        refine lv_iload_n hx hb dX1_share_25 rfl (lv_at hl 1 rfl) ?_
        refine gQld (j := j) hX hK hI 1 1 rfl rfl hjE (by omega) (by decide) dX1_share_26 ?_
        refine gTopQ (y := none) (gfh_no hno) ?_
        refine gTopN ?_
        refine gQstN (j := k) (w' := wCr g q cI cH ad pf (va_up (gfh ad σ) (k) none) (gfp ad σ) n σ) hX hK hI 1 1 rfl rfl hkE (by omega) (by decide) rfl dX1_share_27 (fun H locs hI => ?_)
        refine lv_aload_n hx hb dX1_share_28 rfl (lv_at hl 0 rfl) ?_
        refine cGet (v := .ref (q 0)) hX hin1 hK hI 0 (by decide) (hts (.fieldLink RX1 11 "GateHalls" "halls" "[LGateHalls$Hall;") (by decide +kernel)) rfl dX1_share_29 ?_
        refine lv_iload_n hx hb dX1_share_32 rfl (lv_at hl 2 rfl) ?_
        refine gQld (j := k) hX hK hI 1 1 rfl rfl hkE (by omega) (by decide) dX1_share_33 ?_
        refine gTopQ (y := none) (va_up_self _ _ _) ?_
        refine gTopN ?_
        refine lv_ifnonnullN hx hb dX1_share_34 ?_
        refine lv_iconst (v := 0) hx hb dX1_share_37 (by decide) ?_
        refine lv_goto (tgt := 42) hx hb dX1_share_38 (by decide) ?_
        exact gIret hX hr hlk hI (by rw [sShare, if_neg (fun h => h.elim ha_r1 (fun h => h.elim hb_r1 (fun h => h.elim ha_r3 hb_r3))), hjC, hkC, if_pos hno, hno, gfh_none hk]; exact ⟨rfl, rfl⟩) dX1_share_42
      · obtain ⟨i, hi, hiE⟩ := (hpl j hj).resolve_left hno
        refine lv_aload_n hx hb dX1_share_16 rfl (lv_at hl 0 rfl) ?_
        refine cGet (v := .ref (q 0)) hX hin1 hK hI 0 (by decide) (hts (.fieldLink RX1 11 "GateHalls" "halls" "[LGateHalls$Hall;") (by decide +kernel)) rfl dX1_share_17 ?_
        refine lv_iload_n hx hb dX1_share_20 rfl (lv_at hl 2 rfl) ?_
        refine lv_aload_n hx hb dX1_share_21 rfl (lv_at hl 0 rfl) ?_
        refine cGet (v := .ref (q 0)) hX hin1 hK hI 0 (by decide) (hts (.fieldLink RX1 11 "GateHalls" "halls" "[LGateHalls$Hall;") (by decide +kernel)) rfl dX1_share_22 ?_
        refine lv_iload_n hx hb dX1_share_25 rfl (lv_at hl 1 rfl) ?_
        refine gQld (j := j) hX hK hI 1 1 rfl rfl hjE (by omega) (by decide) dX1_share_26 ?_
        refine gTopQ (y := some (ad i)) (gfh_at hj (by omega) hiE) ?_
        refine gTopR ?_
        refine gQst (j := k) (w' := wCr g q cI cH ad pf (va_up (gfh ad σ) (k) (some (ad i))) (gfp ad σ) n σ) (r := (RX0, TX0, 9)) hX hK hI 1 1 (6 + i) 0 rfl rfl (wCr_hall hi) rfl hkE (by omega) (by decide) rfl dX1_share_27 (fun H locs hI => ?_)
        refine lv_aload_n hx hb dX1_share_28 rfl (lv_at hl 0 rfl) ?_
        refine cGet (v := .ref (q 0)) hX hin1 hK hI 0 (by decide) (hts (.fieldLink RX1 11 "GateHalls" "halls" "[LGateHalls$Hall;") (by decide +kernel)) rfl dX1_share_29 ?_
        refine lv_iload_n hx hb dX1_share_32 rfl (lv_at hl 2 rfl) ?_
        refine gQld (j := k) hX hK hI 1 1 rfl rfl hkE (by omega) (by decide) dX1_share_33 ?_
        refine gTopQ (y := some (ad i)) (va_up_self _ _ _) ?_
        refine gTopR ?_
        refine lv_ifnonnull (tgt := 41) hx hb dX1_share_34 (by decide) ?_
        refine lv_iconst (v := 1) hx hb dX1_share_41 (by decide) ?_
        exact gIret hX hr hlk hI (by rw [sShare, if_neg (fun h => h.elim ha_r1 (fun h => h.elim hb_r1 (fun h => h.elim ha_r3 hb_r3))), hjC, hkC, if_neg hno, hiE, gfh_some hk (by omega)]; exact ⟨rfl, rfl⟩) dX1_share_42
    · refine lv_if_ne (tgt := 16) hx hb dX1_share_11 (by decide) (fun c5 => False.elim (by revert c5; decide)) (fun c5 => ?_)
      refine lv_iconst (v := (-1)) hx hb dX1_share_14 (by decide) ?_
      exact gIret hX hr hlk hI (by rw [sShare, if_pos (Or.inr (Or.inr hc_r3))]; exact ⟨rfl, rfl⟩) dX1_share_15
  · refine lv_if_eq (tgt := 14) hx hb dX1_share_4 (by decide) (fun c6 => ?_) (fun c6 => False.elim (by revert c6; decide))
    refine lv_iconst (v := (-1)) hx hb dX1_share_14 (by decide) ?_
    exact gIret hX hr hlk hI (by rw [sShare, if_pos (hc_r1.elim Or.inl (fun h => Or.inr (Or.inl h)))]; exact ⟨rfl, rfl⟩) dX1_share_15
