set_option maxRecDepth 100000 in
theorem iX1_passPath_1 : ∀ w ∈ wsX10, w ∈ wsX1_passPath := by decide +kernel
set_option maxHeartbeats 4000000 in
set_option maxRecDepth 100000 in
theorem c_X1_passPath (l : Launch) (D : va_G) (cI cH : ClassId) (g : Nat) (q : Nat → Nat) (ad : Nat → Nat) (pf : Nat → Int32) (n : Nat) (σ : gh_S) (sz : Nat) (o : Nat → Int32) (L w : Nat) (hL : L ≤ 10) (hwL : w + L ≤ 30) (hpf : ∀ k, k < L → pf k = o k ∧ ∃ j : Nat, j < 10 ∧ o k = nI j) (hg : gI n w σ) (hkd : gKd n σ) : gMi l yX1_passPath wsX1_passPath ({ frames := 3, cells := 0, slots := 0, locals := 66 }) D (wCn g q cI cH ad pf n σ) (gTy cI cH) sz [.ref g, .int (nI L)] (fun r u => r = (zDown o L σ).1 ∧ u = wCn g q cI cH ad pf n (zDown o L σ).2) := by
  refine gEnter (cc := cX1_passPath) (maxL := 5) (ret := (some .int)) (QF := fun A => va_Qi _ (gPost D A) A) (by decide) rfl (Nat.le_of_ble_eq_true rfl) ?_
  intro p e s m below meth c A ls hX hr hlk hnm hK hN hA hI hl
  have hx := hX.1
  have hb := hX.2.1
  have hts := hX.2.2.2.2
  have hown : s.vm.findClass RX1 = some m.cls := hX.2.2.2.1
  have hin1 := iX1_passPath_1
  have hl : lv_has ls 5 [(0, .ref g), (1, .int (nI L))] := hl
  have hI : InW D A s.heap (wCr g q cI cH ad pf (gfh ad σ) (gfp ad σ) n σ) s.heap [] := hI
  refine lv_iload_n hx hb dX1_passPath_0 rfl (lv_at hl 1 rfl) ?_
  refine lv_bipush (v := 10) hx hb dX1_passPath_1 (by decide) ?_
  refine va_mmin hx hb (hX.2.2.1.trans hl.1.symm) hown (hts (.methodLink RX1 49 Lib.Math.min.name) (by decide +kernel)) (hts (.static Lib.Math.min.name) (by decide +kernel)) (hts (.initialized "java/lang/Math") (by decide +kernel)) (hts (.code Lib.Math.min.name Lib.Math.min.code 2 (some .int)) (by decide +kernel)) (Nat.le_of_ble_eq_true rfl) (Nat.le_of_ble_eq_true rfl) (Nat.le_of_ble_eq_true rfl) (Nat.le_of_ble_eq_true rfl) dX1_passPath_3 ?_
  refine gTop (y := nI L) (if_neg (by rw [show (10 : Int32) = nI 10 from rfl]; exact nI_nlt (by omega) (by omega))) ?_
  refine lv_iconst (v := 1) hx hb dX1_passPath_6 (by decide) ?_
  refine lv_isub hx hb dX1_passPath_7 ?_
  refine lv_istore_n (lv' := [(2, .int ((nI L) - (1))), (0, .ref g), (1, .int (nI L))]) hx hb dX1_passPath_8 rfl hl (by decide) rfl (fun ls hl => ?_)
  have loop : ∀ (r w' : Nat) (τ : gh_S) (H : Heap) (locs : List Loc) (ls : Array Slot), r ≤ L → w' + r ≤ 30 → gI n w' τ → gKd n τ → zDown o r τ = zDown o L σ → InW D A s.heap (wCn g q cI cH ad pf n τ) H locs → lv_has ls 5 [(0, .ref g), (2, .int ((nI r) - 1))] → W p l e ({ frames := 3, cells := 0, slots := 0, locals := 66 }) s m ([.ref g, .int (nI L)] : List Value).toArray below meth c H locs 0 0 (MQ below (va_Qi (fun r u => r = (zDown o L σ).1 ∧ u = wCn g q cI cH ad pf n (zDown o L σ).2) (gPost D A) A) ([.ref g, .int (nI L)] : List Value).toArray s 0 0 A) (F0 m 9 ls []) := by
    intro r
    induction r with
    | zero =>
      intro w' τ H locs ls hr10 hr30 hgT hkT hE hI hl
      refine lv_iload_n hx hb dX1_passPath_9 rfl (lv_at hl 1 rfl) ?_
      refine lv_if_lt (tgt := 53) hx hb dX1_passPath_10 (by decide) (fun c1 => ?_) (fun c1 => absurd (show (nI 0) - 1 < 0 by decide) c1)
      refine lv_iconst (v := 0) hx hb dX1_passPath_53 (by decide) ?_
      exact gIret hX hr hlk hI ⟨by rw [← hE]; rfl, by rw [← hE]; rfl⟩ dX1_passPath_54
    | succ r ih =>
      intro w' τ H locs ls hr10 hr30 hgT hkT hE hI hl
      obtain ⟨hpr, j, hj, hjE⟩ := hpf r (by omega)
      have hjC : (o r).toNatClampNeg = j := by rw [hjE]; exact nI_clamp (by omega)
      have hTn := hgT.2.2.2.2.2.2.1
      refine lv_iload_n hx hb dX1_passPath_9 rfl (lv_at hl 1 rfl) ?_
      refine lv_if_lt (tgt := 53) hx hb dX1_passPath_10 (by decide) (fun c2 => absurd c2 (by rw [nI_pred]; exact nI_pos (by omega))) (fun c2 => ?_)
      refine lv_aload_n hx hb dX1_passPath_13 rfl (lv_at hl 0 rfl) ?_
      refine lv_aload_n hx hb dX1_passPath_14 rfl (lv_at hl 0 rfl) ?_
      refine cGet (v := .ref (q 4)) hX hin1 hK hI 4 (by decide) (hts (.fieldLink RX1 19 "GateHalls" "path" "[I") (by decide +kernel)) rfl dX1_passPath_15 ?_
      refine lv_iload_n hx hb dX1_passPath_18 rfl (lv_at hl 1 rfl) ?_
      refine gAld (j := r) hX hK hI 3 0 rfl rfl (nI_pred r) (by omega) (by decide) dX1_passPath_19 ?_
      refine gTop (y := nI j) (hpr.trans hjE) ?_
      have hI : InW D A s.heap (wCn g q cI cH ad pf n τ) H locs := hI
      refine gCallq (va_runV (As := [.int (nI j)]) (rest := []) hX (c_X1_hallAt l D cI cH g q ad pf n τ _ (nI j)) (cwV 1 hts gX1_passPath_X1_hallAt rfl rfl rfl (by decide +kernel) ⟨Nat.le_of_ble_eq_true rfl, Nat.le_of_ble_eq_true rfl⟩) ⟨gPre_blind, gRecv hI hK (ci := 1) (q0 := 0) rfl rfl, gPre_ok hI hK hN⟩ rfl rfl hl.1 rfl (lv_room (Nat.le_of_ble_eq_true rfl)) dX1_passPath_20 ⟨Nat.zero_le _, Nat.zero_le _⟩) hI hA (fun r3 ur3 H locs hr3 hI => ?_)
      obtain ⟨rfl, hr3⟩ := hr3
      have hr3E := g_hallAt hj hr3
      by_cases hno : τ.1 9 j = -1
      · refine gTopQ (y := none) (hr3E.trans (gfh_no hno)) ?_
        refine gTopN ?_
        refine lv_astore_nN (lv' := [(3, .null), (0, .ref g), (2, .int (nI (r + 1) - 1))]) hx hb dX1_passPath_23 rfl hl (by decide) rfl (fun ls hl => ?_)
        refine lv_aload_nN hx hb dX1_passPath_24 rfl (lv_at hl 0 rfl) ?_
        refine lv_ifnonnullN hx hb dX1_passPath_25 ?_
        refine lv_iconst (v := 1) hx hb dX1_passPath_28 (by decide) ?_
        refine lv_goto (tgt := 37) hx hb dX1_passPath_29 (by decide) ?_
        refine lv_istore (lv' := [(4, .int (1)), (3, .null), (0, .ref g), (2, .int (nI (r + 1) - 1))]) hx hb dX1_passPath_37 hl (by decide) rfl (fun ls hl => ?_)
        refine lv_iload hx hb dX1_passPath_39 (lv_at hl 0 rfl) ?_
        refine lv_if_eq (tgt := 47) hx hb dX1_passPath_41 (by decide) (fun c4 => False.elim (by revert c4; decide)) (fun c4 => ?_)
        refine lv_iload hx hb dX1_passPath_44 (lv_at hl 0 rfl) ?_
        exact gIret hX hr hlk hI ⟨by rw [← hE, zDown, hjC, if_pos hno], by rw [← hE, zDown, hjC, if_pos hno]⟩ dX1_passPath_46
      · obtain ⟨i, hi, hiE⟩ := (hgT.2.2.2.1 j hj).resolve_left hno
        have hiC : (τ.1 9 j).toNatClampNeg = i := by rw [hiE]; exact nI_clamp (by omega)
        refine gTopQ (y := some (ad i)) (hr3E.trans (gfh_at hj (by omega) hiE)) ?_
        refine gTopR ?_
        refine lv_astore_n (lv' := [(3, .ref (ad i)), (0, .ref g), (2, .int (nI (r + 1) - 1))]) hx hb dX1_passPath_23 rfl hl (by decide) rfl (fun ls hl => ?_)
        refine lv_aload_n hx hb dX1_passPath_24 rfl (lv_at hl 0 rfl) ?_
        refine lv_ifnonnull (tgt := 32) hx hb dX1_passPath_25 (by decide) ?_
        refine lv_aload_n hx hb dX1_passPath_32 rfl (lv_at hl 1 rfl) ?_
        refine lv_aload_n hx hb dX1_passPath_33 rfl (lv_at hl 0 rfl) ?_
        have hI : InW D A s.heap (wCn g q cI cH ad pf n τ) H locs := hI
        refine gCalli (va_runV (As := [.ref (ad i)]) (rest := []) hX (c_X1_passInto l D cI cH g q ad pf n τ _ i w' hi (by omega) hgT hkT) (cwV 1 hts gX1_passPath_X1_passInto rfl rfl rfl (by decide +kernel) ⟨Nat.le_of_ble_eq_true rfl, Nat.le_of_ble_eq_true rfl⟩) ⟨gPre_blind, gRecv hI hK (ci := 1) (q0 := 0) rfl rfl, gPre_ok hI hK hN⟩ rfl rfl hl.1 rfl (lv_room (Nat.le_of_ble_eq_true rfl)) dX1_passPath_34 ⟨Nat.zero_le _, Nat.zero_le _⟩) hI hA (fun r5 ur5 H locs hr5 hI => ?_)
        obtain ⟨hr5, rfl⟩ := hr5
        refine lv_istore (lv' := [(4, .int (r5)), (3, .ref (ad i)), (0, .ref g), (2, .int (nI (r + 1) - 1))]) hx hb dX1_passPath_37 hl (by decide) rfl (fun ls hl => ?_)
        refine lv_iload hx hb dX1_passPath_39 (lv_at hl 0 rfl) ?_
        refine lv_if_eq (tgt := 47) hx hb dX1_passPath_41 (by decide) (fun c6 => ?_) (fun c6 => ?_)
        · obtain ⟨x7, ex7⟩ : ∃ y : Int32, y = nI (r + 1) - 1 + (-1) := ⟨_, rfl⟩
          refine lv_iinc (v := x7) (lv' := [(2, .int (x7)), (4, .int (r5)), (3, .ref (ad i)), (0, .ref g)]) hx hb dX1_passPath_47 hl (k := 3) rfl (by rw [ex7]; rfl) (by decide) rfl (fun ls hl => ?_)
          refine lv_goto (tgt := 9) hx hb dX1_passPath_50 (by decide) ?_
          have hX4 : x7 = (nI r) - 1 := by rw [ex7, nI_pred]; exact (Int32.sub_eq_add_neg _ _).symm
          rw [hX4] at hl
          exact ih (w' + 1) _ _ _ ls (by omega) (by omega) (gI_pass hi (by omega) hgT) (gKd_of k_pass hkT) (by rw [← hE, zDown, hjC, if_neg hno, hiC, if_pos (by rw [← hr5]; exact c6)]) hI (lv_sub hl [3, 0] rfl)
        · refine lv_iload hx hb dX1_passPath_44 (lv_at hl 0 rfl) ?_
          exact gIret hX hr hlk hI ⟨by rw [← hE, zDown, hjC, if_neg hno, hiC, if_neg (by rw [← hr5]; exact c6)]; exact hr5, by rw [← hE, zDown, hjC, if_neg hno, hiC, if_neg (by rw [← hr5]; exact c6)]⟩ dX1_passPath_46
  exact loop L w σ _ _ ls (Nat.le_refl _) (by omega) hg hkd rfl hI (lv_sub hl [1, 0] rfl)
set_option maxRecDepth 100000 in
theorem iX1_leaveUntil_0 : ∀ w ∈ wsX00, w ∈ wsX1_leaveUntil := by decide +kernel
set_option maxRecDepth 100000 in
theorem iX1_leaveUntil_1 : ∀ w ∈ wsX10, w ∈ wsX1_leaveUntil := by decide +kernel
set_option maxHeartbeats 4000000 in
set_option maxRecDepth 100000 in
theorem c_X1_leaveUntil (l : Launch) (D : va_G) (cI cH : ClassId) (g : Nat) (q : Nat → Nat) (ad : Nat → Nat) (pf : Nat → Int32) (n : Nat) (σ : gh_S) (sz : Nat) (d w : Nat) (hd : d ≤ w) (hg : gI n w σ) : gMv l yX1_leaveUntil wsX1_leaveUntil ({ frames := 1, cells := 0, slots := 0, locals := 21 }) D (wCn g q cI cH ad pf n σ) (gTy cI cH) sz [.ref g, .int (nI d)] (fun u => u = wCn g q cI cH ad pf n (zPops σ (w - d))) := by
  refine gEnter (cc := cX1_leaveUntil) (maxL := 3) (ret := none) (QF := fun A => va_Qv _ (gPost D A) A) (by decide) rfl (Nat.le_of_ble_eq_true rfl) ?_
  intro p e s m below meth c A ls hX hr hlk hnm hK hN hA hI hl
  have hx := hX.1
  have hb := hX.2.1
  have hts := hX.2.2.2.2
  have hown : s.vm.findClass RX1 = some m.cls := hX.2.2.2.1
  have hin0 := iX1_leaveUntil_0
  have hin1 := iX1_leaveUntil_1
  have hl : lv_has ls 3 [(0, .ref g), (1, .int (nI d))] := hl
  have hI : InW D A s.heap (wCr g q cI cH ad pf (gfh ad σ) (gfp ad σ) n σ) s.heap [] := hI
  have hw30 := hg.2.2.2.2.2.2.2.1
  have loop : ∀ (k : Nat) (τ : gh_S) (H : Heap) (locs : List Loc) (ls : Array Slot), gI n (d + k) τ → zPops τ k = zPops σ (w - d) → InW D A s.heap (wCn g q cI cH ad pf n τ) H locs → lv_has ls 3 [(0, .ref g), (1, .int (nI d))] → W p l e ({ frames := 1, cells := 0, slots := 0, locals := 21 }) s m ([.ref g, .int (nI d)] : List Value).toArray below meth c H locs 0 0 (MQ below (va_Qv (fun u => u = wCn g q cI cH ad pf n (zPops σ (w - d))) (gPost D A) A) ([.ref g, .int (nI d)] : List Value).toArray s 0 0 A) (F0 m 0 ls []) := by
    intro k
    induction k with
    | zero =>
      intro τ H locs ls hgT hE hI hl
      refine lv_aload_n hx hb dX1_leaveUntil_0 rfl (lv_at hl 0 rfl) ?_
      refine cGet (v := .int (τ.2 17)) hX hin1 hK hI 6 (by decide) (hts (.fieldLink RX1 96 "GateHalls" "depth" "I") (by decide +kernel)) rfl dX1_leaveUntil_1 ?_
      refine lv_iload_n hx hb dX1_leaveUntil_4 rfl (lv_at hl 1 rfl) ?_
      refine lv_icmp_le (tgt := 85) hx hb dX1_leaveUntil_5 (by decide) (fun c1 => ?_) (fun c1 => absurd (by rw [hgT.2.1]; exact nI_le (Nat.le_refl _) (by omega)) c1)
      exact gVret hX hr hlk hI (by rw [← hE]; rfl) dX1_leaveUntil_85
    | succ k ih =>
      intro τ H locs ls hgT hE hI hl
      have hT30 := hgT.2.2.2.2.2.2.2.1
      have hTn := hgT.2.2.2.2.2.2.1
      obtain ⟨i, hi, hiE⟩ := hgT.2.2.2.2.2.1 (d + k) (by omega)
      have hp := gI_pop (w := d + k) hgT
      have e1 : τ.2 17 - 1 = nI (d + k) := by rw [hgT.2.1]; exact nI_pred _
      refine lv_aload_n hx hb dX1_leaveUntil_0 rfl (lv_at hl 0 rfl) ?_
      refine cGet (v := .int (τ.2 17)) hX hin1 hK hI 6 (by decide) (hts (.fieldLink RX1 96 "GateHalls" "depth" "I") (by decide +kernel)) rfl dX1_leaveUntil_1 ?_
      refine lv_iload_n hx hb dX1_leaveUntil_4 rfl (lv_at hl 1 rfl) ?_
      refine lv_icmp_le (tgt := 85) hx hb dX1_leaveUntil_5 (by decide) (fun c2 => absurd c2 (by rw [hgT.2.1]; exact nI_ge (by omega) (by omega))) (fun c2 => ?_)
      refine lv_aload_n hx hb dX1_leaveUntil_8 rfl (lv_at hl 0 rfl) ?_
      refine cGet (v := .int (τ.2 17)) hX hin1 hK hI 6 (by decide) (hts (.fieldLink RX1 96 "GateHalls" "depth" "I") (by decide +kernel)) rfl dX1_leaveUntil_9 ?_
      refine lv_if_le (tgt := 85) hx hb dX1_leaveUntil_12 (by decide) (fun c3 => absurd c3 (by rw [hgT.2.1]; exact nI_nle (by omega) (by omega))) (fun c3 => ?_)
      refine lv_aload_n hx hb dX1_leaveUntil_15 rfl (lv_at hl 0 rfl) ?_
      refine cGet (v := .int (τ.2 17)) hX hin1 hK hI 6 (by decide) (hts (.fieldLink RX1 96 "GateHalls" "depth" "I") (by decide +kernel)) rfl dX1_leaveUntil_16 ?_
      refine lv_aload_n hx hb dX1_leaveUntil_19 rfl (lv_at hl 0 rfl) ?_
      refine cGet (v := .ref (q 5)) hX hin1 hK hI 5 (by decide) (hts (.fieldLink RX1 22 "GateHalls" "passed" "[LGateHalls$Hall;") (by decide +kernel)) rfl dX1_leaveUntil_20 ?_
      refine gAlen (n := 30) hX hK hI 4 1 rfl rfl rfl dX1_leaveUntil_23 ?_
      refine lv_icmp_gt (tgt := 85) hx hb dX1_leaveUntil_24 (by decide) (fun c4 => absurd c4 (by rw [hgT.2.1]; exact nI_nlt (by omega) (by omega))) (fun c4 => ?_)
      refine lv_aload_n hx hb dX1_leaveUntil_27 rfl (lv_at hl 0 rfl) ?_
      refine lv_dup hx hb dX1_leaveUntil_28 rfl ?_
      refine cGet (v := .int (τ.2 17)) hX hin1 hK hI 6 (by decide) (hts (.fieldLink RX1 96 "GateHalls" "depth" "I") (by decide +kernel)) rfl dX1_leaveUntil_29 ?_
      refine lv_iconst (v := 1) hx hb dX1_leaveUntil_32 (by decide) ?_
      refine lv_isub hx hb dX1_leaveUntil_33 ?_
      refine cPut (σ' := (uS τ 17 ((τ.2 17) - (1)))) hX hin1 hK hI 6 (by decide) (hts (.fieldLink RX1 96 "GateHalls" "depth" "I") (by decide +kernel)) rfl rfl rfl dX1_leaveUntil_34 (fun H locs hI => ?_)
      refine lv_aload_n hx hb dX1_leaveUntil_37 rfl (lv_at hl 0 rfl) ?_
      refine cGet (v := .ref (q 5)) hX hin1 hK hI 5 (by decide) (hts (.fieldLink RX1 22 "GateHalls" "passed" "[LGateHalls$Hall;") (by decide +kernel)) rfl dX1_leaveUntil_38 ?_
      refine lv_aload_n hx hb dX1_leaveUntil_41 rfl (lv_at hl 0 rfl) ?_
      refine cGet (v := .int ((τ.2 17) - (1))) hX hin1 hK hI 6 (by decide) (hts (.fieldLink RX1 96 "GateHalls" "depth" "I") (by decide +kernel)) rfl dX1_leaveUntil_42 ?_
      refine gQld (j := d + k) hX hK hI 4 1 rfl rfl e1 (by omega) (by decide) dX1_leaveUntil_45 ?_
      refine gTopQ (y := some (ad i)) (gfp_at hgT.2.1 (by omega) (by omega) (by omega) hiE) ?_
      refine gTopR ?_
      refine lv_astore_n (lv' := [(2, .ref (ad i)), (0, .ref g), (1, .int (nI d))]) hx hb dX1_leaveUntil_46 rfl hl (by decide) rfl (fun ls hl => ?_)
      refine lv_aload_n hx hb dX1_leaveUntil_47 rfl (lv_at hl 1 rfl) ?_
      refine cGet (v := .ref (q 5)) hX hin1 hK hI 5 (by decide) (hts (.fieldLink RX1 22 "GateHalls" "passed" "[LGateHalls$Hall;") (by decide +kernel)) rfl dX1_leaveUntil_48 ?_
      refine lv_aload_n hx hb dX1_leaveUntil_51 rfl (lv_at hl 1 rfl) ?_
      refine cGet (v := .int ((τ.2 17) - (1))) hX hin1 hK hI 6 (by decide) (hts (.fieldLink RX1 96 "GateHalls" "depth" "I") (by decide +kernel)) rfl dX1_leaveUntil_52 ?_
      refine lv_null hx hb dX1_leaveUntil_55 ?_
      refine gQstN (j := d + k) (w' := wCr g q cI cH ad pf (gfh ad τ) (va_up (gfp ad τ) (d + k) none) n (uS τ 17 ((τ.2 17) - (1)))) hX hK hI 4 1 rfl rfl e1 (by omega) (by decide) rfl dX1_leaveUntil_56 (fun H locs hI => ?_)
      have hI : InW D A s.heap (wCn g q cI cH ad pf n (uS τ 17 (τ.2 17 - 1))) H locs := by
        show InW _ _ _ (wCr _ _ _ _ _ _ _ (gfp ad (uS τ 17 (τ.2 17 - 1))) _ _) _ _
        rw [← gfp_pop (w := d + k) hgT.2.1 (by omega)]
        exact hI
      refine lv_aload_n hx hb dX1_leaveUntil_57 rfl (lv_at hl 0 rfl) ?_
      refine lv_ifnull hx hb dX1_leaveUntil_58 ?_
      refine lv_aload_n hx hb dX1_leaveUntil_61 rfl (lv_at hl 0 rfl) ?_
      refine lv_dup hx hb dX1_leaveUntil_62 rfl ?_
      refine hGet (i := i) (v := .int ((uS τ 17 (τ.2 17 - 1)).1 7 (i))) hX hin0 hK hI hi 7 (by decide) hN.2.2.2.1 rfl dX1_leaveUntil_63 ?_
      refine gTop (y := τ.1 7 (i)) (by simp [uA, uS, upd]) ?_
      refine lv_iconst (v := 1) hx hb dX1_leaveUntil_66 (by decide) ?_
      refine lv_isub hx hb dX1_leaveUntil_67 ?_
      refine hPut (i := i) hX hin0 hK hI hi 7 (by decide) hN.2.2.2.1 rfl rfl gHs7 (by decide) (by decide) dX1_leaveUntil_68 (fun H locs hI => ?_)
      refine lv_aload_n hx hb dX1_leaveUntil_71 rfl (lv_at hl 1 rfl) ?_
      refine lv_bipush (v := 100) hx hb dX1_leaveUntil_72 (by decide) ?_
      refine lv_aload_n hx hb dX1_leaveUntil_74 rfl (lv_at hl 0 rfl) ?_
      have hI : InW D A s.heap (wCn g q cI cH ad pf n (uA (uS τ 17 (τ.2 17 - 1)) 7 (i) ((τ.1 7 (i)) - (1)))) H locs := hI
      refine gCalli (va_runVN (As := []) (rest := [.int (100), .ref g]) hX (c_X0_mark l D cI cH (wCn g q cI cH ad pf n (uA (uS τ 17 (τ.2 17 - 1)) 7 (i) ((τ.1 7 (i)) - (1)))) (ad i) (6 + i) (nI i) ((uA (uS τ 17 (τ.2 17 - 1)) 7 (i) ((τ.1 7 (i)) - (1))).1 1 i) ((uA (uS τ 17 (τ.2 17 - 1)) 7 (i) ((τ.1 7 (i)) - (1))).1 2 i) ((uA (uS τ 17 (τ.2 17 - 1)) 7 (i) ((τ.1 7 (i)) - (1))).1 3 i) ((uA (uS τ 17 (τ.2 17 - 1)) 7 (i) ((τ.1 7 (i)) - (1))).1 4 i) ((uA (uS τ 17 (τ.2 17 - 1)) 7 (i) ((τ.1 7 (i)) - (1))).1 5 i) ((uA (uS τ 17 (τ.2 17 - 1)) 7 (i) ((τ.1 7 (i)) - (1))).1 6 i) ((uA (uS τ 17 (τ.2 17 - 1)) 7 (i) ((τ.1 7 (i)) - (1))).1 7 i) ((uA (uS τ 17 (τ.2 17 - 1)) 7 (i) ((τ.1 7 (i)) - (1))).1 8 i) H.size  (wCr_hall hi)) ⟨va_cnB 0 hts gX1_leaveUntil_X0_mark_n120 rfl rfl rfl hN.2.2.2.2.2.2.1 (hts (.initialized RX0) (by decide +kernel)) (by decide +kernel) ⟨Nat.le_of_ble_eq_true rfl, Nat.le_of_ble_eq_true rfl⟩, hts (.instanceMethod yX0_mark) (by decide +kernel), hts (.selects RX0 yX0_mark yX0_mark) (by decide +kernel)⟩ ⟨gPre_blind, gRecv hI hK (ci := 0) (q0 := 6 + i) rfl (wCr_hall hi), gPre_ok hI hK hN⟩ rfl rfl hl.1 rfl (lv_room (Nat.le_of_ble_eq_true rfl)) dX1_leaveUntil_75 ⟨Nat.zero_le _, Nat.zero_le _⟩) hI hA (fun r5 ur5 H locs hr5 hI => ?_)
      obtain ⟨hr5, rfl⟩ := hr5
      refine lv_iadd hx hb dX1_leaveUntil_78 ?_
      have hI : InW D A s.heap (wCn g q cI cH ad pf n (uA (uS τ 17 (τ.2 17 - 1)) 7 (i) ((τ.1 7 (i)) - (1)))) H locs := hI
      refine gCallv (va_runV (As := [.int (100 + r5)]) (rest := []) hX (c_X1_leaveMark l D cI cH g q ad pf n (uA (uS τ 17 (τ.2 17 - 1)) 7 (i) ((τ.1 7 (i)) - (1))) _ (100 + r5) (d + k) (gI_uH 7 i _ hi (by decide) (gI_dec hgT))) (cwV 1 hts gX1_leaveUntil_X1_leaveMark rfl rfl rfl (by decide +kernel) ⟨Nat.le_of_ble_eq_true rfl, Nat.le_of_ble_eq_true rfl⟩) ⟨gPre_blind, gRecv hI hK (ci := 1) (q0 := 0) rfl rfl, gPre_ok hI hK hN⟩ rfl rfl hl.1 rfl (lv_room (Nat.le_of_ble_eq_true rfl)) dX1_leaveUntil_79 ⟨Nat.zero_le _, Nat.zero_le _⟩) hI hA (fun ur6 H locs hr6 hI => ?_)
      subst hr6
      have hI : InW D A s.heap (wCn g q cI cH ad pf n (zPop τ)) H locs := by
        rw [zPop_eq (w := d + k) (i := i) (by omega) (by omega) hgT.2.1 hiE]
        rw [e1, hr5] at hI
        exact hI
      refine lv_goto (tgt := 0) hx hb dX1_leaveUntil_82 (by decide) ?_
      exact ih (zPop τ) _ _ ls hp hE hI (lv_sub hl [1, 2] rfl)
  exact loop (w - d) σ _ _ ls (by rw [show d + (w - d) = w by omega]; exact hg) rfl hI (lv_sub hl [0, 1] rfl)
theorem g_neg {x : Int32} (h : ¬ 0 ≤ x) : x < 0 := g_lt_of_nle h
theorem g_nneg {x : Int32} (h : 0 ≤ x) : ¬ x < 0 := g_nlt_of_le h
set_option maxRecDepth 100000 in
theorem iX1_seekPartner_0 : ∀ w ∈ wsX00, w ∈ wsX1_seekPartner := by decide +kernel
set_option maxRecDepth 100000 in
theorem iX1_seekPartner_1 : ∀ w ∈ wsX10, w ∈ wsX1_seekPartner := by decide +kernel
set_option maxHeartbeats 4000000 in
set_option maxRecDepth 100000 in
theorem c_X1_seekPartner (l : Launch) (D : va_G) (cI cH : ClassId) (g : Nat) (q : Nat → Nat) (ad : Nat → Nat) (pf : Nat → Int32) (n : Nat) (σ : gh_S) (sz : Nat) (a x w : Nat) (sum : Int64) (ha : a < 10) (hxn : x < n) (hg : gI n w σ) : gMi l yX1_seekPartner wsX1_seekPartner ({ frames := 2, cells := 0, slots := 0, locals := 41 }) D (wCn g q cI cH ad pf n σ) (gTy cI cH) sz [.ref g, .int (nI a), .ref (ad x), .long (sum)] (fun r u => r = (zSB x sum (9 - a) (a + 1) σ).1 ∧ u = wCn g q cI cH ad pf n (zSB x sum (9 - a) (a + 1) σ).2) := by
  refine gEnter (cc := cX1_seekPartner) (maxL := 7) (ret := (some .int)) (QF := fun A => va_Qi _ (gPost D A) A) (by decide) rfl (Nat.le_of_ble_eq_true rfl) ?_
  intro p e s m below meth c A ls hX hr hlk hnm hK hN hA hI hl
  have hx := hX.1
  have hb := hX.2.1
  have hts := hX.2.2.2.2
  have hown : s.vm.findClass RX1 = some m.cls := hX.2.2.2.1
  have hin0 := iX1_seekPartner_0
  have hin1 := iX1_seekPartner_1
  have hl : lv_has ls 7 [(0, .ref g), (1, .int (nI a)), (2, .ref (ad x)), (3, .long (sum))] := hl
  have hI : InW D A s.heap (wCr g q cI cH ad pf (gfh ad σ) (gfp ad σ) n σ) s.heap [] := hI
  refine lv_iload_n hx hb dX1_seekPartner_0 rfl (lv_at hl 1 rfl) ?_
  refine lv_iconst (v := 1) hx hb dX1_seekPartner_1 (by decide) ?_
  refine lv_iadd hx hb dX1_seekPartner_2 ?_
  refine gTop (y := nI (a + 1)) (nI_1 a) ?_
  refine lv_istore (lv' := [(5, .int (nI (a + 1))), (0, .ref g), (1, .int (nI a)), (2, .ref (ad x)), (3, .long (sum))]) hx hb dX1_seekPartner_3 hl (by decide) rfl (fun ls hl => ?_)
  have loop : ∀ (k b : Nat) (τ : gh_S) (H : Heap) (locs : List Loc) (ls : Array Slot), b + k = 10 → gI n w τ → zSB x sum k b τ = zSB x sum (9 - a) (a + 1) σ → InW D A s.heap (wCn g q cI cH ad pf n τ) H locs → lv_has ls 7 [(0, .ref g), (2, .ref (ad x)), (3, .long (sum)), (5, .int (nI b))] → W p l e ({ frames := 2, cells := 0, slots := 0, locals := 41 }) s m ([.ref g, .int (nI a), .ref (ad x), .long (sum)] : List Value).toArray below meth c H locs 0 0 (MQ below (va_Qi (fun r u => r = (zSB x sum (9 - a) (a + 1) σ).1 ∧ u = wCn g q cI cH ad pf n (zSB x sum (9 - a) (a + 1) σ).2) (gPost D A) A) ([.ref g, .int (nI a), .ref (ad x), .long (sum)] : List Value).toArray s 0 0 A) (F0 m 5 ls []) := by
    intro k
    induction k with
    | zero =>
      intro b τ H locs ls hb2 hgT hB hI hl
      refine lv_iload hx hb dX1_seekPartner_5 (lv_at hl 3 rfl) ?_
      refine lv_bipush (v := 10) hx hb dX1_seekPartner_7 (by decide) ?_
      refine lv_icmp_ge (tgt := 72) hx hb dX1_seekPartner_9 (by decide) (fun c1 => ?_) (fun c1 => absurd (g_le (B := 10) rfl (by omega) (by omega)) c1)
      refine lv_iconst (v := (-1)) hx hb dX1_seekPartner_72 (by decide) ?_
      exact gIret hX hr hlk hI ⟨by rw [← hB]; rfl, by rw [← hB]; rfl⟩ dX1_seekPartner_73
    | succ k ih =>
      intro b τ H locs ls hb2 hgT hB hI hl
      have hTn := hgT.2.2.2.2.2.2.1
      refine lv_iload hx hb dX1_seekPartner_5 (lv_at hl 3 rfl) ?_
      refine lv_bipush (v := 10) hx hb dX1_seekPartner_7 (by decide) ?_
      refine lv_icmp_ge (tgt := 72) hx hb dX1_seekPartner_9 (by decide) (fun c2 => absurd c2 (g_nle (B := 10) rfl (by omega) (by decide))) (fun c2 => ?_)
      refine lv_aload_n hx hb dX1_seekPartner_12 rfl (lv_at hl 0 rfl) ?_
      refine lv_iload hx hb dX1_seekPartner_13 (lv_at hl 3 rfl) ?_
      have hI : InW D A s.heap (wCn g q cI cH ad pf n τ) H locs := hI
      refine gCallq (va_runV (As := [.int (nI b)]) (rest := []) hX (c_X1_hallAt l D cI cH g q ad pf n τ _ (nI b)) (cwV 1 hts gX1_seekPartner_X1_hallAt rfl rfl rfl (by decide +kernel) ⟨Nat.le_of_ble_eq_true rfl, Nat.le_of_ble_eq_true rfl⟩) ⟨gPre_blind, gRecv hI hK (ci := 1) (q0 := 0) rfl rfl, gPre_ok hI hK hN⟩ rfl rfl hl.1 rfl (lv_room (Nat.le_of_ble_eq_true rfl)) dX1_seekPartner_15 ⟨Nat.zero_le _, Nat.zero_le _⟩) hI hA (fun r3 ur3 H locs hr3 hI => ?_)
      obtain ⟨rfl, hr3⟩ := hr3
      have hr3E := g_hallAt (by omega) hr3
      by_cases hno : τ.1 9 b = -1
      · refine gTopQ (y := none) (hr3E.trans (gfh_no hno)) ?_
        refine gTopN ?_
        refine lv_astoreN (lv' := [(6, .null), (0, .ref g), (2, .ref (ad x)), (3, .long (sum)), (5, .int (nI b))]) hx hb dX1_seekPartner_18 hl (by decide) rfl (fun ls hl => ?_)
        refine lv_aloadN hx hb dX1_seekPartner_20 (lv_at hl 0 rfl) ?_
        refine lv_ifnullN (tgt := 66) hx hb dX1_seekPartner_22 (by decide) ?_
        refine lv_iinc (v := nI (b + 1)) (lv' := [(5, .int (nI (b + 1))), (6, .null), (0, .ref g), (2, .ref (ad x)), (3, .long (sum))]) hx hb dX1_seekPartner_66 hl (k := 4) rfl (nI_1 _) (by decide) rfl (fun ls hl => ?_)
        refine lv_goto (tgt := 5) hx hb dX1_seekPartner_69 (by decide) ?_
        exact ih (b + 1) τ _ _ ls (by omega) hgT (by rw [← hB, zSB, if_pos hno]) hI (lv_sub hl [2, 3, 4, 0] rfl)
      · obtain ⟨y, hy, hyE⟩ := (hgT.2.2.2.1 b (by omega)).resolve_left hno
        have hyC : (τ.1 9 b).toNatClampNeg = y := by rw [hyE]; exact nI_clamp (by omega)
        refine gTopQ (y := some (ad y)) (hr3E.trans (gfh_at (by omega) (by omega) hyE)) ?_
        refine gTopR ?_
        refine lv_astore (lv' := [(6, .ref (ad y)), (0, .ref g), (2, .ref (ad x)), (3, .long (sum)), (5, .int (nI b))]) hx hb dX1_seekPartner_18 hl (by decide) rfl (fun ls hl => ?_)
        refine lv_aload hx hb dX1_seekPartner_20 (lv_at hl 0 rfl) ?_
        refine lv_ifnull hx hb dX1_seekPartner_22 ?_
        refine lv_aload hx hb dX1_seekPartner_25 (lv_at hl 0 rfl) ?_
        refine lv_dup hx hb dX1_seekPartner_27 rfl ?_
        refine hGet (i := y) (v := .int (τ.1 5 (y))) hX hin0 hK hI hy 5 (by decide) hN.2.2.1 rfl dX1_seekPartner_28 ?_
        refine lv_iconst (v := 1) hx hb dX1_seekPartner_31 (by decide) ?_
        refine lv_iadd hx hb dX1_seekPartner_32 ?_
        refine hPut (i := y) hX hin0 hK hI hy 5 (by decide) hN.2.2.1 rfl rfl gHs5 (by decide) (by decide) dX1_seekPartner_33 (fun H locs hI => ?_)
        refine lv_aload_n hx hb dX1_seekPartner_36 rfl (lv_at hl 2 rfl) ?_
        refine hGet (i := x) (v := .int ((uA τ 5 (y) ((τ.1 5 (y)) + (1))).1 3 (x))) hX hin0 hK hI hxn 3 (by decide) hN.2.1 rfl dX1_seekPartner_37 ?_
        refine gTop (y := τ.1 3 (x)) (by simp [uA, uS, upd]) ?_
        refine lv_i2l (v := Int32.toInt64 (τ.1 3 (x))) hx hb dX1_seekPartner_40 rfl ?_
        refine lv_aload hx hb dX1_seekPartner_41 (lv_at hl 0 rfl) ?_
        refine hGet (i := y) (v := .int ((uA τ 5 (y) ((τ.1 5 (y)) + (1))).1 3 (y))) hX hin0 hK hI hy 3 (by decide) hN.2.1 rfl dX1_seekPartner_43 ?_
        refine gTop (y := τ.1 3 (y)) (by simp [uA, uS, upd]) ?_
        refine lv_i2l (v := Int32.toInt64 (τ.1 3 (y))) hx hb dX1_seekPartner_46 rfl ?_
        refine lv_ladd hx hb dX1_seekPartner_47 ?_
        refine lv_lload_n hx hb dX1_seekPartner_48 rfl (lv_at hl 3 rfl) ?_
        refine W.lcmp hx hb dX1_seekPartner_49 ?_
        refine lv_if_ne (tgt := 56) hx hb dX1_seekPartner_50 (by decide) (fun c4 => ?_) (fun c4 => ?_)
        · refine lv_aload hx hb dX1_seekPartner_56 (lv_at hl 0 rfl) ?_
          refine hGet (i := y) (v := .int ((uA τ 5 (y) ((τ.1 5 (y)) + (1))).1 3 (y))) hX hin0 hK hI hy 3 (by decide) hN.2.1 rfl dX1_seekPartner_58 ?_
          refine gTop (y := τ.1 3 (y)) (by simp [uA, uS, upd]) ?_
          refine lv_if_ge (tgt := 66) hx hb dX1_seekPartner_61 (by decide) (fun c5 => ?_) (fun c5 => ?_)
          · refine lv_iinc (v := nI (b + 1)) (lv' := [(5, .int (nI (b + 1))), (6, .ref (ad y)), (0, .ref g), (2, .ref (ad x)), (3, .long (sum))]) hx hb dX1_seekPartner_66 hl (k := 4) rfl (nI_1 _) (by decide) rfl (fun ls hl => ?_)
            refine lv_goto (tgt := 5) hx hb dX1_seekPartner_69 (by decide) ?_
            rw [zSB, if_neg hno] at hB; dsimp only at hB; rw [hyC, if_neg c4, if_neg (g_nneg c5)] at hB
            exact ih (b + 1) _ _ _ ls (by omega) (gI_ask hy hgT) hB hI (lv_sub hl [2, 3, 4, 0] rfl)
          · refine lv_iconst (v := (-1)) hx hb dX1_seekPartner_64 (by decide) ?_
            rw [zSB, if_neg hno] at hB; dsimp only at hB; rw [hyC, if_neg c4, if_pos (g_neg c5)] at hB
            exact gIret hX hr hlk hI ⟨by rw [← hB], by rw [← hB]; rfl⟩ dX1_seekPartner_65
        · refine lv_iload hx hb dX1_seekPartner_53 (lv_at hl 4 rfl) ?_
          rw [zSB, if_neg hno] at hB; dsimp only at hB; rw [hyC, if_pos c4] at hB
          exact gIret hX hr hlk hI ⟨by rw [← hB], by rw [← hB]; rfl⟩ dX1_seekPartner_55
  exact loop (9 - a) (a + 1) σ _ _ ls (by omega) hg rfl hI (lv_sub hl [1, 3, 4, 0] rfl)
theorem gI_SB {n w x : Nat} {sum : Int64} : ∀ (f b : Nat) {σ : gh_S}, b + f ≤ 10 → gI n w σ → gI n w (zSB x sum f b σ).2
  | 0, _, _, _, hg => hg
  | f + 1, b, σ, hb, hg => by
    unfold zSB
    by_cases hno : σ.1 9 b = -1
    · rw [if_pos hno]; exact gI_SB f (b + 1) (by omega) hg
    · rw [if_neg hno]
      obtain ⟨y, hy, hyE⟩ := (hg.2.2.2.1 b (by omega)).resolve_left hno
      have hn4 := hg.2.2.2.2.2.2.1
      have hyC : (σ.1 9 b).toNatClampNeg = y := by rw [hyE]; exact nI_clamp (by omega)
      dsimp only
      rw [hyC]
      split
      · exact gI_ask hy hg
      · split
        · exact gI_ask hy hg
        · exact gI_SB f (b + 1) (by omega) (gI_ask hy hg)
set_option maxRecDepth 100000 in
theorem iX1_seek_0 : ∀ w ∈ wsX00, w ∈ wsX1_seek := by decide +kernel
set_option maxRecDepth 100000 in
theorem iX1_seek_1 : ∀ w ∈ wsX10, w ∈ wsX1_seek := by decide +kernel
set_option maxHeartbeats 4000000 in
set_option maxRecDepth 100000 in
theorem c_X1_seek (l : Launch) (D : va_G) (cI cH : ClassId) (g : Nat) (q : Nat → Nat) (ad : Nat → Nat) (pf : Nat → Int32) (n : Nat) (σ : gh_S) (sz : Nat) (sum : Int64) (w : Nat) (hg : gI n w σ) : gMi l yX1_seek wsX1_seek ({ frames := 3, cells := 0, slots := 0, locals := 67 }) D (wCn g q cI cH ad pf n σ) (gTy cI cH) sz [.ref g, .long (sum)] (fun r u => r = (sSeek σ sum).1 ∧ u = wCn g q cI cH ad pf n (sSeek σ sum).2) := by
  refine gEnter (cc := cX1_seek) (maxL := 6) (ret := (some .int)) (QF := fun A => va_Qi _ (gPost D A) A) (by decide) rfl (Nat.le_of_ble_eq_true rfl) ?_
  intro p e s m below meth c A ls hX hr hlk hnm hK hN hA hI hl
  have hx := hX.1
  have hb := hX.2.1
  have hts := hX.2.2.2.2
  have hown : s.vm.findClass RX1 = some m.cls := hX.2.2.2.1
  have hin0 := iX1_seek_0
  have hin1 := iX1_seek_1
  have hl : lv_has ls 6 [(0, .ref g), (1, .long (sum))] := hl
  have hI : InW D A s.heap (wCr g q cI cH ad pf (gfh ad σ) (gfp ad σ) n σ) s.heap [] := hI
  refine lv_iconst (v := 0) hx hb dX1_seek_0 (by decide) ?_
  refine lv_istore_n (lv' := [(3, .int (0)), (0, .ref g), (1, .long (sum))]) hx hb dX1_seek_1 rfl hl (by decide) rfl (fun ls hl => ?_)
  have loop : ∀ (f a : Nat) (τ : gh_S) (H : Heap) (locs : List Loc) (ls : Array Slot), a + f = 10 → gI n w τ → zSA sum f a τ = sSeek σ sum → InW D A s.heap (wCn g q cI cH ad pf n τ) H locs → lv_has ls 6 [(0, .ref g), (1, .long (sum)), (3, .int (nI a))] → W p l e ({ frames := 3, cells := 0, slots := 0, locals := 67 }) s m ([.ref g, .long (sum)] : List Value).toArray below meth c H locs 0 0 (MQ below (va_Qi (fun r u => r = (sSeek σ sum).1 ∧ u = wCn g q cI cH ad pf n (sSeek σ sum).2) (gPost D A) A) ([.ref g, .long (sum)] : List Value).toArray s 0 0 A) (F0 m 2 ls []) := by
    intro f
    induction f with
    | zero =>
      intro a τ H locs ls ha hgT hE hI hl
      refine lv_iload_n hx hb dX1_seek_2 rfl (lv_at hl 2 rfl) ?_
      refine lv_bipush (v := 10) hx hb dX1_seek_3 (by decide) ?_
      refine lv_icmp_ge (tgt := 62) hx hb dX1_seek_5 (by decide) (fun c1 => ?_) (fun c1 => absurd (g_le (B := 10) rfl (by omega) (by omega)) c1)
      refine lv_iconst (v := (-1)) hx hb dX1_seek_62 (by decide) ?_
      exact gIret hX hr hlk hI ⟨by rw [← hE]; rfl, by rw [← hE]; rfl⟩ dX1_seek_63
    | succ f ih =>
      intro a τ H locs ls ha hgT hE hI hl
      have hTn := hgT.2.2.2.2.2.2.1
      refine lv_iload_n hx hb dX1_seek_2 rfl (lv_at hl 2 rfl) ?_
      refine lv_bipush (v := 10) hx hb dX1_seek_3 (by decide) ?_
      refine lv_icmp_ge (tgt := 62) hx hb dX1_seek_5 (by decide) (fun c2 => absurd c2 (g_nle (B := 10) rfl (by omega) (by decide))) (fun c2 => ?_)
      refine lv_aload_n hx hb dX1_seek_8 rfl (lv_at hl 0 rfl) ?_
      refine cGet (v := .ref (q 0)) hX hin1 hK hI 0 (by decide) (hts (.fieldLink RX1 11 "GateHalls" "halls" "[LGateHalls$Hall;") (by decide +kernel)) rfl dX1_seek_9 ?_
      refine lv_iload_n hx hb dX1_seek_12 rfl (lv_at hl 2 rfl) ?_
      refine gQld (j := a) hX hK hI 1 1 rfl rfl rfl (by omega) (by decide) dX1_seek_13 ?_
      by_cases hno : τ.1 9 a = -1
      · refine gTopQ (y := none) (gfh_no hno) ?_
        refine gTopN ?_
        refine lv_astoreN (lv' := [(4, .null), (0, .ref g), (1, .long (sum)), (3, .int (nI a))]) hx hb dX1_seek_14 hl (by decide) rfl (fun ls hl => ?_)
        refine lv_aloadN hx hb dX1_seek_16 (lv_at hl 0 rfl) ?_
        refine lv_ifnullN (tgt := 56) hx hb dX1_seek_18 (by decide) ?_
        refine lv_iinc (v := nI (a + 1)) (lv' := [(3, .int (nI (a + 1))), (4, .null), (0, .ref g), (1, .long (sum))]) hx hb dX1_seek_56 hl (k := 3) rfl (nI_1 _) (by decide) rfl (fun ls hl => ?_)
        refine lv_goto (tgt := 2) hx hb dX1_seek_59 (by decide) ?_
        exact ih (a + 1) τ _ _ ls (by omega) hgT (by rw [← hE, zSA, if_pos hno]) hI (lv_sub hl [2, 3, 0] rfl)
      · obtain ⟨x, hx2, hxE⟩ := (hgT.2.2.2.1 a (by omega)).resolve_left hno
        have hxC : (τ.1 9 a).toNatClampNeg = x := by rw [hxE]; exact nI_clamp (by omega)
        refine gTopQ (y := some (ad x)) (gfh_at (by omega) (by omega) hxE) ?_
        refine gTopR ?_
        refine lv_astore (lv' := [(4, .ref (ad x)), (0, .ref g), (1, .long (sum)), (3, .int (nI a))]) hx hb dX1_seek_14 hl (by decide) rfl (fun ls hl => ?_)
        refine lv_aload hx hb dX1_seek_16 (lv_at hl 0 rfl) ?_
        refine lv_ifnull hx hb dX1_seek_18 ?_
        refine lv_aload hx hb dX1_seek_21 (lv_at hl 0 rfl) ?_
        refine lv_dup hx hb dX1_seek_23 rfl ?_
        refine hGet (i := x) (v := .int (τ.1 5 (x))) hX hin0 hK hI hx2 5 (by decide) hN.2.2.1 rfl dX1_seek_24 ?_
        refine lv_iconst (v := 1) hx hb dX1_seek_27 (by decide) ?_
        refine lv_iadd hx hb dX1_seek_28 ?_
        refine hPut (i := x) hX hin0 hK hI hx2 5 (by decide) hN.2.2.1 rfl rfl gHs5 (by decide) (by decide) dX1_seek_29 (fun H locs hI => ?_)
        refine lv_aload_n hx hb dX1_seek_32 rfl (lv_at hl 1 rfl) ?_
        refine lv_iload_n hx hb dX1_seek_33 rfl (lv_at hl 3 rfl) ?_
        refine lv_aload hx hb dX1_seek_34 (lv_at hl 0 rfl) ?_
        refine lv_lload_n hx hb dX1_seek_36 rfl (lv_at hl 2 rfl) ?_
        have hI : InW D A s.heap (wCn g q cI cH ad pf n (uA τ 5 (x) ((τ.1 5 (x)) + (1)))) H locs := hI
        refine gCalli (va_runV (As := [.int (nI a), .ref (ad x), .long (sum)]) (rest := []) hX (c_X1_seekPartner l D cI cH g q ad pf n (uA τ 5 (x) ((τ.1 5 (x)) + (1))) _ a x w sum (by omega) hx2 (gI_ask hx2 hgT)) (cwV 3 hts gX1_seek_X1_seekPartner rfl rfl rfl (by decide +kernel) ⟨Nat.le_of_ble_eq_true rfl, Nat.le_of_ble_eq_true rfl⟩) ⟨gPre_blind, gRecv hI hK (ci := 1) (q0 := 0) rfl rfl, gPre_ok hI hK hN⟩ rfl rfl hl.1 rfl (lv_room (Nat.le_of_ble_eq_true rfl)) dX1_seek_37 ⟨Nat.zero_le _, Nat.zero_le _⟩) hI hA (fun r3 ur3 H locs hr3 hI => ?_)
        obtain ⟨hr3, rfl⟩ := hr3
        have hE2 : zSA sum (f + 1) a τ = (if (zSB x sum (9 - a) (a + 1) (uA τ 5 (x) (τ.1 5 (x) + 1))).1 = -1 then zSA sum f (a + 1) (zSB x sum (9 - a) (a + 1) (uA τ 5 (x) (τ.1 5 (x) + 1))).2 else (10 * nI a + (zSB x sum (9 - a) (a + 1) (uA τ 5 (x) (τ.1 5 (x) + 1))).1, (zSB x sum (9 - a) (a + 1) (uA τ 5 (x) (τ.1 5 (x) + 1))).2)) := by
          rw [zSA, if_neg hno]; dsimp only; rw [hxC]
        rw [hE] at hE2
        have hgB := gI_SB (x := x) (sum := sum) (9 - a) (a + 1) (by omega) (gI_ask hx2 hgT)
        generalize hGB : zSB x sum (9 - a) (a + 1) (uA τ 5 (x) (τ.1 5 (x) + 1)) = GB at hE2 hr3 hI hgB
        refine lv_istore (lv' := [(5, .int (r3)), (4, .ref (ad x)), (0, .ref g), (1, .long (sum)), (3, .int (nI a))]) hx hb dX1_seek_40 hl (by decide) rfl (fun ls hl => ?_)
        refine lv_iload hx hb dX1_seek_42 (lv_at hl 0 rfl) ?_
        refine lv_iconst (v := (-1)) hx hb dX1_seek_44 (by decide) ?_
        refine lv_icmp_eq (tgt := 56) hx hb dX1_seek_45 (by decide) (fun c4 => ?_) (fun c4 => ?_)
        · refine lv_iinc (v := nI (a + 1)) (lv' := [(3, .int (nI (a + 1))), (5, .int (r3)), (4, .ref (ad x)), (0, .ref g), (1, .long (sum))]) hx hb dX1_seek_56 hl (k := 4) rfl (nI_1 _) (by decide) rfl (fun ls hl => ?_)
          refine lv_goto (tgt := 2) hx hb dX1_seek_59 (by decide) ?_
          rw [if_pos (by rw [← hr3]; exact c4)] at hE2
          exact ih (a + 1) GB.2 _ _ ls (by omega) hgB hE2.symm hI (lv_sub hl [3, 4, 0] rfl)
        · refine lv_bipush (v := 10) hx hb dX1_seek_48 (by decide) ?_
          refine lv_iload_n hx hb dX1_seek_50 rfl (lv_at hl 4 rfl) ?_
          refine lv_imul hx hb dX1_seek_51 ?_
          refine lv_iload hx hb dX1_seek_52 (lv_at hl 0 rfl) ?_
          refine lv_iadd hx hb dX1_seek_54 ?_
          rw [if_neg (by rw [← hr3]; exact c4)] at hE2
          exact gIret hX hr hlk hI ⟨by rw [hE2, hr3], by rw [hE2]⟩ dX1_seek_55
  exact loop 10 0 σ _ _ ls (by omega) hg rfl hI (lv_sub hl [1, 2, 0] rfl)
