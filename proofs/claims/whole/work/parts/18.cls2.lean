set_option maxRecDepth 100000 in
theorem iX1_placesWithHall_1 : ∀ w ∈ wsX10, w ∈ wsX1_placesWithHall := by decide +kernel
set_option maxHeartbeats 4000000 in
set_option maxRecDepth 100000 in
theorem c_X1_placesWithHall (l : Launch) (D : va_G) (cI cH : ClassId) (g : Nat) (q : Nat → Nat) (ad : Nat → Nat) (pf : Nat → Int32) (n : Nat) (σ : gh_S) (sz : Nat) (w : Nat) (hg : gI n w σ) : gMi l yX1_placesWithHall wsX1_placesWithHall ({ frames := 0, cells := 0, slots := 0, locals := 0 }) D (wCn g q cI cH ad pf n σ) (gTy cI cH) sz [.ref g] (fun r u => r = zCnt (σ.1 9) 10 ∧ u = wCn g q cI cH ad pf n σ) := by
  refine gEnter (cc := cX1_placesWithHall) (maxL := 3) (ret := (some .int)) (QF := fun A => va_Qi _ (gPost D A) A) (by decide) rfl (Nat.le_of_ble_eq_true rfl) ?_
  intro p e s m below meth c A ls hX hr hlk hnm hK hN hA hI hl
  have hx := hX.1
  have hb := hX.2.1
  have hts := hX.2.2.2.2
  have hown : s.vm.findClass RX1 = some m.cls := hX.2.2.2.1
  have hin1 := iX1_placesWithHall_1
  have hl : lv_has ls 3 [(0, .ref g)] := hl
  have hI : InW D A s.heap (wCr g q cI cH ad pf (gfh ad σ) (gfp ad σ) n σ) s.heap [] := hI
  obtain ⟨hn, hw, ⟨t, ht, htE⟩, hpl, hpar, hrow, hn4, hw30, hz⟩ := id hg
  refine lv_iconst (v := 0) hx hb dX1_placesWithHall_0 (by decide) ?_
  refine lv_istore_n (lv' := [(1, .int (0)), (0, .ref g)]) hx hb dX1_placesWithHall_1 rfl hl (by decide) rfl (fun ls hl => ?_)
  refine lv_iconst (v := 0) hx hb dX1_placesWithHall_2 (by decide) ?_
  refine lv_istore_n (lv' := [(2, .int (0)), (1, .int (0)), (0, .ref g)]) hx hb dX1_placesWithHall_3 rfl hl (by decide) rfl (fun ls hl => ?_)
  have loop : ∀ (f j : Nat) (a : Int32) (ls : Array Slot), j + f = 10 → a = zCnt (σ.1 9) j → lv_has ls 3 [(0, .ref g), (1, .int (a)), (2, .int (nI j))] → W p l e ({ frames := 0, cells := 0, slots := 0, locals := 0 }) s m ([.ref g] : List Value).toArray below meth c s.heap [] 0 0 (MQ below (va_Qi (fun r u => r = zCnt (σ.1 9) 10 ∧ u = wCn g q cI cH ad pf n σ) (gPost D A) A) ([.ref g] : List Value).toArray s 0 0 A) (F0 m 4 ls []) := by
    intro f
    induction f with
    | zero =>
      intro j a ls hj ha hl
      refine lv_iload_n hx hb dX1_placesWithHall_4 rfl (lv_at hl 2 rfl) ?_
      refine lv_bipush (v := 10) hx hb dX1_placesWithHall_5 (by decide) ?_
      refine lv_icmp_ge (tgt := 28) hx hb dX1_placesWithHall_7 (by decide) (fun c1 => ?_) (fun c1 => absurd (g_le (B := 10) rfl (by omega) (by omega)) c1)
      refine lv_iload_n hx hb dX1_placesWithHall_28 rfl (lv_at hl 1 rfl) ?_
      exact gIret hX hr hlk hI ⟨by rw [ha, show j = 10 by omega], rfl⟩ dX1_placesWithHall_29
    | succ f ih =>
      intro j a ls hj ha hl
      refine lv_iload_n hx hb dX1_placesWithHall_4 rfl (lv_at hl 2 rfl) ?_
      refine lv_bipush (v := 10) hx hb dX1_placesWithHall_5 (by decide) ?_
      refine lv_icmp_ge (tgt := 28) hx hb dX1_placesWithHall_7 (by decide) (fun c2 => absurd c2 (g_nle (B := 10) rfl (by omega) (by decide))) (fun c2 => ?_)
      refine lv_aload_n hx hb dX1_placesWithHall_10 rfl (lv_at hl 0 rfl) ?_
      refine cGet (v := .ref (q 0)) hX hin1 hK hI 0 (by decide) (hts (.fieldLink RX1 11 "GateHalls" "halls" "[LGateHalls$Hall;") (by decide +kernel)) rfl dX1_placesWithHall_11 ?_
      refine lv_iload_n hx hb dX1_placesWithHall_14 rfl (lv_at hl 2 rfl) ?_
      refine gQld (j := j) hX hK hI 1 1 rfl rfl rfl (by omega) (by decide) dX1_placesWithHall_15 ?_
      by_cases hno : σ.1 9 j = -1
      · refine gTopQ (y := none) (gfh_no hno) ?_
        refine gTopN ?_
        refine lv_ifnullN (tgt := 22) hx hb dX1_placesWithHall_16 (by decide) ?_
        refine lv_iinc (v := nI (j + 1)) (lv' := [(2, .int (nI (j + 1))), (0, .ref g), (1, .int (a))]) hx hb dX1_placesWithHall_22 hl (k := 2) rfl (nI_1 _) (by decide) rfl (fun ls hl => ?_)
        refine lv_goto (tgt := 4) hx hb dX1_placesWithHall_25 (by decide) ?_
        exact ih (j + 1) _ ls (by omega) (by rw [zCnt, if_pos hno, ha]) (lv_sub hl [1, 2, 0] rfl)
      · obtain ⟨i, hi, hiE⟩ := (hpl j (by omega)).resolve_left hno
        refine gTopQ (y := some (ad i)) (gfh_at (by omega) (by omega) hiE) ?_
        refine gTopR ?_
        refine lv_ifnull hx hb dX1_placesWithHall_16 ?_
        obtain ⟨x3, ex3⟩ : ∃ y : Int32, y = a + 1 := ⟨_, rfl⟩
        refine lv_iinc (v := x3) (lv' := [(1, .int (x3)), (0, .ref g), (2, .int (nI j))]) hx hb dX1_placesWithHall_19 hl (k := 1) rfl (by rw [ex3]; rfl) (by decide) rfl (fun ls hl => ?_)
        refine lv_iinc (v := nI (j + 1)) (lv' := [(2, .int (nI (j + 1))), (1, .int (x3)), (0, .ref g)]) hx hb dX1_placesWithHall_22 hl (k := 2) rfl (nI_1 _) (by decide) rfl (fun ls hl => ?_)
        refine lv_goto (tgt := 4) hx hb dX1_placesWithHall_25 (by decide) ?_
        exact ih (j + 1) _ ls (by omega) (by rw [zCnt, if_neg hno, ex3, ha]) (lv_sub hl [2, 1, 0] rfl)
  exact loop 10 0 0 ls (by omega) rfl (lv_sub hl [2, 1, 0] rfl)
set_option maxRecDepth 100000 in
theorem iX1_count_1 : ∀ w ∈ wsX10, w ∈ wsX1_count := by decide +kernel
set_option maxHeartbeats 4000000 in
set_option maxRecDepth 100000 in
theorem c_X1_count (l : Launch) (D : va_G) (cI cH : ClassId) (g : Nat) (q : Nat → Nat) (ad : Nat → Nat) (pf : Nat → Int32) (n : Nat) (σ : gh_S) (sz : Nat) (x : Int32) (w : Nat) (hg : gI n w σ) : gMi l yX1_count wsX1_count ({ frames := 1, cells := 0, slots := 0, locals := 22 }) D (wCn g q cI cH ad pf n σ) (gTy cI cH) sz [.ref g, .int (x)] (fun r u => r = sCount σ x ∧ u = wCn g q cI cH ad pf n σ) := by
  refine gEnter (cc := cX1_count) (maxL := 2) (ret := (some .int)) (QF := fun A => va_Qi _ (gPost D A) A) (by decide) rfl (Nat.le_of_ble_eq_true rfl) ?_
  intro p e s m below meth c A ls hX hr hlk hnm hK hN hA hI hl
  have hx := hX.1
  have hb := hX.2.1
  have hts := hX.2.2.2.2
  have hown : s.vm.findClass RX1 = some m.cls := hX.2.2.2.1
  have hin1 := iX1_count_1
  have hl : lv_has ls 2 [(0, .ref g), (1, .int (x))] := hl
  have hI : InW D A s.heap (wCr g q cI cH ad pf (gfh ad σ) (gfp ad σ) n σ) s.heap [] := hI
  refine lv_iload_n hx hb dX1_count_0 rfl (lv_at hl 1 rfl) ?_
  rcases g_sw05 x with h1 | rfl | rfl | rfl | rfl | rfl | rfl
  · refine lv_tableOut (tgt := 70) hx hb dX1_count_1 h1 (by decide) ?_
    refine lv_iconst (v := (-1)) hx hb dX1_count_70 (by decide) ?_
    exact gIret hX hr hlk hI ⟨sCount_out h1, rfl⟩ dX1_count_71
  · refine lv_tableIn (tgt := 40) (off := 39) hx hb dX1_count_1 (by decide) (by decide) (by decide) (by decide) ?_
    refine lv_aload_n hx hb dX1_count_40 rfl (lv_at hl 0 rfl) ?_
    refine cGet (v := .int (σ.2 11)) hX hin1 hK hI 2 (by decide) (hts (.fieldLink RX1 45 "GateHalls" "purse" "I") (by decide +kernel)) rfl dX1_count_41 ?_
    exact gIret hX hr hlk hI ⟨rfl, rfl⟩ dX1_count_44
  · refine lv_tableIn (tgt := 45) (off := 44) hx hb dX1_count_1 (by decide) (by decide) (by decide) (by decide) ?_
    refine lv_aload_n hx hb dX1_count_45 rfl (lv_at hl 0 rfl) ?_
    refine cGet (v := .int (σ.2 0)) hX hin1 hK hI 3 (by decide) (hts (.fieldLink RX1 38 "GateHalls" "hallsMade" "I") (by decide +kernel)) rfl dX1_count_46 ?_
    exact gIret hX hr hlk hI ⟨rfl, rfl⟩ dX1_count_49
  · refine lv_tableIn (tgt := 50) (off := 49) hx hb dX1_count_1 (by decide) (by decide) (by decide) (by decide) ?_
    refine lv_aload_n hx hb dX1_count_50 rfl (lv_at hl 0 rfl) ?_
    have hI : InW D A s.heap (wCn g q cI cH ad pf n σ) s.heap [] := hI
    refine gCalli (va_runV (As := []) (rest := []) hX (c_X1_placesWithHall l D cI cH g q ad pf n σ _ w hg) (cwV 0 hts gX1_count_X1_placesWithHall rfl rfl rfl (by decide +kernel) ⟨Nat.le_of_ble_eq_true rfl, Nat.le_of_ble_eq_true rfl⟩) ⟨gPre_blind, gRecv hI hK (ci := 1) (q0 := 0) rfl rfl, gPre_ok hI hK hN⟩ rfl rfl hl.1 rfl (lv_room (Nat.le_of_ble_eq_true rfl)) dX1_count_51 ⟨Nat.zero_le _, Nat.zero_le _⟩) hI hA (fun r2 ur2 H locs hr2 hI => ?_)
    obtain ⟨hr2, rfl⟩ := hr2
    exact gIret hX hr hlk hI ⟨by rw [sCount, if_neg (by decide), if_neg (by decide), if_pos rfl]; exact hr2, rfl⟩ dX1_count_54
  · refine lv_tableIn (tgt := 55) (off := 54) hx hb dX1_count_1 (by decide) (by decide) (by decide) (by decide) ?_
    refine lv_aload_n hx hb dX1_count_55 rfl (lv_at hl 0 rfl) ?_
    refine cGet (v := .int (σ.2 14)) hX hin1 hK hI 10 (by decide) (hts (.fieldLink RX1 65 "GateHalls" "latestFailure" "I") (by decide +kernel)) rfl dX1_count_56 ?_
    exact gIret hX hr hlk hI ⟨rfl, rfl⟩ dX1_count_59
  · refine lv_tableIn (tgt := 60) (off := 59) hx hb dX1_count_1 (by decide) (by decide) (by decide) (by decide) ?_
    refine lv_aload_n hx hb dX1_count_60 rfl (lv_at hl 0 rfl) ?_
    refine cGet (v := .int (σ.2 15)) hX hin1 hK hI 11 (by decide) (hts (.fieldLink RX1 90 "GateHalls" "walksBegun" "I") (by decide +kernel)) rfl dX1_count_61 ?_
    exact gIret hX hr hlk hI ⟨rfl, rfl⟩ dX1_count_64
  · refine lv_tableIn (tgt := 65) (off := 64) hx hb dX1_count_1 (by decide) (by decide) (by decide) (by decide) ?_
    refine lv_aload_n hx hb dX1_count_65 rfl (lv_at hl 0 rfl) ?_
    refine cGet (v := .int (σ.2 16)) hX hin1 hK hI 7 (by decide) (hts (.fieldLink RX1 58 "GateHalls" "deepest" "I") (by decide +kernel)) rfl dX1_count_66 ?_
    exact gIret hX hr hlk hI ⟨rfl, rfl⟩ dX1_count_69
set_option maxRecDepth 100000 in
theorem iX1_findPath_1 : ∀ w ∈ wsX10, w ∈ wsX1_findPath := by decide +kernel
set_option maxHeartbeats 4000000 in
set_option maxRecDepth 100000 in
theorem c_X1_findPath (l : Launch) (D : va_G) (cI cH : ClassId) (g : Nat) (q : Nat → Nat) (ad : Nat → Nat) (pf : Nat → Int32) (n : Nat) (σ : gh_S) (sz : Nat) (p0 w : Nat) (hp : p0 < 10) (hg : gI n w σ) : gMi l yX1_findPath wsX1_findPath ({ frames := 1, cells := 0, slots := 0, locals := 20 }) D (wCn g q cI cH ad pf n σ) (gTy cI cH) sz [.ref g, .int (nI p0)] (fun r u => ∃ pf' : Nat → Int32, u = wCn g q cI cH ad pf' n σ ∧ ((∃ k : Nat, k ≤ 10 ∧ 0 < k ∧ r = nI k ∧ zOrb (σ.1 10) (nI p0) k = -1 ∧ ∀ j, j < k → pf' j = zOrb (σ.1 10) (nI p0) j ∧ zOrb (σ.1 10) (nI p0) j ≠ -1) ∨ (r = 0 ∧ ∀ j, j ≤ 10 → zOrb (σ.1 10) (nI p0) j ≠ -1))) := by
  refine gEnter (cc := cX1_findPath) (maxL := 4) (ret := (some .int)) (QF := fun A => va_Qi _ (gPost D A) A) (by decide) rfl (Nat.le_of_ble_eq_true rfl) ?_
  intro p e s m below meth c A ls hX hr hlk hnm hK hN hA hI hl
  have hx := hX.1
  have hb := hX.2.1
  have hts := hX.2.2.2.2
  have hown : s.vm.findClass RX1 = some m.cls := hX.2.2.2.1
  have hin1 := iX1_findPath_1
  have hl : lv_has ls 4 [(0, .ref g), (1, .int (nI p0))] := hl
  have hI : InW D A s.heap (wCr g q cI cH ad pf (gfh ad σ) (gfp ad σ) n σ) s.heap [] := hI
  refine lv_iload_n hx hb dX1_findPath_0 rfl (lv_at hl 1 rfl) ?_
  refine lv_istore_n (lv' := [(2, .int (nI p0)), (0, .ref g), (1, .int (nI p0))]) hx hb dX1_findPath_1 rfl hl (by decide) rfl (fun ls hl => ?_)
  refine lv_iconst (v := 0) hx hb dX1_findPath_2 (by decide) ?_
  refine lv_istore_n (lv' := [(3, .int (0)), (2, .int (nI p0)), (0, .ref g), (1, .int (nI p0))]) hx hb dX1_findPath_3 rfl hl (by decide) rfl (fun ls hl => ?_)
  have hp0 : ∃ j : Nat, j < 10 ∧ nI p0 = nI j := ⟨p0, hp, rfl⟩
  obtain ⟨o, ho⟩ : ∃ o, o = zOrb (σ.1 10) (nI p0) := ⟨_, rfl⟩
  have hoin : ∀ j, o j = -1 ∨ ∃ i : Nat, i < 10 ∧ o j = nI i := by rw [ho]; exact zOrb_in hg hp0
  rw [← ho]
  have loop : ∀ (f k : Nat) (pf : Nat → Int32) (H : Heap) (locs : List Loc) (ls : Array Slot), k + f = 10 → (∀ j, j < k → pf j = o j ∧ o j ≠ -1) → InW D A s.heap (wCn g q cI cH ad pf n σ) H locs → lv_has ls 4 [(0, .ref g), (2, .int (o k)), (3, .int (nI k))] → W p l e ({ frames := 1, cells := 0, slots := 0, locals := 20 }) s m ([.ref g, .int (nI p0)] : List Value).toArray below meth c H locs 0 0 (MQ below (va_Qi (fun r u => ∃ pf' : Nat → Int32, u = wCn g q cI cH ad pf' n σ ∧ ((∃ k : Nat, k ≤ 10 ∧ 0 < k ∧ r = nI k ∧ o k = -1 ∧ ∀ j, j < k → pf' j = o j ∧ o j ≠ -1) ∨ (r = 0 ∧ ∀ j, j ≤ 10 → o j ≠ -1))) (gPost D A) A) ([.ref g, .int (nI p0)] : List Value).toArray s 0 0 A) (F0 m 4 ls []) := by
    intro f
    induction f with
    | zero =>
      intro k pf H locs ls hk hpf hI hl
      refine lv_iload_n hx hb dX1_findPath_4 rfl (lv_at hl 1 rfl) ?_
      refine vp_callSi (W.runS (As := [.int (o k)]) (rest := []) hX (c_X1_isPlace l (o k)) (va_cwS 1 hts gX1_findPath_X1_isPlace rfl rfl rfl (by decide +kernel) ⟨Nat.le_of_ble_eq_true rfl, Nat.le_of_ble_eq_true rfl⟩) preEq rfl rfl hl.1 rfl (lv_room (Nat.le_of_ble_eq_true rfl)) dX1_findPath_5 ⟨Nat.le_of_ble_eq_true rfl, Nat.le_of_ble_eq_true rfl⟩) (fun r1 hr1 => ?_)
      rcases hr1 with ⟨rfl, ha_r1, hb_r1⟩ | ⟨rfl, hc_r1⟩
      · refine lv_if_eq (tgt := 37) hx hb dX1_findPath_8 (by decide) (fun c2 => False.elim (by revert c2; decide)) (fun c2 => ?_)
        obtain ⟨j, hj, hjE, -⟩ := g_pl ha_r1 hb_r1
        have hne : o k ≠ -1 := by rw [hjE]; exact nI_ne_m1 (by omega)
        refine lv_iload_n hx hb dX1_findPath_11 rfl (lv_at hl 2 rfl) ?_
        refine lv_bipush (v := 10) hx hb dX1_findPath_12 (by decide) ?_
        refine lv_icmp_ge (tgt := 37) hx hb dX1_findPath_14 (by decide) (fun c3 => ?_) (fun c3 => absurd (g_le (B := 10) rfl (by omega) (by omega)) c3)
        refine lv_iload_n hx hb dX1_findPath_37 rfl (lv_at hl 1 rfl) ?_
        refine lv_iconst (v := (-1)) hx hb dX1_findPath_38 (by decide) ?_
        refine lv_icmp_ne (tgt := 46) hx hb dX1_findPath_39 (by decide) (fun c4 => ?_) (fun c4 => absurd c4 hne)
        refine lv_iconst (v := 0) hx hb dX1_findPath_46 (by decide) ?_
        exact gIret hX hr hlk hI ⟨pf, rfl, Or.inr ⟨rfl, fun j hj => by
          by_cases hjk : j = k
          · rw [hjk]; exact hne
          · exact (hpf j (by omega)).2⟩⟩ dX1_findPath_47
      · refine lv_if_eq (tgt := 37) hx hb dX1_findPath_8 (by decide) (fun c5 => ?_) (fun c5 => False.elim (by revert c5; decide))
        have hm1 : o k = -1 := by
          rcases hoin k with h | ⟨j, hj, h⟩
          · exact h
          · rw [h] at hc_r1
            exact hc_r1.elim (fun z => absurd z (nI_pos (by omega))) (fun z => absurd z (by rw [show (9 : Int32) = nI 9 from rfl]; exact nI_nlt (by omega) (by omega)))
        refine lv_iload_n hx hb dX1_findPath_37 rfl (lv_at hl 1 rfl) ?_
        refine lv_iconst (v := (-1)) hx hb dX1_findPath_38 (by decide) ?_
        refine lv_icmp_ne (tgt := 46) hx hb dX1_findPath_39 (by decide) (fun c6 => absurd hm1 c6) (fun c6 => ?_)
        refine lv_iload_n hx hb dX1_findPath_42 rfl (lv_at hl 2 rfl) ?_
        refine lv_goto (tgt := 47) hx hb dX1_findPath_43 (by decide) ?_
        have hk0 : 0 < k := by
          rcases Nat.eq_zero_or_pos k with h | h
          · subst h
            rw [ho] at hm1
            exact absurd hm1 (nI_ne_m1 (i := p0) (by omega))
          · exact h
        exact gIret hX hr hlk hI ⟨pf, rfl, Or.inl ⟨k, by omega, hk0, rfl, hm1, hpf⟩⟩ dX1_findPath_47
    | succ f ih =>
      intro k pf H locs ls hk hpf hI hl
      refine lv_iload_n hx hb dX1_findPath_4 rfl (lv_at hl 1 rfl) ?_
      refine vp_callSi (W.runS (As := [.int (o k)]) (rest := []) hX (c_X1_isPlace l (o k)) (va_cwS 1 hts gX1_findPath_X1_isPlace rfl rfl rfl (by decide +kernel) ⟨Nat.le_of_ble_eq_true rfl, Nat.le_of_ble_eq_true rfl⟩) preEq rfl rfl hl.1 rfl (lv_room (Nat.le_of_ble_eq_true rfl)) dX1_findPath_5 ⟨Nat.le_of_ble_eq_true rfl, Nat.le_of_ble_eq_true rfl⟩) (fun r7 hr7 => ?_)
      rcases hr7 with ⟨rfl, ha_r7, hb_r7⟩ | ⟨rfl, hc_r7⟩
      · refine lv_if_eq (tgt := 37) hx hb dX1_findPath_8 (by decide) (fun c8 => False.elim (by revert c8; decide)) (fun c8 => ?_)
        obtain ⟨j, hj, hjE, -⟩ := g_pl ha_r7 hb_r7
        have hne : o k ≠ -1 := by rw [hjE]; exact nI_ne_m1 (by omega)
        refine lv_iload_n hx hb dX1_findPath_11 rfl (lv_at hl 2 rfl) ?_
        refine lv_bipush (v := 10) hx hb dX1_findPath_12 (by decide) ?_
        refine lv_icmp_ge (tgt := 37) hx hb dX1_findPath_14 (by decide) (fun c9 => absurd c9 (g_nle (B := 10) rfl (by omega) (by decide))) (fun c9 => ?_)
        refine lv_aload_n hx hb dX1_findPath_17 rfl (lv_at hl 0 rfl) ?_
        refine cGet (v := .ref (q 4)) hX hin1 hK hI 4 (by decide) (hts (.fieldLink RX1 19 "GateHalls" "path" "[I") (by decide +kernel)) rfl dX1_findPath_18 ?_
        refine lv_iload_n hx hb dX1_findPath_21 rfl (lv_at hl 2 rfl) ?_
        refine lv_iload_n hx hb dX1_findPath_22 rfl (lv_at hl 1 rfl) ?_
        refine gAst (j := k) (w' := wCr g q cI cH ad (upd pf (k) (o k)) (gfh ad σ) (gfp ad σ) n σ) hX hK hI 3 0 rfl rfl rfl (by omega) (by decide) rfl dX1_findPath_23 (fun H locs hI => ?_)
        refine lv_iinc (v := nI (k + 1)) (lv' := [(3, .int (nI (k + 1))), (0, .ref g), (2, .int (o k))]) hx hb dX1_findPath_24 hl (k := 2) rfl (nI_1 _) (by decide) rfl (fun ls hl => ?_)
        refine lv_aload_n hx hb dX1_findPath_27 rfl (lv_at hl 1 rfl) ?_
        refine cGet (v := .ref (q 1)) hX hin1 hK hI 1 (by decide) (hts (.fieldLink RX1 15 "GateHalls" "parents" "[I") (by decide +kernel)) rfl dX1_findPath_28 ?_
        refine lv_iload_n hx hb dX1_findPath_31 rfl (lv_at hl 2 rfl) ?_
        refine gAld (j := j) hX hK hI 2 0 rfl rfl hjE (by omega) (by decide) dX1_findPath_32 ?_
        refine lv_istore_n (lv' := [(2, .int (σ.1 10 (j))), (3, .int (nI (k + 1))), (0, .ref g)]) hx hb dX1_findPath_33 rfl hl (by decide) rfl (fun ls hl => ?_)
        refine lv_goto (tgt := 4) hx hb dX1_findPath_34 (by decide) ?_
        have hs : o (k + 1) = σ.1 10 j := by rw [ho] at hjE ⊢; exact zOrb_succ hjE hj
        rw [← hs] at hl
        exact ih (k + 1) _ _ _ ls (by omega) (fun b hb4 => by
          by_cases hba : b = k
          · subst hba; exact ⟨by simp [upd], hne⟩
          · exact ⟨by simp [upd, hba]; exact (hpf b (by omega)).1, (hpf b (by omega)).2⟩) hI (lv_sub hl [2, 0, 1] rfl)
      · refine lv_if_eq (tgt := 37) hx hb dX1_findPath_8 (by decide) (fun c10 => ?_) (fun c10 => False.elim (by revert c10; decide))
        have hm1 : o k = -1 := by
          rcases hoin k with h | ⟨j, hj, h⟩
          · exact h
          · rw [h] at hc_r7
            exact hc_r7.elim (fun z => absurd z (nI_pos (by omega))) (fun z => absurd z (by rw [show (9 : Int32) = nI 9 from rfl]; exact nI_nlt (by omega) (by omega)))
        refine lv_iload_n hx hb dX1_findPath_37 rfl (lv_at hl 1 rfl) ?_
        refine lv_iconst (v := (-1)) hx hb dX1_findPath_38 (by decide) ?_
        refine lv_icmp_ne (tgt := 46) hx hb dX1_findPath_39 (by decide) (fun c11 => absurd hm1 c11) (fun c11 => ?_)
        refine lv_iload_n hx hb dX1_findPath_42 rfl (lv_at hl 2 rfl) ?_
        refine lv_goto (tgt := 47) hx hb dX1_findPath_43 (by decide) ?_
        have hk0 : 0 < k := by
          rcases Nat.eq_zero_or_pos k with h | h
          · subst h
            rw [ho] at hm1
            exact absurd hm1 (nI_ne_m1 (i := p0) (by omega))
          · exact h
        exact gIret hX hr hlk hI ⟨pf, rfl, Or.inl ⟨k, by omega, hk0, rfl, hm1, hpf⟩⟩ dX1_findPath_47
  rw [show nI p0 = o 0 by rw [ho]; rfl] at hl
  exact loop 10 0 pf _ _ ls (by omega) (fun j hj => absurd hj (by omega)) hI (lv_sub hl [2, 1, 0] rfl)
set_option maxRecDepth 100000 in
theorem iX1_passInto_0 : ∀ w ∈ wsX00, w ∈ wsX1_passInto := by decide +kernel
set_option maxRecDepth 100000 in
theorem iX1_passInto_1 : ∀ w ∈ wsX10, w ∈ wsX1_passInto := by decide +kernel
set_option maxHeartbeats 4000000 in
set_option maxRecDepth 100000 in
theorem c_X1_passInto (l : Launch) (D : va_G) (cI cH : ClassId) (g : Nat) (q : Nat → Nat) (ad : Nat → Nat) (pf : Nat → Int32) (n : Nat) (σ : gh_S) (sz : Nat) (i w : Nat) (hi : i < n) (hw30a : w < 30) (hg : gI n w σ) (hkd : gKd n σ) : gMi l yX1_passInto wsX1_passInto ({ frames := 2, cells := 0, slots := 0, locals := 44 }) D (wCn g q cI cH ad pf n σ) (gTy cI cH) sz [.ref g, .ref (ad i)] (fun r u => r = (zPass σ i).1 ∧ u = wCn g q cI cH ad pf n (zPass σ i).2) := by
  refine gEnter (cc := cX1_passInto) (maxL := 3) (ret := (some .int)) (QF := fun A => va_Qi _ (gPost D A) A) (by decide) rfl (Nat.le_of_ble_eq_true rfl) ?_
  intro p e s m below meth c A ls hX hr hlk hnm hK hN hA hI hl
  have hx := hX.1
  have hb := hX.2.1
  have hts := hX.2.2.2.2
  have hown : s.vm.findClass RX1 = some m.cls := hX.2.2.2.1
  have hin0 := iX1_passInto_0
  have hin1 := iX1_passInto_1
  have hl : lv_has ls 3 [(0, .ref g), (1, .ref (ad i))] := hl
  have hI : InW D A s.heap (wCr g q cI cH ad pf (gfh ad σ) (gfp ad σ) n σ) s.heap [] := hI
  obtain ⟨hn, hw, ⟨t, ht, htE⟩, hpl, hpar, hrow, hn4, hw30, hz⟩ := id hg
  refine lv_aload_n hx hb dX1_passInto_0 rfl (lv_at hl 1 rfl) ?_
  have hI : InW D A s.heap (wCn g q cI cH ad pf n σ) s.heap [] := hI
  refine gCallv (va_runVN (As := []) (rest := []) hX (c_X0_enter l D cI cH (wCn g q cI cH ad pf n σ) (ad i) (6 + i) (nI i) (σ.1 1 i) (σ.1 2 i) (σ.1 3 i) (σ.1 4 i) (σ.1 5 i) (σ.1 6 i) (σ.1 7 i) (σ.1 8 i) s.heap.size  (wCr_hall hi)) ⟨va_cnB 0 hts gX1_passInto_X0_enter_n114 rfl rfl rfl hN.2.2.2.2.2.1 (hts (.initialized RX0) (by decide +kernel)) (by decide +kernel) ⟨Nat.le_of_ble_eq_true rfl, Nat.le_of_ble_eq_true rfl⟩, hts (.instanceMethod yX0_enter) (by decide +kernel), hts (.selects RX0 yX0_enter yX0_enter) (by decide +kernel)⟩ ⟨gPre_blind, gRecv hI hK (ci := 0) (q0 := 6 + i) rfl (wCr_hall hi), gPre_ok hI hK hN⟩ rfl rfl hl.1 rfl (lv_room (Nat.le_of_ble_eq_true rfl)) dX1_passInto_1 ⟨Nat.zero_le _, Nat.zero_le _⟩) hI hA (fun ur1 H locs hr1 hI => ?_)
  subst hr1
  have hI : InW D A s.heap (wCr g q cI cH ad pf (gfh ad σ) (gfp ad σ) n (zEnter σ i)) H locs := by rw [← wCr_enter hi]; exact hI
  have hgE := gI_enter hi hg
  have hI : InW D A s.heap (wCn g q cI cH ad pf n (zEnter σ i)) H locs := hI
  have hKE : gKd n (zEnter σ i) := hkd
  generalize hσ1 : zEnter σ i = σ1 at hI hgE hKE
  refine lv_aload_n hx hb dX1_passInto_4 rfl (lv_at hl 0 rfl) ?_
  refine cGet (v := .int (σ1.2 17)) hX hin1 hK hI 6 (by decide) (hts (.fieldLink RX1 96 "GateHalls" "depth" "I") (by decide +kernel)) rfl dX1_passInto_5 ?_
  refine lv_if_lt (tgt := 43) hx hb dX1_passInto_8 (by decide) (fun c2 => absurd c2 (by rw [hgE.2.1]; exact nI_pos (by omega))) (fun c2 => ?_)
  refine lv_aload_n hx hb dX1_passInto_11 rfl (lv_at hl 0 rfl) ?_
  refine cGet (v := .int (σ1.2 17)) hX hin1 hK hI 6 (by decide) (hts (.fieldLink RX1 96 "GateHalls" "depth" "I") (by decide +kernel)) rfl dX1_passInto_12 ?_
  refine lv_aload_n hx hb dX1_passInto_15 rfl (lv_at hl 0 rfl) ?_
  refine cGet (v := .ref (q 5)) hX hin1 hK hI 5 (by decide) (hts (.fieldLink RX1 22 "GateHalls" "passed" "[LGateHalls$Hall;") (by decide +kernel)) rfl dX1_passInto_16 ?_
  refine gAlen (n := 30) hX hK hI 4 1 rfl rfl rfl dX1_passInto_19 ?_
  refine lv_icmp_ge (tgt := 43) hx hb dX1_passInto_20 (by decide) (fun c3 => absurd c3 (by rw [hgE.2.1]; exact nI_ge (by omega) (by omega))) (fun c3 => ?_)
  refine lv_aload_n hx hb dX1_passInto_23 rfl (lv_at hl 0 rfl) ?_
  refine cGet (v := .ref (q 5)) hX hin1 hK hI 5 (by decide) (hts (.fieldLink RX1 22 "GateHalls" "passed" "[LGateHalls$Hall;") (by decide +kernel)) rfl dX1_passInto_24 ?_
  refine lv_aload_n hx hb dX1_passInto_27 rfl (lv_at hl 0 rfl) ?_
  refine cGet (v := .int (σ1.2 17)) hX hin1 hK hI 6 (by decide) (hts (.fieldLink RX1 96 "GateHalls" "depth" "I") (by decide +kernel)) rfl dX1_passInto_28 ?_
  refine lv_aload_n hx hb dX1_passInto_31 rfl (lv_at hl 1 rfl) ?_
  refine gQst (j := w) (w' := wCr g q cI cH ad pf (gfh ad σ1) (va_up (gfp ad σ1) (w) (some (ad i))) n σ1) (r := (RX0, TX0, 9)) hX hK hI 4 1 (6 + i) 0 rfl rfl (wCr_hall hi) rfl hgE.2.1 (by omega) (by decide) rfl dX1_passInto_32 (fun H locs hI => ?_)
  refine lv_aload_n hx hb dX1_passInto_33 rfl (lv_at hl 0 rfl) ?_
  refine lv_dup hx hb dX1_passInto_34 rfl ?_
  refine cGet (v := .int (σ1.2 17)) hX hin1 hK hI 6 (by decide) (hts (.fieldLink RX1 96 "GateHalls" "depth" "I") (by decide +kernel)) rfl dX1_passInto_35 ?_
  refine lv_iconst (v := 1) hx hb dX1_passInto_38 (by decide) ?_
  refine lv_iadd hx hb dX1_passInto_39 ?_
  refine cPut (σ' := (uS σ1 17 ((σ1.2 17) + (1)))) hX hin1 hK hI 6 (by decide) (hts (.fieldLink RX1 96 "GateHalls" "depth" "I") (by decide +kernel)) rfl rfl rfl dX1_passInto_40 (fun H locs hI => ?_)
  have hI : InW D A s.heap (wCn g q cI cH ad pf n (uS (uA σ1 18 w (nI i)) 17 (σ1.2 17 + 1))) H locs := by
    show InW _ _ _ (wCr _ _ _ _ _ _ _ (gfp ad (uS (uA σ1 18 w (nI i)) 17 (σ1.2 17 + 1))) _ _) _ _
    rw [← gfp_push hgE.2.1 (by omega) (by omega)]
    exact hI
  refine lv_aload_n hx hb dX1_passInto_43 rfl (lv_at hl 0 rfl) ?_
  refine lv_aload_n hx hb dX1_passInto_44 rfl (lv_at hl 0 rfl) ?_
  refine cGet (v := .int (σ1.2 16)) hX hin1 hK hI 7 (by decide) (hts (.fieldLink RX1 58 "GateHalls" "deepest" "I") (by decide +kernel)) rfl dX1_passInto_45 ?_
  refine lv_aload_n hx hb dX1_passInto_48 rfl (lv_at hl 0 rfl) ?_
  refine cGet (v := .int (σ1.2 17 + 1)) hX hin1 hK hI 6 (by decide) (hts (.fieldLink RX1 96 "GateHalls" "depth" "I") (by decide +kernel)) rfl dX1_passInto_49 ?_
  refine va_mmax hx hb (hX.2.2.1.trans hl.1.symm) hown (hts (.methodLink RX1 117 Lib.Math.max.name) (by decide +kernel)) (hts (.static Lib.Math.max.name) (by decide +kernel)) (hts (.initialized "java/lang/Math") (by decide +kernel)) (hts (.code Lib.Math.max.name Lib.Math.max.code 2 (some .int)) (by decide +kernel)) (Nat.le_of_ble_eq_true rfl) (Nat.le_of_ble_eq_true rfl) (Nat.le_of_ble_eq_true rfl) (Nat.le_of_ble_eq_true rfl) dX1_passInto_52 ?_
  refine cPut (σ' := (uS (uS (uA σ1 18 (w) (nI i)) 17 (σ1.2 17 + 1)) 16 (if (σ1.2 16) < (σ1.2 17 + 1) then (σ1.2 17 + 1) else (σ1.2 16)))) hX hin1 hK hI 7 (by decide) (hts (.fieldLink RX1 58 "GateHalls" "deepest" "I") (by decide +kernel)) rfl rfl rfl dX1_passInto_55 (fun H locs hI => ?_)
  have hwC : (σ1.2 17).toNatClampNeg = w := by rw [hgE.2.1]; exact nI_clamp (by omega)
  have hI : InW D A s.heap (wCn g q cI cH ad pf n (zPush σ1 i)) H locs := by
    unfold zPush
    rw [hwC, ← zMax_eq]
    exact hI
  have hgP := gI_push hi (by omega) hgE
  refine lv_aload_n hx hb dX1_passInto_58 rfl (lv_at hl 0 rfl) ?_
  refine lv_aload_n hx hb dX1_passInto_59 rfl (lv_at hl 1 rfl) ?_
  have hI : InW D A s.heap (wCn g q cI cH ad pf n (zPush σ1 i)) H locs := hI
  refine gCalli (va_runVN (As := []) (rest := [.ref g]) hX (c_X0_mark l D cI cH (wCn g q cI cH ad pf n (zPush σ1 i)) (ad i) (6 + i) (nI i) ((zPush σ1 i).1 1 i) ((zPush σ1 i).1 2 i) ((zPush σ1 i).1 3 i) ((zPush σ1 i).1 4 i) ((zPush σ1 i).1 5 i) ((zPush σ1 i).1 6 i) ((zPush σ1 i).1 7 i) ((zPush σ1 i).1 8 i) H.size  (wCr_hall hi)) ⟨va_cnB 0 hts gX1_passInto_X0_mark_n120 rfl rfl rfl hN.2.2.2.2.2.2.1 (hts (.initialized RX0) (by decide +kernel)) (by decide +kernel) ⟨Nat.le_of_ble_eq_true rfl, Nat.le_of_ble_eq_true rfl⟩, hts (.instanceMethod yX0_mark) (by decide +kernel), hts (.selects RX0 yX0_mark yX0_mark) (by decide +kernel)⟩ ⟨gPre_blind, gRecv hI hK (ci := 0) (q0 := 6 + i) rfl (wCr_hall hi), gPre_ok hI hK hN⟩ rfl rfl hl.1 rfl (lv_room (Nat.le_of_ble_eq_true rfl)) dX1_passInto_60 ⟨Nat.zero_le _, Nat.zero_le _⟩) hI hA (fun r4 ur4 H locs hr4 hI => ?_)
  obtain ⟨hr4, rfl⟩ := hr4
  have hI : InW D A s.heap (wCn g q cI cH ad pf n (zPush σ1 i)) H locs := hI
  refine gCallv (va_runV (As := [.int (r4)]) (rest := []) hX (c_X1_leaveMark l D cI cH g q ad pf n (zPush σ1 i) _ (r4) (w + 1) hgP) (cwV 1 hts gX1_passInto_X1_leaveMark rfl rfl rfl (by decide +kernel) ⟨Nat.le_of_ble_eq_true rfl, Nat.le_of_ble_eq_true rfl⟩) ⟨gPre_blind, gRecv hI hK (ci := 1) (q0 := 0) rfl rfl, gPre_ok hI hK hN⟩ rfl rfl hl.1 rfl (lv_room (Nat.le_of_ble_eq_true rfl)) dX1_passInto_63 ⟨Nat.zero_le _, Nat.zero_le _⟩) hI hA (fun ur5 H locs hr5 hI => ?_)
  subst hr5
  have hI : InW D A s.heap (wCn g q cI cH ad pf n (zIn σ i)) H locs := by
    have e : zIn σ i = zLeave (zPush σ1 i) r4 := by rw [zLeave_push, hr4, ← hσ1]; rfl
    rw [e]; exact hI
  have hK3 : gKd n (zIn σ i) := gKd_of k_in hkd
  generalize hσ3 : zIn σ i = σ3 at hI hK3
  refine lv_aload_n hx hb dX1_passInto_66 rfl (lv_at hl 1 rfl) ?_
  have hI : InW D A s.heap (wCn g q cI cH ad pf n σ3) H locs := hI
  refine gCalli (va_runVN (As := []) (rest := []) hX (c_X0_guardIsInTheWay l D cI cH (wCn g q cI cH ad pf n σ3) (ad i) (6 + i) (nI i) (σ3.1 1 i) (σ3.1 2 i) (σ3.1 3 i) (σ3.1 4 i) (σ3.1 5 i) (σ3.1 6 i) (σ3.1 7 i) (σ3.1 8 i) H.size  (wCr_hall hi)) ⟨va_cnB 0 hts gX1_passInto_X0_guardIsInTheWay_n126 rfl rfl rfl hN.2.2.2.2.2.2.2.1 (hts (.initialized RX0) (by decide +kernel)) (by decide +kernel) ⟨Nat.le_of_ble_eq_true rfl, Nat.le_of_ble_eq_true rfl⟩, hts (.instanceMethod yX0_guardIsInTheWay) (by decide +kernel), hts (.selects RX0 yX0_guardIsInTheWay yX0_guardIsInTheWay) (by decide +kernel)⟩ ⟨gPre_blind, gRecv hI hK (ci := 0) (q0 := 6 + i) rfl (wCr_hall hi), gPre_ok hI hK hN⟩ rfl rfl hl.1 rfl (lv_room (Nat.le_of_ble_eq_true rfl)) dX1_passInto_67 ⟨Nat.zero_le _, Nat.zero_le _⟩) hI hA (fun r6 ur6 H locs hr6 hI => ?_)
  obtain ⟨hr6, rfl⟩ := hr6
  rcases hr6 with ⟨rfl, hG⟩ | ⟨rfl, hG⟩
  · refine lv_if_eq (tgt := 76) hx hb dX1_passInto_70 (by decide) (fun c7 => False.elim (by revert c7; decide)) (fun c7 => ?_)
    refine lv_bipush (v := 21) hx hb dX1_passInto_73 (by decide) ?_
    exact gIret hX hr hlk hI (by rw [zPass, hσ3, zPay, if_pos hG]; exact ⟨rfl, rfl⟩) dX1_passInto_75
  · refine lv_if_eq (tgt := 76) hx hb dX1_passInto_70 (by decide) (fun c8 => ?_) (fun c8 => False.elim (by revert c8; decide))
    refine lv_aload_n hx hb dX1_passInto_76 rfl (lv_at hl 1 rfl) ?_
    have hI : InW D A s.heap (wCn g q cI cH ad pf n σ3) H locs := hI
    refine gCalli (va_runVN (As := []) (rest := []) hX (c_X0_charge l D cI cH (wCn g q cI cH ad pf n σ3) (ad i) (6 + i) (nI i) (σ3.1 1 i) (σ3.1 2 i) (σ3.1 3 i) (σ3.1 4 i) (σ3.1 5 i) (σ3.1 6 i) (σ3.1 7 i) (σ3.1 8 i) H.size  (wCr_hall hi)) ⟨va_cnB 0 hts gX1_passInto_X0_charge_n130 rfl rfl rfl hN.2.2.2.2.2.2.2.2.1 (hts (.initialized RX0) (by decide +kernel)) (by decide +kernel) ⟨Nat.le_of_ble_eq_true rfl, Nat.le_of_ble_eq_true rfl⟩, hts (.instanceMethod yX0_charge) (by decide +kernel), hts (.selects RX0 yX0_charge yX0_charge) (by decide +kernel)⟩ ⟨gPre_blind, gRecv hI hK (ci := 0) (q0 := 6 + i) rfl (wCr_hall hi), gPre_ok hI hK hN⟩ rfl rfl hl.1 rfl (lv_room (Nat.le_of_ble_eq_true rfl)) dX1_passInto_77 ⟨Nat.zero_le _, Nat.zero_le _⟩) hI hA (fun r9 ur9 H locs hr9 hI => ?_)
    obtain ⟨hr9, rfl⟩ := hr9
    rw [zCharge_eq hK3 hi] at hr9
    refine lv_istore_n (lv' := [(2, .int (r9)), (0, .ref g), (1, .ref (ad i))]) hx hb dX1_passInto_80 rfl hl (by decide) rfl (fun ls hl => ?_)
    refine lv_aload_n hx hb dX1_passInto_81 rfl (lv_at hl 1 rfl) ?_
    refine cGet (v := .int (σ3.2 11)) hX hin1 hK hI 2 (by decide) (hts (.fieldLink RX1 45 "GateHalls" "purse" "I") (by decide +kernel)) rfl dX1_passInto_82 ?_
    refine lv_iload_n hx hb dX1_passInto_85 rfl (lv_at hl 0 rfl) ?_
    refine lv_icmp_ge (tgt := 92) hx hb dX1_passInto_86 (by decide) (fun c10 => ?_) (fun c10 => ?_)
    · refine lv_aload_n hx hb dX1_passInto_92 rfl (lv_at hl 1 rfl) ?_
      refine lv_dup hx hb dX1_passInto_93 rfl ?_
      refine cGet (v := .int (σ3.2 11)) hX hin1 hK hI 2 (by decide) (hts (.fieldLink RX1 45 "GateHalls" "purse" "I") (by decide +kernel)) rfl dX1_passInto_94 ?_
      refine lv_iload_n hx hb dX1_passInto_97 rfl (lv_at hl 0 rfl) ?_
      refine lv_isub hx hb dX1_passInto_98 ?_
      refine cPut (σ' := (uS σ3 11 ((σ3.2 11) - (r9)))) hX hin1 hK hI 2 (by decide) (hts (.fieldLink RX1 45 "GateHalls" "purse" "I") (by decide +kernel)) rfl rfl rfl dX1_passInto_99 (fun H locs hI => ?_)
      refine lv_aload_n hx hb dX1_passInto_102 rfl (lv_at hl 2 rfl) ?_
      refine lv_dup hx hb dX1_passInto_103 rfl ?_
      refine hGet (i := i) (v := .int ((uS σ3 11 ((σ3.2 11) - (r9))).1 6 (i))) hX hin0 hK hI hi 6 (by decide) hN.2.2.2.2.1 rfl dX1_passInto_104 ?_
      refine gTop (y := σ3.1 6 (i)) (by simp [uA, uS, upd]) ?_
      refine lv_iload_n hx hb dX1_passInto_107 rfl (lv_at hl 0 rfl) ?_
      refine lv_iadd hx hb dX1_passInto_108 ?_
      refine hPut (i := i) hX hin0 hK hI hi 6 (by decide) hN.2.2.2.2.1 rfl rfl gHs6 (by decide) (by decide) dX1_passInto_109 (fun H locs hI => ?_)
      refine lv_iconst (v := 0) hx hb dX1_passInto_112 (by decide) ?_
      exact gIret hX hr hlk hI (by rw [zPass, hσ3, zPay, if_neg hG, if_pos (by rw [← hr9]; exact c10), ← hr9]; exact ⟨rfl, rfl⟩) dX1_passInto_113
    · refine lv_bipush (v := 20) hx hb dX1_passInto_89 (by decide) ?_
      exact gIret hX hr hlk hI (by rw [zPass, hσ3, zPay, if_neg hG, if_neg (by rw [← hr9]; exact c10)]; exact ⟨rfl, rfl⟩) dX1_passInto_91
