set_option maxRecDepth 100000 in
theorem iX2_walk_2 : ∀ w ∈ wsX20, w ∈ wsX2_walk := by decide +kernel
set_option maxHeartbeats 4000000 in
set_option maxRecDepth 100000 in
theorem c_X2_walk (l : Launch) (D : va_G) (cI cH : ClassId) (h : Nat) (q : Nat → Nat) (pf : Nat → Int32) (σ : gh_S) (sz : Nat) (x y z : Int32) (n : Nat) (hg : gI n 0 σ) : gMi l yX2_walk wsX2_walk ({ frames := 5, cells := 0, slots := 0, locals := 117 }) D (wM h q cI pf σ) (gTy cI cH) sz [.ref h, .int (x), .int (y), .int (z)] (fun r u => ∃ pf' : Nat → Int32, r = (mWalk σ x y z).1 ∧ u = wM h q cI pf' (mWalk σ x y z).2) := by
  refine gEnter (cc := cX2_walk) (maxL := 4) (ret := (some .int)) (QF := fun A => va_Qi _ (gPost D A) A) (by decide) rfl (Nat.le_of_ble_eq_true rfl) ?_
  intro p e s m below meth c A ls hX hr hlk hnm hK hN hA hI hl
  have hx := hX.1
  have hb := hX.2.1
  have hts := hX.2.2.2.2
  have hown : s.vm.findClass RX2 = some m.cls := hX.2.2.2.1
  have hin2 := iX2_walk_2
  have hl : lv_has ls 4 [(0, .ref h), (1, .int (x)), (2, .int (y)), (3, .int (z))] := hl
  refine lv_iload_n hx hb dX2_walk_0 rfl (lv_at hl 1 rfl) ?_
  refine lv_iconst (v := 0) hx hb dX2_walk_1 (by decide) ?_
  refine lv_bipush (v := 9) hx hb dX2_walk_2 (by decide) ?_
  refine vp_callSi (W.runS (As := [.int (x), .int (0), .int (9)]) (rest := []) hX (c_X2_in l (x) (0) (9)) (va_cwS 3 hts gX2_walk_X2_in rfl rfl rfl (by decide +kernel) ⟨Nat.le_of_ble_eq_true rfl, Nat.le_of_ble_eq_true rfl⟩) preEq rfl rfl hl.1 rfl (lv_room (Nat.le_of_ble_eq_true rfl)) dX2_walk_4 ⟨Nat.le_of_ble_eq_true rfl, Nat.le_of_ble_eq_true rfl⟩) (fun r1 hr1 => ?_)
  rcases hr1 with ⟨rfl, ha_r1, hb_r1⟩ | ⟨rfl, hc_r1⟩
  · refine lv_if_eq (tgt := 20) hx hb dX2_walk_7 (by decide) (fun c2 => False.elim (by revert c2; decide)) (fun c2 => ?_)
    refine lv_iload_n hx hb dX2_walk_10 rfl (lv_at hl 2 rfl) ?_
    refine lv_iconst (v := 0) hx hb dX2_walk_11 (by decide) ?_
    refine lv_bipush (v := 7) hx hb dX2_walk_12 (by decide) ?_
    refine vp_callSi (W.runS (As := [.int (y), .int (0), .int (7)]) (rest := []) hX (c_X2_in l (y) (0) (7)) (va_cwS 3 hts gX2_walk_X2_in rfl rfl rfl (by decide +kernel) ⟨Nat.le_of_ble_eq_true rfl, Nat.le_of_ble_eq_true rfl⟩) preEq rfl rfl hl.1 rfl (lv_room (Nat.le_of_ble_eq_true rfl)) dX2_walk_14 ⟨Nat.le_of_ble_eq_true rfl, Nat.le_of_ble_eq_true rfl⟩) (fun r3 hr3 => ?_)
    rcases hr3 with ⟨rfl, ha_r3, hb_r3⟩ | ⟨rfl, hc_r3⟩
    · refine lv_if_ne (tgt := 22) hx hb dX2_walk_17 (by decide) (fun c4 => ?_) (fun c4 => False.elim (by revert c4; decide))
      refine lv_aload_n hx hb dX2_walk_22 rfl (lv_at hl 0 rfl) ?_
      refine lv_iconst (v := 0) hx hb dX2_walk_23 (by decide) ?_
      refine mPut hX hin2 hK hI 12 (by decide) (hts (.fieldLink RX2 61 "GateHallsModel" "traces" "I") (by decide +kernel)) rfl rfl rfl dX2_walk_24 (fun H locs hI => ?_)
      refine lv_aload_n hx hb dX2_walk_27 rfl (lv_at hl 0 rfl) ?_
      refine lv_iconst (v := 0) hx hb dX2_walk_28 (by decide) ?_
      refine mPut hX hin2 hK hI 16 (by decide) (hts (.fieldLink RX2 71 "GateHallsModel" "deepest" "I") (by decide +kernel)) rfl rfl rfl dX2_walk_29 (fun H locs hI => ?_)
      refine lv_aload_n hx hb dX2_walk_32 rfl (lv_at hl 0 rfl) ?_
      refine lv_iconst (v := 0) hx hb dX2_walk_33 (by decide) ?_
      refine mPut hX hin2 hK hI 17 (by decide) (hts (.fieldLink RX2 68 "GateHallsModel" "within" "I") (by decide +kernel)) rfl rfl rfl dX2_walk_34 (fun H locs hI => ?_)
      obtain ⟨j, hj, hjE, hjC⟩ := g_pl ha_r1 hb_r1
      have hgB := gI_begin hg
      have hI : InW D A s.heap (wM h q cI pf (sBegin σ)) H locs := hI
      refine lv_aload_n hx hb dX2_walk_37 rfl (lv_at hl 0 rfl) ?_
      refine lv_aload_n hx hb dX2_walk_38 rfl (lv_at hl 0 rfl) ?_
      refine lv_iload_n hx hb dX2_walk_39 rfl (lv_at hl 1 rfl) ?_
      refine gTop (y := nI j) hjE ?_
      refine gCalli (va_runV (As := [.int (nI j)]) (rest := [.ref h]) hX (c_X2_goTo l D cI cH h q pf (sBegin σ) H.size j n 0 hj (by omega) hgB) (cwV 1 hts gX2_walk_X2_goTo rfl rfl rfl (by decide +kernel) ⟨Nat.le_of_ble_eq_true rfl, Nat.le_of_ble_eq_true rfl⟩) ⟨gPre_blind, gRecv hI hK (ci := 2) (q0 := 0) rfl rfl, gPre_ok hI hK hN⟩ rfl rfl hl.1 rfl (lv_room (Nat.le_of_ble_eq_true rfl)) dX2_walk_40 ⟨Nat.zero_le _, Nat.zero_le _⟩) hI hA (fun r5 ur5 H locs hr5 hI => ?_)
      obtain ⟨pf', hr5, rfl⟩ := hr5
      obtain ⟨w2, hw21, hw22, hg2, hw23⟩ := gI_go (n := n) (w := 0) (p := nI j) (by omega) ⟨j, hj, rfl⟩ hgB
      rw [← hjE] at hr5 hg2 hw23 hI
      generalize hG : zGo (sBegin σ) x = G at hr5 hg2 hw23 hI
      refine mPut hX hin2 hK hI 14 (by decide) (hts (.fieldLink RX2 102 "GateHallsModel" "failure" "I") (by decide +kernel)) rfl rfl rfl dX2_walk_43 (fun H locs hI => ?_)
      refine lv_aload_n hx hb dX2_walk_46 rfl (lv_at hl 0 rfl) ?_
      refine mGet (v := .int (r5)) hX hin2 hK hI 14 (by decide) (hts (.fieldLink RX2 102 "GateHallsModel" "failure" "I") (by decide +kernel)) rfl dX2_walk_47 ?_
      refine lv_if_ne (tgt := 63) hx hb dX2_walk_50 (by decide) (fun c6 => ?_) (fun c6 => ?_)
      · have hgF := gI_uS 14 r5 (by decide) (by decide) (by decide) hg2
        refine lv_aload_n hx hb dX2_walk_63 rfl (lv_at hl 0 rfl) ?_
        refine lv_iconst (v := 0) hx hb dX2_walk_64 (by decide) ?_
        refine gCallv (va_runV (As := [.int (0)]) (rest := []) hX (c_X2_leaveTo l D cI cH h q pf' (uS G.2 14 (r5)) H.size 0 n w2 (by omega) hgF) (cwV 1 hts gX2_walk_X2_leaveTo rfl rfl rfl (by decide +kernel) ⟨Nat.le_of_ble_eq_true rfl, Nat.le_of_ble_eq_true rfl⟩) ⟨gPre_blind, gRecv hI hK (ci := 2) (q0 := 0) rfl rfl, gPre_ok hI hK hN⟩ rfl rfl hl.1 rfl (lv_room (Nat.le_of_ble_eq_true rfl)) dX2_walk_65 ⟨Nat.zero_le _, Nat.zero_le _⟩) hI hA (fun ur7 H locs hr7 hI => ?_)
        subst hr7
        refine lv_aload_n hx hb dX2_walk_68 rfl (lv_at hl 0 rfl) ?_
        refine mGet (v := .int ((zPops (uS G.2 14 (r5)) (w2 - 0)).2 14)) hX hin2 hK hI 14 (by decide) (hts (.fieldLink RX2 102 "GateHallsModel" "failure" "I") (by decide +kernel)) rfl dX2_walk_69 ?_
        refine gTop (y := r5) (zPops_S (by decide) (by decide) _ _) ?_
        refine lv_if_ne (tgt := 79) hx hb dX2_walk_72 (by decide) (fun c8 => ?_) (fun c8 => ?_)
        · refine lv_bipush (v := (-10)) hx hb dX2_walk_79 (by decide) ?_
          refine lv_aload_n hx hb dX2_walk_81 rfl (lv_at hl 0 rfl) ?_
          refine mGet (v := .int ((zPops (uS G.2 14 (r5)) (w2 - 0)).2 14)) hX hin2 hK hI 14 (by decide) (hts (.fieldLink RX2 102 "GateHallsModel" "failure" "I") (by decide +kernel)) rfl dX2_walk_82 ?_
          refine gTop (y := r5) (zPops_S (by decide) (by decide) _ _) ?_
          refine lv_isub hx hb dX2_walk_85 ?_
          exact gIret hX hr hlk hI ⟨_, by rw [mWalk, if_neg (fun h => h.elim ha_r1 (fun h => h.elim hb_r1 (fun h => h.elim ha_r3 hb_r3))), hG]; dsimp only; rw [if_neg (show ¬ G.1 = 0 by rw [← hr5]; exact c6), ← hr5]; (try dsimp only); rw [if_neg c8], by rw [mWalk, if_neg (fun h => h.elim ha_r1 (fun h => h.elim hb_r1 (fun h => h.elim ha_r3 hb_r3))), hG]; dsimp only; rw [if_neg (show ¬ G.1 = 0 by rw [← hr5]; exact c6), ← hr5]; (try dsimp only); rw [zW_of hgF]; rfl⟩ dX2_walk_86
        · refine lv_iconst (v := 1) hx hb dX2_walk_75 (by decide) ?_
          refine lv_goto (tgt := 86) hx hb dX2_walk_76 (by decide) ?_
          exact gIret hX hr hlk hI ⟨_, by rw [mWalk, if_neg (fun h => h.elim ha_r1 (fun h => h.elim hb_r1 (fun h => h.elim ha_r3 hb_r3))), hG]; dsimp only; rw [if_neg (show ¬ G.1 = 0 by rw [← hr5]; exact c6), ← hr5]; (try dsimp only); rw [if_pos c8], by rw [mWalk, if_neg (fun h => h.elim ha_r1 (fun h => h.elim hb_r1 (fun h => h.elim ha_r3 hb_r3))), hG]; dsimp only; rw [if_neg (show ¬ G.1 = 0 by rw [← hr5]; exact c6), ← hr5]; (try dsimp only); rw [zW_of hgF]; rfl⟩ dX2_walk_86
      · refine lv_aload_n hx hb dX2_walk_53 rfl (lv_at hl 0 rfl) ?_
        refine lv_aload_n hx hb dX2_walk_54 rfl (lv_at hl 0 rfl) ?_
        refine lv_iload_n hx hb dX2_walk_55 rfl (lv_at hl 2 rfl) ?_
        refine lv_iload_n hx hb dX2_walk_56 rfl (lv_at hl 3 rfl) ?_
        refine gCalli (va_runV (As := [.int (y), .int (z)]) (rest := [.ref h]) hX (c_X2_does l D cI cH h q pf' (uS G.2 14 (r5)) H.size y z n w2 (hw23 (by rw [← hr5]; exact c6)) (by omega) (gI_uS 14 r5 (by decide) (by decide) (by decide) hg2)) (cwV 2 hts gX2_walk_X2_does rfl rfl rfl (by decide +kernel) ⟨Nat.le_of_ble_eq_true rfl, Nat.le_of_ble_eq_true rfl⟩) ⟨gPre_blind, gRecv hI hK (ci := 2) (q0 := 0) rfl rfl, gPre_ok hI hK hN⟩ rfl rfl hl.1 rfl (lv_room (Nat.le_of_ble_eq_true rfl)) dX2_walk_57 ⟨Nat.zero_le _, Nat.zero_le _⟩) hI hA (fun r9 ur9 H locs hr9 hI => ?_)
        obtain ⟨pf'', hr9, rfl⟩ := hr9
        obtain ⟨w3, hw31, hw32, hg3⟩ := gI_does (x := y) (y := z) (hw23 (by rw [← hr5]; exact c6)) (by omega) (gI_uS 14 r5 (by decide) (by decide) (by decide) hg2)
        refine mPut hX hin2 hK hI 14 (by decide) (hts (.fieldLink RX2 102 "GateHallsModel" "failure" "I") (by decide +kernel)) rfl rfl rfl dX2_walk_60 (fun H locs hI => ?_)
        have hgF := gI_uS 14 r9 (by decide) (by decide) (by decide) hg3
        refine lv_aload_n hx hb dX2_walk_63 rfl (lv_at hl 0 rfl) ?_
        refine lv_iconst (v := 0) hx hb dX2_walk_64 (by decide) ?_
        refine gCallv (va_runV (As := [.int (0)]) (rest := []) hX (c_X2_leaveTo l D cI cH h q pf'' (uS (zDoes (uS G.2 14 (r5)) y z).2 14 (r9)) H.size 0 n w3 (by omega) hgF) (cwV 1 hts gX2_walk_X2_leaveTo rfl rfl rfl (by decide +kernel) ⟨Nat.le_of_ble_eq_true rfl, Nat.le_of_ble_eq_true rfl⟩) ⟨gPre_blind, gRecv hI hK (ci := 2) (q0 := 0) rfl rfl, gPre_ok hI hK hN⟩ rfl rfl hl.1 rfl (lv_room (Nat.le_of_ble_eq_true rfl)) dX2_walk_65 ⟨Nat.zero_le _, Nat.zero_le _⟩) hI hA (fun ur10 H locs hr10 hI => ?_)
        subst hr10
        refine lv_aload_n hx hb dX2_walk_68 rfl (lv_at hl 0 rfl) ?_
        refine mGet (v := .int ((zPops (uS (zDoes (uS G.2 14 (r5)) y z).2 14 (r9)) (w3 - 0)).2 14)) hX hin2 hK hI 14 (by decide) (hts (.fieldLink RX2 102 "GateHallsModel" "failure" "I") (by decide +kernel)) rfl dX2_walk_69 ?_
        refine gTop (y := r9) (zPops_S (by decide) (by decide) _ _) ?_
        refine lv_if_ne (tgt := 79) hx hb dX2_walk_72 (by decide) (fun c11 => ?_) (fun c11 => ?_)
        · refine lv_bipush (v := (-10)) hx hb dX2_walk_79 (by decide) ?_
          refine lv_aload_n hx hb dX2_walk_81 rfl (lv_at hl 0 rfl) ?_
          refine mGet (v := .int ((zPops (uS (zDoes (uS G.2 14 (r5)) y z).2 14 (r9)) (w3 - 0)).2 14)) hX hin2 hK hI 14 (by decide) (hts (.fieldLink RX2 102 "GateHallsModel" "failure" "I") (by decide +kernel)) rfl dX2_walk_82 ?_
          refine gTop (y := r9) (zPops_S (by decide) (by decide) _ _) ?_
          refine lv_isub hx hb dX2_walk_85 ?_
          exact gIret hX hr hlk hI ⟨_, by rw [mWalk, if_neg (fun h => h.elim ha_r1 (fun h => h.elim hb_r1 (fun h => h.elim ha_r3 hb_r3))), hG]; dsimp only; rw [if_pos (show G.1 = 0 by rw [← hr5]; exact c6), ← hr5, ← hr9]; (try dsimp only); rw [if_neg c11], by rw [mWalk, if_neg (fun h => h.elim ha_r1 (fun h => h.elim hb_r1 (fun h => h.elim ha_r3 hb_r3))), hG]; dsimp only; rw [if_pos (show G.1 = 0 by rw [← hr5]; exact c6), ← hr5, ← hr9]; (try dsimp only); rw [zW_of hgF]; rfl⟩ dX2_walk_86
        · refine lv_iconst (v := 1) hx hb dX2_walk_75 (by decide) ?_
          refine lv_goto (tgt := 86) hx hb dX2_walk_76 (by decide) ?_
          exact gIret hX hr hlk hI ⟨_, by rw [mWalk, if_neg (fun h => h.elim ha_r1 (fun h => h.elim hb_r1 (fun h => h.elim ha_r3 hb_r3))), hG]; dsimp only; rw [if_pos (show G.1 = 0 by rw [← hr5]; exact c6), ← hr5, ← hr9]; (try dsimp only); rw [if_pos c11], by rw [mWalk, if_neg (fun h => h.elim ha_r1 (fun h => h.elim hb_r1 (fun h => h.elim ha_r3 hb_r3))), hG]; dsimp only; rw [if_pos (show G.1 = 0 by rw [← hr5]; exact c6), ← hr5, ← hr9]; (try dsimp only); rw [zW_of hgF]; rfl⟩ dX2_walk_86
    · refine lv_if_ne (tgt := 22) hx hb dX2_walk_17 (by decide) (fun c12 => False.elim (by revert c12; decide)) (fun c12 => ?_)
      refine lv_iconst (v := (-1)) hx hb dX2_walk_20 (by decide) ?_
      exact gIret hX hr hlk hI ⟨pf, by rw [mWalk, if_pos (Or.inr (Or.inr hc_r3))], by rw [mWalk, if_pos (Or.inr (Or.inr hc_r3))]⟩ dX2_walk_21
  · refine lv_if_eq (tgt := 20) hx hb dX2_walk_7 (by decide) (fun c13 => ?_) (fun c13 => False.elim (by revert c13; decide))
    refine lv_iconst (v := (-1)) hx hb dX2_walk_20 (by decide) ?_
    exact gIret hX hr hlk hI ⟨pf, by rw [mWalk, if_pos (hc_r1.elim Or.inl (fun h => Or.inr (Or.inl h)))], by rw [mWalk, if_pos (hc_r1.elim Or.inl (fun h => Or.inr (Or.inl h)))]⟩ dX2_walk_21
theorem gI_ask {n w i : Nat} {σ : gh_S} (hi : i < n) (hg : gI n w σ) : gI n w (uA σ 5 i (σ.1 5 i + 1)) := gI_uH 5 i _ hi (by decide) hg
theorem nI_m1 {b : Nat} (h : b < 10) : ¬ nI b = -1 := by
  have hx : ∀ j, j < 10 → ¬ nI j = -1 := by decide
  exact hx b h
set_option maxRecDepth 100000 in
theorem iX2_seek_2 : ∀ w ∈ wsX20, w ∈ wsX2_seek := by decide +kernel
set_option maxHeartbeats 4000000 in
set_option maxRecDepth 100000 in
theorem c_X2_seek (l : Launch) (D : va_G) (cI cH : ClassId) (h : Nat) (q : Nat → Nat) (pf : Nat → Int32) (σ : gh_S) (sz : Nat) (sum : Int64) (n w : Nat) (hg : gI n w σ) : gMi l yX2_seek wsX2_seek ({ frames := 0, cells := 0, slots := 0, locals := 0 }) D (wM h q cI pf σ) (gTy cI cH) sz [.ref h, .long (sum)] (fun r u => r = (sSeek σ sum).1 ∧ u = wM h q cI pf (sSeek σ sum).2) := by
  refine gEnter (cc := cX2_seek) (maxL := 8) (ret := (some .int)) (QF := fun A => va_Qi _ (gPost D A) A) (by decide) rfl (Nat.le_of_ble_eq_true rfl) ?_
  intro p e s m below meth c A ls hX hr hlk hnm hK hN hA hI hl
  have hx := hX.1
  have hb := hX.2.1
  have hts := hX.2.2.2.2
  have hown : s.vm.findClass RX2 = some m.cls := hX.2.2.2.1
  have hin2 := iX2_seek_2
  have hl : lv_has ls 8 [(0, .ref h), (1, .long (sum))] := hl
  refine lv_iconst (v := 0) hx hb dX2_seek_0 (by decide) ?_
  refine lv_istore_n (lv' := [(3, .int (0)), (0, .ref h), (1, .long (sum))]) hx hb dX2_seek_1 rfl hl (by decide) rfl (fun ls hl => ?_)
  have loopA : ∀ (f a : Nat) (τ : gh_S) (H : Heap) (locs : List Loc) (ls : Array Slot), a + f = 10 → gI n w τ → zSA sum f a τ = sSeek σ sum → InW D A s.heap (wM h q cI pf τ) H locs → lv_has ls 8 [(0, .ref h), (1, .long (sum)), (3, .int (nI a))] → W p l e ({ frames := 0, cells := 0, slots := 0, locals := 0 }) s m ([.ref h, .long (sum)] : List Value).toArray below meth c H locs 0 0 (MQ below (va_Qi (fun r u => r = (sSeek σ sum).1 ∧ u = wM h q cI pf (sSeek σ sum).2) (gPost D A) A) ([.ref h, .long (sum)] : List Value).toArray s 0 0 A) (F0 m 2 ls []) := by
    intro f
    induction f with
    | zero =>
      intro a τ H locs ls ha hgT hE hI hl
      refine lv_iload_n hx hb dX2_seek_2 rfl (lv_at hl 2 rfl) ?_
      refine lv_bipush (v := 10) hx hb dX2_seek_3 (by decide) ?_
      refine lv_icmp_ge (tgt := 144) hx hb dX2_seek_5 (by decide) (fun c1 => ?_) (fun c1 => absurd (g_le (B := 10) rfl (by omega) (by omega)) c1)
      refine lv_iconst (v := (-1)) hx hb dX2_seek_144 (by decide) ?_
      exact gIret hX hr hlk hI ⟨by rw [← hE]; rfl, by rw [← hE]; rfl⟩ dX2_seek_145
    | succ f ih =>
      intro a τ H locs ls ha hgT hE hI hl
      have hTn := hgT.2.2.2.2.2.2.1
      refine lv_iload_n hx hb dX2_seek_2 rfl (lv_at hl 2 rfl) ?_
      refine lv_bipush (v := 10) hx hb dX2_seek_3 (by decide) ?_
      refine lv_icmp_ge (tgt := 144) hx hb dX2_seek_5 (by decide) (fun c2 => absurd c2 (g_nle (B := 10) rfl (by omega) (by decide))) (fun c2 => ?_)
      refine lv_aload_n hx hb dX2_seek_8 rfl (lv_at hl 0 rfl) ?_
      refine mGet (v := .ref (q 9)) hX hin2 hK hI 9 (by decide) (hts (.fieldLink RX2 34 "GateHallsModel" "places" "[I") (by decide +kernel)) rfl dX2_seek_9 ?_
      refine lv_iload_n hx hb dX2_seek_12 rfl (lv_at hl 2 rfl) ?_
      refine mAld (j := a) hX hK hI 9 rfl rfl (by omega) (by decide) dX2_seek_13 ?_
      refine lv_istore (lv' := [(4, .int (τ.1 9 (a))), (0, .ref h), (1, .long (sum)), (3, .int (nI a))]) hx hb dX2_seek_14 hl (by decide) rfl (fun ls hl => ?_)
      refine lv_iload hx hb dX2_seek_16 (lv_at hl 0 rfl) ?_
      refine lv_iconst (v := (-1)) hx hb dX2_seek_18 (by decide) ?_
      refine lv_icmp_ne (tgt := 25) hx hb dX2_seek_19 (by decide) (fun c3 => ?_) (fun c3 => ?_)
      · obtain ⟨i, hi, hiE⟩ := (hgT.2.2.2.1 a (by omega)).resolve_left c3
        have hiC : (τ.1 9 a).toNatClampNeg = i := by rw [hiE]; exact nI_clamp (by omega)
        rw [hiE] at hl
        refine lv_aload_n hx hb dX2_seek_25 rfl (lv_at hl 1 rfl) ?_
        refine mGet (v := .ref (q 5)) hX hin2 hK hI 5 (by decide) (hts (.fieldLink RX2 22 "GateHallsModel" "asks" "[I") (by decide +kernel)) rfl dX2_seek_26 ?_
        refine lv_iload hx hb dX2_seek_29 (lv_at hl 0 rfl) ?_
        refine lv_dup2_11 hx hb dX2_seek_31 rfl rfl ?_
        refine mAld (j := i) hX hK hI 5 rfl rfl (by omega) (by decide) dX2_seek_32 ?_
        refine lv_iconst (v := 1) hx hb dX2_seek_33 (by decide) ?_
        refine lv_iadd hx hb dX2_seek_34 ?_
        refine mAst (j := i) (pf' := pf) (σ' := (uA τ 5 (i) ((τ.1 5 (i)) + (1)))) hX hK hI 5 rfl rfl (by omega) (by decide) rfl dX2_seek_35 (fun H locs hI => ?_)
        refine lv_iconst (v := 1) hx hb dX2_seek_36 (by decide) ?_
        refine lv_istore (lv' := [(5, .int (1)), (4, .int (nI i)), (0, .ref h), (1, .long (sum)), (3, .int (nI a))]) hx hb dX2_seek_37 hl (by decide) rfl (fun ls hl => ?_)
        refine lv_iload_n hx hb dX2_seek_39 rfl (lv_at hl 4 rfl) ?_
        refine lv_iconst (v := 1) hx hb dX2_seek_40 (by decide) ?_
        refine lv_iadd hx hb dX2_seek_41 ?_
        refine gTop (y := nI (a + 1)) (nI_1 a) ?_
        refine lv_istore (lv' := [(6, .int (nI (a + 1))), (5, .int (1)), (4, .int (nI i)), (0, .ref h), (1, .long (sum)), (3, .int (nI a))]) hx hb dX2_seek_42 hl (by decide) rfl (fun ls hl => ?_)
        have hE2 : zSA sum (f + 1) a τ = (if (zSB i sum (9 - a) (a + 1) (uA τ 5 (i) (τ.1 5 (i) + 1))).1 = -1 then zSA sum f (a + 1) (zSB i sum (9 - a) (a + 1) (uA τ 5 (i) (τ.1 5 (i) + 1))).2 else (10 * nI a + (zSB i sum (9 - a) (a + 1) (uA τ 5 (i) (τ.1 5 (i) + 1))).1, (zSB i sum (9 - a) (a + 1) (uA τ 5 (i) (τ.1 5 (i) + 1))).2)) := by
          rw [zSA, if_neg c3]; dsimp only; rw [hiC]
        rw [hE] at hE2
        generalize hGB : zSB i sum (9 - a) (a + 1) (uA τ 5 (i) (τ.1 5 (i) + 1)) = GB at hE2
        have cont : ∀ (τ2 : gh_S) (H : Heap) (locs : List Loc) (ls : Array Slot), gI n w τ2 → GB = (-1, τ2) → InW D A s.heap (wM h q cI pf τ2) H locs → lv_has ls 8 [(0, .ref h), (1, .long (sum)), (3, .int (nI a))] → W p l e ({ frames := 0, cells := 0, slots := 0, locals := 0 }) s m ([.ref h, .long (sum)] : List Value).toArray below meth c H locs 0 0 (MQ below (va_Qi (fun r u => r = (sSeek σ sum).1 ∧ u = wM h q cI pf (sSeek σ sum).2) (gPost D A) A) ([.ref h, .long (sum)] : List Value).toArray s 0 0 A) (F0 m 138 ls []) := by
          intro τ2 H locs ls hg2 hB hI hl
          refine lv_iinc (v := nI (a + 1)) (lv' := [(3, .int (nI (a + 1))), (0, .ref h), (1, .long (sum))]) hx hb dX2_seek_138 hl (k := 2) rfl (nI_1 _) (by decide) rfl (fun ls hl => ?_)
          refine lv_goto (tgt := 2) hx hb dX2_seek_141 (by decide) ?_
          exact ih (a + 1) τ2 _ _ ls (by omega) hg2 (by rw [hE2, hB]; rfl) hI (lv_sub hl [1, 2, 0] rfl)
        have loopB : ∀ (k b : Nat) (τ2 : gh_S) (H : Heap) (locs : List Loc) (ls : Array Slot), b + k = 10 → gI n w τ2 → zSB i sum k b τ2 = GB → InW D A s.heap (wM h q cI pf τ2) H locs → lv_has ls 8 [(0, .ref h), (1, .long (sum)), (3, .int (nI a)), (4, .int (nI i)), (5, .int (1)), (6, .int (nI b))] → W p l e ({ frames := 0, cells := 0, slots := 0, locals := 0 }) s m ([.ref h, .long (sum)] : List Value).toArray below meth c H locs 0 0 (MQ below (va_Qi (fun r u => r = (sSeek σ sum).1 ∧ u = wM h q cI pf (sSeek σ sum).2) (gPost D A) A) ([.ref h, .long (sum)] : List Value).toArray s 0 0 A) (F0 m 44 ls []) := by
          intro k
          induction k with
          | zero =>
            intro b τ2 H locs ls hb2 hg2 hB hI hl
            refine lv_iload hx hb dX2_seek_44 (lv_at hl 5 rfl) ?_
            refine lv_bipush (v := 10) hx hb dX2_seek_46 (by decide) ?_
            refine lv_icmp_ge (tgt := 138) hx hb dX2_seek_48 (by decide) (fun c4 => ?_) (fun c4 => absurd (g_le (B := 10) rfl (by omega) (by omega)) c4)
            exact cont τ2 _ _ ls hg2 (by rw [← hB]; rfl) hI (lv_sub hl [0, 1, 2] rfl)
          | succ k ihb =>
            intro b τ2 H locs ls hb2 hg2 hB hI hl
            refine lv_iload hx hb dX2_seek_44 (lv_at hl 5 rfl) ?_
            refine lv_bipush (v := 10) hx hb dX2_seek_46 (by decide) ?_
            refine lv_icmp_ge (tgt := 138) hx hb dX2_seek_48 (by decide) (fun c5 => absurd c5 (g_nle (B := 10) rfl (by omega) (by decide))) (fun c5 => ?_)
            refine lv_iload hx hb dX2_seek_51 (lv_at hl 4 rfl) ?_
            refine lv_if_eq (tgt := 138) hx hb dX2_seek_53 (by decide) (fun c6 => False.elim (by revert c6; decide)) (fun c6 => ?_)
            refine lv_aload_n hx hb dX2_seek_56 rfl (lv_at hl 0 rfl) ?_
            refine mGet (v := .ref (q 9)) hX hin2 hK hI 9 (by decide) (hts (.fieldLink RX2 34 "GateHallsModel" "places" "[I") (by decide +kernel)) rfl dX2_seek_57 ?_
            refine lv_iload hx hb dX2_seek_60 (lv_at hl 5 rfl) ?_
            refine mAld (j := b) hX hK hI 9 rfl rfl (by omega) (by decide) dX2_seek_62 ?_
            refine lv_istore (lv' := [(7, .int (τ2.1 9 (b))), (0, .ref h), (1, .long (sum)), (3, .int (nI a)), (4, .int (nI i)), (5, .int (1)), (6, .int (nI b))]) hx hb dX2_seek_63 hl (by decide) rfl (fun ls hl => ?_)
            refine lv_iload hx hb dX2_seek_65 (lv_at hl 0 rfl) ?_
            refine lv_iconst (v := (-1)) hx hb dX2_seek_67 (by decide) ?_
            refine lv_icmp_ne (tgt := 74) hx hb dX2_seek_68 (by decide) (fun c7 => ?_) (fun c7 => ?_)
            · obtain ⟨y, hy, hyE⟩ := (hg2.2.2.2.1 b (by omega)).resolve_left c7
              have hyC : (τ2.1 9 b).toNatClampNeg = y := by rw [hyE]; exact nI_clamp (by omega)
              rw [hyE] at hl
              refine lv_aload_n hx hb dX2_seek_74 rfl (lv_at hl 1 rfl) ?_
              refine mGet (v := .ref (q 5)) hX hin2 hK hI 5 (by decide) (hts (.fieldLink RX2 22 "GateHallsModel" "asks" "[I") (by decide +kernel)) rfl dX2_seek_75 ?_
              refine lv_iload hx hb dX2_seek_78 (lv_at hl 0 rfl) ?_
              refine lv_dup2_11 hx hb dX2_seek_80 rfl rfl ?_
              refine mAld (j := y) hX hK hI 5 rfl rfl (by omega) (by decide) dX2_seek_81 ?_
              refine lv_iconst (v := 1) hx hb dX2_seek_82 (by decide) ?_
              refine lv_iadd hx hb dX2_seek_83 ?_
              refine mAst (j := y) (pf' := pf) (σ' := (uA τ2 5 (y) ((τ2.1 5 (y)) + (1)))) hX hK hI 5 rfl rfl (by omega) (by decide) rfl dX2_seek_84 (fun H locs hI => ?_)
              refine lv_aload_n hx hb dX2_seek_85 rfl (lv_at hl 1 rfl) ?_
              refine mGet (v := .ref (q 3)) hX hin2 hK hI 3 (by decide) (hts (.fieldLink RX2 16 "GateHallsModel" "gifts" "[I") (by decide +kernel)) rfl dX2_seek_86 ?_
              refine lv_iload hx hb dX2_seek_89 (lv_at hl 4 rfl) ?_
              refine mAld (j := i) hX hK hI 3 rfl rfl (by omega) (by decide) dX2_seek_91 ?_
              refine gTop (y := τ2.1 3 (i)) (by simp [uA, uS, upd]) ?_
              refine lv_i2l (v := Int32.toInt64 (τ2.1 3 (i))) hx hb dX2_seek_92 rfl ?_
              refine lv_aload_n hx hb dX2_seek_93 rfl (lv_at hl 1 rfl) ?_
              refine mGet (v := .ref (q 3)) hX hin2 hK hI 3 (by decide) (hts (.fieldLink RX2 16 "GateHallsModel" "gifts" "[I") (by decide +kernel)) rfl dX2_seek_94 ?_
              refine lv_iload hx hb dX2_seek_97 (lv_at hl 0 rfl) ?_
              refine mAld (j := y) hX hK hI 3 rfl rfl (by omega) (by decide) dX2_seek_99 ?_
              refine gTop (y := τ2.1 3 (y)) (by simp [uA, uS, upd]) ?_
              refine lv_i2l (v := Int32.toInt64 (τ2.1 3 (y))) hx hb dX2_seek_100 rfl ?_
              refine lv_ladd hx hb dX2_seek_101 ?_
              refine lv_lload_n hx hb dX2_seek_102 rfl (lv_at hl 2 rfl) ?_
              refine W.lcmp hx hb dX2_seek_103 ?_
              refine lv_if_ne (tgt := 115) hx hb dX2_seek_104 (by decide) (fun c8 => ?_) (fun c8 => ?_)
              · refine lv_aload_n hx hb dX2_seek_115 rfl (lv_at hl 1 rfl) ?_
                refine mGet (v := .ref (q 3)) hX hin2 hK hI 3 (by decide) (hts (.fieldLink RX2 16 "GateHallsModel" "gifts" "[I") (by decide +kernel)) rfl dX2_seek_116 ?_
                refine lv_iload hx hb dX2_seek_119 (lv_at hl 0 rfl) ?_
                refine mAld (j := y) hX hK hI 3 rfl rfl (by omega) (by decide) dX2_seek_121 ?_
                refine gTop (y := τ2.1 3 (y)) (by simp [uA, uS, upd]) ?_
                refine lv_if_lt (tgt := 129) hx hb dX2_seek_122 (by decide) (fun c9 => ?_) (fun c9 => ?_)
                · refine lv_iconst (v := 0) hx hb dX2_seek_129 (by decide) ?_
                  refine lv_istore (lv' := [(5, .int (0)), (7, .int (nI y)), (0, .ref h), (1, .long (sum)), (3, .int (nI a)), (4, .int (nI i)), (6, .int (nI b))]) hx hb dX2_seek_130 hl (by decide) rfl (fun ls hl => ?_)
                  refine lv_iinc (v := nI (b + 1)) (lv' := [(6, .int (nI (b + 1))), (5, .int (0)), (7, .int (nI y)), (0, .ref h), (1, .long (sum)), (3, .int (nI a)), (4, .int (nI i))]) hx hb dX2_seek_132 hl (k := 6) rfl (nI_1 _) (by decide) rfl (fun ls hl => ?_)
                  refine lv_goto (tgt := 44) hx hb dX2_seek_135 (by decide) ?_
                  rw [zSB, if_neg c7] at hB; dsimp only at hB; rw [hyC, if_neg c8, if_pos c9] at hB
                  refine lv_iload hx hb dX2_seek_44 (lv_at hl 0 rfl) ?_
                  refine lv_bipush (v := 10) hx hb dX2_seek_46 (by decide) ?_
                  refine lv_icmp_ge (tgt := 138) hx hb dX2_seek_48 (by decide) (fun c10 => ?_) (fun c10 => ?_)
                  · exact cont _ _ _ ls (gI_ask hy hg2) hB.symm hI (lv_sub hl [3, 4, 5] rfl)
                  · refine lv_iload hx hb dX2_seek_51 (lv_at hl 1 rfl) ?_
                    refine lv_if_eq (tgt := 138) hx hb dX2_seek_53 (by decide) (fun c11 => ?_) (fun c11 => False.elim (by revert c11; decide))
                    exact cont _ _ _ ls (gI_ask hy hg2) hB.symm hI (lv_sub hl [3, 4, 5] rfl)
                · refine lv_iconst (v := 1) hx hb dX2_seek_125 (by decide) ?_
                  refine lv_goto (tgt := 130) hx hb dX2_seek_126 (by decide) ?_
                  refine lv_istore (lv' := [(5, .int (1)), (7, .int (nI y)), (0, .ref h), (1, .long (sum)), (3, .int (nI a)), (4, .int (nI i)), (6, .int (nI b))]) hx hb dX2_seek_130 hl (by decide) rfl (fun ls hl => ?_)
                  refine lv_iinc (v := nI (b + 1)) (lv' := [(6, .int (nI (b + 1))), (5, .int (1)), (7, .int (nI y)), (0, .ref h), (1, .long (sum)), (3, .int (nI a)), (4, .int (nI i))]) hx hb dX2_seek_132 hl (k := 6) rfl (nI_1 _) (by decide) rfl (fun ls hl => ?_)
                  refine lv_goto (tgt := 44) hx hb dX2_seek_135 (by decide) ?_
                  rw [zSB, if_neg c7] at hB; dsimp only at hB; rw [hyC, if_neg c8, if_neg c9] at hB
                  exact ihb (b + 1) _ _ _ ls (by omega) (gI_ask hy hg2) hB hI (lv_sub hl [3, 4, 5, 6, 1, 0] rfl)
              · refine lv_bipush (v := 10) hx hb dX2_seek_107 (by decide) ?_
                refine lv_iload_n hx hb dX2_seek_109 rfl (lv_at hl 3 rfl) ?_
                refine lv_imul hx hb dX2_seek_110 ?_
                refine lv_iload hx hb dX2_seek_111 (lv_at hl 6 rfl) ?_
                refine lv_iadd hx hb dX2_seek_113 ?_
                rw [zSB, if_neg c7] at hB; dsimp only at hB; rw [hyC, if_pos c8] at hB
                rw [← hB] at hE2
                rw [if_neg (nI_m1 (by omega))] at hE2
                exact gIret hX hr hlk hI ⟨by rw [hE2], by rw [hE2]⟩ dX2_seek_114
            · refine lv_goto (tgt := 132) hx hb dX2_seek_71 (by decide) ?_
              refine lv_iinc (v := nI (b + 1)) (lv' := [(6, .int (nI (b + 1))), (7, .int (τ2.1 9 (b))), (0, .ref h), (1, .long (sum)), (3, .int (nI a)), (4, .int (nI i)), (5, .int (1))]) hx hb dX2_seek_132 hl (k := 6) rfl (nI_1 _) (by decide) rfl (fun ls hl => ?_)
              refine lv_goto (tgt := 44) hx hb dX2_seek_135 (by decide) ?_
              exact ihb (b + 1) τ2 _ _ ls (by omega) hg2 (by rw [← hB, zSB, if_pos c7]) hI (lv_sub hl [2, 3, 4, 5, 6, 0] rfl)
        exact loopB (9 - a) (a + 1) _ _ _ ls (by omega) (gI_ask hi hgT) hGB hI (lv_sub hl [3, 4, 5, 2, 1, 0] rfl)
      · refine lv_goto (tgt := 138) hx hb dX2_seek_22 (by decide) ?_
        refine lv_iinc (v := nI (a + 1)) (lv' := [(3, .int (nI (a + 1))), (4, .int (τ.1 9 (a))), (0, .ref h), (1, .long (sum))]) hx hb dX2_seek_138 hl (k := 3) rfl (nI_1 _) (by decide) rfl (fun ls hl => ?_)
        refine lv_goto (tgt := 2) hx hb dX2_seek_141 (by decide) ?_
        exact ih (a + 1) τ _ _ ls (by omega) hgT (by rw [← hE, zSA, if_pos c3]) hI (lv_sub hl [2, 3, 0] rfl)
  exact loopA 10 0 σ _ _ ls (by omega) hg rfl hI (lv_sub hl [1, 2, 0] rfl)
