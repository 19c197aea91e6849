theorem g_nle {b : Int32} {B j : Nat} (hB : b = nI B) (h : j < B) (hB' : B < 2 ^ 31) : ¬ b ≤ nI j := by
  rw [hB]; exact nI_ge h hB'
theorem g_le {b : Int32} {B j : Nat} (hB : b = nI B) (h : B ≤ j) (hj : j < 2 ^ 31) : b ≤ nI j := by
  rw [hB]; exact nI_le h hj
theorem sCount_out {σ : gh_S} {w : Int32} (h : w.toInt < 0 ∨ 5 < w.toInt) : (-1 : Int32) = sCount σ w := by
  have hk : ∀ k : Int32, ¬ (k.toInt < 0 ∨ 5 < k.toInt) → ¬ w = k := fun k a e => by subst e; exact a h
  unfold sCount
  rw [if_neg (hk 0 (by decide)), if_neg (hk 1 (by decide)), if_neg (hk 2 (by decide)), if_neg (hk 3 (by decide)), if_neg (hk 4 (by decide)), if_neg (hk 5 (by decide))]
set_option maxRecDepth 100000 in
theorem iX2_count_2 : ∀ w ∈ wsX20, w ∈ wsX2_count := by decide +kernel
set_option maxHeartbeats 4000000 in
set_option maxRecDepth 100000 in
theorem c_X2_count (l : Launch) (D : va_G) (cI cH : ClassId) (h : Nat) (q : Nat → Nat) (pf : Nat → Int32) (σ : gh_S) (sz : Nat) (x : Int32) : gMi l yX2_count wsX2_count ({ frames := 0, cells := 0, slots := 0, locals := 0 }) D (wM h q cI pf σ) (gTy cI cH) sz [.ref h, .int (x)] (fun r u => r = sCount σ x ∧ u = wM h q cI pf σ) := by
  refine gEnter (cc := cX2_count) (maxL := 4) (ret := (some .int)) (QF := fun A => va_Qi _ (gPost D A) A) (by decide) rfl (Nat.le_of_ble_eq_true rfl) ?_
  intro p e s m below meth c A ls hX hr hlk hnm hK hN hA hI hl
  have hx := hX.1
  have hb := hX.2.1
  have hts := hX.2.2.2.2
  have hown : s.vm.findClass RX2 = some m.cls := hX.2.2.2.1
  have hin2 := iX2_count_2
  have hl : lv_has ls 4 [(0, .ref h), (1, .int (x))] := hl
  refine lv_iload_n hx hb dX2_count_0 rfl (lv_at hl 1 rfl) ?_
  rcases g_sw05 x with h1 | rfl | rfl | rfl | rfl | rfl | rfl
  · refine lv_tableOut (tgt := 101) hx hb dX2_count_1 h1 (by decide) ?_
    refine lv_iconst (v := (-1)) hx hb dX2_count_101 (by decide) ?_
    exact gIret hX hr hlk hI ⟨sCount_out h1, rfl⟩ dX2_count_102
  · refine lv_tableIn (tgt := 40) (off := 39) hx hb dX2_count_1 (by decide) (by decide) (by decide) (by decide) ?_
    refine lv_aload_n hx hb dX2_count_40 rfl (lv_at hl 0 rfl) ?_
    refine mGet (v := .int (σ.2 11)) hX hin2 hK hI 11 (by decide) (hts (.fieldLink RX2 57 "GateHallsModel" "purse" "I") (by decide +kernel)) rfl dX2_count_41 ?_
    exact gIret hX hr hlk hI ⟨rfl, rfl⟩ dX2_count_44
  · refine lv_tableIn (tgt := 45) (off := 44) hx hb dX2_count_1 (by decide) (by decide) (by decide) (by decide) ?_
    refine lv_aload_n hx hb dX2_count_45 rfl (lv_at hl 0 rfl) ?_
    refine mGet (v := .int (σ.2 0)) hX hin2 hK hI 0 (by decide) (hts (.fieldLink RX2 53 "GateHallsModel" "halls" "I") (by decide +kernel)) rfl dX2_count_46 ?_
    exact gIret hX hr hlk hI ⟨rfl, rfl⟩ dX2_count_49
  · refine lv_tableIn (tgt := 50) (off := 49) hx hb dX2_count_1 (by decide) (by decide) (by decide) (by decide) ?_
    refine lv_iconst (v := 0) hx hb dX2_count_50 (by decide) ?_
    refine lv_istore_n (lv' := [(2, .int (0)), (0, .ref h), (1, .int (2))]) hx hb dX2_count_51 rfl hl (by decide) rfl (fun ls hl => ?_)
    refine lv_iconst (v := 0) hx hb dX2_count_52 (by decide) ?_
    refine lv_istore_n (lv' := [(3, .int (0)), (2, .int (0)), (0, .ref h), (1, .int (2))]) hx hb dX2_count_53 rfl hl (by decide) rfl (fun ls hl => ?_)
    have loop : ∀ (f j : Nat) (a : Int32) (ls : Array Slot), j + f = 10 → a = zCnt (σ.1 9) j → lv_has ls 4 [(0, .ref h), (1, .int (2)), (2, .int (a)), (3, .int (nI (j)))] → W p l e ({ frames := 0, cells := 0, slots := 0, locals := 0 }) s m ([.ref h, .int (2)] : List Value).toArray below meth c s.heap [] 0 0 (MQ below (va_Qi (fun r u => r = sCount σ 2 ∧ u = wM h q cI pf σ) (gPost D A) A) ([.ref h, .int (2)] : List Value).toArray s 0 0 A) (F0 m 54 ls []) := by
      intro f
      induction f with
      | zero =>
        intro j a ls hj ha hl
        refine lv_iload_n hx hb dX2_count_54 rfl (lv_at hl 3 rfl) ?_
        refine lv_bipush (v := 10) hx hb dX2_count_55 (by decide) ?_
        refine lv_icmp_ge (tgt := 84) hx hb dX2_count_57 (by decide) (fun c2 => ?_) (fun c2 => absurd (g_le (B := 10) rfl (by omega) (by omega)) c2)
        refine lv_iload_n hx hb dX2_count_84 rfl (lv_at hl 2 rfl) ?_
        exact gIret hX hr hlk hI ⟨by rw [sCount, if_neg (by decide), if_neg (by decide), if_pos rfl, ha, show j = 10 by omega], rfl⟩ dX2_count_85
      | succ f ih =>
        intro j a ls hj ha hl
        refine lv_iload_n hx hb dX2_count_54 rfl (lv_at hl 3 rfl) ?_
        refine lv_bipush (v := 10) hx hb dX2_count_55 (by decide) ?_
        refine lv_icmp_ge (tgt := 84) hx hb dX2_count_57 (by decide) (fun c3 => absurd c3 (g_nle (B := 10) rfl (by omega) (by decide))) (fun c3 => ?_)
        refine lv_aload_n hx hb dX2_count_60 rfl (lv_at hl 0 rfl) ?_
        refine mGet (v := .ref (q 9)) hX hin2 hK hI 9 (by decide) (hts (.fieldLink RX2 34 "GateHallsModel" "places" "[I") (by decide +kernel)) rfl dX2_count_61 ?_
        refine lv_iload_n hx hb dX2_count_64 rfl (lv_at hl 3 rfl) ?_
        refine mAld (j := j) hX hK hI 9 rfl rfl (by omega) (by decide) dX2_count_65 ?_
        refine lv_iconst (v := (-1)) hx hb dX2_count_66 (by decide) ?_
        refine lv_icmp_ne (tgt := 74) hx hb dX2_count_67 (by decide) (fun c4 => ?_) (fun c4 => ?_)
        · refine lv_iload_n hx hb dX2_count_74 rfl (lv_at hl 2 rfl) ?_
          refine lv_iconst (v := 1) hx hb dX2_count_75 (by decide) ?_
          refine lv_iadd hx hb dX2_count_76 ?_
          refine lv_istore_n (lv' := [(2, .int (a + 1)), (0, .ref h), (1, .int (2)), (3, .int (nI (j)))]) hx hb dX2_count_77 rfl hl (by decide) rfl (fun ls hl => ?_)
          refine lv_iinc (v := nI (j + 1)) (lv' := [(3, .int (nI (j + 1))), (2, .int (a + 1)), (0, .ref h), (1, .int (2))]) hx hb dX2_count_78 hl (k := 3) rfl (nI_1 _) (by decide) rfl (fun ls hl => ?_)
          refine lv_goto (tgt := 54) hx hb dX2_count_81 (by decide) ?_
          exact ih (j + 1) _ ls (by omega) (by rw [zCnt, if_neg c4, ha]) (lv_sub hl [2, 3, 1, 0] rfl)
        · refine lv_iload_n hx hb dX2_count_70 rfl (lv_at hl 2 rfl) ?_
          refine lv_goto (tgt := 77) hx hb dX2_count_71 (by decide) ?_
          refine lv_istore_n (lv' := [(2, .int (a)), (0, .ref h), (1, .int (2)), (3, .int (nI (j)))]) hx hb dX2_count_77 rfl hl (by decide) rfl (fun ls hl => ?_)
          refine lv_iinc (v := nI (j + 1)) (lv' := [(3, .int (nI (j + 1))), (2, .int (a)), (0, .ref h), (1, .int (2))]) hx hb dX2_count_78 hl (k := 3) rfl (nI_1 _) (by decide) rfl (fun ls hl => ?_)
          refine lv_goto (tgt := 54) hx hb dX2_count_81 (by decide) ?_
          exact ih (j + 1) _ ls (by omega) (by rw [zCnt, if_pos c4, ha]) (lv_sub hl [2, 3, 1, 0] rfl)
    exact loop 10 0 0 ls (by omega) rfl (lv_sub hl [2, 3, 1, 0] rfl)
  · refine lv_tableIn (tgt := 86) (off := 85) hx hb dX2_count_1 (by decide) (by decide) (by decide) (by decide) ?_
    refine lv_aload_n hx hb dX2_count_86 rfl (lv_at hl 0 rfl) ?_
    refine mGet (v := .int (σ.2 14)) hX hin2 hK hI 14 (by decide) (hts (.fieldLink RX2 102 "GateHallsModel" "failure" "I") (by decide +kernel)) rfl dX2_count_87 ?_
    exact gIret hX hr hlk hI ⟨rfl, rfl⟩ dX2_count_90
  · refine lv_tableIn (tgt := 91) (off := 90) hx hb dX2_count_1 (by decide) (by decide) (by decide) (by decide) ?_
    refine lv_aload_n hx hb dX2_count_91 rfl (lv_at hl 0 rfl) ?_
    refine mGet (v := .int (σ.2 15)) hX hin2 hK hI 15 (by decide) (hts (.fieldLink RX2 78 "GateHallsModel" "walks" "I") (by decide +kernel)) rfl dX2_count_92 ?_
    exact gIret hX hr hlk hI ⟨rfl, rfl⟩ dX2_count_95
  · refine lv_tableIn (tgt := 96) (off := 95) hx hb dX2_count_1 (by decide) (by decide) (by decide) (by decide) ?_
    refine lv_aload_n hx hb dX2_count_96 rfl (lv_at hl 0 rfl) ?_
    refine mGet (v := .int (σ.2 16)) hX hin2 hK hI 16 (by decide) (hts (.fieldLink RX2 71 "GateHallsModel" "deepest" "I") (by decide +kernel)) rfl dX2_count_97 ?_
    exact gIret hX hr hlk hI ⟨rfl, rfl⟩ dX2_count_100
set_option maxRecDepth 100000 in
theorem iX2_pass_2 : ∀ w ∈ wsX20, w ∈ wsX2_pass := by decide +kernel
set_option maxHeartbeats 4000000 in
set_option maxRecDepth 100000 in
theorem c_X2_pass (l : Launch) (D : va_G) (cI cH : ClassId) (h : Nat) (q : Nat → Nat) (pf : Nat → Int32) (σ : gh_S) (sz : Nat) (i n w : Nat) (hi : i < n) (hg : gI n w σ) : gMi l yX2_pass wsX2_pass ({ frames := 1, cells := 0, slots := 0, locals := 21 }) D (wM h q cI pf σ) (gTy cI cH) sz [.ref h, .int (nI i)] (fun r u => r = (zPass σ i).1 ∧ u = wM h q cI pf (zPass σ i).2) := by
  refine gEnter (cc := cX2_pass) (maxL := 2) (ret := (some .int)) (QF := fun A => va_Qi _ (gPost D A) A) (by decide) rfl (Nat.le_of_ble_eq_true rfl) ?_
  intro p e s m below meth c A ls hX hr hlk hnm hK hN hA hI hl
  have hx := hX.1
  have hb := hX.2.1
  have hts := hX.2.2.2.2
  have hown : s.vm.findClass RX2 = some m.cls := hX.2.2.2.1
  have hin2 := iX2_pass_2
  have hl : lv_has ls 2 [(0, .ref h), (1, .int (nI i))] := hl
  obtain ⟨hn, hw, ⟨t, ht, htE⟩, hpl, hpar, hrow, hn4, hw30, hz⟩ := id hg
  refine lv_aload_n hx hb dX2_pass_0 rfl (lv_at hl 0 rfl) ?_
  refine mGet (v := .ref (q 4)) hX hin2 hK hI 4 (by decide) (hts (.fieldLink RX2 19 "GateHallsModel" "passes" "[I") (by decide +kernel)) rfl dX2_pass_1 ?_
  refine lv_iload_n hx hb dX2_pass_4 rfl (lv_at hl 1 rfl) ?_
  refine lv_dup2_11 hx hb dX2_pass_5 rfl rfl ?_
  refine mAld (j := i) hX hK hI 4 rfl rfl (by omega) (by decide) dX2_pass_6 ?_
  refine lv_iconst (v := 1) hx hb dX2_pass_7 (by decide) ?_
  refine lv_iadd hx hb dX2_pass_8 ?_
  refine mAst (j := i) (pf' := pf) (σ' := (uA σ 4 (i) ((σ.1 4 (i)) + (1)))) hX hK hI 4 rfl rfl (by omega) (by decide) rfl dX2_pass_9 (fun H locs hI => ?_)
  refine lv_aload_n hx hb dX2_pass_10 rfl (lv_at hl 0 rfl) ?_
  refine mGet (v := .ref (q 7)) hX hin2 hK hI 7 (by decide) (hts (.fieldLink RX2 28 "GateHallsModel" "inside" "[I") (by decide +kernel)) rfl dX2_pass_11 ?_
  refine lv_iload_n hx hb dX2_pass_14 rfl (lv_at hl 1 rfl) ?_
  refine lv_dup2_11 hx hb dX2_pass_15 rfl rfl ?_
  refine mAld (j := i) hX hK hI 7 rfl rfl (by omega) (by decide) dX2_pass_16 ?_
  refine gTop (y := σ.1 7 (i)) (by simp [uA, uS, upd]) ?_
  refine lv_iconst (v := 1) hx hb dX2_pass_17 (by decide) ?_
  refine lv_iadd hx hb dX2_pass_18 ?_
  refine mAst (j := i) (pf' := pf) (σ' := (uA (uA σ 4 (i) ((σ.1 4 (i)) + (1))) 7 (i) ((σ.1 7 (i)) + (1)))) hX hK hI 7 rfl rfl (by omega) (by decide) rfl dX2_pass_19 (fun H locs hI => ?_)
  refine lv_aload_n hx hb dX2_pass_20 rfl (lv_at hl 0 rfl) ?_
  refine mGet (v := .ref (q 8)) hX hin2 hK hI 8 (by decide) (hts (.fieldLink RX2 31 "GateHallsModel" "mosts" "[I") (by decide +kernel)) rfl dX2_pass_21 ?_
  refine lv_iload_n hx hb dX2_pass_24 rfl (lv_at hl 1 rfl) ?_
  refine lv_aload_n hx hb dX2_pass_25 rfl (lv_at hl 0 rfl) ?_
  refine mGet (v := .ref (q 7)) hX hin2 hK hI 7 (by decide) (hts (.fieldLink RX2 28 "GateHallsModel" "inside" "[I") (by decide +kernel)) rfl dX2_pass_26 ?_
  refine lv_iload_n hx hb dX2_pass_29 rfl (lv_at hl 1 rfl) ?_
  refine mAld (j := i) hX hK hI 7 rfl rfl (by omega) (by decide) dX2_pass_30 ?_
  refine gTop (y := (σ.1 7 (i)) + (1)) (by simp [uA, uS, upd]) ?_
  refine lv_aload_n hx hb dX2_pass_31 rfl (lv_at hl 0 rfl) ?_
  refine mGet (v := .ref (q 8)) hX hin2 hK hI 8 (by decide) (hts (.fieldLink RX2 31 "GateHallsModel" "mosts" "[I") (by decide +kernel)) rfl dX2_pass_32 ?_
  refine lv_iload_n hx hb dX2_pass_35 rfl (lv_at hl 1 rfl) ?_
  refine mAld (j := i) hX hK hI 8 rfl rfl (by omega) (by decide) dX2_pass_36 ?_
  refine gTop (y := σ.1 8 (i)) (by simp [uA, uS, upd]) ?_
  have key1 : ∀ V : Int32, (V = if σ.1 7 i + 1 ≤ σ.1 8 i then σ.1 8 i else σ.1 7 i + 1) → W p l e ({ frames := 1, cells := 0, slots := 0, locals := 21 }) s m ([.ref h, .int (nI i)] : List Value).toArray below meth c H locs 0 0 (MQ below (va_Qi (fun r u => r = (zPass σ i).1 ∧ u = wM h q cI pf (zPass σ i).2) (gPost D A) A) ([.ref h, .int (nI i)] : List Value).toArray s 0 0 A) (F0 m 55 ls [.int (V), .int (nI i), .ref (q 8)]) := by
    intro V hV
    refine mAst (j := i) (pf' := pf) (σ' := (uA (uA (uA σ 4 (i) ((σ.1 4 (i)) + (1))) 7 (i) ((σ.1 7 (i)) + (1))) 8 (i) (V))) hX hK hI 8 rfl rfl (by omega) (by decide) rfl dX2_pass_55 (fun H locs hI => ?_)
    have hI : InW D A s.heap (wM h q cI pf (zEnter σ i)) H locs := by subst hV; exact hI
    have hgE := gI_enter hi hg
    refine lv_aload_n hx hb dX2_pass_56 rfl (lv_at hl 0 rfl) ?_
    refine lv_iload_n hx hb dX2_pass_57 rfl (lv_at hl 1 rfl) ?_
    refine lv_bipush (v := 100) hx hb dX2_pass_58 (by decide) ?_
    refine lv_irem hx hb dX2_pass_60 (by decide) ?_
    refine gCallv (va_runV (As := [.int ((nI i) - (nI i) / (100) * (100))]) (rest := []) hX (c_X2_leave l D cI cH h q pf (zEnter σ i) H.size ((nI i) - (nI i) / (100) * (100)) n w hgE) (cwV 1 hts gX2_pass_X2_leave rfl rfl rfl (by decide +kernel) ⟨Nat.le_of_ble_eq_true rfl, Nat.le_of_ble_eq_true rfl⟩) ⟨gPre_blind, gRecv hI hK (ci := 2) (q0 := 0) rfl rfl, gPre_ok hI hK hN⟩ rfl rfl hl.1 rfl (lv_room (Nat.le_of_ble_eq_true rfl)) dX2_pass_61 ⟨Nat.zero_le _, Nat.zero_le _⟩) hI hA (fun ur1 H locs hr1 hI => ?_)
    subst hr1
    have hgL := gI_leave (x := zRem (nI i) 100) hgE
    generalize hσ2 : zLeave (zEnter σ i) (zRem (nI i) 100) = σ2 at hgL
    have hI : InW D A s.heap (wM h q cI pf σ2) H locs := by rw [← hσ2]; exact hI
    refine lv_aload_n hx hb dX2_pass_64 rfl (lv_at hl 0 rfl) ?_
    refine mGet (v := .ref (q 18)) hX hin2 hK hI 18 (by decide) (hts (.fieldLink RX2 43 "GateHallsModel" "row" "[I") (by decide +kernel)) rfl dX2_pass_65 ?_
    refine lv_aload_n hx hb dX2_pass_68 rfl (lv_at hl 0 rfl) ?_
    refine mGet (v := .int (σ2.2 17)) hX hin2 hK hI 17 (by decide) (hts (.fieldLink RX2 68 "GateHallsModel" "within" "I") (by decide +kernel)) rfl dX2_pass_69 ?_
    refine lv_iload_n hx hb dX2_pass_72 rfl (lv_at hl 1 rfl) ?_
    refine mAst (j := w) (pf' := pf) (σ' := (uA σ2 18 (w) (nI i))) hX hK hI 12 rfl hgL.2.1 (by omega) (by decide) rfl dX2_pass_73 (fun H locs hI => ?_)
    refine lv_aload_n hx hb dX2_pass_74 rfl (lv_at hl 0 rfl) ?_
    refine lv_dup hx hb dX2_pass_75 rfl ?_
    refine mGet (v := .int (σ2.2 17)) hX hin2 hK hI 17 (by decide) (hts (.fieldLink RX2 68 "GateHallsModel" "within" "I") (by decide +kernel)) rfl dX2_pass_76 ?_
    refine lv_iconst (v := 1) hx hb dX2_pass_79 (by decide) ?_
    refine lv_iadd hx hb dX2_pass_80 ?_
    refine mPut hX hin2 hK hI 17 (by decide) (hts (.fieldLink RX2 68 "GateHallsModel" "within" "I") (by decide +kernel)) rfl rfl rfl dX2_pass_81 (fun H locs hI => ?_)
    refine lv_aload_n hx hb dX2_pass_84 rfl (lv_at hl 0 rfl) ?_
    refine lv_aload_n hx hb dX2_pass_85 rfl (lv_at hl 0 rfl) ?_
    refine mGet (v := .int ((σ2.2 17) + (1))) hX hin2 hK hI 17 (by decide) (hts (.fieldLink RX2 68 "GateHallsModel" "within" "I") (by decide +kernel)) rfl dX2_pass_86 ?_
    refine lv_aload_n hx hb dX2_pass_89 rfl (lv_at hl 0 rfl) ?_
    refine mGet (v := .int (σ2.2 16)) hX hin2 hK hI 16 (by decide) (hts (.fieldLink RX2 71 "GateHallsModel" "deepest" "I") (by decide +kernel)) rfl dX2_pass_90 ?_
    have key2 : ∀ V : Int32, (V = if σ2.2 17 + 1 ≤ σ2.2 16 then σ2.2 16 else σ2.2 17 + 1) → W p l e ({ frames := 1, cells := 0, slots := 0, locals := 21 }) s m ([.ref h, .int (nI i)] : List Value).toArray below meth c H locs 0 0 (MQ below (va_Qi (fun r u => r = (zPass σ i).1 ∧ u = wM h q cI pf (zPass σ i).2) (gPost D A) A) ([.ref h, .int (nI i)] : List Value).toArray s 0 0 A) (F0 m 107 ls [.int (V), .ref h]) := by
      intro V hV
      refine mPut hX hin2 hK hI 16 (by decide) (hts (.fieldLink RX2 71 "GateHallsModel" "deepest" "I") (by decide +kernel)) rfl rfl rfl dX2_pass_107 (fun H locs hI => ?_)
      have hwC : (σ2.2 17).toNatClampNeg = w := by rw [hgL.2.1]; exact nI_clamp (by omega)
      have hI : InW D A s.heap (wM h q cI pf (zIn σ i)) H locs := by
        have e : zIn σ i = zPush σ2 i := by rw [← hσ2]; rfl
        rw [e]
        unfold zPush
        rw [hwC, ← hV]
        exact hI
      generalize hσ3 : zIn σ i = σ3 at hI
      have key3 : (¬ (σ3.1 1 i = 2 ∧ zRem (σ3.1 4 i) 3 = 0)) → W p l e ({ frames := 1, cells := 0, slots := 0, locals := 21 }) s m ([.ref h, .int (nI i)] : List Value).toArray below meth c H locs 0 0 (MQ below (va_Qi (fun r u => r = (zPass σ i).1 ∧ u = wM h q cI pf (zPass σ i).2) (gPost D A) A) ([.ref h, .int (nI i)] : List Value).toArray s 0 0 A) (F0 m 134 ls []) := by
        intro hG
        refine lv_aload_n hx hb dX2_pass_134 rfl (lv_at hl 0 rfl) ?_
        refine mGet (v := .int (σ3.2 11)) hX hin2 hK hI 11 (by decide) (hts (.fieldLink RX2 57 "GateHallsModel" "purse" "I") (by decide +kernel)) rfl dX2_pass_135 ?_
        refine lv_aload_n hx hb dX2_pass_138 rfl (lv_at hl 0 rfl) ?_
        refine lv_iload_n hx hb dX2_pass_139 rfl (lv_at hl 1 rfl) ?_
        refine gCalli (va_runV (As := [.int (nI i)]) (rest := [.int (σ3.2 11)]) hX (c_X2_charge l D cI cH h q pf σ3 H.size i (by omega)) (cwV 1 hts gX2_pass_X2_charge rfl rfl rfl (by decide +kernel) ⟨Nat.le_of_ble_eq_true rfl, Nat.le_of_ble_eq_true rfl⟩) ⟨gPre_blind, gRecv hI hK (ci := 2) (q0 := 0) rfl rfl, gPre_ok hI hK hN⟩ rfl rfl hl.1 rfl (lv_room (Nat.le_of_ble_eq_true rfl)) dX2_pass_140 ⟨Nat.zero_le _, Nat.zero_le _⟩) hI hA (fun r2 ur2 H locs hr2 hI => ?_)
        obtain ⟨hr2, rfl⟩ := hr2
        refine lv_icmp_ge (tgt := 149) hx hb dX2_pass_143 (by decide) (fun c3 => ?_) (fun c3 => ?_)
        · refine lv_aload_n hx hb dX2_pass_149 rfl (lv_at hl 0 rfl) ?_
          refine lv_aload_n hx hb dX2_pass_150 rfl (lv_at hl 0 rfl) ?_
          refine mGet (v := .int (σ3.2 11)) hX hin2 hK hI 11 (by decide) (hts (.fieldLink RX2 57 "GateHallsModel" "purse" "I") (by decide +kernel)) rfl dX2_pass_151 ?_
          refine lv_aload_n hx hb dX2_pass_154 rfl (lv_at hl 0 rfl) ?_
          refine lv_iload_n hx hb dX2_pass_155 rfl (lv_at hl 1 rfl) ?_
          refine gCalli (va_runV (As := [.int (nI i)]) (rest := [.int (σ3.2 11), .ref h]) hX (c_X2_charge l D cI cH h q pf σ3 H.size i (by omega)) (cwV 1 hts gX2_pass_X2_charge rfl rfl rfl (by decide +kernel) ⟨Nat.le_of_ble_eq_true rfl, Nat.le_of_ble_eq_true rfl⟩) ⟨gPre_blind, gRecv hI hK (ci := 2) (q0 := 0) rfl rfl, gPre_ok hI hK hN⟩ rfl rfl hl.1 rfl (lv_room (Nat.le_of_ble_eq_true rfl)) dX2_pass_156 ⟨Nat.zero_le _, Nat.zero_le _⟩) hI hA (fun r4 ur4 H locs hr4 hI => ?_)
          obtain ⟨hr4, rfl⟩ := hr4
          refine lv_isub hx hb dX2_pass_159 ?_
          refine mPut hX hin2 hK hI 11 (by decide) (hts (.fieldLink RX2 57 "GateHallsModel" "purse" "I") (by decide +kernel)) rfl rfl rfl dX2_pass_160 (fun H locs hI => ?_)
          refine lv_aload_n hx hb dX2_pass_163 rfl (lv_at hl 0 rfl) ?_
          refine mGet (v := .ref (q 6)) hX hin2 hK hI 6 (by decide) (hts (.fieldLink RX2 25 "GateHallsModel" "paid" "[I") (by decide +kernel)) rfl dX2_pass_164 ?_
          refine lv_iload_n hx hb dX2_pass_167 rfl (lv_at hl 1 rfl) ?_
          refine lv_aload_n hx hb dX2_pass_168 rfl (lv_at hl 0 rfl) ?_
          refine mGet (v := .ref (q 6)) hX hin2 hK hI 6 (by decide) (hts (.fieldLink RX2 25 "GateHallsModel" "paid" "[I") (by decide +kernel)) rfl dX2_pass_169 ?_
          refine lv_iload_n hx hb dX2_pass_172 rfl (lv_at hl 1 rfl) ?_
          refine mAld (j := i) hX hK hI 6 rfl rfl (by omega) (by decide) dX2_pass_173 ?_
          refine gTop (y := σ3.1 6 (i)) (by simp [uA, uS, upd]) ?_
          refine lv_aload_n hx hb dX2_pass_174 rfl (lv_at hl 0 rfl) ?_
          refine lv_iload_n hx hb dX2_pass_175 rfl (lv_at hl 1 rfl) ?_
          refine gCalli (va_runV (As := [.int (nI i)]) (rest := [.int (σ3.1 6 (i)), .int (nI i), .ref (q 6)]) hX (c_X2_charge l D cI cH h q pf (uS σ3 11 ((σ3.2 11) - (r4))) H.size i (by omega)) (cwV 1 hts gX2_pass_X2_charge rfl rfl rfl (by decide +kernel) ⟨Nat.le_of_ble_eq_true rfl, Nat.le_of_ble_eq_true rfl⟩) ⟨gPre_blind, gRecv hI hK (ci := 2) (q0 := 0) rfl rfl, gPre_ok hI hK hN⟩ rfl rfl hl.1 rfl (lv_room (Nat.le_of_ble_eq_true rfl)) dX2_pass_176 ⟨Nat.zero_le _, Nat.zero_le _⟩) hI hA (fun r5 ur5 H locs hr5 hI => ?_)
          obtain ⟨hr5, rfl⟩ := hr5
          refine lv_iadd hx hb dX2_pass_179 ?_
          refine mAst (j := i) (pf' := pf) (σ' := (uA (uS σ3 11 ((σ3.2 11) - (r4))) 6 (i) ((σ3.1 6 (i)) + (r5)))) hX hK hI 6 rfl rfl (by omega) (by decide) rfl dX2_pass_180 (fun H locs hI => ?_)
          refine lv_iconst (v := 0) hx hb dX2_pass_181 (by decide) ?_
          exact gIret hX hr hlk hI (by rw [zPass, hσ3, zPay, if_neg hG, if_pos (by rw [← hr2]; exact c3), ← hr4]; exact ⟨rfl, by rw [hr5, hr4]; rfl⟩) dX2_pass_182
        · refine lv_bipush (v := 20) hx hb dX2_pass_146 (by decide) ?_
          exact gIret hX hr hlk hI (by rw [zPass, hσ3, zPay, if_neg hG, if_neg (by rw [← hr2]; exact c3)]; exact ⟨rfl, rfl⟩) dX2_pass_148
      refine lv_aload_n hx hb dX2_pass_110 rfl (lv_at hl 0 rfl) ?_
      refine mGet (v := .ref (q 1)) hX hin2 hK hI 1 (by decide) (hts (.fieldLink RX2 7 "GateHallsModel" "kinds" "[I") (by decide +kernel)) rfl dX2_pass_111 ?_
      refine lv_iload_n hx hb dX2_pass_114 rfl (lv_at hl 1 rfl) ?_
      refine mAld (j := i) hX hK hI 1 rfl rfl (by omega) (by decide) dX2_pass_115 ?_
      refine lv_iconst (v := 2) hx hb dX2_pass_116 (by decide) ?_
      refine lv_icmp_ne (tgt := 134) hx hb dX2_pass_117 (by decide) (fun c6 => ?_) (fun c6 => ?_)
      · exact key3 (fun z => c6 z.1)
      · refine lv_aload_n hx hb dX2_pass_120 rfl (lv_at hl 0 rfl) ?_
        refine mGet (v := .ref (q 4)) hX hin2 hK hI 4 (by decide) (hts (.fieldLink RX2 19 "GateHallsModel" "passes" "[I") (by decide +kernel)) rfl dX2_pass_121 ?_
        refine lv_iload_n hx hb dX2_pass_124 rfl (lv_at hl 1 rfl) ?_
        refine mAld (j := i) hX hK hI 4 rfl rfl (by omega) (by decide) dX2_pass_125 ?_
        refine lv_iconst (v := 3) hx hb dX2_pass_126 (by decide) ?_
        refine lv_irem hx hb dX2_pass_127 (by decide) ?_
        refine lv_if_ne (tgt := 134) hx hb dX2_pass_128 (by decide) (fun c7 => ?_) (fun c7 => ?_)
        · exact key3 (fun z => c7 z.2)
        · refine lv_bipush (v := 21) hx hb dX2_pass_131 (by decide) ?_
          exact gIret hX hr hlk hI (by rw [zPass, hσ3, zPay, if_pos ⟨c6, c7⟩]; exact ⟨rfl, rfl⟩) dX2_pass_133
    refine lv_icmp_le (tgt := 103) hx hb dX2_pass_93 (by decide) (fun c8 => ?_) (fun c8 => ?_)
    · refine lv_aload_n hx hb dX2_pass_103 rfl (lv_at hl 0 rfl) ?_
      refine mGet (v := .int (σ2.2 16)) hX hin2 hK hI 16 (by decide) (hts (.fieldLink RX2 71 "GateHallsModel" "deepest" "I") (by decide +kernel)) rfl dX2_pass_104 ?_
      exact key2 _ (by rw [if_pos c8])
    · refine lv_aload_n hx hb dX2_pass_96 rfl (lv_at hl 0 rfl) ?_
      refine mGet (v := .int ((σ2.2 17) + (1))) hX hin2 hK hI 17 (by decide) (hts (.fieldLink RX2 68 "GateHallsModel" "within" "I") (by decide +kernel)) rfl dX2_pass_97 ?_
      refine lv_goto (tgt := 107) hx hb dX2_pass_100 (by decide) ?_
      exact key2 _ (by rw [if_neg c8])
  refine lv_icmp_le (tgt := 49) hx hb dX2_pass_37 (by decide) (fun c9 => ?_) (fun c9 => ?_)
  · refine lv_aload_n hx hb dX2_pass_49 rfl (lv_at hl 0 rfl) ?_
    refine mGet (v := .ref (q 8)) hX hin2 hK hI 8 (by decide) (hts (.fieldLink RX2 31 "GateHallsModel" "mosts" "[I") (by decide +kernel)) rfl dX2_pass_50 ?_
    refine lv_iload_n hx hb dX2_pass_53 rfl (lv_at hl 1 rfl) ?_
    refine mAld (j := i) hX hK hI 8 rfl rfl (by omega) (by decide) dX2_pass_54 ?_
    refine gTop (y := σ.1 8 (i)) (by simp [uA, uS, upd]) ?_
    exact key1 _ (by rw [if_pos c9])
  · refine lv_aload_n hx hb dX2_pass_40 rfl (lv_at hl 0 rfl) ?_
    refine mGet (v := .ref (q 7)) hX hin2 hK hI 7 (by decide) (hts (.fieldLink RX2 28 "GateHallsModel" "inside" "[I") (by decide +kernel)) rfl dX2_pass_41 ?_
    refine lv_iload_n hx hb dX2_pass_44 rfl (lv_at hl 1 rfl) ?_
    refine mAld (j := i) hX hK hI 7 rfl rfl (by omega) (by decide) dX2_pass_45 ?_
    refine gTop (y := (σ.1 7 (i)) + (1)) (by simp [uA, uS, upd]) ?_
    refine lv_goto (tgt := 55) hx hb dX2_pass_46 (by decide) ?_
    exact key1 _ (by rw [if_neg c9])
theorem g_nle2 {a b : Nat} (h : b < a) (hb : a < 2 ^ 31) : ¬ nI a ≤ nI b := nI_ge h hb
theorem gI_dec {n w : Nat} {σ : gh_S} (hg : gI n (w + 1) σ) : gI n w (uS σ 17 (σ.2 17 - 1)) := by
  obtain ⟨a1, a2, a3, a4, a5, a6, a7, a8, a9⟩ := hg
  exact ⟨a1, by rw [uS_eq, a2]; exact nI_pred w, a3, a4, a5, fun j hj => a6 j (by omega), a7, by omega, a9⟩
set_option maxRecDepth 100000 in
theorem iX2_leaveTo_2 : ∀ w ∈ wsX20, w ∈ wsX2_leaveTo := by decide +kernel
set_option maxHeartbeats 4000000 in
set_option maxRecDepth 100000 in
theorem c_X2_leaveTo (l : Launch) (D : va_G) (cI cH : ClassId) (h : Nat) (q : Nat → Nat) (pf : Nat → Int32) (σ : gh_S) (sz : Nat) (d n w : Nat) (hd : d ≤ w) (hg : gI n w σ) : gMv l yX2_leaveTo wsX2_leaveTo ({ frames := 1, cells := 0, slots := 0, locals := 21 }) D (wM h q cI pf σ) (gTy cI cH) sz [.ref h, .int (nI d)] (fun u => u = wM h q cI pf (zPops σ (w - d))) := by
  refine gEnter (cc := cX2_leaveTo) (maxL := 2) (ret := none) (QF := fun A => va_Qv _ (gPost D A) A) (by decide) rfl (Nat.le_of_ble_eq_true rfl) ?_
  intro p e s m below meth c A ls hX hr hlk hnm hK hN hA hI hl
  have hx := hX.1
  have hb := hX.2.1
  have hts := hX.2.2.2.2
  have hown : s.vm.findClass RX2 = some m.cls := hX.2.2.2.1
  have hin2 := iX2_leaveTo_2
  have hl : lv_has ls 2 [(0, .ref h), (1, .int (nI d))] := hl
  obtain ⟨hn, hw, ⟨t, ht, htE⟩, hpl, hpar, hrow, hn4, hw30, hz⟩ := id hg
  have loop : ∀ (k : Nat) (τ : gh_S) (H : Heap) (locs : List Loc) (ls : Array Slot), gI n (d + k) τ → zPops τ k = zPops σ (w - d) → InW D A s.heap (wM h q cI pf τ) H locs → lv_has ls 2 [(0, .ref h), (1, .int (nI d))] → W p l e ({ frames := 1, cells := 0, slots := 0, locals := 21 }) s m ([.ref h, .int (nI d)] : List Value).toArray below meth c H locs 0 0 (MQ below (va_Qv (fun u => u = wM h q cI pf (zPops σ (w - d))) (gPost D A) A) ([.ref h, .int (nI d)] : List Value).toArray s 0 0 A) (F0 m 0 ls []) := by
    intro k
    induction k with
    | zero =>
      intro τ H locs ls hgT hE hI hl
      refine lv_aload_n hx hb dX2_leaveTo_0 rfl (lv_at hl 0 rfl) ?_
      refine mGet (v := .int (τ.2 17)) hX hin2 hK hI 17 (by decide) (hts (.fieldLink RX2 68 "GateHallsModel" "within" "I") (by decide +kernel)) rfl dX2_leaveTo_1 ?_
      refine lv_iload_n hx hb dX2_leaveTo_4 rfl (lv_at hl 1 rfl) ?_
      refine lv_icmp_le (tgt := 58) hx hb dX2_leaveTo_5 (by decide) (fun c1 => ?_) (fun c1 => absurd (by rw [hgT.2.1]; exact nI_le (Nat.le_refl _) (by omega)) c1)
      exact gVret hX hr hlk hI (by rw [← hE]; rfl) dX2_leaveTo_58
    | succ k ih =>
      intro τ H locs ls hgT hE hI hl
      have hT30 := hgT.2.2.2.2.2.2.2.1
      obtain ⟨i, hi, hiE⟩ := hgT.2.2.2.2.2.1 (d + k) (by omega)
      have hp := gI_pop (w := d + k) hgT
      have e1 : τ.2 17 - 1 = nI (d + k) := by rw [hgT.2.1]; exact nI_pred _
      refine lv_aload_n hx hb dX2_leaveTo_0 rfl (lv_at hl 0 rfl) ?_
      refine mGet (v := .int (τ.2 17)) hX hin2 hK hI 17 (by decide) (hts (.fieldLink RX2 68 "GateHallsModel" "within" "I") (by decide +kernel)) rfl dX2_leaveTo_1 ?_
      refine lv_iload_n hx hb dX2_leaveTo_4 rfl (lv_at hl 1 rfl) ?_
      refine lv_icmp_le (tgt := 58) hx hb dX2_leaveTo_5 (by decide) (fun c2 => absurd c2 (by rw [hgT.2.1]; exact nI_ge (by omega) (by omega))) (fun c2 => ?_)
      refine lv_aload_n hx hb dX2_leaveTo_8 rfl (lv_at hl 0 rfl) ?_
      refine lv_dup hx hb dX2_leaveTo_9 rfl ?_
      refine mGet (v := .int (τ.2 17)) hX hin2 hK hI 17 (by decide) (hts (.fieldLink RX2 68 "GateHallsModel" "within" "I") (by decide +kernel)) rfl dX2_leaveTo_10 ?_
      refine lv_iconst (v := 1) hx hb dX2_leaveTo_13 (by decide) ?_
      refine lv_isub hx hb dX2_leaveTo_14 ?_
      refine mPut hX hin2 hK hI 17 (by decide) (hts (.fieldLink RX2 68 "GateHallsModel" "within" "I") (by decide +kernel)) rfl rfl rfl dX2_leaveTo_15 (fun H locs hI => ?_)
      refine lv_aload_n hx hb dX2_leaveTo_18 rfl (lv_at hl 0 rfl) ?_
      refine mGet (v := .ref (q 7)) hX hin2 hK hI 7 (by decide) (hts (.fieldLink RX2 28 "GateHallsModel" "inside" "[I") (by decide +kernel)) rfl dX2_leaveTo_19 ?_
      refine lv_aload_n hx hb dX2_leaveTo_22 rfl (lv_at hl 0 rfl) ?_
      refine mGet (v := .ref (q 18)) hX hin2 hK hI 18 (by decide) (hts (.fieldLink RX2 43 "GateHallsModel" "row" "[I") (by decide +kernel)) rfl dX2_leaveTo_23 ?_
      refine lv_aload_n hx hb dX2_leaveTo_26 rfl (lv_at hl 0 rfl) ?_
      refine mGet (v := .int ((τ.2 17) - (1))) hX hin2 hK hI 17 (by decide) (hts (.fieldLink RX2 68 "GateHallsModel" "within" "I") (by decide +kernel)) rfl dX2_leaveTo_27 ?_
      refine mAld (j := d + k) hX hK hI 12 rfl e1 (by omega) (by decide) dX2_leaveTo_30 ?_
      refine gTop (y := τ.1 18 (d + k)) (by simp [uA, uS, upd]) ?_
      refine lv_dup2_11 hx hb dX2_leaveTo_31 rfl rfl ?_
      refine mAld (j := i) hX hK hI 7 rfl hiE (by omega) (by decide) dX2_leaveTo_32 ?_
      refine gTop (y := τ.1 7 (i)) (by simp [uA, uS, upd]) ?_
      refine lv_iconst (v := 1) hx hb dX2_leaveTo_33 (by decide) ?_
      refine lv_isub hx hb dX2_leaveTo_34 ?_
      refine mAst (j := i) (pf' := pf) (σ' := (uA (uS τ 17 ((τ.2 17) - (1))) 7 (i) ((τ.1 7 (i)) - (1)))) hX hK hI 7 rfl hiE (by omega) (by decide) rfl dX2_leaveTo_35 (fun H locs hI => ?_)
      refine lv_aload_n hx hb dX2_leaveTo_36 rfl (lv_at hl 0 rfl) ?_
      refine lv_bipush (v := 100) hx hb dX2_leaveTo_37 (by decide) ?_
      refine lv_aload_n hx hb dX2_leaveTo_39 rfl (lv_at hl 0 rfl) ?_
      refine mGet (v := .ref (q 18)) hX hin2 hK hI 18 (by decide) (hts (.fieldLink RX2 43 "GateHallsModel" "row" "[I") (by decide +kernel)) rfl dX2_leaveTo_40 ?_
      refine lv_aload_n hx hb dX2_leaveTo_43 rfl (lv_at hl 0 rfl) ?_
      refine mGet (v := .int ((τ.2 17) - (1))) hX hin2 hK hI 17 (by decide) (hts (.fieldLink RX2 68 "GateHallsModel" "within" "I") (by decide +kernel)) rfl dX2_leaveTo_44 ?_
      refine mAld (j := d + k) hX hK hI 12 rfl e1 (by omega) (by decide) dX2_leaveTo_47 ?_
      refine gTop (y := τ.1 18 (d + k)) (by simp [uA, uS, upd]) ?_
      refine lv_bipush (v := 100) hx hb dX2_leaveTo_48 (by decide) ?_
      refine lv_irem hx hb dX2_leaveTo_50 (by decide) ?_
      refine lv_iadd hx hb dX2_leaveTo_51 ?_
      refine gCallv (va_runV (As := [.int ((100) + ((τ.1 18 (d + k)) - (τ.1 18 (d + k)) / (100) * (100)))]) (rest := []) hX (c_X2_leave l D cI cH h q pf (uA (uS τ 17 ((τ.2 17) - (1))) 7 (i) ((τ.1 7 (i)) - (1))) H.size ((100) + ((τ.1 18 (d + k)) - (τ.1 18 (d + k)) / (100) * (100))) n (d + k) (gI_uH 7 i _ hi (by decide) (gI_dec hgT))) (cwV 1 hts gX2_leaveTo_X2_leave rfl rfl rfl (by decide +kernel) ⟨Nat.le_of_ble_eq_true rfl, Nat.le_of_ble_eq_true rfl⟩) ⟨gPre_blind, gRecv hI hK (ci := 2) (q0 := 0) rfl rfl, gPre_ok hI hK hN⟩ rfl rfl hl.1 rfl (lv_room (Nat.le_of_ble_eq_true rfl)) dX2_leaveTo_52 ⟨Nat.zero_le _, Nat.zero_le _⟩) hI hA (fun ur3 H locs hr3 hI => ?_)
      subst hr3
      have hI : InW D A s.heap (wM h q cI pf (zPop τ)) H locs := by
        rw [zPop_eq (w := d + k) (i := i) (by omega) (by omega) hgT.2.1 hiE]
        rw [e1, hiE] at hI
        exact hI
      refine lv_goto (tgt := 0) hx hb dX2_leaveTo_55 (by decide) ?_
      exact ih (zPop τ) _ _ ls hp hE hI (lv_sub hl [0, 1] rfl)
  exact loop (w - d) σ _ _ ls (by rw [show d + (w - d) = w by omega]; exact hg) rfl hI (lv_sub hl [0, 1] rfl)
