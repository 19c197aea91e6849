set_option maxRecDepth 100000 in
theorem iX2_goTo_2 : ∀ w ∈ wsX20, w ∈ wsX2_goTo := by decide +kernel
set_option maxHeartbeats 4000000 in
set_option maxRecDepth 100000 in
theorem c_X2_goTo (l : Launch) (D : va_G) (cI cH : ClassId) (h : Nat) (q : Nat → Nat) (pf : Nat → Int32) (σ : gh_S) (sz : Nat) (p0 n w : Nat) (hp : p0 < 10) (hw10 : w + 10 ≤ 30) (hg : gI n w σ) : gMi l yX2_goTo wsX2_goTo ({ frames := 2, cells := 0, slots := 0, locals := 42 }) D (wM h q cI pf σ) (gTy cI cH) sz [.ref h, .int (nI p0)] (fun r u => ∃ pf' : Nat → Int32, r = (zGo σ (nI p0)).1 ∧ u = wM h q cI pf' (zGo σ (nI p0)).2) := by
  refine gEnter (cc := cX2_goTo) (maxL := 7) (ret := (some .int)) (QF := fun A => va_Qi _ (gPost D A) A) (by decide) rfl (Nat.le_of_ble_eq_true rfl) ?_
  intro p e s m below meth c A ls hX hr hlk hnm hK hN hA hI hl
  have hx := hX.1
  have hb := hX.2.1
  have hts := hX.2.2.2.2
  have hown : s.vm.findClass RX2 = some m.cls := hX.2.2.2.1
  have hin2 := iX2_goTo_2
  have hl : lv_has ls 7 [(0, .ref h), (1, .int (nI p0))] := hl
  refine lv_aload_n hx hb dX2_goTo_0 rfl (lv_at hl 0 rfl) ?_
  refine lv_dup hx hb dX2_goTo_1 rfl ?_
  refine mGet (v := .int (σ.2 15)) hX hin2 hK hI 15 (by decide) (hts (.fieldLink RX2 78 "GateHallsModel" "walks" "I") (by decide +kernel)) rfl dX2_goTo_2 ?_
  refine lv_iconst (v := 1) hx hb dX2_goTo_5 (by decide) ?_
  refine lv_iadd hx hb dX2_goTo_6 ?_
  refine mPut hX hin2 hK hI 15 (by decide) (hts (.fieldLink RX2 78 "GateHallsModel" "walks" "I") (by decide +kernel)) rfl rfl rfl dX2_goTo_7 (fun H locs hI => ?_)
  refine lv_iconst (v := 0) hx hb dX2_goTo_10 (by decide) ?_
  refine lv_istore_n (lv' := [(2, .int (0)), (0, .ref h), (1, .int (nI p0))]) hx hb dX2_goTo_11 rfl hl (by decide) rfl (fun ls hl => ?_)
  refine lv_iload_n hx hb dX2_goTo_12 rfl (lv_at hl 2 rfl) ?_
  refine lv_istore_n (lv' := [(3, .int (nI p0)), (2, .int (0)), (0, .ref h), (1, .int (nI p0))]) hx hb dX2_goTo_13 rfl hl (by decide) rfl (fun ls hl => ?_)
  have hp0 : ∃ j : Nat, j < 10 ∧ nI p0 = nI j := ⟨p0, hp, rfl⟩
  obtain ⟨o, ho⟩ : ∃ o, o = zOrb (σ.1 10) (nI p0) := ⟨_, rfl⟩
  have hoin : ∀ j, o j = -1 ∨ ∃ i : Nat, i < 10 ∧ o j = nI i := by rw [ho]; exact zOrb_in hg hp0
  have hg1 : gI n w (uS σ 15 (σ.2 15 + 1)) := gI_uS 15 _ (by decide) (by decide) (by decide) hg
  have loop2 : ∀ (r w' : Nat) (τ : gh_S) (pf : Nat → Int32) (H : Heap) (locs : List Loc) (ls : Array Slot), r ≤ 10 → w' + r ≤ 30 → gI n w' τ → zDown o r τ = zGo σ (nI p0) → (∀ j, j < r → pf j = o j ∧ o j ≠ -1) → InW D A s.heap (wM h q cI pf τ) H locs → lv_has ls 7 [(0, .ref h), (4, .int ((nI r) - 1))] → W p l e ({ frames := 2, cells := 0, slots := 0, locals := 42 }) s m ([.ref h, .int (nI p0)] : List Value).toArray below meth c H locs 0 0 (MQ below (va_Qi (fun r u => ∃ pf' : Nat → Int32, r = (zGo σ (nI p0)).1 ∧ u = wM h q cI pf' (zGo σ (nI p0)).2) (gPost D A) A) ([.ref h, .int (nI p0)] : List Value).toArray s 0 0 A) (F0 m 73 ls []) := by
    intro r
    induction r with
    | zero =>
      intro w' τ pf H locs ls hr10 hr30 hgT hE hpf hI hl
      refine lv_iload hx hb dX2_goTo_73 (lv_at hl 1 rfl) ?_
      refine lv_if_lt (tgt := 124) hx hb dX2_goTo_75 (by decide) (fun c1 => ?_) (fun c1 => absurd (show (nI 0) - 1 < 0 by decide) c1)
      refine lv_iconst (v := 0) hx hb dX2_goTo_124 (by decide) ?_
      exact gIret hX hr hlk hI ⟨pf, by rw [← hE]; rfl, by rw [← hE]; rfl⟩ dX2_goTo_125
    | succ r ih =>
      intro w' τ pf H locs ls hr10 hr30 hgT hE hpf hI hl
      obtain ⟨hpr, hor⟩ := hpf r (by omega)
      obtain ⟨j, hj, hjE⟩ := (hoin r).resolve_left hor
      have hjC : (o r).toNatClampNeg = j := by rw [hjE]; exact nI_clamp (by omega)
      have hTn := hgT.2.2.2.2.2.2.1
      refine lv_iload hx hb dX2_goTo_73 (lv_at hl 1 rfl) ?_
      refine lv_if_lt (tgt := 124) hx hb dX2_goTo_75 (by decide) (fun c2 => absurd c2 (by rw [nI_pred]; exact nI_pos (by omega))) (fun c2 => ?_)
      refine lv_aload_n hx hb dX2_goTo_78 rfl (lv_at hl 0 rfl) ?_
      refine mGet (v := .ref (q 9)) hX hin2 hK hI 9 (by decide) (hts (.fieldLink RX2 34 "GateHallsModel" "places" "[I") (by decide +kernel)) rfl dX2_goTo_79 ?_
      refine lv_aload_n hx hb dX2_goTo_82 rfl (lv_at hl 0 rfl) ?_
      refine mGet (v := .ref (q 19)) hX hin2 hK hI 19 (by decide) (hts (.fieldLink RX2 46 "GateHallsModel" "path" "[I") (by decide +kernel)) rfl dX2_goTo_83 ?_
      refine lv_iload hx hb dX2_goTo_86 (lv_at hl 1 rfl) ?_
      refine mAld (j := r) hX hK hI 13 rfl (nI_pred r) (by omega) (by decide) dX2_goTo_88 ?_
      refine mAld (j := j) hX hK hI 9 rfl (hpr.trans hjE) (by omega) (by decide) dX2_goTo_89 ?_
      refine lv_istore (lv' := [(5, .int (τ.1 9 (j))), (0, .ref h), (4, .int (nI (r + 1) - 1))]) hx hb dX2_goTo_90 hl (by decide) rfl (fun ls hl => ?_)
      refine lv_iload hx hb dX2_goTo_92 (lv_at hl 0 rfl) ?_
      refine lv_iconst (v := (-1)) hx hb dX2_goTo_94 (by decide) ?_
      refine lv_icmp_ne (tgt := 102) hx hb dX2_goTo_95 (by decide) (fun c3 => ?_) (fun c3 => ?_)
      · obtain ⟨i, hi, hiE⟩ := (hgT.2.2.2.1 j hj).resolve_left c3
        have hiC : (τ.1 9 j).toNatClampNeg = i := by rw [hiE]; exact nI_clamp (by omega)
        refine lv_aload_n hx hb dX2_goTo_102 rfl (lv_at hl 1 rfl) ?_
        refine lv_iload hx hb dX2_goTo_103 (lv_at hl 0 rfl) ?_
        refine gTop (y := nI i) hiE ?_
        refine gCalli (va_runV (As := [.int (nI i)]) (rest := []) hX (c_X2_pass l D cI cH h q pf τ H.size i n w' hi hgT) (cwV 1 hts gX2_goTo_X2_pass rfl rfl rfl (by decide +kernel) ⟨Nat.le_of_ble_eq_true rfl, Nat.le_of_ble_eq_true rfl⟩) ⟨gPre_blind, gRecv hI hK (ci := 2) (q0 := 0) rfl rfl, gPre_ok hI hK hN⟩ rfl rfl hl.1 rfl (lv_room (Nat.le_of_ble_eq_true rfl)) dX2_goTo_105 ⟨Nat.zero_le _, Nat.zero_le _⟩) hI hA (fun r4 ur4 H locs hr4 hI => ?_)
        obtain ⟨hr4, rfl⟩ := hr4
        refine lv_istore (lv' := [(6, .int (r4)), (5, .int (τ.1 9 (j))), (0, .ref h), (4, .int (nI (r + 1) - 1))]) hx hb dX2_goTo_108 hl (by decide) rfl (fun ls hl => ?_)
        refine lv_iload hx hb dX2_goTo_110 (lv_at hl 0 rfl) ?_
        refine lv_if_eq (tgt := 118) hx hb dX2_goTo_112 (by decide) (fun c5 => ?_) (fun c5 => ?_)
        · obtain ⟨x6, ex6⟩ : ∃ y : Int32, y = nI (r + 1) - 1 + (-1) := ⟨_, rfl⟩
          refine lv_iinc (v := x6) (lv' := [(4, .int (x6)), (6, .int (r4)), (5, .int (τ.1 9 (j))), (0, .ref h)]) hx hb dX2_goTo_118 hl (k := 3) rfl (by rw [ex6]; rfl) (by decide) rfl (fun ls hl => ?_)
          refine lv_goto (tgt := 73) hx hb dX2_goTo_121 (by decide) ?_
          have hX4 : x6 = (nI r) - 1 := by rw [ex6, nI_pred]; exact (Int32.sub_eq_add_neg _ _).symm
          rw [hX4] at hl
          exact ih (w' + 1) _ pf _ _ ls (by omega) (by omega) (gI_pass hi (by omega) hgT) (by rw [← hE, zDown, hjC, if_neg c3, hiC, if_pos (by rw [← hr4]; exact c5)]) (fun k hk => hpf k (by omega)) hI (lv_sub hl [3, 0] rfl)
        · refine lv_iload hx hb dX2_goTo_115 (lv_at hl 0 rfl) ?_
          exact gIret hX hr hlk hI ⟨pf, by rw [← hE, zDown, hjC, if_neg c3, hiC, if_neg (by rw [← hr4]; exact c5)]; exact hr4, by rw [← hE, zDown, hjC, if_neg c3, hiC, if_neg (by rw [← hr4]; exact c5)]⟩ dX2_goTo_117
      · refine lv_iconst (v := 1) hx hb dX2_goTo_98 (by decide) ?_
        refine lv_goto (tgt := 108) hx hb dX2_goTo_99 (by decide) ?_
        refine lv_istore (lv' := [(6, .int (1)), (5, .int (τ.1 9 (j))), (0, .ref h), (4, .int (nI (r + 1) - 1))]) hx hb dX2_goTo_108 hl (by decide) rfl (fun ls hl => ?_)
        refine lv_iload hx hb dX2_goTo_110 (lv_at hl 0 rfl) ?_
        refine lv_if_eq (tgt := 118) hx hb dX2_goTo_112 (by decide) (fun c7 => False.elim (by revert c7; decide)) (fun c7 => ?_)
        refine lv_iload hx hb dX2_goTo_115 (lv_at hl 0 rfl) ?_
        exact gIret hX hr hlk hI ⟨pf, by rw [← hE, zDown, hjC, if_pos c3], by rw [← hE, zDown, hjC, if_pos c3]⟩ dX2_goTo_117
  have loop1 : ∀ (f k : Nat) (pf : Nat → Int32) (H : Heap) (locs : List Loc) (ls : Array Slot), k + f = 11 → (∀ j, j < k → pf j = o j ∧ o j ≠ -1) → (∀ a b, a < k → b < k → a ≠ b → o a ≠ o b) → InW D A s.heap (wM h q cI pf (uS σ 15 (σ.2 15 + 1))) H locs → lv_has ls 7 [(0, .ref h), (2, .int (nI k)), (3, .int (o k))] → W p l e ({ frames := 2, cells := 0, slots := 0, locals := 42 }) s m ([.ref h, .int (nI p0)] : List Value).toArray below meth c H locs 0 0 (MQ below (va_Qi (fun r u => ∃ pf' : Nat → Int32, r = (zGo σ (nI p0)).1 ∧ u = wM h q cI pf' (zGo σ (nI p0)).2) (gPost D A) A) ([.ref h, .int (nI p0)] : List Value).toArray s 0 0 A) (F0 m 14 ls []) := by
    intro f
    induction f with
    | zero =>
      intro k pf H locs ls hk hpf hne hI hl
      have := zOrb_hole (o := o) (m := k) (fun j hj => (hoin j).resolve_left (hpf j hj).2) hne
      omega
    | succ f ih =>
      intro k pf H locs ls hk hpf hne hI hl
      have hk10 := zOrb_hole (o := o) (m := k) (fun j hj => (hoin j).resolve_left (hpf j hj).2) hne
      refine lv_iload_n hx hb dX2_goTo_14 rfl (lv_at hl 2 rfl) ?_
      refine lv_iconst (v := (-1)) hx hb dX2_goTo_15 (by decide) ?_
      refine lv_icmp_eq (tgt := 68) hx hb dX2_goTo_16 (by decide) (fun c8 => ?_) (fun c8 => ?_)
      · refine lv_iload_n hx hb dX2_goTo_68 rfl (lv_at hl 1 rfl) ?_
        refine lv_iconst (v := 1) hx hb dX2_goTo_69 (by decide) ?_
        refine lv_isub hx hb dX2_goTo_70 ?_
        refine lv_istore (lv' := [(4, .int ((nI k) - (1))), (0, .ref h), (2, .int (nI k)), (3, .int (o k))]) hx hb dX2_goTo_71 hl (by decide) rfl (fun ls hl => ?_)
        exact loop2 k w _ pf _ _ ls hk10 (by omega) hg1 (by rw [ho]; exact (zGo_some hk10 (fun j hj => by rw [← ho]; exact (hpf j hj).2) (by rw [← ho]; exact c8)).symm) (fun j hj => hpf j hj) hI (lv_sub hl [1, 0] rfl)
      · refine lv_iconst (v := 0) hx hb dX2_goTo_19 (by decide) ?_
        refine lv_istore (lv' := [(4, .int (0)), (0, .ref h), (2, .int (nI k)), (3, .int (o k))]) hx hb dX2_goTo_20 hl (by decide) rfl (fun ls hl => ?_)
        obtain ⟨j, hj, hjE⟩ := (hoin k).resolve_left c8
        have loop3 : ∀ (mm a : Nat) (ls : Array Slot), a + mm = k → (∀ b, b < a → o b ≠ o k) → lv_has ls 7 [(0, .ref h), (2, .int (nI k)), (3, .int (o k)), (4, .int (nI a))] → W p l e ({ frames := 2, cells := 0, slots := 0, locals := 42 }) s m ([.ref h, .int (nI p0)] : List Value).toArray below meth c H locs 0 0 (MQ below (va_Qi (fun r u => ∃ pf' : Nat → Int32, r = (zGo σ (nI p0)).1 ∧ u = wM h q cI pf' (zGo σ (nI p0)).2) (gPost D A) A) ([.ref h, .int (nI p0)] : List Value).toArray s 0 0 A) (F0 m 22 ls []) := by
          intro mm
          induction mm with
          | zero =>
            intro a ls ha hb3 hl
            have ha : a = k := by omega
            subst ha
            have hk9 := zOrb_hole (o := o) (m := a + 1) (fun b hb4 => by
              by_cases hba : b = a
              · rw [hba]; exact ⟨j, hj, hjE⟩
              · exact (hoin b).resolve_left (hpf b (by omega)).2) (fun x y hx3 hy3 hxy => by
              by_cases h1 : x = a
              · rw [h1]; exact (hb3 y (by omega)).symm
              · by_cases h2 : y = a
                · rw [h2]; exact hb3 x (by omega)
                · exact hne x y (by omega) (by omega) hxy)
            refine lv_iload hx hb dX2_goTo_22 (lv_at hl 3 rfl) ?_
            refine lv_iload_n hx hb dX2_goTo_24 rfl (lv_at hl 1 rfl) ?_
            refine lv_icmp_ge (tgt := 48) hx hb dX2_goTo_25 (by decide) (fun c9 => ?_) (fun c9 => absurd (nI_le (Nat.le_refl _) (by omega)) c9)
            refine lv_aload_n hx hb dX2_goTo_48 rfl (lv_at hl 0 rfl) ?_
            refine mGet (v := .ref (q 19)) hX hin2 hK hI 19 (by decide) (hts (.fieldLink RX2 46 "GateHallsModel" "path" "[I") (by decide +kernel)) rfl dX2_goTo_49 ?_
            refine lv_iload_n hx hb dX2_goTo_52 rfl (lv_at hl 1 rfl) ?_
            refine lv_iload_n hx hb dX2_goTo_53 rfl (lv_at hl 2 rfl) ?_
            refine mAst (j := a) (pf' := (upd pf (a) (o a))) (σ' := (uS σ 15 (σ.2 15 + 1))) hX hK hI 13 rfl rfl (by omega) (by decide) rfl dX2_goTo_54 (fun H locs hI => ?_)
            refine lv_iinc (v := nI (a + 1)) (lv' := [(2, .int (nI (a + 1))), (0, .ref h), (3, .int (o a)), (4, .int (nI a))]) hx hb dX2_goTo_55 hl (k := 1) rfl (nI_1 _) (by decide) rfl (fun ls hl => ?_)
            refine lv_aload_n hx hb dX2_goTo_58 rfl (lv_at hl 1 rfl) ?_
            refine mGet (v := .ref (q 10)) hX hin2 hK hI 10 (by decide) (hts (.fieldLink RX2 37 "GateHallsModel" "parents" "[I") (by decide +kernel)) rfl dX2_goTo_59 ?_
            refine lv_iload_n hx hb dX2_goTo_62 rfl (lv_at hl 2 rfl) ?_
            refine mAld (j := j) hX hK hI 10 rfl hjE (by omega) (by decide) dX2_goTo_63 ?_
            refine gTop (y := σ.1 10 (j)) (by simp [uA, uS, upd]) ?_
            refine lv_istore_n (lv' := [(3, .int (σ.1 10 (j))), (2, .int (nI (a + 1))), (0, .ref h), (4, .int (nI a))]) hx hb dX2_goTo_64 rfl hl (by decide) rfl (fun ls hl => ?_)
            refine lv_goto (tgt := 14) hx hb dX2_goTo_65 (by decide) ?_
            have hs : o (a + 1) = σ.1 10 j := by rw [ho] at hjE ⊢; exact zOrb_succ hjE hj
            rw [← hs] at hl
            exact ih (a + 1) _ _ _ ls (by omega) (fun b hb4 => by
              by_cases hba : b = a
              · subst hba; exact ⟨by simp [upd], c8⟩
              · exact ⟨by simp [upd, hba]; exact (hpf b (by omega)).1, (hpf b (by omega)).2⟩) (fun x y hx3 hy3 hxy => by
              by_cases h1 : x = a
              · rw [h1]; exact (hb3 y (by omega)).symm
              · by_cases h2 : y = a
                · rw [h2]; exact hb3 x (by omega)
                · exact hne x y (by omega) (by omega) hxy) hI (lv_sub hl [2, 1, 0] rfl)
          | succ mm ih3 =>
            intro a ls ha hb3 hl
            refine lv_iload hx hb dX2_goTo_22 (lv_at hl 3 rfl) ?_
            refine lv_iload_n hx hb dX2_goTo_24 rfl (lv_at hl 1 rfl) ?_
            refine lv_icmp_ge (tgt := 48) hx hb dX2_goTo_25 (by decide) (fun c10 => absurd c10 (nI_ge (by omega) (by omega))) (fun c10 => ?_)
            refine lv_aload_n hx hb dX2_goTo_28 rfl (lv_at hl 0 rfl) ?_
            refine mGet (v := .ref (q 19)) hX hin2 hK hI 19 (by decide) (hts (.fieldLink RX2 46 "GateHallsModel" "path" "[I") (by decide +kernel)) rfl dX2_goTo_29 ?_
            refine lv_iload hx hb dX2_goTo_32 (lv_at hl 3 rfl) ?_
            refine mAld (j := a) hX hK hI 13 rfl rfl (by omega) (by decide) dX2_goTo_34 ?_
            refine lv_iload_n hx hb dX2_goTo_35 rfl (lv_at hl 2 rfl) ?_
            refine lv_icmp_ne (tgt := 42) hx hb dX2_goTo_36 (by decide) (fun c11 => ?_) (fun c11 => ?_)
            · refine lv_iinc (v := nI (a + 1)) (lv' := [(4, .int (nI (a + 1))), (0, .ref h), (2, .int (nI k)), (3, .int (o k))]) hx hb dX2_goTo_42 hl (k := 3) rfl (nI_1 _) (by decide) rfl (fun ls hl => ?_)
              refine lv_goto (tgt := 22) hx hb dX2_goTo_45 (by decide) ?_
              exact ih3 (a + 1) ls (by omega) (fun b hb4 => by
                by_cases hba : b = a
                · rw [hba, ← (hpf a (by omega)).1]; exact c11
                · exact hb3 b (by omega)) (lv_sub hl [1, 2, 3, 0] rfl)
            · refine lv_bipush (v := 8) hx hb dX2_goTo_39 (by decide) ?_
              have hoff : ∀ j, zOrb (σ.1 10) (nI p0) j ≠ -1 := by
                rw [← ho]
                have hpa := (hpf a (by omega)).1
                rw [ho] at hpf hpa ⊢
                exact zOrb_on (a := a) (k := k) (by omega) (by rw [← hpa, c11, ho]) (fun j hj => (hpf j hj).2)
              exact gIret hX hr hlk hI ⟨pf, by rw [zGo_none hoff], by rw [zGo_none hoff]⟩ dX2_goTo_41
        exact loop3 k 0 ls (by omega) (fun b hb4 => absurd hb4 (by omega)) (lv_sub hl [1, 2, 3, 0] rfl)
  rw [show nI p0 = o 0 by rw [ho]; rfl] at hl
  exact loop1 11 0 pf _ _ ls (by omega) (fun j hj => absurd hj (by omega)) (fun a b ha => absurd ha (by omega)) hI (lv_sub hl [2, 1, 0] rfl)
