theorem zN_le {n k : Nat} {x y z : Int32} (h : n ≤ k) : zN n x y z ≤ k + 1 := by
  unfold zN
  split <;> omega
set_option maxHeartbeats 40000000 in
set_option maxRecDepth 100000 in
theorem law_loop {p : Program} {l : Launch} {e : Env} {s : State} {m : MethodId} {below : List Frame} {meth : Method} {c : Code} {D : va_G} {cI cH : ClassId} {g h : Nat} {qc qm : Nat → Nat} {b L : Nat} {xs : Nat → Int32} (hL : L ≤ 2048) (C0 : lw_At p s m meth c b L xs) (hK : va_K D vwCl (gTy cI cH) s) (hN : gNw s) :
    ∀ (f k n : Nat) (σ : gh_S) (ad : Nat → Nat) (pc pm : Nat → Int32) (H : Heap) (locs : List Loc) (ls : Array Slot), 4 * k ≤ L → k + f = 513 → n ≤ k → gI n 0 σ → gKd n σ → InW D (fun q : Nat => s.heap.size ≤ q) s.heap (wCn g qc cI cH ad pc n σ ++ wM h qm cI pm σ) H locs → lv_has ls 4 [(0, .ref b), (1, .ref g), (2, .ref h), (3, .int (nI (4 * k)))] → W p l e room_1 s m #[Value.ref b] below meth c H locs (20 + k) (33986 + 9 * k) (lw_Z below #[Value.ref b] s) (F0 m 18 ls []) := by
  obtain ⟨hx, hb, hr, hml, hown0, hts0, hXs, hbl, hlocks, hgv⟩ := C0
  have hA : ∀ q : Nat, s.heap.size ≤ q → (fun q : Nat => s.heap.size ≤ q) q := fun _ h => h
  have hbA : ¬ (fun q : Nat => s.heap.size ≤ q) b := Nat.not_le.mpr hbl
  have hts : ∀ w ∈ wsL_law, w.before #[Value.ref b] s = true := fun w h => hts0 w (wsL_law_in w h)
  have hown : s.vm.findClass RL = some m.cls := hown0
  have hX : CallFix p m c cL_law 4 s #[Value.ref b] wsL_law RL := ⟨hx, hb, hml, hown, hts⟩
  intro f
  induction f with
  | zero =>
    intro k n σ ad pc pm H locs ls h1 h2
    omega
  | succ f ih =>
    intro k n σ ad pc pm H locs ls hkL hkf hnk hg hkd hI hl
    have hL4 : (nI L - 4).toInt = (L : Int) - 4 := pk_sub_toInt (a := L) (b := 4) (by omega) (by omega)
    have hcont : 4 * k + 4 ≤ L → ∀ (n : Nat) (σ : gh_S) (ad : Nat → Nat) (pc pm : Nat → Int32) (H : Heap) (locs : List Loc), n ≤ k + 1 → gI n 0 σ → gKd n σ → InW D (fun q : Nat => s.heap.size ≤ q) s.heap (wCn g qc cI cH ad pc n σ ++ wM h qm cI pm σ) H locs → W p l e room_1 s m #[Value.ref b] below meth c H locs (20 + k + 1) (33986 + 9 * k + 9) (lw_Z below #[Value.ref b] s) (F0 m 418 ls []) := by
      intro hk4 n σ ad pc pm H locs hnk hg hkd hI
      obtain ⟨x1, ex1⟩ : ∃ y : Int32, y = nI (4 * k) + 4 := ⟨_, rfl⟩
      refine lv_iinc (v := x1) (lv' := [(3, .int (x1)), (0, .ref b), (1, .ref g), (2, .ref h)]) hx hb dL_law_418 hl (k := 3) rfl (by rw [ex1]; rfl) (by decide) rfl (fun ls hl => ?_)
      refine lv_goto (tgt := 18) hx hb dL_law_421 (by decide) ?_
      have hx4 : x1 = nI (4 * (k + 1)) := by rw [ex1, show (4 : Int32) = nI 4 from rfl, nI_add]; rfl
      rw [hx4] at hl
      exact ih (k + 1) n σ ad pc pm H locs ls (by omega) (by omega) hnk hg hkd hI (lv_sub hl [1, 2, 3, 0] rfl)
    refine lv_iload_n hx hb dL_law_18 rfl (lv_at hl 3 rfl) ?_
    refine lv_aload_n hx hb dL_law_19 rfl (lv_at hl 0 rfl) ?_
    refine va_slen hx hb hXs hbl hbA hI.2.2 dL_law_20 ?_
    refine lv_iconst (v := 4) hx hb dL_law_21 (by decide) ?_
    refine lv_isub hx hb dL_law_22 ?_
    refine lv_icmp_gt (tgt := 424) hx hb dL_law_23 (by decide) (fun c0 => ?_) (fun c0 => ?_)
    · refine lv_iconst (v := 1) hx hb dL_law_424 (by decide) ?_
      refine va_forget (fun q hq => hI.2.2.2.2 q hq) ?_
      refine W.widen (k := 600000) (n := 7302250) (by omega) (by omega) ?_
      exact lw_ret hx hb hr hlocks dL_law_425
    · have hk4 : 4 * k + 4 ≤ L := by
        rw [Int32.lt_iff_toInt_lt, nI_toInt (by omega)] at c0
        have c1 : ¬ (nI L - 4).toInt < ((4 * k : Nat) : Int) := c0
        rw [hL4] at c1
        omega
      refine lv_aload_n hx hb dL_law_26 rfl (lv_at hl 0 rfl) ?_
      refine lv_iload_n hx hb dL_law_27 rfl (lv_at hl 3 rfl) ?_
      refine gSld (j := 4 * k) hX hXs hbl hbA hI rfl (by omega) (by omega) dL_law_28 ?_
      refine lv_bipush (v := 15) hx hb dL_law_29 (by decide) ?_
      refine lv_iand hx hb dL_law_31 ?_
      obtain ⟨t, ht, htE⟩ : ∃ t : Nat, t < 2 ^ 4 ∧ xs (4 * k) &&& 15 = nI t := pk_andE (xs (4 * k)) (m := 15) 4 (by decide)
      rcases (show t = 0 ∨ t = 1 ∨ t = 2 ∨ t = 3 ∨ t = 4 ∨ t = 5 ∨ t = 6 ∨ t = 7 ∨ t = 8 ∨ t = 9 ∨ 10 ≤ t by omega) with rfl | rfl | rfl | rfl | rfl | rfl | rfl | rfl | rfl | rfl | ht10
      · refine gTop (y := nI 0) htE ?_
        refine lv_tableIn (tgt := 88) (off := 56) hx hb dL_law_32 (by decide) (by decide) (by decide) (by decide) ?_
        refine lv_aload_n hx hb dL_law_88 rfl (lv_at hl 1 rfl) ?_
        refine lv_aload_n hx hb dL_law_89 rfl (lv_at hl 0 rfl) ?_
        refine lv_iload_n hx hb dL_law_90 rfl (lv_at hl 3 rfl) ?_
        refine lv_iconst (v := 1) hx hb dL_law_91 (by decide) ?_
        refine lv_iadd hx hb dL_law_92 ?_
        refine gSld (j := 4 * k + 1) hX hXs hbl hbA hI (nI_add (4 * k) 1) (by omega) (by omega) dL_law_93 ?_
        refine lv_aload_n hx hb dL_law_94 rfl (lv_at hl 0 rfl) ?_
        refine lv_iload_n hx hb dL_law_95 rfl (lv_at hl 3 rfl) ?_
        refine lv_iconst (v := 2) hx hb dL_law_96 (by decide) ?_
        refine lv_iadd hx hb dL_law_97 ?_
        refine gSld (j := 4 * k + 2) hX hXs hbl hbA hI (nI_add (4 * k) 2) (by omega) (by omega) dL_law_98 ?_
        refine lv_aload_n hx hb dL_law_99 rfl (lv_at hl 0 rfl) ?_
        refine lv_iload_n hx hb dL_law_100 rfl (lv_at hl 3 rfl) ?_
        refine lv_iconst (v := 3) hx hb dL_law_101 (by decide) ?_
        refine lv_iadd hx hb dL_law_102 ?_
        refine gSld (j := 4 * k + 3) hX hXs hbl hbA hI (nI_add (4 * k) 3) (by omega) (by omega) dL_law_103 ?_
        refine gCallL (va_runV (As := [.int (xs (4 * k + 1)), .int (xs (4 * k + 2)), .int (xs (4 * k + 3))]) (rest := []) hX (c_X1_hall l D cI cH g qc ad pc n σ H.size (xs (4 * k + 1)) (xs (4 * k + 2)) (xs (4 * k + 3)) 0 hg) (cwV 3 hts gL_law_X1_hall rfl rfl rfl (by decide +kernel) ⟨by show _ ≤ 2048; exact Nat.le_of_ble_eq_true rfl, by show _ ≤ 84000; exact Nat.le_of_ble_eq_true rfl⟩) ⟨gPre_blind, gRecv (InW_left hI) hK (ci := 1) (q0 := 0) rfl rfl, gPre_ok (InW_left hI) hK hN⟩ rfl rfl hl.1 rfl (lv_room (Nat.le_of_ble_eq_true rfl)) dL_law_104 ⟨by show _ ≤ 600000; omega, by show _ ≤ 7302250; omega⟩) hI hA (fun r1 u H locs hr1 hI => ?_)
        obtain ⟨ad', hr1, rfl⟩ := hr1
        refine lv_aload_n hx hb dL_law_107 rfl (lv_at hl 2 rfl) ?_
        refine lv_aload_n hx hb dL_law_108 rfl (lv_at hl 0 rfl) ?_
        refine lv_iload_n hx hb dL_law_109 rfl (lv_at hl 3 rfl) ?_
        refine lv_iconst (v := 1) hx hb dL_law_110 (by decide) ?_
        refine lv_iadd hx hb dL_law_111 ?_
        refine gSld (j := 4 * k + 1) hX hXs hbl hbA hI (nI_add (4 * k) 1) (by omega) (by omega) dL_law_112 ?_
        refine lv_aload_n hx hb dL_law_113 rfl (lv_at hl 0 rfl) ?_
        refine lv_iload_n hx hb dL_law_114 rfl (lv_at hl 3 rfl) ?_
        refine lv_iconst (v := 2) hx hb dL_law_115 (by decide) ?_
        refine lv_iadd hx hb dL_law_116 ?_
        refine gSld (j := 4 * k + 2) hX hXs hbl hbA hI (nI_add (4 * k) 2) (by omega) (by omega) dL_law_117 ?_
        refine lv_aload_n hx hb dL_law_118 rfl (lv_at hl 0 rfl) ?_
        refine lv_iload_n hx hb dL_law_119 rfl (lv_at hl 3 rfl) ?_
        refine lv_iconst (v := 3) hx hb dL_law_120 (by decide) ?_
        refine lv_iadd hx hb dL_law_121 ?_
        refine gSld (j := 4 * k + 3) hX hXs hbl hbA hI (nI_add (4 * k) 3) (by omega) (by omega) dL_law_122 ?_
        refine gCallR (va_runV (As := [.int (xs (4 * k + 1)), .int (xs (4 * k + 2)), .int (xs (4 * k + 3))]) (rest := [.int (r1)]) hX (c_X2_hall l D cI cH h qm pm σ H.size (xs (4 * k + 1)) (xs (4 * k + 2)) (xs (4 * k + 3)) n 0 hg) (cwV 3 hts gL_law_X2_hall rfl rfl rfl (by decide +kernel) ⟨by show _ ≤ 2048; exact Nat.le_of_ble_eq_true rfl, by show _ ≤ 84000; exact Nat.le_of_ble_eq_true rfl⟩) ⟨gPre_blind, gRecv (InW_right hI) hK (ci := 2) (q0 := 0) rfl rfl, gPre_ok (InW_right hI) hK hN⟩ rfl rfl hl.1 rfl (lv_room (Nat.le_of_ble_eq_true rfl)) dL_law_123 ⟨by show _ ≤ 600000; omega, by show _ ≤ 7302250; omega⟩) hI hA (fun r2 u H locs hr2 hI => ?_)
        obtain ⟨hr2, rfl⟩ := hr2
        refine lv_icmp_eq (tgt := 418) hx hb dL_law_126 (by decide) (fun c1 => ?_) (fun c1 => absurd (hr1.trans hr2.symm) c1)
        exact hcont hk4 (zN n (xs (4 * k + 1)) (xs (4 * k + 2)) (xs (4 * k + 3))) (sHall σ (xs (4 * k + 1)) (xs (4 * k + 2)) (xs (4 * k + 3))).2 ad' pc pm H locs (zN_le hnk) (gI_sHall (by omega) hg) (gKd_sHall hg hkd) hI
      · refine gTop (y := nI 1) htE ?_
        refine lv_tableIn (tgt := 131) (off := 99) hx hb dL_law_32 (by decide) (by decide) (by decide) (by decide) ?_
        refine lv_aload_n hx hb dL_law_131 rfl (lv_at hl 1 rfl) ?_
        refine lv_aload_n hx hb dL_law_132 rfl (lv_at hl 0 rfl) ?_
        refine lv_iload_n hx hb dL_law_133 rfl (lv_at hl 3 rfl) ?_
        refine lv_iconst (v := 1) hx hb dL_law_134 (by decide) ?_
        refine lv_iadd hx hb dL_law_135 ?_
        refine gSld (j := 4 * k + 1) hX hXs hbl hbA hI (nI_add (4 * k) 1) (by omega) (by omega) dL_law_136 ?_
        refine lv_aload_n hx hb dL_law_137 rfl (lv_at hl 0 rfl) ?_
        refine lv_iload_n hx hb dL_law_138 rfl (lv_at hl 3 rfl) ?_
        refine lv_iconst (v := 2) hx hb dL_law_139 (by decide) ?_
        refine lv_iadd hx hb dL_law_140 ?_
        refine gSld (j := 4 * k + 2) hX hXs hbl hbA hI (nI_add (4 * k) 2) (by omega) (by omega) dL_law_141 ?_
        refine gCallL (va_runV (As := [.int (xs (4 * k + 1)), .int (xs (4 * k + 2))]) (rest := []) hX (c_X1_share l D cI cH g qc ad pc n σ H.size (xs (4 * k + 1)) (xs (4 * k + 2)) 0 hg) (cwV 2 hts gL_law_X1_share rfl rfl rfl (by decide +kernel) ⟨by show _ ≤ 2048; exact Nat.le_of_ble_eq_true rfl, by show _ ≤ 84000; exact Nat.le_of_ble_eq_true rfl⟩) ⟨gPre_blind, gRecv (InW_left hI) hK (ci := 1) (q0 := 0) rfl rfl, gPre_ok (InW_left hI) hK hN⟩ rfl rfl hl.1 rfl (lv_room (Nat.le_of_ble_eq_true rfl)) dL_law_142 ⟨by show _ ≤ 600000; omega, by show _ ≤ 7302250; omega⟩) hI hA (fun r1 u H locs hr1 hI => ?_)
        obtain ⟨hr1, rfl⟩ := hr1
        refine lv_aload_n hx hb dL_law_145 rfl (lv_at hl 2 rfl) ?_
        refine lv_aload_n hx hb dL_law_146 rfl (lv_at hl 0 rfl) ?_
        refine lv_iload_n hx hb dL_law_147 rfl (lv_at hl 3 rfl) ?_
        refine lv_iconst (v := 1) hx hb dL_law_148 (by decide) ?_
        refine lv_iadd hx hb dL_law_149 ?_
        refine gSld (j := 4 * k + 1) hX hXs hbl hbA hI (nI_add (4 * k) 1) (by omega) (by omega) dL_law_150 ?_
        refine lv_aload_n hx hb dL_law_151 rfl (lv_at hl 0 rfl) ?_
        refine lv_iload_n hx hb dL_law_152 rfl (lv_at hl 3 rfl) ?_
        refine lv_iconst (v := 2) hx hb dL_law_153 (by decide) ?_
        refine lv_iadd hx hb dL_law_154 ?_
        refine gSld (j := 4 * k + 2) hX hXs hbl hbA hI (nI_add (4 * k) 2) (by omega) (by omega) dL_law_155 ?_
        refine gCallR (va_runV (As := [.int (xs (4 * k + 1)), .int (xs (4 * k + 2))]) (rest := [.int (r1)]) hX (c_X2_share l D cI cH h qm pm σ H.size (xs (4 * k + 1)) (xs (4 * k + 2))) (cwV 2 hts gL_law_X2_share rfl rfl rfl (by decide +kernel) ⟨by show _ ≤ 2048; exact Nat.le_of_ble_eq_true rfl, by show _ ≤ 84000; exact Nat.le_of_ble_eq_true rfl⟩) ⟨gPre_blind, gRecv (InW_right hI) hK (ci := 2) (q0 := 0) rfl rfl, gPre_ok (InW_right hI) hK hN⟩ rfl rfl hl.1 rfl (lv_room (Nat.le_of_ble_eq_true rfl)) dL_law_156 ⟨by show _ ≤ 600000; omega, by show _ ≤ 7302250; omega⟩) hI hA (fun r2 u H locs hr2 hI => ?_)
        obtain ⟨hr2, rfl⟩ := hr2
        refine lv_icmp_eq (tgt := 418) hx hb dL_law_159 (by decide) (fun c1 => ?_) (fun c1 => absurd (hr1.trans hr2.symm) c1)
        refine W.widen (k := 20 + k + 1) (n := 33986 + 9 * k + 9) (by omega) (by omega) ?_
        exact hcont hk4 n (sShare σ (xs (4 * k + 1)) (xs (4 * k + 2))).2 ad pc pm H locs (by omega) (gI_sShare hg) (gKd_of k_share hkd) hI
      · refine gTop (y := nI 2) htE ?_
        refine lv_tableIn (tgt := 164) (off := 132) hx hb dL_law_32 (by decide) (by decide) (by decide) (by decide) ?_
        refine lv_aload_n hx hb dL_law_164 rfl (lv_at hl 1 rfl) ?_
        refine lv_aload_n hx hb dL_law_165 rfl (lv_at hl 0 rfl) ?_
        refine lv_iload_n hx hb dL_law_166 rfl (lv_at hl 3 rfl) ?_
        refine lv_iconst (v := 1) hx hb dL_law_167 (by decide) ?_
        refine lv_iadd hx hb dL_law_168 ?_
        refine gSld (j := 4 * k + 1) hX hXs hbl hbA hI (nI_add (4 * k) 1) (by omega) (by omega) dL_law_169 ?_
        refine lv_aload_n hx hb dL_law_170 rfl (lv_at hl 0 rfl) ?_
        refine lv_iload_n hx hb dL_law_171 rfl (lv_at hl 3 rfl) ?_
        refine lv_iconst (v := 2) hx hb dL_law_172 (by decide) ?_
        refine lv_iadd hx hb dL_law_173 ?_
        refine gSld (j := 4 * k + 2) hX hXs hbl hbA hI (nI_add (4 * k) 2) (by omega) (by omega) dL_law_174 ?_
        refine gCallL (va_runV (As := [.int (xs (4 * k + 1)), .int (xs (4 * k + 2))]) (rest := []) hX (c_X1_parent l D cI cH g qc ad pc n σ H.size (xs (4 * k + 1)) (xs (4 * k + 2))) (cwV 2 hts gL_law_X1_parent rfl rfl rfl (by decide +kernel) ⟨by show _ ≤ 2048; exact Nat.le_of_ble_eq_true rfl, by show _ ≤ 84000; exact Nat.le_of_ble_eq_true rfl⟩) ⟨gPre_blind, gRecv (InW_left hI) hK (ci := 1) (q0 := 0) rfl rfl, gPre_ok (InW_left hI) hK hN⟩ rfl rfl hl.1 rfl (lv_room (Nat.le_of_ble_eq_true rfl)) dL_law_175 ⟨by show _ ≤ 600000; omega, by show _ ≤ 7302250; omega⟩) hI hA (fun r1 u H locs hr1 hI => ?_)
        obtain ⟨hr1, rfl⟩ := hr1
        refine lv_aload_n hx hb dL_law_178 rfl (lv_at hl 2 rfl) ?_
        refine lv_aload_n hx hb dL_law_179 rfl (lv_at hl 0 rfl) ?_
        refine lv_iload_n hx hb dL_law_180 rfl (lv_at hl 3 rfl) ?_
        refine lv_iconst (v := 1) hx hb dL_law_181 (by decide) ?_
        refine lv_iadd hx hb dL_law_182 ?_
        refine gSld (j := 4 * k + 1) hX hXs hbl hbA hI (nI_add (4 * k) 1) (by omega) (by omega) dL_law_183 ?_
        refine lv_aload_n hx hb dL_law_184 rfl (lv_at hl 0 rfl) ?_
        refine lv_iload_n hx hb dL_law_185 rfl (lv_at hl 3 rfl) ?_
        refine lv_iconst (v := 2) hx hb dL_law_186 (by decide) ?_
        refine lv_iadd hx hb dL_law_187 ?_
        refine gSld (j := 4 * k + 2) hX hXs hbl hbA hI (nI_add (4 * k) 2) (by omega) (by omega) dL_law_188 ?_
        refine gCallR (va_runV (As := [.int (xs (4 * k + 1)), .int (xs (4 * k + 2))]) (rest := [.int (r1)]) hX (c_X2_parent l D cI cH h qm pm σ H.size (xs (4 * k + 1)) (xs (4 * k + 2))) (cwV 2 hts gL_law_X2_parent rfl rfl rfl (by decide +kernel) ⟨by show _ ≤ 2048; exact Nat.le_of_ble_eq_true rfl, by show _ ≤ 84000; exact Nat.le_of_ble_eq_true rfl⟩) ⟨gPre_blind, gRecv (InW_right hI) hK (ci := 2) (q0 := 0) rfl rfl, gPre_ok (InW_right hI) hK hN⟩ rfl rfl hl.1 rfl (lv_room (Nat.le_of_ble_eq_true rfl)) dL_law_189 ⟨by show _ ≤ 600000; omega, by show _ ≤ 7302250; omega⟩) hI hA (fun r2 u H locs hr2 hI => ?_)
        obtain ⟨hr2, rfl⟩ := hr2
        refine lv_icmp_eq (tgt := 418) hx hb dL_law_192 (by decide) (fun c1 => ?_) (fun c1 => absurd (hr1.trans hr2.symm) c1)
        refine W.widen (k := 20 + k + 1) (n := 33986 + 9 * k + 9) (by omega) (by omega) ?_
        exact hcont hk4 n (sParent σ (xs (4 * k + 1)) (xs (4 * k + 2))).2 ad pc pm H locs (by omega) (gI_sParent hg) (gKd_of k_parent hkd) hI
      · refine gTop (y := nI 3) htE ?_
        refine lv_tableIn (tgt := 197) (off := 165) hx hb dL_law_32 (by decide) (by decide) (by decide) (by decide) ?_
        refine lv_aload_n hx hb dL_law_197 rfl (lv_at hl 1 rfl) ?_
        refine lv_aload_n hx hb dL_law_198 rfl (lv_at hl 0 rfl) ?_
        refine lv_iload_n hx hb dL_law_199 rfl (lv_at hl 3 rfl) ?_
        refine lv_iconst (v := 1) hx hb dL_law_200 (by decide) ?_
        refine lv_iadd hx hb dL_law_201 ?_
        refine gSld (j := 4 * k + 1) hX hXs hbl hbA hI (nI_add (4 * k) 1) (by omega) (by omega) dL_law_202 ?_
        refine gCallL (va_runV (As := [.int (xs (4 * k + 1))]) (rest := []) hX (c_X1_fill l D cI cH g qc ad pc n σ H.size (xs (4 * k + 1))) (cwV 1 hts gL_law_X1_fill rfl rfl rfl (by decide +kernel) ⟨by show _ ≤ 2048; exact Nat.le_of_ble_eq_true rfl, by show _ ≤ 84000; exact Nat.le_of_ble_eq_true rfl⟩) ⟨gPre_blind, gRecv (InW_left hI) hK (ci := 1) (q0 := 0) rfl rfl, gPre_ok (InW_left hI) hK hN⟩ rfl rfl hl.1 rfl (lv_room (Nat.le_of_ble_eq_true rfl)) dL_law_203 ⟨by show _ ≤ 600000; omega, by show _ ≤ 7302250; omega⟩) hI hA (fun r1 u H locs hr1 hI => ?_)
        obtain ⟨hr1, rfl⟩ := hr1
        refine lv_aload_n hx hb dL_law_206 rfl (lv_at hl 2 rfl) ?_
        refine lv_aload_n hx hb dL_law_207 rfl (lv_at hl 0 rfl) ?_
        refine lv_iload_n hx hb dL_law_208 rfl (lv_at hl 3 rfl) ?_
        refine lv_iconst (v := 1) hx hb dL_law_209 (by decide) ?_
        refine lv_iadd hx hb dL_law_210 ?_
        refine gSld (j := 4 * k + 1) hX hXs hbl hbA hI (nI_add (4 * k) 1) (by omega) (by omega) dL_law_211 ?_
        refine gCallR (va_runV (As := [.int (xs (4 * k + 1))]) (rest := [.int (r1)]) hX (c_X2_fill l D cI cH h qm pm σ H.size (xs (4 * k + 1))) (cwV 1 hts gL_law_X2_fill rfl rfl rfl (by decide +kernel) ⟨by show _ ≤ 2048; exact Nat.le_of_ble_eq_true rfl, by show _ ≤ 84000; exact Nat.le_of_ble_eq_true rfl⟩) ⟨gPre_blind, gRecv (InW_right hI) hK (ci := 2) (q0 := 0) rfl rfl, gPre_ok (InW_right hI) hK hN⟩ rfl rfl hl.1 rfl (lv_room (Nat.le_of_ble_eq_true rfl)) dL_law_212 ⟨by show _ ≤ 600000; omega, by show _ ≤ 7302250; omega⟩) hI hA (fun r2 u H locs hr2 hI => ?_)
        obtain ⟨hr2, rfl⟩ := hr2
        refine lv_icmp_eq (tgt := 418) hx hb dL_law_215 (by decide) (fun c1 => ?_) (fun c1 => absurd (hr1.trans hr2.symm) c1)
        refine W.widen (k := 20 + k + 1) (n := 33986 + 9 * k + 9) (by omega) (by omega) ?_
        exact hcont hk4 n (sFill σ (xs (4 * k + 1))).2 ad pc pm H locs (by omega) (gI_sFill hg) (gKd_of k_fill hkd) hI
      · refine gTop (y := nI 4) htE ?_
        refine lv_tableIn (tgt := 220) (off := 188) hx hb dL_law_32 (by decide) (by decide) (by decide) (by decide) ?_
        refine lv_aload_n hx hb dL_law_220 rfl (lv_at hl 1 rfl) ?_
        refine lv_aload_n hx hb dL_law_221 rfl (lv_at hl 0 rfl) ?_
        refine lv_iload_n hx hb dL_law_222 rfl (lv_at hl 3 rfl) ?_
        refine lv_iconst (v := 1) hx hb dL_law_223 (by decide) ?_
        refine lv_iadd hx hb dL_law_224 ?_
        refine gSld (j := 4 * k + 1) hX hXs hbl hbA hI (nI_add (4 * k) 1) (by omega) (by omega) dL_law_225 ?_
        refine lv_aload_n hx hb dL_law_226 rfl (lv_at hl 0 rfl) ?_
        refine lv_iload_n hx hb dL_law_227 rfl (lv_at hl 3 rfl) ?_
        refine lv_iconst (v := 2) hx hb dL_law_228 (by decide) ?_
        refine lv_iadd hx hb dL_law_229 ?_
        refine gSld (j := 4 * k + 2) hX hXs hbl hbA hI (nI_add (4 * k) 2) (by omega) (by omega) dL_law_230 ?_
        refine lv_aload_n hx hb dL_law_231 rfl (lv_at hl 0 rfl) ?_
        refine lv_iload_n hx hb dL_law_232 rfl (lv_at hl 3 rfl) ?_
        refine lv_iconst (v := 3) hx hb dL_law_233 (by decide) ?_
        refine lv_iadd hx hb dL_law_234 ?_
        refine gSld (j := 4 * k + 3) hX hXs hbl hbA hI (nI_add (4 * k) 3) (by omega) (by omega) dL_law_235 ?_
        refine gCallL (va_runV (As := [.int (xs (4 * k + 1)), .int (xs (4 * k + 2)), .int (xs (4 * k + 3))]) (rest := []) hX (c_X1_walk l D cI cH g qc ad pc n σ H.size (xs (4 * k + 1)) (xs (4 * k + 2)) (xs (4 * k + 3)) hg hkd) (cwV 3 hts gL_law_X1_walk rfl rfl rfl (by decide +kernel) ⟨by show _ ≤ 2048; exact Nat.le_of_ble_eq_true rfl, by show _ ≤ 84000; exact Nat.le_of_ble_eq_true rfl⟩) ⟨gPre_blind, gRecv (InW_left hI) hK (ci := 1) (q0 := 0) rfl rfl, gPre_ok (InW_left hI) hK hN⟩ rfl rfl hl.1 rfl (lv_room (Nat.le_of_ble_eq_true rfl)) dL_law_236 ⟨by show _ ≤ 600000; omega, by show _ ≤ 7302250; omega⟩) hI hA (fun r1 u H locs hr1 hI => ?_)
        obtain ⟨pc', hr1, rfl⟩ := hr1
        refine lv_aload_n hx hb dL_law_239 rfl (lv_at hl 2 rfl) ?_
        refine lv_aload_n hx hb dL_law_240 rfl (lv_at hl 0 rfl) ?_
        refine lv_iload_n hx hb dL_law_241 rfl (lv_at hl 3 rfl) ?_
        refine lv_iconst (v := 1) hx hb dL_law_242 (by decide) ?_
        refine lv_iadd hx hb dL_law_243 ?_
        refine gSld (j := 4 * k + 1) hX hXs hbl hbA hI (nI_add (4 * k) 1) (by omega) (by omega) dL_law_244 ?_
        refine lv_aload_n hx hb dL_law_245 rfl (lv_at hl 0 rfl) ?_
        refine lv_iload_n hx hb dL_law_246 rfl (lv_at hl 3 rfl) ?_
        refine lv_iconst (v := 2) hx hb dL_law_247 (by decide) ?_
        refine lv_iadd hx hb dL_law_248 ?_
        refine gSld (j := 4 * k + 2) hX hXs hbl hbA hI (nI_add (4 * k) 2) (by omega) (by omega) dL_law_249 ?_
        refine lv_aload_n hx hb dL_law_250 rfl (lv_at hl 0 rfl) ?_
        refine lv_iload_n hx hb dL_law_251 rfl (lv_at hl 3 rfl) ?_
        refine lv_iconst (v := 3) hx hb dL_law_252 (by decide) ?_
        refine lv_iadd hx hb dL_law_253 ?_
        refine gSld (j := 4 * k + 3) hX hXs hbl hbA hI (nI_add (4 * k) 3) (by omega) (by omega) dL_law_254 ?_
        refine gCallR (va_runV (As := [.int (xs (4 * k + 1)), .int (xs (4 * k + 2)), .int (xs (4 * k + 3))]) (rest := [.int (r1)]) hX (c_X2_walk l D cI cH h qm pm σ H.size (xs (4 * k + 1)) (xs (4 * k + 2)) (xs (4 * k + 3)) n hg) (cwV 3 hts gL_law_X2_walk rfl rfl rfl (by decide +kernel) ⟨by show _ ≤ 2048; exact Nat.le_of_ble_eq_true rfl, by show _ ≤ 84000; exact Nat.le_of_ble_eq_true rfl⟩) ⟨gPre_blind, gRecv (InW_right hI) hK (ci := 2) (q0 := 0) rfl rfl, gPre_ok (InW_right hI) hK hN⟩ rfl rfl hl.1 rfl (lv_room (Nat.le_of_ble_eq_true rfl)) dL_law_255 ⟨by show _ ≤ 600000; omega, by show _ ≤ 7302250; omega⟩) hI hA (fun r2 u H locs hr2 hI => ?_)
        obtain ⟨pm', hr2, rfl⟩ := hr2
        rw [mWalk_eq hg] at hr2 hI
        refine lv_icmp_eq (tgt := 418) hx hb dL_law_258 (by decide) (fun c1 => ?_) (fun c1 => absurd (hr1.trans hr2.symm) c1)
        refine W.widen (k := 20 + k + 1) (n := 33986 + 9 * k + 9) (by omega) (by omega) ?_
        exact hcont hk4 n (sWalk σ (xs (4 * k + 1)) (xs (4 * k + 2)) (xs (4 * k + 3))).2 ad pc' pm' H locs (by omega) (gI_sWalk hg) (gKd_of k_walk hkd) hI
      · refine gTop (y := nI 5) htE ?_
        refine lv_tableIn (tgt := 263) (off := 231) hx hb dL_law_32 (by decide) (by decide) (by decide) (by decide) ?_
        refine lv_aload_n hx hb dL_law_263 rfl (lv_at hl 1 rfl) ?_
        refine lv_aload_n hx hb dL_law_264 rfl (lv_at hl 0 rfl) ?_
        refine lv_iload_n hx hb dL_law_265 rfl (lv_at hl 3 rfl) ?_
        refine lv_iconst (v := 1) hx hb dL_law_266 (by decide) ?_
        refine lv_iadd hx hb dL_law_267 ?_
        refine gSld (j := 4 * k + 1) hX hXs hbl hbA hI (nI_add (4 * k) 1) (by omega) (by omega) dL_law_268 ?_
        refine lv_i2l (v := Int32.toInt64 (xs (4 * k + 1))) hx hb dL_law_269 rfl ?_
        refine lv_bipush (v := 32) hx hb dL_law_270 (by decide) ?_
        refine lv_lshl (v := (Int32.toInt64 (xs (4 * k + 1))) <<< (Int32.toInt64 (32) &&& 63)) hx hb dL_law_272 rfl ?_
        refine lv_aload_n hx hb dL_law_273 rfl (lv_at hl 0 rfl) ?_
        refine lv_iload_n hx hb dL_law_274 rfl (lv_at hl 3 rfl) ?_
        refine lv_iconst (v := 2) hx hb dL_law_275 (by decide) ?_
        refine lv_iadd hx hb dL_law_276 ?_
        refine gSld (j := 4 * k + 2) hX hXs hbl hbA hI (nI_add (4 * k) 2) (by omega) (by omega) dL_law_277 ?_
        refine lv_i2l (v := Int32.toInt64 (xs (4 * k + 2))) hx hb dL_law_278 rfl ?_
        refine lv_ldc2 (v := 4294967295) hx hb hown (hts (.constantLong RL 36 (4294967295)) (by decide +kernel)) dL_law_279 ?_
        refine lv_land hx hb dL_law_282 ?_
        refine lv_lor hx hb dL_law_283 ?_
        refine gCallL (va_runV (As := [.long (((Int32.toInt64 (xs (4 * k + 1))) <<< (Int32.toInt64 (32) &&& 63)) ||| ((Int32.toInt64 (xs (4 * k + 2))) &&& (4294967295)))]) (rest := []) hX (c_X1_seek l D cI cH g qc ad pc n σ H.size (((Int32.toInt64 (xs (4 * k + 1))) <<< (Int32.toInt64 (32) &&& 63)) ||| ((Int32.toInt64 (xs (4 * k + 2))) &&& (4294967295))) 0 hg) (cwV 1 hts gL_law_X1_seek rfl rfl rfl (by decide +kernel) ⟨by show _ ≤ 2048; exact Nat.le_of_ble_eq_true rfl, by show _ ≤ 84000; exact Nat.le_of_ble_eq_true rfl⟩) ⟨gPre_blind, gRecv (InW_left hI) hK (ci := 1) (q0 := 0) rfl rfl, gPre_ok (InW_left hI) hK hN⟩ rfl rfl hl.1 rfl (lv_room (Nat.le_of_ble_eq_true rfl)) dL_law_284 ⟨by show _ ≤ 600000; omega, by show _ ≤ 7302250; omega⟩) hI hA (fun r1 u H locs hr1 hI => ?_)
        obtain ⟨hr1, rfl⟩ := hr1
        refine lv_aload_n hx hb dL_law_287 rfl (lv_at hl 2 rfl) ?_
        refine lv_aload_n hx hb dL_law_288 rfl (lv_at hl 0 rfl) ?_
        refine lv_iload_n hx hb dL_law_289 rfl (lv_at hl 3 rfl) ?_
        refine lv_iconst (v := 1) hx hb dL_law_290 (by decide) ?_
        refine lv_iadd hx hb dL_law_291 ?_
        refine gSld (j := 4 * k + 1) hX hXs hbl hbA hI (nI_add (4 * k) 1) (by omega) (by omega) dL_law_292 ?_
        refine lv_i2l (v := Int32.toInt64 (xs (4 * k + 1))) hx hb dL_law_293 rfl ?_
        refine lv_bipush (v := 32) hx hb dL_law_294 (by decide) ?_
        refine lv_lshl (v := (Int32.toInt64 (xs (4 * k + 1))) <<< (Int32.toInt64 (32) &&& 63)) hx hb dL_law_296 rfl ?_
        refine lv_aload_n hx hb dL_law_297 rfl (lv_at hl 0 rfl) ?_
        refine lv_iload_n hx hb dL_law_298 rfl (lv_at hl 3 rfl) ?_
        refine lv_iconst (v := 2) hx hb dL_law_299 (by decide) ?_
        refine lv_iadd hx hb dL_law_300 ?_
        refine gSld (j := 4 * k + 2) hX hXs hbl hbA hI (nI_add (4 * k) 2) (by omega) (by omega) dL_law_301 ?_
        refine lv_i2l (v := Int32.toInt64 (xs (4 * k + 2))) hx hb dL_law_302 rfl ?_
        refine lv_ldc2 (v := 4294967295) hx hb hown (hts (.constantLong RL 36 (4294967295)) (by decide +kernel)) dL_law_303 ?_
        refine lv_land hx hb dL_law_306 ?_
        refine lv_lor hx hb dL_law_307 ?_
        refine gCallR (va_runV (As := [.long (((Int32.toInt64 (xs (4 * k + 1))) <<< (Int32.toInt64 (32) &&& 63)) ||| ((Int32.toInt64 (xs (4 * k + 2))) &&& (4294967295)))]) (rest := [.int (r1)]) hX (c_X2_seek l D cI cH h qm pm σ H.size (((Int32.toInt64 (xs (4 * k + 1))) <<< (Int32.toInt64 (32) &&& 63)) ||| ((Int32.toInt64 (xs (4 * k + 2))) &&& (4294967295))) n 0 hg) (cwV 1 hts gL_law_X2_seek rfl rfl rfl (by decide +kernel) ⟨by show _ ≤ 2048; exact Nat.le_of_ble_eq_true rfl, by show _ ≤ 84000; exact Nat.le_of_ble_eq_true rfl⟩) ⟨gPre_blind, gRecv (InW_right hI) hK (ci := 2) (q0 := 0) rfl rfl, gPre_ok (InW_right hI) hK hN⟩ rfl rfl hl.1 rfl (lv_room (Nat.le_of_ble_eq_true rfl)) dL_law_308 ⟨by show _ ≤ 600000; omega, by show _ ≤ 7302250; omega⟩) hI hA (fun r2 u H locs hr2 hI => ?_)
        obtain ⟨hr2, rfl⟩ := hr2
        refine lv_icmp_eq (tgt := 418) hx hb dL_law_311 (by decide) (fun c1 => ?_) (fun c1 => absurd (hr1.trans hr2.symm) c1)
        refine W.widen (k := 20 + k + 1) (n := 33986 + 9 * k + 9) (by omega) (by omega) ?_
        exact hcont hk4 n (sSeek σ (((Int32.toInt64 (xs (4 * k + 1))) <<< (Int32.toInt64 (32) &&& 63)) ||| ((Int32.toInt64 (xs (4 * k + 2))) &&& (4294967295)))).2 ad pc pm H locs (by omega) (gI_SA 10 0 (by omega) hg) (gKd_of (k_SA 10 0) hkd) hI
      · refine gTop (y := nI 6) htE ?_
        refine lv_tableIn (tgt := 316) (off := 284) hx hb dL_law_32 (by decide) (by decide) (by decide) (by decide) ?_
        refine lv_aload_n hx hb dL_law_316 rfl (lv_at hl 1 rfl) ?_
        refine lv_aload_n hx hb dL_law_317 rfl (lv_at hl 0 rfl) ?_
        refine lv_iload_n hx hb dL_law_318 rfl (lv_at hl 3 rfl) ?_
        refine lv_iconst (v := 1) hx hb dL_law_319 (by decide) ?_
        refine lv_iadd hx hb dL_law_320 ?_
        refine gSld (j := 4 * k + 1) hX hXs hbl hbA hI (nI_add (4 * k) 1) (by omega) (by omega) dL_law_321 ?_
        refine lv_aload_n hx hb dL_law_322 rfl (lv_at hl 0 rfl) ?_
        refine lv_iload_n hx hb dL_law_323 rfl (lv_at hl 3 rfl) ?_
        refine lv_iconst (v := 2) hx hb dL_law_324 (by decide) ?_
        refine lv_iadd hx hb dL_law_325 ?_
        refine gSld (j := 4 * k + 2) hX hXs hbl hbA hI (nI_add (4 * k) 2) (by omega) (by omega) dL_law_326 ?_
        refine gCallL (va_runV (As := [.int (xs (4 * k + 1)), .int (xs (4 * k + 2))]) (rest := []) hX (c_X1_told l D cI cH g qc ad pc n σ H.size (xs (4 * k + 1)) (xs (4 * k + 2)) 0 hg) (cwV 2 hts gL_law_X1_told rfl rfl rfl (by decide +kernel) ⟨by show _ ≤ 2048; exact Nat.le_of_ble_eq_true rfl, by show _ ≤ 84000; exact Nat.le_of_ble_eq_true rfl⟩) ⟨gPre_blind, gRecv (InW_left hI) hK (ci := 1) (q0 := 0) rfl rfl, gPre_ok (InW_left hI) hK hN⟩ rfl rfl hl.1 rfl (lv_room (Nat.le_of_ble_eq_true rfl)) dL_law_327 ⟨by show _ ≤ 600000; omega, by show _ ≤ 7302250; omega⟩) hI hA (fun r1 u H locs hr1 hI => ?_)
        obtain ⟨hr1, rfl⟩ := hr1
        refine lv_aload_n hx hb dL_law_330 rfl (lv_at hl 2 rfl) ?_
        refine lv_aload_n hx hb dL_law_331 rfl (lv_at hl 0 rfl) ?_
        refine lv_iload_n hx hb dL_law_332 rfl (lv_at hl 3 rfl) ?_
        refine lv_iconst (v := 1) hx hb dL_law_333 (by decide) ?_
        refine lv_iadd hx hb dL_law_334 ?_
        refine gSld (j := 4 * k + 1) hX hXs hbl hbA hI (nI_add (4 * k) 1) (by omega) (by omega) dL_law_335 ?_
        refine lv_aload_n hx hb dL_law_336 rfl (lv_at hl 0 rfl) ?_
        refine lv_iload_n hx hb dL_law_337 rfl (lv_at hl 3 rfl) ?_
        refine lv_iconst (v := 2) hx hb dL_law_338 (by decide) ?_
        refine lv_iadd hx hb dL_law_339 ?_
        refine gSld (j := 4 * k + 2) hX hXs hbl hbA hI (nI_add (4 * k) 2) (by omega) (by omega) dL_law_340 ?_
        refine gCallR (va_runV (As := [.int (xs (4 * k + 1)), .int (xs (4 * k + 2))]) (rest := [.int (r1)]) hX (c_X2_told l D cI cH h qm pm σ H.size (xs (4 * k + 1)) (xs (4 * k + 2)) n 0 hg) (cwV 2 hts gL_law_X2_told rfl rfl rfl (by decide +kernel) ⟨by show _ ≤ 2048; exact Nat.le_of_ble_eq_true rfl, by show _ ≤ 84000; exact Nat.le_of_ble_eq_true rfl⟩) ⟨gPre_blind, gRecv (InW_right hI) hK (ci := 2) (q0 := 0) rfl rfl, gPre_ok (InW_right hI) hK hN⟩ rfl rfl hl.1 rfl (lv_room (Nat.le_of_ble_eq_true rfl)) dL_law_341 ⟨by show _ ≤ 600000; omega, by show _ ≤ 7302250; omega⟩) hI hA (fun r2 u H locs hr2 hI => ?_)
        obtain ⟨hr2, rfl⟩ := hr2
        refine lv_icmp_eq (tgt := 418) hx hb dL_law_344 (by decide) (fun c1 => ?_) (fun c1 => absurd (hr1.trans hr2.symm) c1)
        refine W.widen (k := 20 + k + 1) (n := 33986 + 9 * k + 9) (by omega) (by omega) ?_
        exact hcont hk4 n σ ad pc pm H locs (by omega) hg hkd hI
      · refine gTop (y := nI 7) htE ?_
        refine lv_tableIn (tgt := 349) (off := 317) hx hb dL_law_32 (by decide) (by decide) (by decide) (by decide) ?_
        refine lv_aload_n hx hb dL_law_349 rfl (lv_at hl 1 rfl) ?_
        refine lv_aload_n hx hb dL_law_350 rfl (lv_at hl 0 rfl) ?_
        refine lv_iload_n hx hb dL_law_351 rfl (lv_at hl 3 rfl) ?_
        refine lv_iconst (v := 1) hx hb dL_law_352 (by decide) ?_
        refine lv_iadd hx hb dL_law_353 ?_
        refine gSld (j := 4 * k + 1) hX hXs hbl hbA hI (nI_add (4 * k) 1) (by omega) (by omega) dL_law_354 ?_
        refine gCallL (va_runV (As := [.int (xs (4 * k + 1))]) (rest := []) hX (c_X1_gifts l D cI cH g qc ad pc n σ H.size (xs (4 * k + 1)) 0 hg) (cwV 1 hts gL_law_X1_gifts rfl rfl rfl (by decide +kernel) ⟨by show _ ≤ 2048; exact Nat.le_of_ble_eq_true rfl, by show _ ≤ 84000; exact Nat.le_of_ble_eq_true rfl⟩) ⟨gPre_blind, gRecv (InW_left hI) hK (ci := 1) (q0 := 0) rfl rfl, gPre_ok (InW_left hI) hK hN⟩ rfl rfl hl.1 rfl (lv_room (Nat.le_of_ble_eq_true rfl)) dL_law_355 ⟨by show _ ≤ 600000; omega, by show _ ≤ 7302250; omega⟩) hI hA (fun r1 u H locs hr1 hI => ?_)
        obtain ⟨hr1, rfl⟩ := hr1
        refine lv_aload_n hx hb dL_law_358 rfl (lv_at hl 2 rfl) ?_
        refine lv_aload_n hx hb dL_law_359 rfl (lv_at hl 0 rfl) ?_
        refine lv_iload_n hx hb dL_law_360 rfl (lv_at hl 3 rfl) ?_
        refine lv_iconst (v := 1) hx hb dL_law_361 (by decide) ?_
        refine lv_iadd hx hb dL_law_362 ?_
        refine gSld (j := 4 * k + 1) hX hXs hbl hbA hI (nI_add (4 * k) 1) (by omega) (by omega) dL_law_363 ?_
        refine gCallR (va_runV (As := [.int (xs (4 * k + 1))]) (rest := [.int (r1)]) hX (c_X2_gifts l D cI cH h qm pm σ H.size (xs (4 * k + 1)) n 0 hg) (cwV 1 hts gL_law_X2_gifts rfl rfl rfl (by decide +kernel) ⟨by show _ ≤ 2048; exact Nat.le_of_ble_eq_true rfl, by show _ ≤ 84000; exact Nat.le_of_ble_eq_true rfl⟩) ⟨gPre_blind, gRecv (InW_right hI) hK (ci := 2) (q0 := 0) rfl rfl, gPre_ok (InW_right hI) hK hN⟩ rfl rfl hl.1 rfl (lv_room (Nat.le_of_ble_eq_true rfl)) dL_law_364 ⟨by show _ ≤ 600000; omega, by show _ ≤ 7302250; omega⟩) hI hA (fun r2 u H locs hr2 hI => ?_)
        obtain ⟨hr2, rfl⟩ := hr2
        refine lv_icmp_eq (tgt := 418) hx hb dL_law_367 (by decide) (fun c1 => ?_) (fun c1 => absurd (hr1.trans hr2.symm) c1)
        refine W.widen (k := 20 + k + 1) (n := 33986 + 9 * k + 9) (by omega) (by omega) ?_
        exact hcont hk4 n σ ad pc pm H locs (by omega) hg hkd hI
      · refine gTop (y := nI 8) htE ?_
        refine lv_tableIn (tgt := 372) (off := 340) hx hb dL_law_32 (by decide) (by decide) (by decide) (by decide) ?_
        refine lv_aload_n hx hb dL_law_372 rfl (lv_at hl 1 rfl) ?_
        refine lv_aload_n hx hb dL_law_373 rfl (lv_at hl 0 rfl) ?_
        refine lv_iload_n hx hb dL_law_374 rfl (lv_at hl 3 rfl) ?_
        refine lv_iconst (v := 1) hx hb dL_law_375 (by decide) ?_
        refine lv_iadd hx hb dL_law_376 ?_
        refine gSld (j := 4 * k + 1) hX hXs hbl hbA hI (nI_add (4 * k) 1) (by omega) (by omega) dL_law_377 ?_
        refine gCallL (va_runV (As := [.int (xs (4 * k + 1))]) (rest := []) hX (c_X1_trace l D cI cH g qc ad pc n σ H.size (xs (4 * k + 1)) 0 hg) (cwV 1 hts gL_law_X1_trace rfl rfl rfl (by decide +kernel) ⟨by show _ ≤ 2048; exact Nat.le_of_ble_eq_true rfl, by show _ ≤ 84000; exact Nat.le_of_ble_eq_true rfl⟩) ⟨gPre_blind, gRecv (InW_left hI) hK (ci := 1) (q0 := 0) rfl rfl, gPre_ok (InW_left hI) hK hN⟩ rfl rfl hl.1 rfl (lv_room (Nat.le_of_ble_eq_true rfl)) dL_law_378 ⟨by show _ ≤ 600000; omega, by show _ ≤ 7302250; omega⟩) hI hA (fun r1 u H locs hr1 hI => ?_)
        obtain ⟨hr1, rfl⟩ := hr1
        refine lv_aload_n hx hb dL_law_381 rfl (lv_at hl 2 rfl) ?_
        refine lv_aload_n hx hb dL_law_382 rfl (lv_at hl 0 rfl) ?_
        refine lv_iload_n hx hb dL_law_383 rfl (lv_at hl 3 rfl) ?_
        refine lv_iconst (v := 1) hx hb dL_law_384 (by decide) ?_
        refine lv_iadd hx hb dL_law_385 ?_
        refine gSld (j := 4 * k + 1) hX hXs hbl hbA hI (nI_add (4 * k) 1) (by omega) (by omega) dL_law_386 ?_
        refine gCallR (va_runV (As := [.int (xs (4 * k + 1))]) (rest := [.int (r1)]) hX (c_X2_trace l D cI cH h qm pm σ H.size (xs (4 * k + 1)) n 0 hg) (cwV 1 hts gL_law_X2_trace rfl rfl rfl (by decide +kernel) ⟨by show _ ≤ 2048; exact Nat.le_of_ble_eq_true rfl, by show _ ≤ 84000; exact Nat.le_of_ble_eq_true rfl⟩) ⟨gPre_blind, gRecv (InW_right hI) hK (ci := 2) (q0 := 0) rfl rfl, gPre_ok (InW_right hI) hK hN⟩ rfl rfl hl.1 rfl (lv_room (Nat.le_of_ble_eq_true rfl)) dL_law_387 ⟨by show _ ≤ 600000; omega, by show _ ≤ 7302250; omega⟩) hI hA (fun r2 u H locs hr2 hI => ?_)
        obtain ⟨hr2, rfl⟩ := hr2
        refine lv_icmp_eq (tgt := 418) hx hb dL_law_390 (by decide) (fun c1 => ?_) (fun c1 => absurd (hr1.trans hr2.symm) c1)
        refine W.widen (k := 20 + k + 1) (n := 33986 + 9 * k + 9) (by omega) (by omega) ?_
        exact hcont hk4 n σ ad pc pm H locs (by omega) hg hkd hI
      · refine gTop (y := nI 9) htE ?_
        refine lv_tableIn (tgt := 395) (off := 363) hx hb dL_law_32 (by decide) (by decide) (by decide) (by decide) ?_
        refine lv_aload_n hx hb dL_law_395 rfl (lv_at hl 1 rfl) ?_
        refine lv_aload_n hx hb dL_law_396 rfl (lv_at hl 0 rfl) ?_
        refine lv_iload_n hx hb dL_law_397 rfl (lv_at hl 3 rfl) ?_
        refine lv_iconst (v := 1) hx hb dL_law_398 (by decide) ?_
        refine lv_iadd hx hb dL_law_399 ?_
        refine gSld (j := 4 * k + 1) hX hXs hbl hbA hI (nI_add (4 * k) 1) (by omega) (by omega) dL_law_400 ?_
        refine gCallL (va_runV (As := [.int (xs (4 * k + 1))]) (rest := []) hX (c_X1_count l D cI cH g qc ad pc n σ H.size (xs (4 * k + 1)) 0 hg) (cwV 1 hts gL_law_X1_count rfl rfl rfl (by decide +kernel) ⟨by show _ ≤ 2048; exact Nat.le_of_ble_eq_true rfl, by show _ ≤ 84000; exact Nat.le_of_ble_eq_true rfl⟩) ⟨gPre_blind, gRecv (InW_left hI) hK (ci := 1) (q0 := 0) rfl rfl, gPre_ok (InW_left hI) hK hN⟩ rfl rfl hl.1 rfl (lv_room (Nat.le_of_ble_eq_true rfl)) dL_law_401 ⟨by show _ ≤ 600000; omega, by show _ ≤ 7302250; omega⟩) hI hA (fun r1 u H locs hr1 hI => ?_)
        obtain ⟨hr1, rfl⟩ := hr1
        refine lv_aload_n hx hb dL_law_404 rfl (lv_at hl 2 rfl) ?_
        refine lv_aload_n hx hb dL_law_405 rfl (lv_at hl 0 rfl) ?_
        refine lv_iload_n hx hb dL_law_406 rfl (lv_at hl 3 rfl) ?_
        refine lv_iconst (v := 1) hx hb dL_law_407 (by decide) ?_
        refine lv_iadd hx hb dL_law_408 ?_
        refine gSld (j := 4 * k + 1) hX hXs hbl hbA hI (nI_add (4 * k) 1) (by omega) (by omega) dL_law_409 ?_
        refine gCallR (va_runV (As := [.int (xs (4 * k + 1))]) (rest := [.int (r1)]) hX (c_X2_count l D cI cH h qm pm σ H.size (xs (4 * k + 1))) (cwV 1 hts gL_law_X2_count rfl rfl rfl (by decide +kernel) ⟨by show _ ≤ 2048; exact Nat.le_of_ble_eq_true rfl, by show _ ≤ 84000; exact Nat.le_of_ble_eq_true rfl⟩) ⟨gPre_blind, gRecv (InW_right hI) hK (ci := 2) (q0 := 0) rfl rfl, gPre_ok (InW_right hI) hK hN⟩ rfl rfl hl.1 rfl (lv_room (Nat.le_of_ble_eq_true rfl)) dL_law_410 ⟨by show _ ≤ 600000; omega, by show _ ≤ 7302250; omega⟩) hI hA (fun r2 u H locs hr2 hI => ?_)
        obtain ⟨hr2, rfl⟩ := hr2
        refine lv_icmp_eq (tgt := 418) hx hb dL_law_413 (by decide) (fun c1 => ?_) (fun c1 => absurd (hr1.trans hr2.symm) c1)
        refine W.widen (k := 20 + k + 1) (n := 33986 + 9 * k + 9) (by omega) (by omega) ?_
        exact hcont hk4 n σ ad pc pm H locs (by omega) hg hkd hI
      · refine gTop (y := nI t) htE ?_
        refine lv_tableOut (tgt := 418) hx hb dL_law_32 (Or.inr (by rw [nI_toInt (by omega)]; omega)) (by decide) ?_
        refine W.widen (k := 20 + k + 1) (n := 33986 + 9 * k + 9) (by omega) (by omega) ?_
        exact hcont hk4 n σ ad pc pm H locs (by omega) hg hkd hI
