set_option maxRecDepth 100000 in
theorem iX0_init_0 : ∀ w ∈ wsX00, w ∈ wsX0_init := by decide +kernel
set_option maxHeartbeats 4000000 in
set_option maxRecDepth 100000 in
theorem c_X0_init (l : Launch) (D : va_G) (cI cH : ClassId) (w : va_W) (a q0 : Nat) (f0 f1 f2 f3 f4 f5 f6 f7 f8 : Int32) (sz : Nat) (x y z : Int32) (he : w[q0]? = some (a, .inr (0, [.int (f0), .int (f1), .int (f2), .int (f3), .int (f4), .int (f5), .int (f6), .int (f7), .int (f8)]))) : gMv l yX0_init wsX0_init ({ frames := 1, cells := 0, slots := 0, locals := 20 }) D w (gTy cI cH) sz [.ref a, .int (x), .int (y), .int (z)] (fun u => u = w.set q0 (a, .inr (0, [.int (x), .int (y), .int (z), .int (f3), .int (f4), .int (f5), .int (f6), .int (f7), .int (f8)]))) := by
  refine gEnter (cc := cX0_init) (maxL := 4) (ret := none) (QF := fun A => va_Qv _ (gPost D A) A) (by decide) rfl (Nat.le_of_ble_eq_true rfl) ?_
  intro p e s m below meth c A ls hX hr hlk hnm hK hN hA hI hl
  have hx := hX.1
  have hb := hX.2.1
  have hts := hX.2.2.2.2
  have hown : s.vm.findClass RX0 = some m.cls := hX.2.2.2.1
  have hin0 := iX0_init_0
  have he0 := he
  have hl : lv_has ls 4 [(0, .ref a), (1, .int (x)), (2, .int (y)), (3, .int (z))] := hl
  refine lv_aload_n hx hb dX0_init_0 rfl (lv_at hl 0 rfl) ?_
  refine W.objInit hx hb hown (hts (.methodLink RX0 3 objectInit) (by decide +kernel)) (hts (.instanceMethod objectInit) (by decide +kernel)) (hts _ (List.mem_cons_of_mem _ (List.mem_append_left _ (List.mem_of_getElem? (i := 2) rfl)))) rfl (by rw [hX.2.2.1]; exact hl.1) rfl dX0_init_1 (Nat.le_of_ble_eq_true rfl) (Nat.le_of_ble_eq_true rfl) ?_
  refine W.eq (g2 := F0 m 4 ls []) rfl ?_
  refine lv_aload_n hx hb dX0_init_4 rfl (lv_at hl 0 rfl) ?_
  refine lv_iload_n hx hb dX0_init_5 rfl (lv_at hl 1 rfl) ?_
  refine gPutF (ci := 0) hX hin0 tyX0 tyX0_ok nmX0 hK hI q0 he rfl 0 (by decide) (hts (.fieldLink RX0 9 "GateHalls$Hall" "number" "I") (by decide +kernel)) rfl hnm rfl rfl rfl (Nat.le_of_ble_eq_true rfl) (w' := w.set q0 (a, .inr (0, [.int (x), .int (f1), .int (f2), .int (f3), .int (f4), .int (f5), .int (f6), .int (f7), .int (f8)]))) rfl dX0_init_6 (fun H locs hI => ?_)
  have he := g_set_get he0 (v := (a, .inr (0, [.int (x), .int (f1), .int (f2), .int (f3), .int (f4), .int (f5), .int (f6), .int (f7), .int (f8)])))
  refine lv_aload_n hx hb dX0_init_9 rfl (lv_at hl 0 rfl) ?_
  refine lv_iload_n hx hb dX0_init_10 rfl (lv_at hl 2 rfl) ?_
  refine gPutF (ci := 0) hX hin0 tyX0 tyX0_ok nmX0 hK hI q0 he rfl 1 (by decide) (hts (.fieldLink RX0 15 "GateHalls$Hall" "kind" "I") (by decide +kernel)) rfl hnm rfl rfl rfl (Nat.le_of_ble_eq_true rfl) (w' := w.set q0 (a, .inr (0, [.int (x), .int (y), .int (f2), .int (f3), .int (f4), .int (f5), .int (f6), .int (f7), .int (f8)]))) (by rw [List.set_set]; rfl) dX0_init_11 (fun H locs hI => ?_)
  have he := g_set_get he0 (v := (a, .inr (0, [.int (x), .int (y), .int (f2), .int (f3), .int (f4), .int (f5), .int (f6), .int (f7), .int (f8)])))
  refine lv_aload_n hx hb dX0_init_14 rfl (lv_at hl 0 rfl) ?_
  refine lv_iload_n hx hb dX0_init_15 rfl (lv_at hl 3 rfl) ?_
  refine gPutF (ci := 0) hX hin0 tyX0 tyX0_ok nmX0 hK hI q0 he rfl 2 (by decide) (hts (.fieldLink RX0 18 "GateHalls$Hall" "fee" "I") (by decide +kernel)) rfl hnm rfl rfl rfl (Nat.le_of_ble_eq_true rfl) (w' := w.set q0 (a, .inr (0, [.int (x), .int (y), .int (z), .int (f3), .int (f4), .int (f5), .int (f6), .int (f7), .int (f8)]))) (by rw [List.set_set]; rfl) dX0_init_16 (fun H locs hI => ?_)
  have he := g_set_get he0 (v := (a, .inr (0, [.int (x), .int (y), .int (z), .int (f3), .int (f4), .int (f5), .int (f6), .int (f7), .int (f8)])))
  exact gVret hX hr hlk hI rfl dX0_init_19
set_option maxRecDepth 100000 in
theorem iX0_enter_0 : ∀ w ∈ wsX00, w ∈ wsX0_enter := by decide +kernel
set_option maxHeartbeats 4000000 in
set_option maxRecDepth 100000 in
theorem c_X0_enter (l : Launch) (D : va_G) (cI cH : ClassId) (w : va_W) (a q0 : Nat) (f0 f1 f2 f3 f4 f5 f6 f7 f8 : Int32) (sz : Nat)  (he : w[q0]? = some (a, .inr (0, [.int (f0), .int (f1), .int (f2), .int (f3), .int (f4), .int (f5), .int (f6), .int (f7), .int (f8)]))) : gMv l yX0_enter wsX0_enter ({ frames := 1, cells := 0, slots := 0, locals := 24 }) D w (gTy cI cH) sz [.ref a] (fun u => u = w.set q0 (a, .inr (0, [.int (f0), .int (f1), .int (f2), .int (f3), .int (f4 + 1), .int (f5), .int (f6), .int (f7 + 1), .int (if f8 < f7 + 1 then f7 + 1 else f8)]))) := by
  refine gEnter (cc := cX0_enter) (maxL := 1) (ret := none) (QF := fun A => va_Qv _ (gPost D A) A) (by decide) rfl (Nat.le_of_ble_eq_true rfl) ?_
  intro p e s m below meth c A ls hX hr hlk hnm hK hN hA hI hl
  have hx := hX.1
  have hb := hX.2.1
  have hts := hX.2.2.2.2
  have hown : s.vm.findClass RX0 = some m.cls := hX.2.2.2.1
  have hin0 := iX0_enter_0
  have he0 := he
  have hl : lv_has ls 1 [(0, .ref a)] := hl
  refine lv_aload_n hx hb dX0_enter_0 rfl (lv_at hl 0 rfl) ?_
  refine lv_dup hx hb dX0_enter_1 rfl ?_
  refine gGet (ci := 0) (v := .int (f4)) hX hin0 hK hI q0 he rfl 4 (by decide) (hts (.fieldLink RX0 21 "GateHalls$Hall" "passes" "I") (by decide +kernel)) rfl dX0_enter_2 ?_
  refine lv_iconst (v := 1) hx hb dX0_enter_5 (by decide) ?_
  refine lv_iadd hx hb dX0_enter_6 ?_
  refine gPut (ci := 0) hX hin0 tyX0 tyX0_ok nmX0 hK hI q0 he rfl 4 (by decide) (hts (.fieldLink RX0 21 "GateHalls$Hall" "passes" "I") (by decide +kernel)) rfl rfl (Nat.le_of_ble_eq_true rfl) (w' := w.set q0 (a, .inr (0, [.int (f0), .int (f1), .int (f2), .int (f3), .int (f4 + 1), .int (f5), .int (f6), .int (f7), .int (f8)]))) rfl dX0_enter_7 (fun H locs hI => ?_)
  have he := g_set_get he0 (v := (a, .inr (0, [.int (f0), .int (f1), .int (f2), .int (f3), .int (f4 + 1), .int (f5), .int (f6), .int (f7), .int (f8)])))
  refine lv_aload_n hx hb dX0_enter_10 rfl (lv_at hl 0 rfl) ?_
  refine lv_dup hx hb dX0_enter_11 rfl ?_
  refine gGet (ci := 0) (v := .int (f7)) hX hin0 hK hI q0 he rfl 7 (by decide) (hts (.fieldLink RX0 24 "GateHalls$Hall" "inside" "I") (by decide +kernel)) rfl dX0_enter_12 ?_
  refine lv_iconst (v := 1) hx hb dX0_enter_15 (by decide) ?_
  refine lv_iadd hx hb dX0_enter_16 ?_
  refine gPut (ci := 0) hX hin0 tyX0 tyX0_ok nmX0 hK hI q0 he rfl 7 (by decide) (hts (.fieldLink RX0 24 "GateHalls$Hall" "inside" "I") (by decide +kernel)) rfl rfl (Nat.le_of_ble_eq_true rfl) (w' := w.set q0 (a, .inr (0, [.int (f0), .int (f1), .int (f2), .int (f3), .int (f4 + 1), .int (f5), .int (f6), .int (f7 + 1), .int (f8)]))) (by rw [List.set_set]; rfl) dX0_enter_17 (fun H locs hI => ?_)
  have he := g_set_get he0 (v := (a, .inr (0, [.int (f0), .int (f1), .int (f2), .int (f3), .int (f4 + 1), .int (f5), .int (f6), .int (f7 + 1), .int (f8)])))
  refine lv_aload_n hx hb dX0_enter_20 rfl (lv_at hl 0 rfl) ?_
  refine lv_aload_n hx hb dX0_enter_21 rfl (lv_at hl 0 rfl) ?_
  refine gGet (ci := 0) (v := .int (f8)) hX hin0 hK hI q0 he rfl 8 (by decide) (hts (.fieldLink RX0 27 "GateHalls$Hall" "most" "I") (by decide +kernel)) rfl dX0_enter_22 ?_
  refine lv_aload_n hx hb dX0_enter_25 rfl (lv_at hl 0 rfl) ?_
  refine gGet (ci := 0) (v := .int (f7 + 1)) hX hin0 hK hI q0 he rfl 7 (by decide) (hts (.fieldLink RX0 24 "GateHalls$Hall" "inside" "I") (by decide +kernel)) rfl dX0_enter_26 ?_
  refine va_mmax hx hb (hX.2.2.1.trans hl.1.symm) hown (hts (.methodLink RX0 30 Lib.Math.max.name) (by decide +kernel)) (hts (.static Lib.Math.max.name) (by decide +kernel)) (hts (.initialized "java/lang/Math") (by decide +kernel)) (hts (.code Lib.Math.max.name Lib.Math.max.code 2 (some .int)) (by decide +kernel)) (Nat.le_of_ble_eq_true rfl) (Nat.le_of_ble_eq_true rfl) (Nat.le_of_ble_eq_true rfl) (Nat.le_of_ble_eq_true rfl) dX0_enter_29 ?_
  refine gPut (ci := 0) hX hin0 tyX0 tyX0_ok nmX0 hK hI q0 he rfl 8 (by decide) (hts (.fieldLink RX0 27 "GateHalls$Hall" "most" "I") (by decide +kernel)) rfl rfl (Nat.le_of_ble_eq_true rfl) (w' := w.set q0 (a, .inr (0, [.int (f0), .int (f1), .int (f2), .int (f3), .int (f4 + 1), .int (f5), .int (f6), .int (f7 + 1), .int (if (f8) < (f7 + 1) then (f7 + 1) else (f8))]))) (by rw [List.set_set]; rfl) dX0_enter_32 (fun H locs hI => ?_)
  have he := g_set_get he0 (v := (a, .inr (0, [.int (f0), .int (f1), .int (f2), .int (f3), .int (f4 + 1), .int (f5), .int (f6), .int (f7 + 1), .int (if (f8) < (f7 + 1) then (f7 + 1) else (f8))])))
  exact gVret hX hr hlk hI rfl dX0_enter_35
set_option maxRecDepth 100000 in
theorem iX0_guardIsInTheWay_0 : ∀ w ∈ wsX00, w ∈ wsX0_guardIsInTheWay := by decide +kernel
set_option maxHeartbeats 4000000 in
set_option maxRecDepth 100000 in
theorem c_X0_guardIsInTheWay (l : Launch) (D : va_G) (cI cH : ClassId) (w : va_W) (a q0 : Nat) (f0 f1 f2 f3 f4 f5 f6 f7 f8 : Int32) (sz : Nat)  (he : w[q0]? = some (a, .inr (0, [.int (f0), .int (f1), .int (f2), .int (f3), .int (f4), .int (f5), .int (f6), .int (f7), .int (f8)]))) : gMi l yX0_guardIsInTheWay wsX0_guardIsInTheWay ({ frames := 0, cells := 0, slots := 0, locals := 0 }) D w (gTy cI cH) sz [.ref a] (fun r u => ((r = 1 ∧ f1 = 2 ∧ zRem f4 3 = 0) ∨ (r = 0 ∧ ¬ (f1 = 2 ∧ zRem f4 3 = 0))) ∧ u = w) := by
  refine gEnter (cc := cX0_guardIsInTheWay) (maxL := 1) (ret := (some .boolean)) (QF := fun A => va_Qi _ (gPost D A) A) (by decide) rfl (Nat.le_of_ble_eq_true rfl) ?_
  intro p e s m below meth c A ls hX hr hlk hnm hK hN hA hI hl
  have hx := hX.1
  have hb := hX.2.1
  have hts := hX.2.2.2.2
  have hown : s.vm.findClass RX0 = some m.cls := hX.2.2.2.1
  have hin0 := iX0_guardIsInTheWay_0
  have he0 := he
  have hl : lv_has ls 1 [(0, .ref a)] := hl
  refine lv_aload_n hx hb dX0_guardIsInTheWay_0 rfl (lv_at hl 0 rfl) ?_
  refine gGet (ci := 0) (v := .int (f1)) hX hin0 hK hI q0 he rfl 1 (by decide) (hts (.fieldLink RX0 15 "GateHalls$Hall" "kind" "I") (by decide +kernel)) rfl dX0_guardIsInTheWay_1 ?_
  refine lv_iconst (v := 2) hx hb dX0_guardIsInTheWay_4 (by decide) ?_
  refine lv_icmp_ne (tgt := 21) hx hb dX0_guardIsInTheWay_5 (by decide) (fun c1 => ?_) (fun c1 => ?_)
  · refine lv_iconst (v := 0) hx hb dX0_guardIsInTheWay_21 (by decide) ?_
    exact gZret hX hr (Or.inl rfl) hlk hI ⟨Or.inr ⟨rfl, fun z => c1 z.1⟩, rfl⟩ dX0_guardIsInTheWay_22
  · refine lv_aload_n hx hb dX0_guardIsInTheWay_8 rfl (lv_at hl 0 rfl) ?_
    refine gGet (ci := 0) (v := .int (f4)) hX hin0 hK hI q0 he rfl 4 (by decide) (hts (.fieldLink RX0 21 "GateHalls$Hall" "passes" "I") (by decide +kernel)) rfl dX0_guardIsInTheWay_9 ?_
    refine lv_iconst (v := 3) hx hb dX0_guardIsInTheWay_12 (by decide) ?_
    refine lv_irem hx hb dX0_guardIsInTheWay_13 (by decide) ?_
    refine lv_if_ne (tgt := 21) hx hb dX0_guardIsInTheWay_14 (by decide) (fun c2 => ?_) (fun c2 => ?_)
    · refine lv_iconst (v := 0) hx hb dX0_guardIsInTheWay_21 (by decide) ?_
      exact gZret hX hr (Or.inl rfl) hlk hI ⟨Or.inr ⟨rfl, fun z => c2 z.2⟩, rfl⟩ dX0_guardIsInTheWay_22
    · refine lv_iconst (v := 1) hx hb dX0_guardIsInTheWay_17 (by decide) ?_
      refine lv_goto (tgt := 22) hx hb dX0_guardIsInTheWay_18 (by decide) ?_
      exact gZret hX hr (Or.inr rfl) hlk hI ⟨Or.inl ⟨rfl, c1, c2⟩, rfl⟩ dX0_guardIsInTheWay_22
set_option maxRecDepth 100000 in
theorem iX0_charge_0 : ∀ w ∈ wsX00, w ∈ wsX0_charge := by decide +kernel
set_option maxHeartbeats 4000000 in
set_option maxRecDepth 100000 in
theorem c_X0_charge (l : Launch) (D : va_G) (cI cH : ClassId) (w : va_W) (a q0 : Nat) (f0 f1 f2 f3 f4 f5 f6 f7 f8 : Int32) (sz : Nat)  (he : w[q0]? = some (a, .inr (0, [.int (f0), .int (f1), .int (f2), .int (f3), .int (f4), .int (f5), .int (f6), .int (f7), .int (f8)]))) : gMi l yX0_charge wsX0_charge ({ frames := 0, cells := 0, slots := 0, locals := 0 }) D w (gTy cI cH) sz [.ref a] (fun r u => (r = if f1 = 0 then f2 else if f1 = 2 then 2 * (f2 + f4) else f2 + f4) ∧ u = w) := by
  refine gEnter (cc := cX0_charge) (maxL := 2) (ret := (some .int)) (QF := fun A => va_Qi _ (gPost D A) A) (by decide) rfl (Nat.le_of_ble_eq_true rfl) ?_
  intro p e s m below meth c A ls hX hr hlk hnm hK hN hA hI hl
  have hx := hX.1
  have hb := hX.2.1
  have hts := hX.2.2.2.2
  have hown : s.vm.findClass RX0 = some m.cls := hX.2.2.2.1
  have hin0 := iX0_charge_0
  have he0 := he
  have hl : lv_has ls 2 [(0, .ref a)] := hl
  refine lv_aload_n hx hb dX0_charge_0 rfl (lv_at hl 0 rfl) ?_
  refine gGet (ci := 0) (v := .int (f1)) hX hin0 hK hI q0 he rfl 1 (by decide) (hts (.fieldLink RX0 15 "GateHalls$Hall" "kind" "I") (by decide +kernel)) rfl dX0_charge_1 ?_
  refine lv_if_ne (tgt := 12) hx hb dX0_charge_4 (by decide) (fun c1 => ?_) (fun c1 => ?_)
  · refine lv_aload_n hx hb dX0_charge_12 rfl (lv_at hl 0 rfl) ?_
    refine gGet (ci := 0) (v := .int (f2)) hX hin0 hK hI q0 he rfl 2 (by decide) (hts (.fieldLink RX0 18 "GateHalls$Hall" "fee" "I") (by decide +kernel)) rfl dX0_charge_13 ?_
    refine lv_aload_n hx hb dX0_charge_16 rfl (lv_at hl 0 rfl) ?_
    refine gGet (ci := 0) (v := .int (f4)) hX hin0 hK hI q0 he rfl 4 (by decide) (hts (.fieldLink RX0 21 "GateHalls$Hall" "passes" "I") (by decide +kernel)) rfl dX0_charge_17 ?_
    refine lv_iadd hx hb dX0_charge_20 ?_
    refine lv_istore_n (lv' := [(1, .int (f2 + f4)), (0, .ref a)]) hx hb dX0_charge_21 rfl hl (by decide) rfl (fun ls hl => ?_)
    refine lv_aload_n hx hb dX0_charge_22 rfl (lv_at hl 1 rfl) ?_
    refine gGet (ci := 0) (v := .int (f1)) hX hin0 hK hI q0 he rfl 1 (by decide) (hts (.fieldLink RX0 15 "GateHalls$Hall" "kind" "I") (by decide +kernel)) rfl dX0_charge_23 ?_
    refine lv_iconst (v := 2) hx hb dX0_charge_26 (by decide) ?_
    refine lv_icmp_ne (tgt := 36) hx hb dX0_charge_27 (by decide) (fun c2 => ?_) (fun c2 => ?_)
    · refine lv_iload_n hx hb dX0_charge_36 rfl (lv_at hl 0 rfl) ?_
      exact gIret hX hr hlk hI ⟨by rw [if_neg c1, if_neg c2], rfl⟩ dX0_charge_37
    · refine lv_iconst (v := 2) hx hb dX0_charge_30 (by decide) ?_
      refine lv_iload_n hx hb dX0_charge_31 rfl (lv_at hl 0 rfl) ?_
      refine lv_imul hx hb dX0_charge_32 ?_
      refine lv_goto (tgt := 37) hx hb dX0_charge_33 (by decide) ?_
      exact gIret hX hr hlk hI ⟨by rw [if_neg c1, if_pos c2], rfl⟩ dX0_charge_37
  · refine lv_aload_n hx hb dX0_charge_7 rfl (lv_at hl 0 rfl) ?_
    refine gGet (ci := 0) (v := .int (f2)) hX hin0 hK hI q0 he rfl 2 (by decide) (hts (.fieldLink RX0 18 "GateHalls$Hall" "fee" "I") (by decide +kernel)) rfl dX0_charge_8 ?_
    exact gIret hX hr hlk hI ⟨by rw [if_pos c1], rfl⟩ dX0_charge_11
set_option maxRecDepth 100000 in
theorem iX0_mark_0 : ∀ w ∈ wsX00, w ∈ wsX0_mark := by decide +kernel
set_option maxHeartbeats 4000000 in
set_option maxRecDepth 100000 in
theorem c_X0_mark (l : Launch) (D : va_G) (cI cH : ClassId) (w : va_W) (a q0 : Nat) (f0 f1 f2 f3 f4 f5 f6 f7 f8 : Int32) (sz : Nat)  (he : w[q0]? = some (a, .inr (0, [.int (f0), .int (f1), .int (f2), .int (f3), .int (f4), .int (f5), .int (f6), .int (f7), .int (f8)]))) : gMi l yX0_mark wsX0_mark ({ frames := 0, cells := 0, slots := 0, locals := 0 }) D w (gTy cI cH) sz [.ref a] (fun r u => r = zRem f0 100 ∧ u = w) := by
  refine gEnter (cc := cX0_mark) (maxL := 1) (ret := (some .int)) (QF := fun A => va_Qi _ (gPost D A) A) (by decide) rfl (Nat.le_of_ble_eq_true rfl) ?_
  intro p e s m below meth c A ls hX hr hlk hnm hK hN hA hI hl
  have hx := hX.1
  have hb := hX.2.1
  have hts := hX.2.2.2.2
  have hown : s.vm.findClass RX0 = some m.cls := hX.2.2.2.1
  have hin0 := iX0_mark_0
  have he0 := he
  have hl : lv_has ls 1 [(0, .ref a)] := hl
  refine lv_aload_n hx hb dX0_mark_0 rfl (lv_at hl 0 rfl) ?_
  refine gGet (ci := 0) (v := .int (f0)) hX hin0 hK hI q0 he rfl 0 (by decide) (hts (.fieldLink RX0 9 "GateHalls$Hall" "number" "I") (by decide +kernel)) rfl dX0_mark_1 ?_
  refine lv_bipush (v := 100) hx hb dX0_mark_4 (by decide) ?_
  refine lv_irem hx hb dX0_mark_6 (by decide) ?_
  exact gIret hX hr hlk hI ⟨rfl, rfl⟩ dX0_mark_7
def zFa (f0 f1 f2 f4 f5 f6 f7 f8 w : Int32) : Int32 := if w = 0 then f0 else if w = 1 then f1 else if w = 2 then f2 else if w = 3 then f4 else if w = 4 then f5 else if w = 5 then f6 else if w = 6 then f7 else if w = 7 then f8 else -1
theorem zFa_out {f0 f1 f2 f4 f5 f6 f7 f8 w : Int32} (h : w.toInt < 0 ∨ 7 < w.toInt) : (-1 : Int32) = zFa f0 f1 f2 f4 f5 f6 f7 f8 w := by
  have hk : ∀ k : Int32, ¬ (k.toInt < 0 ∨ 7 < k.toInt) → ¬ w = k := fun k a e => by subst e; exact a h
  unfold zFa
  rw [if_neg (hk 0 (by decide)), if_neg (hk 1 (by decide)), if_neg (hk 2 (by decide)), if_neg (hk 3 (by decide)), if_neg (hk 4 (by decide)), if_neg (hk 5 (by decide)), if_neg (hk 6 (by decide)), if_neg (hk 7 (by decide))]
set_option maxRecDepth 100000 in
theorem iX0_fact_0 : ∀ w ∈ wsX00, w ∈ wsX0_fact := by decide +kernel
set_option maxHeartbeats 4000000 in
set_option maxRecDepth 100000 in
theorem c_X0_fact (l : Launch) (D : va_G) (cI cH : ClassId) (w : va_W) (a q0 : Nat) (f0 f1 f2 f3 f4 f5 f6 f7 f8 : Int32) (sz : Nat) (x : Int32) (he : w[q0]? = some (a, .inr (0, [.int (f0), .int (f1), .int (f2), .int (f3), .int (f4), .int (f5), .int (f6), .int (f7), .int (f8)]))) : gMi l yX0_fact wsX0_fact ({ frames := 0, cells := 0, slots := 0, locals := 0 }) D w (gTy cI cH) sz [.ref a, .int (x)] (fun r u => r = zFa f0 f1 f2 f4 f5 f6 f7 f8 x ∧ u = w) := by
  refine gEnter (cc := cX0_fact) (maxL := 2) (ret := (some .int)) (QF := fun A => va_Qi _ (gPost D A) A) (by decide) rfl (Nat.le_of_ble_eq_true rfl) ?_
  intro p e s m below meth c A ls hX hr hlk hnm hK hN hA hI hl
  have hx := hX.1
  have hb := hX.2.1
  have hts := hX.2.2.2.2
  have hown : s.vm.findClass RX0 = some m.cls := hX.2.2.2.1
  have hin0 := iX0_fact_0
  have he0 := he
  have hl : lv_has ls 2 [(0, .ref a), (1, .int (x))] := hl
  refine lv_iload_n hx hb dX0_fact_0 rfl (lv_at hl 1 rfl) ?_
  rcases g_sw07 x with h1 | rfl | rfl | rfl | rfl | rfl | rfl | rfl | rfl
  · refine lv_tableOut (tgt := 88) hx hb dX0_fact_1 h1 (by decide) ?_
    refine lv_iconst (v := (-1)) hx hb dX0_fact_88 (by decide) ?_
    exact gIret hX hr hlk hI ⟨zFa_out h1, rfl⟩ dX0_fact_89
  · refine lv_tableIn (tgt := 48) (off := 47) hx hb dX0_fact_1 (by decide) (by decide) (by decide) (by decide) ?_
    refine lv_aload_n hx hb dX0_fact_48 rfl (lv_at hl 0 rfl) ?_
    refine gGet (ci := 0) (v := .int (f0)) hX hin0 hK hI q0 he rfl 0 (by decide) (hts (.fieldLink RX0 9 "GateHalls$Hall" "number" "I") (by decide +kernel)) rfl dX0_fact_49 ?_
    exact gIret hX hr hlk hI ⟨rfl, rfl⟩ dX0_fact_52
  · refine lv_tableIn (tgt := 53) (off := 52) hx hb dX0_fact_1 (by decide) (by decide) (by decide) (by decide) ?_
    refine lv_aload_n hx hb dX0_fact_53 rfl (lv_at hl 0 rfl) ?_
    refine gGet (ci := 0) (v := .int (f1)) hX hin0 hK hI q0 he rfl 1 (by decide) (hts (.fieldLink RX0 15 "GateHalls$Hall" "kind" "I") (by decide +kernel)) rfl dX0_fact_54 ?_
    exact gIret hX hr hlk hI ⟨rfl, rfl⟩ dX0_fact_57
  · refine lv_tableIn (tgt := 58) (off := 57) hx hb dX0_fact_1 (by decide) (by decide) (by decide) (by decide) ?_
    refine lv_aload_n hx hb dX0_fact_58 rfl (lv_at hl 0 rfl) ?_
    refine gGet (ci := 0) (v := .int (f2)) hX hin0 hK hI q0 he rfl 2 (by decide) (hts (.fieldLink RX0 18 "GateHalls$Hall" "fee" "I") (by decide +kernel)) rfl dX0_fact_59 ?_
    exact gIret hX hr hlk hI ⟨rfl, rfl⟩ dX0_fact_62
  · refine lv_tableIn (tgt := 63) (off := 62) hx hb dX0_fact_1 (by decide) (by decide) (by decide) (by decide) ?_
    refine lv_aload_n hx hb dX0_fact_63 rfl (lv_at hl 0 rfl) ?_
    refine gGet (ci := 0) (v := .int (f4)) hX hin0 hK hI q0 he rfl 4 (by decide) (hts (.fieldLink RX0 21 "GateHalls$Hall" "passes" "I") (by decide +kernel)) rfl dX0_fact_64 ?_
    exact gIret hX hr hlk hI ⟨rfl, rfl⟩ dX0_fact_67
  · refine lv_tableIn (tgt := 68) (off := 67) hx hb dX0_fact_1 (by decide) (by decide) (by decide) (by decide) ?_
    refine lv_aload_n hx hb dX0_fact_68 rfl (lv_at hl 0 rfl) ?_
    refine gGet (ci := 0) (v := .int (f5)) hX hin0 hK hI q0 he rfl 5 (by decide) (hts (.fieldLink RX0 36 "GateHalls$Hall" "asks" "I") (by decide +kernel)) rfl dX0_fact_69 ?_
    exact gIret hX hr hlk hI ⟨rfl, rfl⟩ dX0_fact_72
  · refine lv_tableIn (tgt := 73) (off := 72) hx hb dX0_fact_1 (by decide) (by decide) (by decide) (by decide) ?_
    refine lv_aload_n hx hb dX0_fact_73 rfl (lv_at hl 0 rfl) ?_
    refine gGet (ci := 0) (v := .int (f6)) hX hin0 hK hI q0 he rfl 6 (by decide) (hts (.fieldLink RX0 39 "GateHalls$Hall" "paid" "I") (by decide +kernel)) rfl dX0_fact_74 ?_
    exact gIret hX hr hlk hI ⟨rfl, rfl⟩ dX0_fact_77
  · refine lv_tableIn (tgt := 78) (off := 77) hx hb dX0_fact_1 (by decide) (by decide) (by decide) (by decide) ?_
    refine lv_aload_n hx hb dX0_fact_78 rfl (lv_at hl 0 rfl) ?_
    refine gGet (ci := 0) (v := .int (f7)) hX hin0 hK hI q0 he rfl 7 (by decide) (hts (.fieldLink RX0 24 "GateHalls$Hall" "inside" "I") (by decide +kernel)) rfl dX0_fact_79 ?_
    exact gIret hX hr hlk hI ⟨rfl, rfl⟩ dX0_fact_82
  · refine lv_tableIn (tgt := 83) (off := 82) hx hb dX0_fact_1 (by decide) (by decide) (by decide) (by decide) ?_
    refine lv_aload_n hx hb dX0_fact_83 rfl (lv_at hl 0 rfl) ?_
    refine gGet (ci := 0) (v := .int (f8)) hX hin0 hK hI q0 he rfl 8 (by decide) (hts (.fieldLink RX0 27 "GateHalls$Hall" "most" "I") (by decide +kernel)) rfl dX0_fact_84 ?_
    exact gIret hX hr hlk hI ⟨rfl, rfl⟩ dX0_fact_87
theorem gEnterF {l : Launch} {y : MethodName} {ws ws' : List Cond} {rm : Room} {cc : ByteArray} {maxL mc ms : Nat} {ret : Option FieldType} {D : va_G} {w : va_W} {tys : List (ClassId × FieldType)} {sz : Nat} {av : List Value} {QF : (Nat → Prop) → Array Value → State → Outcome → State → Prop} (hy : plainFor y = true) (hw : ws = Cond.code y cc maxL ret :: ws') (hn : (lg_sl av).length ≤ maxL)
    (body : ∀ (p : Program) (e : Env) (s : State) (m : MethodId) (below : List Frame) (meth : Method) (c : Code) (A : Nat → Prop) (ls : Array Slot), CallFix p m c cc maxL s av.toArray ws y.cls → meth.sig.returnType = ret → meth.locks = false → meth.name = y.name → va_K D vwCl tys s → gNw s → (∀ q, s.heap.size ≤ q → A q) → InW D A s.heap w s.heap [] → lv_has ls maxL (lv_args 0 av) → W p l e rm s m av.toArray below meth c s.heap [] 0 0 (MQ below (QF A) av.toArray s mc ms A) (F0 m 0 ls [])) :
    Met l y ws rm (va_Pc av (gPre D w tys sz)) (QF (va_A w sz)) mc ms (va_A w sz) := by
  refine va_MetF hy hw ?_
  intro p e s m args below meth c s₁ B hml hv
  obtain ⟨rfl, hsz, hP, hK, hD0, hN⟩ := hv
  subst hsz
  have hl := lv_entry av (n := maxL) hn
  rw [lg_entry_eq]
  exact body p e s m below meth c _ _ ⟨B.exec, B.bytes, hml, findClass_of_methodNamed B.named, atoms_spec (ws := ws) B.pre⟩ B.returns B.notSynchronized (name_of_methodNamed B.named B.method).1 hK hN (fun q h => Or.inr h) ⟨hP, hD0.self, va_S.rf⟩ hl
theorem gEnterSF {l : Launch} {y : MethodName} {ws ws' : List Cond} {rm : Room} {cc : ByteArray} {maxL : Nat} {ret : Option FieldType} {av : List Value} {Qc : Array Value → State → Outcome → State → Prop} (hy : plainFor y = true) (hw : ws = Cond.code y cc maxL ret :: ws') (hn : (lg_sl av).length ≤ maxL)
    (body : ∀ (p : Program) (e : Env) (s : State) (m : MethodId) (below : List Frame) (meth : Method) (c : Code) (ls : Array Slot), CallFix p m c cc maxL s av.toArray ws y.cls → meth.sig.returnType = ret → meth.locks = false → lv_has ls maxL (lv_args 0 av) → W p l e rm s m av.toArray below meth c s.heap [] 0 0 (MQ below Qc av.toArray s 0 0 (fun _ => False)) (F0 m 0 ls [])) :
    Met l y ws rm (fun v _ => v = av.toArray) Qc 0 0 (fun _ => False) := by
  refine va_MetF hy hw ?_
  intro p e s m args below meth c s₁ B hml hv
  subst hv
  have hl := lv_entry av (n := maxL) hn
  rw [lg_entry_eq]
  exact body p e s m below meth c _ ⟨B.exec, B.bytes, hml, findClass_of_methodNamed B.named, atoms_spec (ws := ws) B.pre⟩ B.returns B.notSynchronized hl
theorem g_xor {x k : Int32} (hk : k.toBitVec.msb = false) : 0 ≤ x ^^^ k ↔ 0 ≤ x := by
  rw [Int32.le_iff_toInt_le, Int32.le_iff_toInt_le]
  have h0 : (0 : Int32).toInt = 0 := by decide
  rw [h0]
  have key : ∀ y : Int32, 0 ≤ y.toInt ↔ y.toBitVec.msb = false := fun y => by
    show 0 ≤ y.toBitVec.toInt ↔ _
    rw [BitVec.toInt_eq_msb_cond]
    have hlt := y.toBitVec.isLt
    cases h : y.toBitVec.msb with
    | false => simp
    | true => simp; omega
  rw [key, key]
  show (x.toBitVec ^^^ k.toBitVec).msb = false ↔ _
  rw [BitVec.msb_xor, hk, Bool.xor_false]
theorem g_tmod (x : Int) : (0 ≤ x → 0 ≤ x.tmod 10) ∧ (x < 0 → x.tmod 10 ≤ 0) ∧ (0 ≤ x → 0 ≤ x.tmod 4) ∧ (x < 0 → x.tmod 4 ≤ 0) := by
  refine ⟨fun h => Int.tmod_nonneg _ h, fun h => ?_, fun h => Int.tmod_nonneg _ h, fun h => ?_⟩
  · have := Int.tmod_nonneg 10 (a := -x) (by omega)
    rw [Int.neg_tmod] at this
    omega
  · have := Int.tmod_nonneg 4 (a := -x) (by omega)
    rw [Int.neg_tmod] at this
    omega
theorem zTen_a {x : Int32} (h : 0 ≤ x ^^^ 10) : zRem x 10 = zTen x := by
  have h1 := (g_xor (k := 10) (by decide)).mp h
  unfold zTen
  rw [if_pos]
  rw [Int32.le_iff_toInt_le] at h1 ⊢
  have e : (zRem x 10).toInt = x.toInt.tmod 10 := rem_toInt x 10
  have h0 : (0 : Int32).toInt = 0 := by decide
  rw [e, h0]; rw [h0] at h1
  exact (g_tmod x.toInt).1 h1
theorem zTen_b {x : Int32} (h : zRem x 10 = 0) : zRem x 10 = zTen x := by
  unfold zTen
  rw [if_pos]
  rw [h]; decide
theorem zTen_c {x : Int32} (h : ¬ 0 ≤ x ^^^ 10) (h2 : ¬ zRem x 10 = 0) : zRem x 10 + 10 = zTen x := by
  have h1 : ¬ 0 ≤ x := fun z => h ((g_xor (k := 10) (by decide)).mpr z)
  unfold zTen
  rw [if_neg]
  intro z
  apply h2
  rw [Int32.le_iff_toInt_le] at h1 z
  have e : (zRem x 10).toInt = x.toInt.tmod 10 := rem_toInt x 10
  have h0 : (0 : Int32).toInt = 0 := by decide
  rw [h0] at h1 z
  have := (g_tmod x.toInt).2.1 (by omega)
  rw [← e] at this
  apply Int32.toInt_inj.mp
  rw [h0]; omega
set_option maxHeartbeats 4000000 in
set_option maxRecDepth 100000 in
theorem c_fm10 (l : Launch) (x : Int32) : gMs l yJ9_floorMod_7cf53 wsJ9_floorMod_7cf53 ({ frames := 0, cells := 0, slots := 0, locals := 0 }) [.int x, .int 10] (fun r => r = zTen x) := by
  refine gEnterSF (cc := cJ9_floorMod_7cf53) (maxL := 3) (ret := (some .int)) (by decide +kernel) rfl (Nat.le_of_ble_eq_true rfl) ?_
  intro p e s m below meth c ls hX hr hlk hl
  have hx := hX.1
  have hb := hX.2.1
  have hts := hX.2.2.2.2
  have hl : lv_has ls 3 [(0, .int (x)), (1, .int (10))] := hl
  refine lv_iload_n hx hb dJ9_floorMod_7cf53_0 rfl (lv_at hl 0 rfl) ?_
  refine lv_iload_n hx hb dJ9_floorMod_7cf53_1 rfl (lv_at hl 1 rfl) ?_
  refine lv_irem hx hb dJ9_floorMod_7cf53_2 (by decide) ?_
  refine lv_istore_n (lv' := [(2, .int ((x) - (x) / (10) * (10))), (0, .int (x)), (1, .int (10))]) hx hb dJ9_floorMod_7cf53_3 rfl hl (by decide) rfl (fun ls hl => ?_)
  refine lv_iload_n hx hb dJ9_floorMod_7cf53_4 rfl (lv_at hl 1 rfl) ?_
  refine lv_iload_n hx hb dJ9_floorMod_7cf53_5 rfl (lv_at hl 2 rfl) ?_
  refine lv_ixor hx hb dJ9_floorMod_7cf53_6 ?_
  refine lv_if_ge (tgt := 18) hx hb dJ9_floorMod_7cf53_7 (by decide) (fun c1 => ?_) (fun c1 => ?_)
  · refine lv_iload_n hx hb dJ9_floorMod_7cf53_18 rfl (lv_at hl 0 rfl) ?_
    exact gSiret hX hr hlk (zTen_a c1) dJ9_floorMod_7cf53_19
  · refine lv_iload_n hx hb dJ9_floorMod_7cf53_10 rfl (lv_at hl 0 rfl) ?_
    refine lv_if_eq (tgt := 18) hx hb dJ9_floorMod_7cf53_11 (by decide) (fun c2 => ?_) (fun c2 => ?_)
    · refine lv_iload_n hx hb dJ9_floorMod_7cf53_18 rfl (lv_at hl 0 rfl) ?_
      exact gSiret hX hr hlk (zTen_b c2) dJ9_floorMod_7cf53_19
    · refine lv_iload_n hx hb dJ9_floorMod_7cf53_14 rfl (lv_at hl 0 rfl) ?_
      refine lv_iload_n hx hb dJ9_floorMod_7cf53_15 rfl (lv_at hl 2 rfl) ?_
      refine lv_iadd hx hb dJ9_floorMod_7cf53_16 ?_
      exact gSiret hX hr hlk (zTen_c c1 c2) dJ9_floorMod_7cf53_17
theorem z_and3 (x : Int32) : (x &&& 3).toInt = x.toInt % 4 := by
  rw [pk_and x (m := 3) 2 (by decide)]
  have hlt := x.toBitVec.isLt
  rw [nI_toInt (by omega)]
  show _ = x.toBitVec.toInt % 4
  rw [BitVec.toInt_eq_msb_cond]
  cases h : x.toBitVec.msb with
  | false => simp
  | true => simp; omega
theorem zAnd_a {x : Int32} (h : 0 ≤ x ^^^ 4) : zRem x 4 = x &&& 3 := by
  have h1 := (g_xor (k := 4) (by decide)).mp h
  apply Int32.toInt_inj.mp
  have e : (zRem x 4).toInt = x.toInt.tmod 4 := rem_toInt x 4
  rw [Int32.le_iff_toInt_le] at h1
  have h0 : (0 : Int32).toInt = 0 := by decide
  rw [h0] at h1
  rw [e, z_and3, Int.tmod_eq_emod_of_nonneg h1]
theorem zAnd_n {x : Int} (h : x < 0) : x.tmod 4 = -((-x) % 4) := by
  have := Int.neg_tmod (-x) 4
  rw [Int.neg_neg] at this
  rw [this, Int.tmod_eq_emod_of_nonneg (by omega)]
theorem zAnd_b {x : Int32} (h : ¬ 0 ≤ x ^^^ 4) (h2 : zRem x 4 = 0) : zRem x 4 = x &&& 3 := by
  have h1 : ¬ 0 ≤ x := fun z => h ((g_xor (k := 4) (by decide)).mpr z)
  apply Int32.toInt_inj.mp
  have e : (zRem x 4).toInt = x.toInt.tmod 4 := rem_toInt x 4
  rw [Int32.le_iff_toInt_le] at h1
  have h0 : (0 : Int32).toInt = 0 := by decide
  rw [h0] at h1
  rw [zAnd_n (by omega)] at e
  rw [h2, h0] at e
  rw [h2, h0, z_and3]
  omega
theorem zAnd_c {x : Int32} (h : ¬ 0 ≤ x ^^^ 4) (h2 : ¬ zRem x 4 = 0) : zRem x 4 + 4 = x &&& 3 := by
  have h1 : ¬ 0 ≤ x := fun z => h ((g_xor (k := 4) (by decide)).mpr z)
  apply Int32.toInt_inj.mp
  have e : (zRem x 4).toInt = x.toInt.tmod 4 := rem_toInt x 4
  rw [Int32.le_iff_toInt_le] at h1
  have h0 : (0 : Int32).toInt = 0 := by decide
  have h4 : (4 : Int32).toInt = 4 := by decide
  rw [h0] at h1
  rw [zAnd_n (by omega)] at e
  have h3 : (zRem x 4).toInt ≠ 0 := fun z => h2 (Int32.toInt_inj.mp (z.trans h0.symm))
  rw [Int32.toInt_add, h4, e, Int.bmod_eq_of_le (by omega) (by omega), z_and3]
  omega
set_option maxHeartbeats 4000000 in
set_option maxRecDepth 100000 in
theorem c_fm4 (l : Launch) (x : Int32) : gMs l yJ9_floorMod_7cf53 wsJ9_floorMod_7cf53 ({ frames := 0, cells := 0, slots := 0, locals := 0 }) [.int x, .int 4] (fun r => r = x &&& 3) := by
  refine gEnterSF (cc := cJ9_floorMod_7cf53) (maxL := 3) (ret := (some .int)) (by decide +kernel) rfl (Nat.le_of_ble_eq_true rfl) ?_
  intro p e s m below meth c ls hX hr hlk hl
  have hx := hX.1
  have hb := hX.2.1
  have hts := hX.2.2.2.2
  have hl : lv_has ls 3 [(0, .int (x)), (1, .int (4))] := hl
  refine lv_iload_n hx hb dJ9_floorMod_7cf53_0 rfl (lv_at hl 0 rfl) ?_
  refine lv_iload_n hx hb dJ9_floorMod_7cf53_1 rfl (lv_at hl 1 rfl) ?_
  refine lv_irem hx hb dJ9_floorMod_7cf53_2 (by decide) ?_
  refine lv_istore_n (lv' := [(2, .int ((x) - (x) / (4) * (4))), (0, .int (x)), (1, .int (4))]) hx hb dJ9_floorMod_7cf53_3 rfl hl (by decide) rfl (fun ls hl => ?_)
  refine lv_iload_n hx hb dJ9_floorMod_7cf53_4 rfl (lv_at hl 1 rfl) ?_
  refine lv_iload_n hx hb dJ9_floorMod_7cf53_5 rfl (lv_at hl 2 rfl) ?_
  refine lv_ixor hx hb dJ9_floorMod_7cf53_6 ?_
  refine lv_if_ge (tgt := 18) hx hb dJ9_floorMod_7cf53_7 (by decide) (fun c1 => ?_) (fun c1 => ?_)
  · refine lv_iload_n hx hb dJ9_floorMod_7cf53_18 rfl (lv_at hl 0 rfl) ?_
    exact gSiret hX hr hlk (zAnd_a c1) dJ9_floorMod_7cf53_19
  · refine lv_iload_n hx hb dJ9_floorMod_7cf53_10 rfl (lv_at hl 0 rfl) ?_
    refine lv_if_eq (tgt := 18) hx hb dJ9_floorMod_7cf53_11 (by decide) (fun c2 => ?_) (fun c2 => ?_)
    · refine lv_iload_n hx hb dJ9_floorMod_7cf53_18 rfl (lv_at hl 0 rfl) ?_
      exact gSiret hX hr hlk (zAnd_b c1 c2) dJ9_floorMod_7cf53_19
    · refine lv_iload_n hx hb dJ9_floorMod_7cf53_14 rfl (lv_at hl 0 rfl) ?_
      refine lv_iload_n hx hb dJ9_floorMod_7cf53_15 rfl (lv_at hl 2 rfl) ?_
      refine lv_iadd hx hb dJ9_floorMod_7cf53_16 ?_
      exact gSiret hX hr hlk (zAnd_c c1 c2) dJ9_floorMod_7cf53_17
