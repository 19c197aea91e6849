set_option maxHeartbeats 4000000 in
set_option maxRecDepth 100000 in
theorem c_X2_in (l : Launch) (v lo hi : Int32) : gMs l yX2_in wsX2_in ({ frames := 0, cells := 0, slots := 0, locals := 0 }) [.int (v), .int (lo), .int (hi)] (fun r => (r = 1 ∧ ¬ v < lo ∧ ¬ hi < v) ∨ (r = 0 ∧ (v < lo ∨ hi < v))) := by
  refine gEnterS (cc := cX2_in) (maxL := 3) (ret := (some .boolean)) (by decide) rfl (Nat.le_of_ble_eq_true rfl) ?_
  intro p e s m below meth c ls hX hr hlk hl
  have hx := hX.1
  have hb := hX.2.1
  have hts := hX.2.2.2.2
  have hown : s.vm.findClass RX2 = some m.cls := hX.2.2.2.1
  have hl : lv_has ls 3 [(0, .int (v)), (1, .int (lo)), (2, .int (hi))] := hl
  refine lv_iload_n hx hb dX2_in_0 rfl (lv_at hl 0 rfl) ?_
  refine lv_iload_n hx hb dX2_in_1 rfl (lv_at hl 1 rfl) ?_
  refine lv_icmp_lt (tgt := 14) hx hb dX2_in_2 (by decide) (fun c1 => ?_) (fun c1 => ?_)
  · refine lv_iconst (v := 0) hx hb dX2_in_14 (by decide) ?_
    exact gSzret hX hr (Or.inl rfl) hlk (Or.inr ⟨rfl, Or.inl c1⟩) dX2_in_15
  · refine lv_iload_n hx hb dX2_in_5 rfl (lv_at hl 0 rfl) ?_
    refine lv_iload_n hx hb dX2_in_6 rfl (lv_at hl 2 rfl) ?_
    refine lv_icmp_gt (tgt := 14) hx hb dX2_in_7 (by decide) (fun c2 => ?_) (fun c2 => ?_)
    · refine lv_iconst (v := 0) hx hb dX2_in_14 (by decide) ?_
      exact gSzret hX hr (Or.inl rfl) hlk (Or.inr ⟨rfl, Or.inr c2⟩) dX2_in_15
    · refine lv_iconst (v := 1) hx hb dX2_in_10 (by decide) ?_
      refine lv_goto (tgt := 15) hx hb dX2_in_11 (by decide) ?_
      exact gSzret hX hr (Or.inr rfl) hlk (Or.inl ⟨rfl, c1, c2⟩) dX2_in_15
theorem g_le10 {x : Int32} (h : (9 : Int32) < x) : (10 : Int32) ≤ x := by
  rw [Int32.lt_iff_toInt_lt] at h
  rw [Int32.le_iff_toInt_le]
  have h1 : (9 : Int32).toInt = 9 := by decide
  have h2 : (10 : Int32).toInt = 10 := by decide
  omega
theorem g_10le {x : Int32} (h : (10 : Int32) ≤ x) : (9 : Int32) < x := by
  rw [Int32.le_iff_toInt_le] at h
  rw [Int32.lt_iff_toInt_lt]
  have h1 : (9 : Int32).toInt = 9 := by decide
  have h2 : (10 : Int32).toInt = 10 := by decide
  omega
set_option maxHeartbeats 4000000 in
set_option maxRecDepth 100000 in
theorem c_X1_isPlace (l : Launch) (v : Int32) : gMs l yX1_isPlace wsX1_isPlace ({ frames := 0, cells := 0, slots := 0, locals := 0 }) [.int (v)] (fun r => (r = 1 ∧ ¬ v < 0 ∧ ¬ 9 < v) ∨ (r = 0 ∧ (v < 0 ∨ 9 < v))) := by
  refine gEnterS (cc := cX1_isPlace) (maxL := 1) (ret := (some .boolean)) (by decide) rfl (Nat.le_of_ble_eq_true rfl) ?_
  intro p e s m below meth c ls hX hr hlk hl
  have hx := hX.1
  have hb := hX.2.1
  have hts := hX.2.2.2.2
  have hown : s.vm.findClass RX1 = some m.cls := hX.2.2.2.1
  have hl : lv_has ls 1 [(0, .int (v))] := hl
  refine lv_iload_n hx hb dX1_isPlace_0 rfl (lv_at hl 0 rfl) ?_
  refine lv_if_lt (tgt := 14) hx hb dX1_isPlace_1 (by decide) (fun c1 => ?_) (fun c1 => ?_)
  · refine lv_iconst (v := 0) hx hb dX1_isPlace_14 (by decide) ?_
    exact gSzret hX hr (Or.inl rfl) hlk (Or.inr ⟨rfl, Or.inl c1⟩) dX1_isPlace_15
  · refine lv_iload_n hx hb dX1_isPlace_4 rfl (lv_at hl 0 rfl) ?_
    refine lv_bipush (v := 10) hx hb dX1_isPlace_5 (by decide) ?_
    refine lv_icmp_ge (tgt := 14) hx hb dX1_isPlace_7 (by decide) (fun c2 => ?_) (fun c2 => ?_)
    · refine lv_iconst (v := 0) hx hb dX1_isPlace_14 (by decide) ?_
      exact gSzret hX hr (Or.inl rfl) hlk (Or.inr ⟨rfl, Or.inr (g_10le c2)⟩) dX1_isPlace_15
    · refine lv_iconst (v := 1) hx hb dX1_isPlace_10 (by decide) ?_
      refine lv_goto (tgt := 15) hx hb dX1_isPlace_11 (by decide) ?_
      exact gSzret hX hr (Or.inr rfl) hlk (Or.inl ⟨rfl, c1, fun h => c2 (g_le10 h)⟩) dX1_isPlace_15
set_option maxHeartbeats 4000000 in
set_option maxRecDepth 100000 in
theorem c_X2_ten (l : Launch) (n : Int32) : gMs l yX2_ten wsX2_ten ({ frames := 0, cells := 0, slots := 0, locals := 0 }) [.int (n)] (fun r => r = zTen n) := by
  refine gEnterS (cc := cX2_ten) (maxL := 2) (ret := (some .int)) (by decide) rfl (Nat.le_of_ble_eq_true rfl) ?_
  intro p e s m below meth c ls hX hr hlk hl
  have hx := hX.1
  have hb := hX.2.1
  have hts := hX.2.2.2.2
  have hown : s.vm.findClass RX2 = some m.cls := hX.2.2.2.1
  have hl : lv_has ls 2 [(0, .int (n))] := hl
  refine lv_iload_n hx hb dX2_ten_0 rfl (lv_at hl 0 rfl) ?_
  refine lv_bipush (v := 10) hx hb dX2_ten_1 (by decide) ?_
  refine lv_irem hx hb dX2_ten_3 (by decide) ?_
  refine lv_istore_n (lv' := [(1, .int ((n) - (n) / (10) * (10))), (0, .int (n))]) hx hb dX2_ten_4 rfl hl (by decide) rfl (fun ls hl => ?_)
  refine lv_iload_n hx hb dX2_ten_5 rfl (lv_at hl 0 rfl) ?_
  refine lv_if_ge (tgt := 16) hx hb dX2_ten_6 (by decide) (fun c1 => ?_) (fun c1 => ?_)
  · refine lv_iload_n hx hb dX2_ten_16 rfl (lv_at hl 0 rfl) ?_
    exact gSiret hX hr hlk (by show _ = zTen n; unfold zTen zRem; rw [if_pos c1]) dX2_ten_17
  · refine lv_iload_n hx hb dX2_ten_9 rfl (lv_at hl 0 rfl) ?_
    refine lv_bipush (v := 10) hx hb dX2_ten_10 (by decide) ?_
    refine lv_iadd hx hb dX2_ten_12 ?_
    refine lv_goto (tgt := 17) hx hb dX2_ten_13 (by decide) ?_
    exact gSiret hX hr hlk (by show _ = zTen n; unfold zTen zRem; rw [if_neg c1]) dX2_ten_17
