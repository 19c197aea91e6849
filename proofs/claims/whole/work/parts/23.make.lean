set_option maxRecDepth 100000 in
theorem iX1_hall_0 : ∀ w ∈ wsX00, w ∈ wsX1_hall := by decide +kernel
set_option maxRecDepth 100000 in
theorem iX1_hall_1 : ∀ w ∈ wsX10, w ∈ wsX1_hall := by decide +kernel
set_option maxHeartbeats 4000000 in
set_option maxRecDepth 100000 in
theorem c_X1_hall (l : Launch) (D : va_G) (cI cH : ClassId) (g : Nat) (q : Nat → Nat) (ad : Nat → Nat) (pf : Nat → Int32) (n : Nat) (σ : gh_S) (sz : Nat) (x k f : Int32) (w : Nat) (hg : gI n w σ) : Met l yX1_hall wsX1_hall ({ frames := 2, cells := 1, slots := 9, locals := 43 }) (va_Pc [.ref g, .int x, .int k, .int f] (gPre D (wCn g q cI cH ad pf n σ) (gTy cI cH) sz)) (va_Qi (fun r u => ∃ ad' : Nat → Nat, r = (sHall σ x k f).1 ∧ u = wCn g q cI cH ad' pf (zN n x k f) (sHall σ x k f).2) (gPost D (va_A (wCn g q cI cH ad pf n σ) sz)) (va_A (wCn g q cI cH ad pf n σ) sz)) 1 9 (va_A (wCn g q cI cH ad pf n σ) sz) := by
  refine gEnter (cc := cX1_hall) (maxL := 5) (ret := (some .int)) (QF := fun A => va_Qi _ (gPost D A) A) (by decide) rfl (Nat.le_of_ble_eq_true rfl) ?_
  intro p e s m below meth c A ls hX hr hlk hnm hK hN hA hI hl
  have hx := hX.1
  have hb := hX.2.1
  have hts := hX.2.2.2.2
  have hown : s.vm.findClass RX1 = some m.cls := hX.2.2.2.1
  have hin0 := iX1_hall_0
  have hin1 := iX1_hall_1
  have hl : lv_has ls 5 [(0, .ref g), (1, .int (x)), (2, .int (k)), (3, .int (f))] := hl
  have hI : InW D A s.heap (wCr g q cI cH ad pf (gfh ad σ) (gfp ad σ) n σ) s.heap [] := hI
  obtain ⟨hn, hw, ⟨t, ht, htE⟩, hpl, hpar, hrow, hn4, hw30, hz⟩ := id hg
  refine lv_iload_n hx hb dX1_hall_0 rfl (lv_at hl 1 rfl) ?_
  refine vp_callSi (W.runS (As := [.int (x)]) (rest := []) hX (c_X1_isPlace l (x)) (va_cwS 1 hts gX1_hall_X1_isPlace rfl rfl rfl (by decide +kernel) ⟨Nat.le_of_ble_eq_true rfl, Nat.le_of_ble_eq_true rfl⟩) preEq rfl rfl hl.1 rfl (lv_room (Nat.le_of_ble_eq_true rfl)) dX1_hall_1 ⟨Nat.le_of_ble_eq_true rfl, Nat.le_of_ble_eq_true rfl⟩) (fun r1 hr1 => ?_)
  rcases hr1 with ⟨rfl, ha_r1, hb_r1⟩ | ⟨rfl, hc_r1⟩
  · refine lv_if_eq (tgt := 27) hx hb dX1_hall_4 (by decide) (fun c2 => False.elim (by revert c2; decide)) (fun c2 => ?_)
    refine lv_iload_n hx hb dX1_hall_7 rfl (lv_at hl 2 rfl) ?_
    refine lv_if_lt (tgt := 27) hx hb dX1_hall_8 (by decide) (fun c3 => ?_) (fun c3 => ?_)
    · refine lv_iconst (v := (-1)) hx hb dX1_hall_27 (by decide) ?_
      refine W.widen (k := 1) (n := 9) (Nat.zero_le _) (Nat.zero_le _) ?_
      exact gIret hX hr hlk hI ⟨ad, by rw [sHall, if_pos (Or.inr (Or.inr (Or.inl c3)))], by rw [zN, if_pos (Or.inr (Or.inr (Or.inl c3))), sHall, if_pos (Or.inr (Or.inr (Or.inl c3)))]⟩ dX1_hall_28
    · refine lv_iload_n hx hb dX1_hall_11 rfl (lv_at hl 2 rfl) ?_
      refine lv_iconst (v := 2) hx hb dX1_hall_12 (by decide) ?_
      refine lv_icmp_gt (tgt := 27) hx hb dX1_hall_13 (by decide) (fun c4 => ?_) (fun c4 => ?_)
      · refine lv_iconst (v := (-1)) hx hb dX1_hall_27 (by decide) ?_
        refine W.widen (k := 1) (n := 9) (Nat.zero_le _) (Nat.zero_le _) ?_
        exact gIret hX hr hlk hI ⟨ad, by rw [sHall, if_pos (Or.inr (Or.inr (Or.inr (Or.inl c4))))], by rw [zN, if_pos (Or.inr (Or.inr (Or.inr (Or.inl c4)))), sHall, if_pos (Or.inr (Or.inr (Or.inr (Or.inl c4))))]⟩ dX1_hall_28
      · refine lv_iload_n hx hb dX1_hall_16 rfl (lv_at hl 3 rfl) ?_
        refine lv_if_lt (tgt := 27) hx hb dX1_hall_17 (by decide) (fun c5 => ?_) (fun c5 => ?_)
        · refine lv_iconst (v := (-1)) hx hb dX1_hall_27 (by decide) ?_
          refine W.widen (k := 1) (n := 9) (Nat.zero_le _) (Nat.zero_le _) ?_
          exact gIret hX hr hlk hI ⟨ad, by rw [sHall, if_pos (Or.inr (Or.inr (Or.inr (Or.inr (Or.inl c5)))))], by rw [zN, if_pos (Or.inr (Or.inr (Or.inr (Or.inr (Or.inl c5))))), sHall, if_pos (Or.inr (Or.inr (Or.inr (Or.inr (Or.inl c5)))))]⟩ dX1_hall_28
        · refine lv_iload_n hx hb dX1_hall_20 rfl (lv_at hl 3 rfl) ?_
          refine lv_sipush (v := 1000) hx hb dX1_hall_21 (by decide) ?_
          refine lv_icmp_le (tgt := 29) hx hb dX1_hall_24 (by decide) (fun c6 => ?_) (fun c6 => ?_)
          · obtain ⟨j, hj, hjE, hjC⟩ := g_pl ha_r1 hb_r1
            have hnC : (σ.2 0).toNatClampNeg = n := by rw [hn]; exact nI_clamp (by omega)
            refine lv_aload_n hx hb dX1_hall_29 rfl (lv_at hl 0 rfl) ?_
            refine cGet (v := .int (σ.2 0)) hX hin1 hK hI 3 (by decide) (hts (.fieldLink RX1 38 "GateHalls" "hallsMade" "I") (by decide +kernel)) rfl dX1_hall_30 ?_
            refine lv_istore (lv' := [(4, .int (σ.2 0)), (0, .ref g), (1, .int (x)), (2, .int (k)), (3, .int (f))]) hx hb dX1_hall_33 hl (by decide) rfl (fun ls hl => ?_)
            refine lv_aload_n hx hb dX1_hall_35 rfl (lv_at hl 1 rfl) ?_
            refine cGet (v := .ref (q 0)) hX hin1 hK hI 0 (by decide) (hts (.fieldLink RX1 11 "GateHalls" "halls" "[LGateHalls$Hall;") (by decide +kernel)) rfl dX1_hall_36 ?_
            refine lv_iload_n hx hb dX1_hall_39 rfl (lv_at hl 2 rfl) ?_
            refine gNew (ci := 0) (fs := [.int 0, .int 0, .int 0, .int 0, .int 0, .int 0, .int 0, .int 0, .int 0]) hX hin0 tyX0 tyX0_ok (hts (.classLink RX1 9 RX0) (by decide +kernel)) (hts (.instantiable RX0 9) (by decide +kernel)) (hts (.initialized RX0) (by decide +kernel)) hK hI hA rfl (fun j hj => by rcases (show j = 0 ∨ j = 1 ∨ j = 2 ∨ j = 3 ∨ j = 4 ∨ j = 5 ∨ j = 6 ∨ j = 7 ∨ j = 8 by omega) with rfl | rfl | rfl | rfl | rfl | rfl | rfl | rfl | rfl <;> rfl) (Nat.le_of_ble_eq_true rfl) (Nat.le_of_ble_eq_true rfl) dX1_hall_40 (fun a H hI => ?_)
            refine lv_dup hx hb dX1_hall_43 rfl ?_
            refine lv_iload hx hb dX1_hall_44 (lv_at hl 0 rfl) ?_
            refine lv_iload_n hx hb dX1_hall_46 rfl (lv_at hl 3 rfl) ?_
            refine lv_iload_n hx hb dX1_hall_47 rfl (lv_at hl 4 rfl) ?_
            refine gCallv (va_runIN (As := [.int (σ.2 0), .int k, .int f]) (rest := [.ref a, .int x, .ref (q 0)]) hX (c_X0_init l D cI cH ((wCn g q cI cH ad pf n σ) ++ [(a, .inr (0, [.int 0, .int 0, .int 0, .int 0, .int 0, .int 0, .int 0, .int 0, .int 0]))]) a ((wCn g q cI cH ad pf n σ)).length 0 0 0 0 0 0 0 0 0 H.size (σ.2 0) k f (g_last _ _)) ⟨va_cnB 3 hts gX1_hall_X0_init_n42 rfl rfl rfl hN.1 (hts (.initialized RX0) (by decide +kernel)) (by decide +kernel) ⟨Nat.le_of_ble_eq_true rfl, Nat.le_of_ble_eq_true rfl⟩, rfl, hts (.instanceMethod yX0_init) (by decide +kernel)⟩ ⟨gPre_blind, gPre_ok hI hK hN⟩ rfl rfl hl.1 rfl (lv_room (Nat.le_of_ble_eq_true rfl)) dX1_hall_48 ⟨Nat.le_of_ble_eq_true rfl, Nat.le_of_ble_eq_true rfl⟩) hI hA (fun u H locs hu hI => ?_)
            subst hu
            have hI : InW D A s.heap (wCr g q cI cH (va_up ad n a) pf (gfh ad σ) (gfp ad σ) (n + 1) (uA (uA σ 1 n k) 2 n f)) H locs := by
              rw [← wCr_new hz, ← hn]
              rw [g_setlast] at hI
              exact hI
            have hv : (wCr g q cI cH (va_up ad n a) pf (gfh ad σ) (gfp ad σ) (n + 1) (uA (uA σ 1 n k) 2 n f))[6 + n]? = some (a, .inr (0, gHf (uA (uA σ 1 n k) 2 n f) n)) := by
              have h7 := wCr_hall (g := g) (q := q) (cI := cI) (cH := cH) (ad := va_up ad n a) (pf := pf) (fh := gfh ad σ) (fp := gfp ad σ) (n := n + 1) (i := n) (σ := (uA (uA σ 1 n k) 2 n f)) (Nat.lt_succ_self n)
              rwa [va_up_self] at h7
            refine gQst (j := j) (w' := wCr g q cI cH (va_up ad n a) pf (va_up (gfh ad σ) j (some a)) (gfp ad σ) (n + 1) (uA (uA σ 1 n k) 2 n f)) (r := (RX0, TX0, 9)) hX hK hI 1 1 (6 + n) 0 rfl rfl hv rfl hjE (by omega) (by decide) rfl dX1_hall_51 (fun H locs hI => ?_)
            refine lv_aload_n hx hb dX1_hall_52 rfl (lv_at hl 1 rfl) ?_
            refine lv_dup hx hb dX1_hall_53 rfl ?_
            refine cGet (v := .int (σ.2 0)) hX hin1 hK hI 3 (by decide) (hts (.fieldLink RX1 38 "GateHalls" "hallsMade" "I") (by decide +kernel)) rfl dX1_hall_54 ?_
            refine lv_iconst (v := 1) hx hb dX1_hall_57 (by decide) ?_
            refine lv_iadd hx hb dX1_hall_58 ?_
            refine cPut (σ' := (uS (uA (uA σ 1 (n) (k)) 2 (n) (f)) 0 ((σ.2 0) + (1)))) hX hin1 hK hI 3 (by decide) (hts (.fieldLink RX1 38 "GateHalls" "hallsMade" "I") (by decide +kernel)) rfl rfl rfl dX1_hall_59 (fun H locs hI => ?_)
            refine lv_iload hx hb dX1_hall_62 (lv_at hl 0 rfl) ?_
            have e1 : gfh (va_up ad n a) (uS (uA (uA (uA σ 1 n k) 2 n f) 9 j (σ.2 0)) 0 (σ.2 0 + 1)) = va_up (gfh ad σ) j (some a) := by
              show gfh (va_up ad n a) (uA σ 9 j (σ.2 0)) = _
              rw [hn]
              exact (gfh_new hj (by omega) hpl).symm
            have e2 : gfp (va_up ad n a) (uS (uA (uA (uA σ 1 n k) 2 n f) 9 j (σ.2 0)) 0 (σ.2 0 + 1)) = gfp ad σ := (gfp_new hw (by omega) (by omega) hrow).symm
            have hneg : ¬ (x < 0 ∨ 9 < x ∨ k < 0 ∨ 2 < k ∨ f < 0 ∨ 1000 < f) := (fun h => h.elim ha_r1 (fun h => h.elim hb_r1 (fun h => h.elim c3 (fun h => h.elim c4 (fun h => h.elim c5 (g_nlt_of_le c6))))))
            exact gIret hX hr hlk hI ⟨va_up ad n a, by rw [sHall, if_neg hneg], by
              rw [zN, if_neg hneg, sHall, if_neg hneg, hjC, hnC]
              show _ = wCr g q cI cH (va_up ad n a) pf (gfh (va_up ad n a) (uS (uA (uA (uA σ 1 n k) 2 n f) 9 j (σ.2 0)) 0 (σ.2 0 + 1))) (gfp (va_up ad n a) (uS (uA (uA (uA σ 1 n k) 2 n f) 9 j (σ.2 0)) 0 (σ.2 0 + 1))) (n + 1) (uS (uA (uA (uA σ 1 n k) 2 n f) 9 j (σ.2 0)) 0 (σ.2 0 + 1))
              rw [e1, e2]
              rfl⟩ dX1_hall_64
          · refine lv_iconst (v := (-1)) hx hb dX1_hall_27 (by decide) ?_
            refine W.widen (k := 1) (n := 9) (Nat.zero_le _) (Nat.zero_le _) ?_
            exact gIret hX hr hlk hI ⟨ad, by rw [sHall, if_pos (Or.inr (Or.inr (Or.inr (Or.inr (Or.inr (g_lt_of_nle c6))))))], by rw [zN, if_pos (Or.inr (Or.inr (Or.inr (Or.inr (Or.inr (g_lt_of_nle c6)))))), sHall, if_pos (Or.inr (Or.inr (Or.inr (Or.inr (Or.inr (g_lt_of_nle c6))))))]⟩ dX1_hall_28
  · refine lv_if_eq (tgt := 27) hx hb dX1_hall_4 (by decide) (fun c7 => ?_) (fun c7 => False.elim (by revert c7; decide))
    refine lv_iconst (v := (-1)) hx hb dX1_hall_27 (by decide) ?_
    refine W.widen (k := 1) (n := 9) (Nat.zero_le _) (Nat.zero_le _) ?_
    exact gIret hX hr hlk hI ⟨ad, by rw [sHall, if_pos (hc_r1.elim Or.inl (fun h => Or.inr (Or.inl h)))], by rw [zN, if_pos (hc_r1.elim Or.inl (fun h => Or.inr (Or.inl h))), sHall, if_pos (hc_r1.elim Or.inl (fun h => Or.inr (Or.inl h)))]⟩ dX1_hall_28
set_option maxHeartbeats 4000000 in
set_option maxRecDepth 100000 in
theorem c_fill (l : Launch) (D : va_G) (tys : List (ClassId × FieldType)) (cI : ClassId) (w : va_W) (a q0 t0 : Nat) (sz : Nat) (he : w[q0]? = some (a, .inl (cI, 10, .inl (fun _ => 0)))) (ht : tys[t0]? = some (cI, .int)) : gMv l yJ7_fill_53178 wsJ7_fill_53178 ({ frames := 0, cells := 0, slots := 0, locals := 0 }) D w tys sz [.ref a, .int (-1)] (fun u => u = w.set q0 (a, .inl (cI, 10, .inl (gFill 10)))) := by
  refine gEnterF (cc := cJ7_fill_53178) (maxL := 4) (ret := none) (QF := fun A => va_Qv _ (gPost D A) A) (by decide +kernel) rfl (Nat.le_of_ble_eq_true rfl) ?_
  intro p e s m below meth c A ls hX hr hlk hnm hK hN hA hI hl
  have hx := hX.1
  have hb := hX.2.1
  have hl : lv_has ls 4 [(0, .ref a), (1, .int (-1))] := hl
  refine lv_iconst (v := 0) hx hb dJ7_fill_53178_0 (by decide) ?_
  refine lv_istore_n (lv' := [(2, .int 0), (0, .ref a), (1, .int (-1))]) hx hb dJ7_fill_53178_1 rfl hl (by decide) rfl (fun ls hl => ?_)
  refine lv_aload_n hx hb dJ7_fill_53178_2 rfl (lv_at hl 1 rfl) ?_
  refine gAlen (n := 10) hX hK hI q0 t0 he ht rfl dJ7_fill_53178_3 ?_
  refine lv_istore_n (lv' := [(3, .int (nI 10)), (2, .int 0), (0, .ref a), (1, .int (-1))]) hx hb dJ7_fill_53178_4 rfl hl (by decide) rfl (fun ls hl => ?_)
  have loop : ∀ (f j : Nat) (H : Heap) (locs : List Loc) (ls : Array Slot), j + f = 10 → InW D A s.heap (w.set q0 (a, .inl (cI, 10, .inl (gFill j)))) H locs → lv_has ls 4 [(0, .ref a), (1, .int (-1)), (2, .int (nI j)), (3, .int (nI 10))] → W p l e ({ frames := 0, cells := 0, slots := 0, locals := 0 }) s m ([.ref a, .int (-1)] : List Value).toArray below meth c H locs 0 0 (MQ below (va_Qv (fun u => u = w.set q0 (a, .inl (cI, 10, .inl (gFill 10)))) (gPost D A) A) ([.ref a, .int (-1)] : List Value).toArray s 0 0 A) (F0 m 5 ls []) := by
    intro f
    induction f with
    | zero =>
      intro j H locs ls hj hI hl
      refine lv_iload_n hx hb dJ7_fill_53178_5 rfl (lv_at hl 2 rfl) ?_
      refine lv_iload_n hx hb dJ7_fill_53178_6 rfl (lv_at hl 3 rfl) ?_
      refine lv_icmp_ge (tgt := 20) hx hb dJ7_fill_53178_7 (by decide) (fun c1 => ?_) (fun c1 => absurd (nI_le (by omega) (by omega)) c1)
      exact gVret hX hr hlk hI (by rw [show j = 10 by omega]) dJ7_fill_53178_20
    | succ f ih =>
      intro j H locs ls hj hI hl
      refine lv_iload_n hx hb dJ7_fill_53178_5 rfl (lv_at hl 2 rfl) ?_
      refine lv_iload_n hx hb dJ7_fill_53178_6 rfl (lv_at hl 3 rfl) ?_
      refine lv_icmp_ge (tgt := 20) hx hb dJ7_fill_53178_7 (by decide) (fun c1 => absurd c1 (nI_ge (by omega) (by omega))) (fun c1 => ?_)
      refine lv_aload_n hx hb dJ7_fill_53178_10 rfl (lv_at hl 0 rfl) ?_
      refine lv_iload_n hx hb dJ7_fill_53178_11 rfl (lv_at hl 2 rfl) ?_
      refine lv_iload_n hx hb dJ7_fill_53178_12 rfl (lv_at hl 1 rfl) ?_
      refine gAst (j := j) (w' := w.set q0 (a, .inl (cI, 10, .inl (gFill (j + 1))))) hX hK hI q0 t0 (g_set_get he) ht rfl (by omega) (by decide) (by rw [List.set_set]; rfl) dJ7_fill_53178_13 (fun H locs hI => ?_)
      refine lv_iinc (v := nI (j + 1)) (lv' := [(2, .int (nI (j + 1))), (0, .ref a), (1, .int (-1)), (3, .int (nI 10))]) hx hb dJ7_fill_53178_14 hl (k := 2) rfl (nI_1 _) (by decide) rfl (fun ls hl => ?_)
      refine lv_goto (tgt := 5) hx hb dJ7_fill_53178_17 (by decide) ?_
      exact ih (j + 1) _ _ ls (by omega) hI (lv_sub hl [1, 2, 0, 3] rfl)
  refine loop 10 0 _ _ ls (by omega) ?_ (lv_sub hl [2, 3, 1, 0] rfl)
  have e : w.set q0 (a, .inl (cI, 10, .inl (gFill 0))) = w := by
    apply List.ext_getElem?
    intro k
    by_cases hk : k = q0
    · subst hk
      rw [g_set_get he, he]; rfl
    · rw [List.getElem?_set_ne (Ne.symm hk)]
  rw [e]
  exact hI
theorem gEnterE {l : Launch} {y : MethodName} {ws ws' : List Cond} {rm : Room} {cc : ByteArray} {maxL mc ms : Nat} {ret : Option FieldType} {D : va_G} {w : va_W} {tys : List (ClassId × FieldType)} {sz : Nat} {av : List Value} {QF : (Nat → Prop) → Array Value → State → Outcome → State → Prop} (hy : plainName y.cls = true) (hw : ws = Cond.code y cc maxL ret :: ws') (hn : (lg_sl av).length ≤ maxL)
    (body : ∀ (p : Program) (e : Env) (s : State) (m : MethodId) (below : List Frame) (meth : Method) (c : Code) (A : Nat → Prop) (ls : Array Slot), CallFix p m c cc maxL s av.toArray ws y.cls → meth.sig.returnType = ret → meth.locks = false → meth.name = y.name → va_K D vwCl tys s → gNw s → va_AO "GateHalls$Hall" s → (∀ q, s.heap.size ≤ q → A q) → InW D A s.heap w s.heap [] → lv_has ls maxL (lv_args 0 av) → W p l e rm s m av.toArray below meth c s.heap [] 0 0 (MQ below (QF A) av.toArray s mc ms A) (F0 m 0 ls [])) :
    Met l y ws rm (va_Pc av (fun U => gPre D w tys sz U ∧ va_AO "GateHalls$Hall" U)) (QF (va_A w sz)) mc ms (va_A w sz) := by
  refine Met.ofW hy hw ?_
  intro p e s m args below meth c s₁ B hml hv
  obtain ⟨rfl, ⟨hsz, hP, hK, hD0, hN⟩, hO⟩ := hv
  subst hsz
  have hl := lv_entry av (n := maxL) hn
  rw [lg_entry_eq]
  exact body p e s m below meth c _ _ ⟨B.exec, B.bytes, hml, findClass_of_methodNamed B.named, atoms_spec (ws := ws) B.pre⟩ B.returns B.notSynchronized (name_of_methodNamed B.named B.method).1 hK hN hO (fun q h => Or.inr h) ⟨hP, hD0.self, va_S.rf⟩ hl
set_option maxRecDepth 100000 in
theorem iX1_init_1 : ∀ w ∈ wsX10, w ∈ wsX1_init := by decide +kernel
set_option maxHeartbeats 4000000 in
set_option maxRecDepth 100000 in
theorem c_X1_init (l : Launch) (D : va_G) (g : Nat) (ad : Nat → Nat) (sz : Nat) : Met l yX1_init wsX1_init ({ frames := 1, cells := 5, slots := 160, locals := 24 }) (va_Pc [.ref g] (fun U => gPre D [(g, .inr (1, [.null, .null, .int 0, .int 0, .null, .null, .int 0, .int 0, .null, .int 0, .int 0, .int 0]))] [] sz U ∧ va_AO "GateHalls$Hall" U)) (va_Qv (fun _ : (Nat → Nat) × ClassId × ClassId => True) (fun u t => (va_P D vwCl (wCn g u.1 u.2.1 u.2.2 ad (fun _ => 0) 0 g0) t.heap ∧ va_D (va_A [(g, .inr (1, [.null, .null, .int 0, .int 0, .null, .null, .int 0, .int 0, .null, .int 0, .int 0, .int 0]))] sz) (wCn g u.1 u.2.1 u.2.2 ad (fun _ => 0) 0 g0)) ∧ va_K D vwCl (gTy u.2.1 u.2.2) t) (va_A [(g, .inr (1, [.null, .null, .int 0, .int 0, .null, .null, .int 0, .int 0, .null, .int 0, .int 0, .int 0]))] sz)) 5 160 (va_A [(g, .inr (1, [.null, .null, .int 0, .int 0, .null, .null, .int 0, .int 0, .null, .int 0, .int 0, .int 0]))] sz) := by
  refine gEnterE (cc := cX1_init) (maxL := 1) (ret := none) (QF := fun A => va_Qv (fun _ : (Nat → Nat) × ClassId × ClassId => True) (fun u t => (va_P D vwCl (wCn g u.1 u.2.1 u.2.2 ad (fun _ => 0) 0 g0) t.heap ∧ va_D A (wCn g u.1 u.2.1 u.2.2 ad (fun _ => 0) 0 g0)) ∧ va_K D vwCl (gTy u.2.1 u.2.2) t) A) (by decide) rfl (Nat.le_of_ble_eq_true rfl) ?_
  intro p e s m below meth c A ls hX hr hlk hnm hK hN hO hA hI hl
  have hx := hX.1
  have hb := hX.2.1
  have hts := hX.2.2.2.2
  have hown : s.vm.findClass RX1 = some m.cls := hX.2.2.2.1
  have hin1 := iX1_init_1
  have hl : lv_has ls 1 [(0, .ref g)] := hl
  refine lv_aload_n hx hb dX1_init_0 rfl (lv_at hl 0 rfl) ?_
  refine W.objInit hx hb hown (hts (.methodLink RX1 1 objectInit) (by decide +kernel)) (hts (.instanceMethod objectInit) (by decide +kernel)) (hts _ (List.mem_cons_of_mem _ (List.mem_append_left _ (List.mem_of_getElem? (i := 2) rfl)))) rfl (by rw [hX.2.2.1]; exact hl.1) rfl dX1_init_1 (Nat.le_of_ble_eq_true rfl) (Nat.le_of_ble_eq_true rfl) ?_
  refine W.eq (g2 := F0 m 4 ls []) rfl ?_
  refine lv_aload_n hx hb dX1_init_4 rfl (lv_at hl 0 rfl) ?_
  refine lv_bipush (v := 10) hx hb dX1_init_5 (by decide) ?_
  refine gNewq hX (hts (.classLink RX1 9 RX0) (by decide +kernel)) hO hK hI hA (by decide) (show (10 : Int32).toNatClampNeg = 10 by decide) (by decide) (Nat.le_of_ble_eq_true rfl) (Nat.le_of_ble_eq_true rfl) dX1_init_7 (fun a0 cA H hK hI => ?_)
  obtain ⟨cH, hcH⟩ : ∃ z : ClassId, z = cA := ⟨_, rfl⟩
  subst hcH
  have hK : va_K D vwCl [(cH, .object "GateHalls$Hall")] s := hK
  have hI : InW D A s.heap [(g, .inr (1, [.null, .null, .int 0, .int 0, .null, .null, .int 0, .int 0, .null, .int 0, .int 0, .int 0])), (a0, .inl (cH, 10, .inr (.inr (.inr (.inr (fun _ => none))))))] H _ := hI
  refine gPutF (ci := 1) hX hin1 tyX1 tyX1_ok nmX1 hK hI 0 rfl rfl 0 (by decide) (hts (.fieldLink RX1 11 "GateHalls" "halls" "[LGateHalls$Hall;") (by decide +kernel)) rfl hnm rfl rfl rfl (Nat.le_of_ble_eq_true rfl) (w' := [(g, .inr (1, [.ref a0, .null, .int 0, .int 0, .null, .null, .int 0, .int 0, .null, .int 0, .int 0, .int 0])), (a0, .inl (cH, 10, .inr (.inr (.inr (.inr (fun _ => none))))))]) rfl dX1_init_10 (fun H locs hI => ?_)
  refine lv_aload_n hx hb dX1_init_13 rfl (lv_at hl 0 rfl) ?_
  refine lv_bipush (v := 10) hx hb dX1_init_14 (by decide) ?_
  refine gNewa hX (hts (.arrayClass .int) (by decide +kernel)) hK hI hA (by decide) (show (10 : Int32).toNatClampNeg = 10 by decide) (by decide) (Nat.le_of_ble_eq_true rfl) (Nat.le_of_ble_eq_true rfl) dX1_init_16 (fun a1 cA H hK hI => ?_)
  obtain ⟨cI, hcI⟩ : ∃ z : ClassId, z = cA := ⟨_, rfl⟩
  subst hcI
  have hK : va_K D vwCl [(cH, .object "GateHalls$Hall"), (cI, .int)] s := hK
  have hI : InW D A s.heap [(g, .inr (1, [.ref a0, .null, .int 0, .int 0, .null, .null, .int 0, .int 0, .null, .int 0, .int 0, .int 0])), (a0, .inl (cH, 10, .inr (.inr (.inr (.inr (fun _ => none)))))), (a1, .inl (cI, 10, .inl (fun _ => 0)))] H _ := hI
  refine gPutF (ci := 1) hX hin1 tyX1 tyX1_ok nmX1 hK hI 0 rfl rfl 1 (by decide) (hts (.fieldLink RX1 15 "GateHalls" "parents" "[I") (by decide +kernel)) rfl hnm rfl rfl rfl (Nat.le_of_ble_eq_true rfl) (w' := [(g, .inr (1, [.ref a0, .ref a1, .int 0, .int 0, .null, .null, .int 0, .int 0, .null, .int 0, .int 0, .int 0])), (a0, .inl (cH, 10, .inr (.inr (.inr (.inr (fun _ => none)))))), (a1, .inl (cI, 10, .inl (fun _ => 0)))]) rfl dX1_init_18 (fun H locs hI => ?_)
  refine lv_aload_n hx hb dX1_init_21 rfl (lv_at hl 0 rfl) ?_
  refine lv_bipush (v := 10) hx hb dX1_init_22 (by decide) ?_
  refine gNewa hX (hts (.arrayClass .int) (by decide +kernel)) hK hI hA (by decide) (show (10 : Int32).toNatClampNeg = 10 by decide) (by decide) (Nat.le_of_ble_eq_true rfl) (Nat.le_of_ble_eq_true rfl) dX1_init_24 (fun a4 cA H hK hI => ?_)
  obtain rfl := gK_int hK 1 2 rfl rfl
  have hK := hK.sub (tys' := [(cH, .object "GateHalls$Hall"), (cI, .int)]) [0, 1] rfl
  have hI : InW D A s.heap [(g, .inr (1, [.ref a0, .ref a1, .int 0, .int 0, .null, .null, .int 0, .int 0, .null, .int 0, .int 0, .int 0])), (a0, .inl (cH, 10, .inr (.inr (.inr (.inr (fun _ => none)))))), (a1, .inl (cI, 10, .inl (fun _ => 0))), (a4, .inl (cI, 10, .inl (fun _ => 0)))] H _ := hI
  refine gPutF (ci := 1) hX hin1 tyX1 tyX1_ok nmX1 hK hI 0 rfl rfl 4 (by decide) (hts (.fieldLink RX1 19 "GateHalls" "path" "[I") (by decide +kernel)) rfl hnm rfl rfl rfl (Nat.le_of_ble_eq_true rfl) (w' := [(g, .inr (1, [.ref a0, .ref a1, .int 0, .int 0, .ref a4, .null, .int 0, .int 0, .null, .int 0, .int 0, .int 0])), (a0, .inl (cH, 10, .inr (.inr (.inr (.inr (fun _ => none)))))), (a1, .inl (cI, 10, .inl (fun _ => 0))), (a4, .inl (cI, 10, .inl (fun _ => 0)))]) rfl dX1_init_26 (fun H locs hI => ?_)
  refine lv_aload_n hx hb dX1_init_29 rfl (lv_at hl 0 rfl) ?_
  refine lv_bipush (v := 30) hx hb dX1_init_30 (by decide) ?_
  refine gNewq hX (hts (.classLink RX1 9 RX0) (by decide +kernel)) hO hK hI hA (by decide) (show (30 : Int32).toNatClampNeg = 30 by decide) (by decide) (Nat.le_of_ble_eq_true rfl) (Nat.le_of_ble_eq_true rfl) dX1_init_32 (fun a5 cA H hK hI => ?_)
  obtain rfl := gK_obj hK 0 2 rfl rfl
  have hK := hK.sub (tys' := [(cH, .object "GateHalls$Hall"), (cI, .int)]) [0, 1] rfl
  have hI : InW D A s.heap [(g, .inr (1, [.ref a0, .ref a1, .int 0, .int 0, .ref a4, .null, .int 0, .int 0, .null, .int 0, .int 0, .int 0])), (a0, .inl (cH, 10, .inr (.inr (.inr (.inr (fun _ => none)))))), (a1, .inl (cI, 10, .inl (fun _ => 0))), (a4, .inl (cI, 10, .inl (fun _ => 0))), (a5, .inl (cH, 30, .inr (.inr (.inr (.inr (fun _ => none))))))] H _ := hI
  refine gPutF (ci := 1) hX hin1 tyX1 tyX1_ok nmX1 hK hI 0 rfl rfl 5 (by decide) (hts (.fieldLink RX1 22 "GateHalls" "passed" "[LGateHalls$Hall;") (by decide +kernel)) rfl hnm rfl rfl rfl (Nat.le_of_ble_eq_true rfl) (w' := [(g, .inr (1, [.ref a0, .ref a1, .int 0, .int 0, .ref a4, .ref a5, .int 0, .int 0, .null, .int 0, .int 0, .int 0])), (a0, .inl (cH, 10, .inr (.inr (.inr (.inr (fun _ => none)))))), (a1, .inl (cI, 10, .inl (fun _ => 0))), (a4, .inl (cI, 10, .inl (fun _ => 0))), (a5, .inl (cH, 30, .inr (.inr (.inr (.inr (fun _ => none))))))]) rfl dX1_init_35 (fun H locs hI => ?_)
  refine lv_aload_n hx hb dX1_init_38 rfl (lv_at hl 0 rfl) ?_
  refine lv_bipush (v := 100) hx hb dX1_init_39 (by decide) ?_
  refine gNewa hX (hts (.arrayClass .int) (by decide +kernel)) hK hI hA (by decide) (show (100 : Int32).toNatClampNeg = 100 by decide) (by decide) (Nat.le_of_ble_eq_true rfl) (Nat.le_of_ble_eq_true rfl) dX1_init_41 (fun a8 cA H hK hI => ?_)
  obtain rfl := gK_int hK 1 2 rfl rfl
  have hK := hK.sub (tys' := [(cH, .object "GateHalls$Hall"), (cI, .int)]) [0, 1] rfl
  have hI : InW D A s.heap [(g, .inr (1, [.ref a0, .ref a1, .int 0, .int 0, .ref a4, .ref a5, .int 0, .int 0, .null, .int 0, .int 0, .int 0])), (a0, .inl (cH, 10, .inr (.inr (.inr (.inr (fun _ => none)))))), (a1, .inl (cI, 10, .inl (fun _ => 0))), (a4, .inl (cI, 10, .inl (fun _ => 0))), (a5, .inl (cH, 30, .inr (.inr (.inr (.inr (fun _ => none)))))), (a8, .inl (cI, 100, .inl (fun _ => 0)))] H _ := hI
  refine gPutF (ci := 1) hX hin1 tyX1 tyX1_ok nmX1 hK hI 0 rfl rfl 8 (by decide) (hts (.fieldLink RX1 25 "GateHalls" "marks" "[I") (by decide +kernel)) rfl hnm rfl rfl rfl (Nat.le_of_ble_eq_true rfl) (w' := [(g, .inr (1, [.ref a0, .ref a1, .int 0, .int 0, .ref a4, .ref a5, .int 0, .int 0, .ref a8, .int 0, .int 0, .int 0])), (a0, .inl (cH, 10, .inr (.inr (.inr (.inr (fun _ => none)))))), (a1, .inl (cI, 10, .inl (fun _ => 0))), (a4, .inl (cI, 10, .inl (fun _ => 0))), (a5, .inl (cH, 30, .inr (.inr (.inr (.inr (fun _ => none)))))), (a8, .inl (cI, 100, .inl (fun _ => 0)))]) rfl dX1_init_43 (fun H locs hI => ?_)
  refine lv_aload_n hx hb dX1_init_46 rfl (lv_at hl 0 rfl) ?_
  refine gGet (ci := 1) (v := .ref a1) hX hin1 hK hI 0 rfl rfl 1 (by decide) (hts (.fieldLink RX1 15 "GateHalls" "parents" "[I") (by decide +kernel)) rfl dX1_init_47 ?_
  refine lv_iconst (v := -1) hx hb dX1_init_50 (by decide) ?_
  refine gCallv (va_runS (As := [.ref a1, .int (-1)]) (rest := []) hX (c_fill l D [(cH, .object "GateHalls$Hall"), (cI, .int)] cI [(g, .inr (1, [.ref a0, .ref a1, .int 0, .int 0, .ref a4, .ref a5, .int 0, .int 0, .ref a8, .int 0, .int 0, .int 0])), (a0, .inl (cH, 10, .inr (.inr (.inr (.inr (fun _ => none)))))), (a1, .inl (cI, 10, .inl (fun _ => 0))), (a4, .inl (cI, 10, .inl (fun _ => 0))), (a5, .inl (cH, 30, .inr (.inr (.inr (.inr (fun _ => none)))))), (a8, .inl (cI, 100, .inl (fun _ => 0)))] a1 2 1 H.size rfl rfl) (va_cwS 2 hts gX1_init_J7_fill_53178 rfl rfl rfl (by decide +kernel) ⟨Nat.le_of_ble_eq_true rfl, Nat.le_of_ble_eq_true rfl⟩) ⟨gPre_blind, gPre_ok hI hK hN⟩ rfl rfl hl.1 rfl (lv_room (Nat.le_of_ble_eq_true rfl)) dX1_init_51 ⟨Nat.le_of_ble_eq_true rfl, Nat.le_of_ble_eq_true rfl⟩) hI hA (fun u H locs hu hI => ?_)
  subst hu
  obtain ⟨q, hq⟩ : ∃ q : Nat → Nat, q = fun k => if k = 0 then a0 else if k = 1 then a1 else if k = 4 then a4 else if k = 5 then a5 else a8 := ⟨_, rfl⟩
  have hI : InW D A s.heap (wCn g q cI cH ad (fun _ => 0) 0 g0) H locs := by
    show InW D A s.heap (wCr g q cI cH ad (fun _ => 0) (gfh ad g0) (gfp ad g0) 0 g0) H locs
    rw [g0_fh, g0_fp, hq]
    exact hI
  have hK := hK.sub (tys' := gTy cI cH) [1, 0] rfl
  exact W.vret hx hb hr (fun t ht hW => ⟨⟨(q, cI, cH), rfl, trivial, ⟨by rw [ht]; exact hI.1, hI.2.1⟩, va_K.moved hW.alike hK⟩, hI.2.2.F ht⟩) hI.2.2.2.2 dX1_init_54 hlk
set_option maxRecDepth 100000 in
theorem iX2_init_2 : ∀ w ∈ wsX20, w ∈ wsX2_init := by decide +kernel
set_option maxHeartbeats 40000000 in
set_option maxRecDepth 100000 in
theorem c_X2_init (l : Launch) (D : va_G) (h : Nat) (sz : Nat) : Met l yX2_init wsX2_init ({ frames := 1, cells := 13, slots := 33794, locals := 24 }) (va_Pc [.ref h] (gPre D [(h, .inr (2, [.int 0, .null, .null, .null, .null, .null, .null, .null, .null, .null, .null, .int 0, .int 0, .null, .int 0, .int 0, .int 0, .int 0, .null, .null]))] [] sz)) (va_Qv (fun _ : (Nat → Nat) × ClassId => True) (fun u t => (va_P D vwCl (wM h u.1 u.2 (fun _ => 0) g0) t.heap ∧ va_D (va_A [(h, .inr (2, [.int 0, .null, .null, .null, .null, .null, .null, .null, .null, .null, .null, .int 0, .int 0, .null, .int 0, .int 0, .int 0, .int 0, .null, .null]))] sz) (wM h u.1 u.2 (fun _ => 0) g0)) ∧ va_K D vwCl [(u.2, .int)] t) (va_A [(h, .inr (2, [.int 0, .null, .null, .null, .null, .null, .null, .null, .null, .null, .null, .int 0, .int 0, .null, .int 0, .int 0, .int 0, .int 0, .null, .null]))] sz)) 13 33794 (va_A [(h, .inr (2, [.int 0, .null, .null, .null, .null, .null, .null, .null, .null, .null, .null, .int 0, .int 0, .null, .int 0, .int 0, .int 0, .int 0, .null, .null]))] sz) := by
  refine gEnter (cc := cX2_init) (maxL := 1) (ret := none) (QF := fun A => va_Qv (fun _ : (Nat → Nat) × ClassId => True) (fun u t => (va_P D vwCl (wM h u.1 u.2 (fun _ => 0) g0) t.heap ∧ va_D A (wM h u.1 u.2 (fun _ => 0) g0)) ∧ va_K D vwCl [(u.2, .int)] t) A) (by decide) rfl (Nat.le_of_ble_eq_true rfl) ?_
  intro p e s m below meth c A ls hX hr hlk hnm hK hN hA hI hl
  have hx := hX.1
  have hb := hX.2.1
  have hts := hX.2.2.2.2
  have hown : s.vm.findClass RX2 = some m.cls := hX.2.2.2.1
  have hin2 := iX2_init_2
  have hl : lv_has ls 1 [(0, .ref h)] := hl
  refine lv_aload_n hx hb dX2_init_0 rfl (lv_at hl 0 rfl) ?_
  refine W.objInit hx hb hown (hts (.methodLink RX2 1 objectInit) (by decide +kernel)) (hts (.instanceMethod objectInit) (by decide +kernel)) (hts _ (List.mem_cons_of_mem _ (List.mem_append_left _ (List.mem_of_getElem? (i := 2) rfl)))) rfl (by rw [hX.2.2.1]; exact hl.1) rfl dX2_init_1 (Nat.le_of_ble_eq_true rfl) (Nat.le_of_ble_eq_true rfl) ?_
  refine W.eq (g2 := F0 m 4 ls []) rfl ?_
  refine lv_aload_n hx hb dX2_init_4 rfl (lv_at hl 0 rfl) ?_
  refine lv_sipush (v := 4200) hx hb dX2_init_5 (by decide) ?_
  refine gNewa hX (hts (.arrayClass .int) (by decide +kernel)) hK hI hA (by decide) (show (4200 : Int32).toNatClampNeg = 4200 by decide) (by decide) (Nat.le_of_ble_eq_true rfl) (Nat.le_of_ble_eq_true rfl) dX2_init_8 (fun a1 cA H hK hI => ?_)
  obtain ⟨cI, hcI⟩ : ∃ z : ClassId, z = cA := ⟨_, rfl⟩
  subst hcI
  have hK : va_K D vwCl [(cI, .int)] s := hK
  have hI : InW D A s.heap [(h, .inr (2, [.int 0, .null, .null, .null, .null, .null, .null, .null, .null, .null, .null, .int 0, .int 0, .null, .int 0, .int 0, .int 0, .int 0, .null, .null])), (a1, .inl (cI, 4200, .inl (fun _ => 0)))] H _ := hI
  refine gPutF (ci := 2) hX hin2 tyX2 tyX2_ok nmX2 hK hI 0 rfl rfl 1 (by decide) (hts (.fieldLink RX2 7 "GateHallsModel" "kinds" "[I") (by decide +kernel)) rfl hnm rfl rfl rfl (Nat.le_of_ble_eq_true rfl) (w' := [(h, .inr (2, [.int 0, .ref a1, .null, .null, .null, .null, .null, .null, .null, .null, .null, .int 0, .int 0, .null, .int 0, .int 0, .int 0, .int 0, .null, .null])), (a1, .inl (cI, 4200, .inl (fun _ => 0)))]) rfl dX2_init_10 (fun H locs hI => ?_)
  refine lv_aload_n hx hb dX2_init_13 rfl (lv_at hl 0 rfl) ?_
  refine lv_sipush (v := 4200) hx hb dX2_init_14 (by decide) ?_
  refine gNewa hX (hts (.arrayClass .int) (by decide +kernel)) hK hI hA (by decide) (show (4200 : Int32).toNatClampNeg = 4200 by decide) (by decide) (Nat.le_of_ble_eq_true rfl) (Nat.le_of_ble_eq_true rfl) dX2_init_17 (fun a2 cA H hK hI => ?_)
  obtain rfl := gK_int hK 0 1 rfl rfl
  have hK := hK.sub (tys' := [(cI, .int)]) [0] rfl
  have hI : InW D A s.heap [(h, .inr (2, [.int 0, .ref a1, .null, .null, .null, .null, .null, .null, .null, .null, .null, .int 0, .int 0, .null, .int 0, .int 0, .int 0, .int 0, .null, .null])), (a1, .inl (cI, 4200, .inl (fun _ => 0))), (a2, .inl (cI, 4200, .inl (fun _ => 0)))] H _ := hI
  refine gPutF (ci := 2) hX hin2 tyX2 tyX2_ok nmX2 hK hI 0 rfl rfl 2 (by decide) (hts (.fieldLink RX2 13 "GateHallsModel" "fees" "[I") (by decide +kernel)) rfl hnm rfl rfl rfl (Nat.le_of_ble_eq_true rfl) (w' := [(h, .inr (2, [.int 0, .ref a1, .ref a2, .null, .null, .null, .null, .null, .null, .null, .null, .int 0, .int 0, .null, .int 0, .int 0, .int 0, .int 0, .null, .null])), (a1, .inl (cI, 4200, .inl (fun _ => 0))), (a2, .inl (cI, 4200, .inl (fun _ => 0)))]) rfl dX2_init_19 (fun H locs hI => ?_)
  refine lv_aload_n hx hb dX2_init_22 rfl (lv_at hl 0 rfl) ?_
  refine lv_sipush (v := 4200) hx hb dX2_init_23 (by decide) ?_
  refine gNewa hX (hts (.arrayClass .int) (by decide +kernel)) hK hI hA (by decide) (show (4200 : Int32).toNatClampNeg = 4200 by decide) (by decide) (Nat.le_of_ble_eq_true rfl) (Nat.le_of_ble_eq_true rfl) dX2_init_26 (fun a3 cA H hK hI => ?_)
  obtain rfl := gK_int hK 0 1 rfl rfl
  have hK := hK.sub (tys' := [(cI, .int)]) [0] rfl
  have hI : InW D A s.heap [(h, .inr (2, [.int 0, .ref a1, .ref a2, .null, .null, .null, .null, .null, .null, .null, .null, .int 0, .int 0, .null, .int 0, .int 0, .int 0, .int 0, .null, .null])), (a1, .inl (cI, 4200, .inl (fun _ => 0))), (a2, .inl (cI, 4200, .inl (fun _ => 0))), (a3, .inl (cI, 4200, .inl (fun _ => 0)))] H _ := hI
  refine gPutF (ci := 2) hX hin2 tyX2 tyX2_ok nmX2 hK hI 0 rfl rfl 3 (by decide) (hts (.fieldLink RX2 16 "GateHallsModel" "gifts" "[I") (by decide +kernel)) rfl hnm rfl rfl rfl (Nat.le_of_ble_eq_true rfl) (w' := [(h, .inr (2, [.int 0, .ref a1, .ref a2, .ref a3, .null, .null, .null, .null, .null, .null, .null, .int 0, .int 0, .null, .int 0, .int 0, .int 0, .int 0, .null, .null])), (a1, .inl (cI, 4200, .inl (fun _ => 0))), (a2, .inl (cI, 4200, .inl (fun _ => 0))), (a3, .inl (cI, 4200, .inl (fun _ => 0)))]) rfl dX2_init_28 (fun H locs hI => ?_)
  refine lv_aload_n hx hb dX2_init_31 rfl (lv_at hl 0 rfl) ?_
  refine lv_sipush (v := 4200) hx hb dX2_init_32 (by decide) ?_
  refine gNewa hX (hts (.arrayClass .int) (by decide +kernel)) hK hI hA (by decide) (show (4200 : Int32).toNatClampNeg = 4200 by decide) (by decide) (Nat.le_of_ble_eq_true rfl) (Nat.le_of_ble_eq_true rfl) dX2_init_35 (fun a4 cA H hK hI => ?_)
  obtain rfl := gK_int hK 0 1 rfl rfl
  have hK := hK.sub (tys' := [(cI, .int)]) [0] rfl
  have hI : InW D A s.heap [(h, .inr (2, [.int 0, .ref a1, .ref a2, .ref a3, .null, .null, .null, .null, .null, .null, .null, .int 0, .int 0, .null, .int 0, .int 0, .int 0, .int 0, .null, .null])), (a1, .inl (cI, 4200, .inl (fun _ => 0))), (a2, .inl (cI, 4200, .inl (fun _ => 0))), (a3, .inl (cI, 4200, .inl (fun _ => 0))), (a4, .inl (cI, 4200, .inl (fun _ => 0)))] H _ := hI
  refine gPutF (ci := 2) hX hin2 tyX2 tyX2_ok nmX2 hK hI 0 rfl rfl 4 (by decide) (hts (.fieldLink RX2 19 "GateHallsModel" "passes" "[I") (by decide +kernel)) rfl hnm rfl rfl rfl (Nat.le_of_ble_eq_true rfl) (w' := [(h, .inr (2, [.int 0, .ref a1, .ref a2, .ref a3, .ref a4, .null, .null, .null, .null, .null, .null, .int 0, .int 0, .null, .int 0, .int 0, .int 0, .int 0, .null, .null])), (a1, .inl (cI, 4200, .inl (fun _ => 0))), (a2, .inl (cI, 4200, .inl (fun _ => 0))), (a3, .inl (cI, 4200, .inl (fun _ => 0))), (a4, .inl (cI, 4200, .inl (fun _ => 0)))]) rfl dX2_init_37 (fun H locs hI => ?_)
  refine lv_aload_n hx hb dX2_init_40 rfl (lv_at hl 0 rfl) ?_
  refine lv_sipush (v := 4200) hx hb dX2_init_41 (by decide) ?_
  refine gNewa hX (hts (.arrayClass .int) (by decide +kernel)) hK hI hA (by decide) (show (4200 : Int32).toNatClampNeg = 4200 by decide) (by decide) (Nat.le_of_ble_eq_true rfl) (Nat.le_of_ble_eq_true rfl) dX2_init_44 (fun a5 cA H hK hI => ?_)
  obtain rfl := gK_int hK 0 1 rfl rfl
  have hK := hK.sub (tys' := [(cI, .int)]) [0] rfl
  have hI : InW D A s.heap [(h, .inr (2, [.int 0, .ref a1, .ref a2, .ref a3, .ref a4, .null, .null, .null, .null, .null, .null, .int 0, .int 0, .null, .int 0, .int 0, .int 0, .int 0, .null, .null])), (a1, .inl (cI, 4200, .inl (fun _ => 0))), (a2, .inl (cI, 4200, .inl (fun _ => 0))), (a3, .inl (cI, 4200, .inl (fun _ => 0))), (a4, .inl (cI, 4200, .inl (fun _ => 0))), (a5, .inl (cI, 4200, .inl (fun _ => 0)))] H _ := hI
  refine gPutF (ci := 2) hX hin2 tyX2 tyX2_ok nmX2 hK hI 0 rfl rfl 5 (by decide) (hts (.fieldLink RX2 22 "GateHallsModel" "asks" "[I") (by decide +kernel)) rfl hnm rfl rfl rfl (Nat.le_of_ble_eq_true rfl) (w' := [(h, .inr (2, [.int 0, .ref a1, .ref a2, .ref a3, .ref a4, .ref a5, .null, .null, .null, .null, .null, .int 0, .int 0, .null, .int 0, .int 0, .int 0, .int 0, .null, .null])), (a1, .inl (cI, 4200, .inl (fun _ => 0))), (a2, .inl (cI, 4200, .inl (fun _ => 0))), (a3, .inl (cI, 4200, .inl (fun _ => 0))), (a4, .inl (cI, 4200, .inl (fun _ => 0))), (a5, .inl (cI, 4200, .inl (fun _ => 0)))]) rfl dX2_init_46 (fun H locs hI => ?_)
  refine lv_aload_n hx hb dX2_init_49 rfl (lv_at hl 0 rfl) ?_
  refine lv_sipush (v := 4200) hx hb dX2_init_50 (by decide) ?_
  refine gNewa hX (hts (.arrayClass .int) (by decide +kernel)) hK hI hA (by decide) (show (4200 : Int32).toNatClampNeg = 4200 by decide) (by decide) (Nat.le_of_ble_eq_true rfl) (Nat.le_of_ble_eq_true rfl) dX2_init_53 (fun a6 cA H hK hI => ?_)
  obtain rfl := gK_int hK 0 1 rfl rfl
  have hK := hK.sub (tys' := [(cI, .int)]) [0] rfl
  have hI : InW D A s.heap [(h, .inr (2, [.int 0, .ref a1, .ref a2, .ref a3, .ref a4, .ref a5, .null, .null, .null, .null, .null, .int 0, .int 0, .null, .int 0, .int 0, .int 0, .int 0, .null, .null])), (a1, .inl (cI, 4200, .inl (fun _ => 0))), (a2, .inl (cI, 4200, .inl (fun _ => 0))), (a3, .inl (cI, 4200, .inl (fun _ => 0))), (a4, .inl (cI, 4200, .inl (fun _ => 0))), (a5, .inl (cI, 4200, .inl (fun _ => 0))), (a6, .inl (cI, 4200, .inl (fun _ => 0)))] H _ := hI
  refine gPutF (ci := 2) hX hin2 tyX2 tyX2_ok nmX2 hK hI 0 rfl rfl 6 (by decide) (hts (.fieldLink RX2 25 "GateHallsModel" "paid" "[I") (by decide +kernel)) rfl hnm rfl rfl rfl (Nat.le_of_ble_eq_true rfl) (w' := [(h, .inr (2, [.int 0, .ref a1, .ref a2, .ref a3, .ref a4, .ref a5, .ref a6, .null, .null, .null, .null, .int 0, .int 0, .null, .int 0, .int 0, .int 0, .int 0, .null, .null])), (a1, .inl (cI, 4200, .inl (fun _ => 0))), (a2, .inl (cI, 4200, .inl (fun _ => 0))), (a3, .inl (cI, 4200, .inl (fun _ => 0))), (a4, .inl (cI, 4200, .inl (fun _ => 0))), (a5, .inl (cI, 4200, .inl (fun _ => 0))), (a6, .inl (cI, 4200, .inl (fun _ => 0)))]) rfl dX2_init_55 (fun H locs hI => ?_)
  refine lv_aload_n hx hb dX2_init_58 rfl (lv_at hl 0 rfl) ?_
  refine lv_sipush (v := 4200) hx hb dX2_init_59 (by decide) ?_
  refine gNewa hX (hts (.arrayClass .int) (by decide +kernel)) hK hI hA (by decide) (show (4200 : Int32).toNatClampNeg = 4200 by decide) (by decide) (Nat.le_of_ble_eq_true rfl) (Nat.le_of_ble_eq_true rfl) dX2_init_62 (fun a7 cA H hK hI => ?_)
  obtain rfl := gK_int hK 0 1 rfl rfl
  have hK := hK.sub (tys' := [(cI, .int)]) [0] rfl
  have hI : InW D A s.heap [(h, .inr (2, [.int 0, .ref a1, .ref a2, .ref a3, .ref a4, .ref a5, .ref a6, .null, .null, .null, .null, .int 0, .int 0, .null, .int 0, .int 0, .int 0, .int 0, .null, .null])), (a1, .inl (cI, 4200, .inl (fun _ => 0))), (a2, .inl (cI, 4200, .inl (fun _ => 0))), (a3, .inl (cI, 4200, .inl (fun _ => 0))), (a4, .inl (cI, 4200, .inl (fun _ => 0))), (a5, .inl (cI, 4200, .inl (fun _ => 0))), (a6, .inl (cI, 4200, .inl (fun _ => 0))), (a7, .inl (cI, 4200, .inl (fun _ => 0)))] H _ := hI
  refine gPutF (ci := 2) hX hin2 tyX2 tyX2_ok nmX2 hK hI 0 rfl rfl 7 (by decide) (hts (.fieldLink RX2 28 "GateHallsModel" "inside" "[I") (by decide +kernel)) rfl hnm rfl rfl rfl (Nat.le_of_ble_eq_true rfl) (w' := [(h, .inr (2, [.int 0, .ref a1, .ref a2, .ref a3, .ref a4, .ref a5, .ref a6, .ref a7, .null, .null, .null, .int 0, .int 0, .null, .int 0, .int 0, .int 0, .int 0, .null, .null])), (a1, .inl (cI, 4200, .inl (fun _ => 0))), (a2, .inl (cI, 4200, .inl (fun _ => 0))), (a3, .inl (cI, 4200, .inl (fun _ => 0))), (a4, .inl (cI, 4200, .inl (fun _ => 0))), (a5, .inl (cI, 4200, .inl (fun _ => 0))), (a6, .inl (cI, 4200, .inl (fun _ => 0))), (a7, .inl (cI, 4200, .inl (fun _ => 0)))]) rfl dX2_init_64 (fun H locs hI => ?_)
  refine lv_aload_n hx hb dX2_init_67 rfl (lv_at hl 0 rfl) ?_
  refine lv_sipush (v := 4200) hx hb dX2_init_68 (by decide) ?_
  refine gNewa hX (hts (.arrayClass .int) (by decide +kernel)) hK hI hA (by decide) (show (4200 : Int32).toNatClampNeg = 4200 by decide) (by decide) (Nat.le_of_ble_eq_true rfl) (Nat.le_of_ble_eq_true rfl) dX2_init_71 (fun a8 cA H hK hI => ?_)
  obtain rfl := gK_int hK 0 1 rfl rfl
  have hK := hK.sub (tys' := [(cI, .int)]) [0] rfl
  have hI : InW D A s.heap [(h, .inr (2, [.int 0, .ref a1, .ref a2, .ref a3, .ref a4, .ref a5, .ref a6, .ref a7, .null, .null, .null, .int 0, .int 0, .null, .int 0, .int 0, .int 0, .int 0, .null, .null])), (a1, .inl (cI, 4200, .inl (fun _ => 0))), (a2, .inl (cI, 4200, .inl (fun _ => 0))), (a3, .inl (cI, 4200, .inl (fun _ => 0))), (a4, .inl (cI, 4200, .inl (fun _ => 0))), (a5, .inl (cI, 4200, .inl (fun _ => 0))), (a6, .inl (cI, 4200, .inl (fun _ => 0))), (a7, .inl (cI, 4200, .inl (fun _ => 0))), (a8, .inl (cI, 4200, .inl (fun _ => 0)))] H _ := hI
  refine gPutF (ci := 2) hX hin2 tyX2 tyX2_ok nmX2 hK hI 0 rfl rfl 8 (by decide) (hts (.fieldLink RX2 31 "GateHallsModel" "mosts" "[I") (by decide +kernel)) rfl hnm rfl rfl rfl (Nat.le_of_ble_eq_true rfl) (w' := [(h, .inr (2, [.int 0, .ref a1, .ref a2, .ref a3, .ref a4, .ref a5, .ref a6, .ref a7, .ref a8, .null, .null, .int 0, .int 0, .null, .int 0, .int 0, .int 0, .int 0, .null, .null])), (a1, .inl (cI, 4200, .inl (fun _ => 0))), (a2, .inl (cI, 4200, .inl (fun _ => 0))), (a3, .inl (cI, 4200, .inl (fun _ => 0))), (a4, .inl (cI, 4200, .inl (fun _ => 0))), (a5, .inl (cI, 4200, .inl (fun _ => 0))), (a6, .inl (cI, 4200, .inl (fun _ => 0))), (a7, .inl (cI, 4200, .inl (fun _ => 0))), (a8, .inl (cI, 4200, .inl (fun _ => 0)))]) rfl dX2_init_73 (fun H locs hI => ?_)
  refine lv_aload_n hx hb dX2_init_76 rfl (lv_at hl 0 rfl) ?_
  refine lv_bipush (v := 10) hx hb dX2_init_77 (by decide) ?_
  refine gNewa hX (hts (.arrayClass .int) (by decide +kernel)) hK hI hA (by decide) (show (10 : Int32).toNatClampNeg = 10 by decide) (by decide) (Nat.le_of_ble_eq_true rfl) (Nat.le_of_ble_eq_true rfl) dX2_init_79 (fun a9 cA H hK hI => ?_)
  obtain rfl := gK_int hK 0 1 rfl rfl
  have hK := hK.sub (tys' := [(cI, .int)]) [0] rfl
  have hI : InW D A s.heap [(h, .inr (2, [.int 0, .ref a1, .ref a2, .ref a3, .ref a4, .ref a5, .ref a6, .ref a7, .ref a8, .null, .null, .int 0, .int 0, .null, .int 0, .int 0, .int 0, .int 0, .null, .null])), (a1, .inl (cI, 4200, .inl (fun _ => 0))), (a2, .inl (cI, 4200, .inl (fun _ => 0))), (a3, .inl (cI, 4200, .inl (fun _ => 0))), (a4, .inl (cI, 4200, .inl (fun _ => 0))), (a5, .inl (cI, 4200, .inl (fun _ => 0))), (a6, .inl (cI, 4200, .inl (fun _ => 0))), (a7, .inl (cI, 4200, .inl (fun _ => 0))), (a8, .inl (cI, 4200, .inl (fun _ => 0))), (a9, .inl (cI, 10, .inl (fun _ => 0)))] H _ := hI
  refine lv_dup hx hb dX2_init_81 rfl ?_
  refine lv_iconst (v := 0) hx hb dX2_init_82 (by decide) ?_
  refine lv_iconst (v := -1) hx hb dX2_init_83 (by decide) ?_
  refine gAst (j := 0) (w' := [(h, .inr (2, [.int 0, .ref a1, .ref a2, .ref a3, .ref a4, .ref a5, .ref a6, .ref a7, .ref a8, .null, .null, .int 0, .int 0, .null, .int 0, .int 0, .int 0, .int 0, .null, .null])), (a1, .inl (cI, 4200, .inl (fun _ => 0))), (a2, .inl (cI, 4200, .inl (fun _ => 0))), (a3, .inl (cI, 4200, .inl (fun _ => 0))), (a4, .inl (cI, 4200, .inl (fun _ => 0))), (a5, .inl (cI, 4200, .inl (fun _ => 0))), (a6, .inl (cI, 4200, .inl (fun _ => 0))), (a7, .inl (cI, 4200, .inl (fun _ => 0))), (a8, .inl (cI, 4200, .inl (fun _ => 0))), (a9, .inl (cI, 10, .inl (gFill 1)))]) hX hK hI 9 0 rfl rfl rfl (by decide) (by decide) rfl dX2_init_84 (fun H locs hI => ?_)
  refine lv_dup hx hb dX2_init_85 rfl ?_
  refine lv_iconst (v := 1) hx hb dX2_init_86 (by decide) ?_
  refine lv_iconst (v := -1) hx hb dX2_init_87 (by decide) ?_
  refine gAst (j := 1) (w' := [(h, .inr (2, [.int 0, .ref a1, .ref a2, .ref a3, .ref a4, .ref a5, .ref a6, .ref a7, .ref a8, .null, .null, .int 0, .int 0, .null, .int 0, .int 0, .int 0, .int 0, .null, .null])), (a1, .inl (cI, 4200, .inl (fun _ => 0))), (a2, .inl (cI, 4200, .inl (fun _ => 0))), (a3, .inl (cI, 4200, .inl (fun _ => 0))), (a4, .inl (cI, 4200, .inl (fun _ => 0))), (a5, .inl (cI, 4200, .inl (fun _ => 0))), (a6, .inl (cI, 4200, .inl (fun _ => 0))), (a7, .inl (cI, 4200, .inl (fun _ => 0))), (a8, .inl (cI, 4200, .inl (fun _ => 0))), (a9, .inl (cI, 10, .inl (gFill 2)))]) hX hK hI 9 0 rfl rfl rfl (by decide) (by decide) rfl dX2_init_88 (fun H locs hI => ?_)
  refine lv_dup hx hb dX2_init_89 rfl ?_
  refine lv_iconst (v := 2) hx hb dX2_init_90 (by decide) ?_
  refine lv_iconst (v := -1) hx hb dX2_init_91 (by decide) ?_
  refine gAst (j := 2) (w' := [(h, .inr (2, [.int 0, .ref a1, .ref a2, .ref a3, .ref a4, .ref a5, .ref a6, .ref a7, .ref a8, .null, .null, .int 0, .int 0, .null, .int 0, .int 0, .int 0, .int 0, .null, .null])), (a1, .inl (cI, 4200, .inl (fun _ => 0))), (a2, .inl (cI, 4200, .inl (fun _ => 0))), (a3, .inl (cI, 4200, .inl (fun _ => 0))), (a4, .inl (cI, 4200, .inl (fun _ => 0))), (a5, .inl (cI, 4200, .inl (fun _ => 0))), (a6, .inl (cI, 4200, .inl (fun _ => 0))), (a7, .inl (cI, 4200, .inl (fun _ => 0))), (a8, .inl (cI, 4200, .inl (fun _ => 0))), (a9, .inl (cI, 10, .inl (gFill 3)))]) hX hK hI 9 0 rfl rfl rfl (by decide) (by decide) rfl dX2_init_92 (fun H locs hI => ?_)
  refine lv_dup hx hb dX2_init_93 rfl ?_
  refine lv_iconst (v := 3) hx hb dX2_init_94 (by decide) ?_
  refine lv_iconst (v := -1) hx hb dX2_init_95 (by decide) ?_
  refine gAst (j := 3) (w' := [(h, .inr (2, [.int 0, .ref a1, .ref a2, .ref a3, .ref a4, .ref a5, .ref a6, .ref a7, .ref a8, .null, .null, .int 0, .int 0, .null, .int 0, .int 0, .int 0, .int 0, .null, .null])), (a1, .inl (cI, 4200, .inl (fun _ => 0))), (a2, .inl (cI, 4200, .inl (fun _ => 0))), (a3, .inl (cI, 4200, .inl (fun _ => 0))), (a4, .inl (cI, 4200, .inl (fun _ => 0))), (a5, .inl (cI, 4200, .inl (fun _ => 0))), (a6, .inl (cI, 4200, .inl (fun _ => 0))), (a7, .inl (cI, 4200, .inl (fun _ => 0))), (a8, .inl (cI, 4200, .inl (fun _ => 0))), (a9, .inl (cI, 10, .inl (gFill 4)))]) hX hK hI 9 0 rfl rfl rfl (by decide) (by decide) rfl dX2_init_96 (fun H locs hI => ?_)
  refine lv_dup hx hb dX2_init_97 rfl ?_
  refine lv_iconst (v := 4) hx hb dX2_init_98 (by decide) ?_
  refine lv_iconst (v := -1) hx hb dX2_init_99 (by decide) ?_
  refine gAst (j := 4) (w' := [(h, .inr (2, [.int 0, .ref a1, .ref a2, .ref a3, .ref a4, .ref a5, .ref a6, .ref a7, .ref a8, .null, .null, .int 0, .int 0, .null, .int 0, .int 0, .int 0, .int 0, .null, .null])), (a1, .inl (cI, 4200, .inl (fun _ => 0))), (a2, .inl (cI, 4200, .inl (fun _ => 0))), (a3, .inl (cI, 4200, .inl (fun _ => 0))), (a4, .inl (cI, 4200, .inl (fun _ => 0))), (a5, .inl (cI, 4200, .inl (fun _ => 0))), (a6, .inl (cI, 4200, .inl (fun _ => 0))), (a7, .inl (cI, 4200, .inl (fun _ => 0))), (a8, .inl (cI, 4200, .inl (fun _ => 0))), (a9, .inl (cI, 10, .inl (gFill 5)))]) hX hK hI 9 0 rfl rfl rfl (by decide) (by decide) rfl dX2_init_100 (fun H locs hI => ?_)
  refine lv_dup hx hb dX2_init_101 rfl ?_
  refine lv_iconst (v := 5) hx hb dX2_init_102 (by decide) ?_
  refine lv_iconst (v := -1) hx hb dX2_init_103 (by decide) ?_
  refine gAst (j := 5) (w' := [(h, .inr (2, [.int 0, .ref a1, .ref a2, .ref a3, .ref a4, .ref a5, .ref a6, .ref a7, .ref a8, .null, .null, .int 0, .int 0, .null, .int 0, .int 0, .int 0, .int 0, .null, .null])), (a1, .inl (cI, 4200, .inl (fun _ => 0))), (a2, .inl (cI, 4200, .inl (fun _ => 0))), (a3, .inl (cI, 4200, .inl (fun _ => 0))), (a4, .inl (cI, 4200, .inl (fun _ => 0))), (a5, .inl (cI, 4200, .inl (fun _ => 0))), (a6, .inl (cI, 4200, .inl (fun _ => 0))), (a7, .inl (cI, 4200, .inl (fun _ => 0))), (a8, .inl (cI, 4200, .inl (fun _ => 0))), (a9, .inl (cI, 10, .inl (gFill 6)))]) hX hK hI 9 0 rfl rfl rfl (by decide) (by decide) rfl dX2_init_104 (fun H locs hI => ?_)
  refine lv_dup hx hb dX2_init_105 rfl ?_
  refine lv_bipush (v := 6) hx hb dX2_init_106 (by decide) ?_
  refine lv_iconst (v := -1) hx hb dX2_init_108 (by decide) ?_
  refine gAst (j := 6) (w' := [(h, .inr (2, [.int 0, .ref a1, .ref a2, .ref a3, .ref a4, .ref a5, .ref a6, .ref a7, .ref a8, .null, .null, .int 0, .int 0, .null, .int 0, .int 0, .int 0, .int 0, .null, .null])), (a1, .inl (cI, 4200, .inl (fun _ => 0))), (a2, .inl (cI, 4200, .inl (fun _ => 0))), (a3, .inl (cI, 4200, .inl (fun _ => 0))), (a4, .inl (cI, 4200, .inl (fun _ => 0))), (a5, .inl (cI, 4200, .inl (fun _ => 0))), (a6, .inl (cI, 4200, .inl (fun _ => 0))), (a7, .inl (cI, 4200, .inl (fun _ => 0))), (a8, .inl (cI, 4200, .inl (fun _ => 0))), (a9, .inl (cI, 10, .inl (gFill 7)))]) hX hK hI 9 0 rfl rfl rfl (by decide) (by decide) rfl dX2_init_109 (fun H locs hI => ?_)
  refine lv_dup hx hb dX2_init_110 rfl ?_
  refine lv_bipush (v := 7) hx hb dX2_init_111 (by decide) ?_
  refine lv_iconst (v := -1) hx hb dX2_init_113 (by decide) ?_
  refine gAst (j := 7) (w' := [(h, .inr (2, [.int 0, .ref a1, .ref a2, .ref a3, .ref a4, .ref a5, .ref a6, .ref a7, .ref a8, .null, .null, .int 0, .int 0, .null, .int 0, .int 0, .int 0, .int 0, .null, .null])), (a1, .inl (cI, 4200, .inl (fun _ => 0))), (a2, .inl (cI, 4200, .inl (fun _ => 0))), (a3, .inl (cI, 4200, .inl (fun _ => 0))), (a4, .inl (cI, 4200, .inl (fun _ => 0))), (a5, .inl (cI, 4200, .inl (fun _ => 0))), (a6, .inl (cI, 4200, .inl (fun _ => 0))), (a7, .inl (cI, 4200, .inl (fun _ => 0))), (a8, .inl (cI, 4200, .inl (fun _ => 0))), (a9, .inl (cI, 10, .inl (gFill 8)))]) hX hK hI 9 0 rfl rfl rfl (by decide) (by decide) rfl dX2_init_114 (fun H locs hI => ?_)
  refine lv_dup hx hb dX2_init_115 rfl ?_
  refine lv_bipush (v := 8) hx hb dX2_init_116 (by decide) ?_
  refine lv_iconst (v := -1) hx hb dX2_init_118 (by decide) ?_
  refine gAst (j := 8) (w' := [(h, .inr (2, [.int 0, .ref a1, .ref a2, .ref a3, .ref a4, .ref a5, .ref a6, .ref a7, .ref a8, .null, .null, .int 0, .int 0, .null, .int 0, .int 0, .int 0, .int 0, .null, .null])), (a1, .inl (cI, 4200, .inl (fun _ => 0))), (a2, .inl (cI, 4200, .inl (fun _ => 0))), (a3, .inl (cI, 4200, .inl (fun _ => 0))), (a4, .inl (cI, 4200, .inl (fun _ => 0))), (a5, .inl (cI, 4200, .inl (fun _ => 0))), (a6, .inl (cI, 4200, .inl (fun _ => 0))), (a7, .inl (cI, 4200, .inl (fun _ => 0))), (a8, .inl (cI, 4200, .inl (fun _ => 0))), (a9, .inl (cI, 10, .inl (gFill 9)))]) hX hK hI 9 0 rfl rfl rfl (by decide) (by decide) rfl dX2_init_119 (fun H locs hI => ?_)
  refine lv_dup hx hb dX2_init_120 rfl ?_
  refine lv_bipush (v := 9) hx hb dX2_init_121 (by decide) ?_
  refine lv_iconst (v := -1) hx hb dX2_init_123 (by decide) ?_
  refine gAst (j := 9) (w' := [(h, .inr (2, [.int 0, .ref a1, .ref a2, .ref a3, .ref a4, .ref a5, .ref a6, .ref a7, .ref a8, .null, .null, .int 0, .int 0, .null, .int 0, .int 0, .int 0, .int 0, .null, .null])), (a1, .inl (cI, 4200, .inl (fun _ => 0))), (a2, .inl (cI, 4200, .inl (fun _ => 0))), (a3, .inl (cI, 4200, .inl (fun _ => 0))), (a4, .inl (cI, 4200, .inl (fun _ => 0))), (a5, .inl (cI, 4200, .inl (fun _ => 0))), (a6, .inl (cI, 4200, .inl (fun _ => 0))), (a7, .inl (cI, 4200, .inl (fun _ => 0))), (a8, .inl (cI, 4200, .inl (fun _ => 0))), (a9, .inl (cI, 10, .inl (gFill 10)))]) hX hK hI 9 0 rfl rfl rfl (by decide) (by decide) rfl dX2_init_124 (fun H locs hI => ?_)
  refine gPutF (ci := 2) hX hin2 tyX2 tyX2_ok nmX2 hK hI 0 rfl rfl 9 (by decide) (hts (.fieldLink RX2 34 "GateHallsModel" "places" "[I") (by decide +kernel)) rfl hnm rfl rfl rfl (Nat.le_of_ble_eq_true rfl) (w' := [(h, .inr (2, [.int 0, .ref a1, .ref a2, .ref a3, .ref a4, .ref a5, .ref a6, .ref a7, .ref a8, .ref a9, .null, .int 0, .int 0, .null, .int 0, .int 0, .int 0, .int 0, .null, .null])), (a1, .inl (cI, 4200, .inl (fun _ => 0))), (a2, .inl (cI, 4200, .inl (fun _ => 0))), (a3, .inl (cI, 4200, .inl (fun _ => 0))), (a4, .inl (cI, 4200, .inl (fun _ => 0))), (a5, .inl (cI, 4200, .inl (fun _ => 0))), (a6, .inl (cI, 4200, .inl (fun _ => 0))), (a7, .inl (cI, 4200, .inl (fun _ => 0))), (a8, .inl (cI, 4200, .inl (fun _ => 0))), (a9, .inl (cI, 10, .inl (gFill 10)))]) rfl dX2_init_125 (fun H locs hI => ?_)
  refine lv_aload_n hx hb dX2_init_128 rfl (lv_at hl 0 rfl) ?_
  refine lv_bipush (v := 10) hx hb dX2_init_129 (by decide) ?_
  refine gNewa hX (hts (.arrayClass .int) (by decide +kernel)) hK hI hA (by decide) (show (10 : Int32).toNatClampNeg = 10 by decide) (by decide) (Nat.le_of_ble_eq_true rfl) (Nat.le_of_ble_eq_true rfl) dX2_init_131 (fun a10 cA H hK hI => ?_)
  obtain rfl := gK_int hK 0 1 rfl rfl
  have hK := hK.sub (tys' := [(cI, .int)]) [0] rfl
  have hI : InW D A s.heap [(h, .inr (2, [.int 0, .ref a1, .ref a2, .ref a3, .ref a4, .ref a5, .ref a6, .ref a7, .ref a8, .ref a9, .null, .int 0, .int 0, .null, .int 0, .int 0, .int 0, .int 0, .null, .null])), (a1, .inl (cI, 4200, .inl (fun _ => 0))), (a2, .inl (cI, 4200, .inl (fun _ => 0))), (a3, .inl (cI, 4200, .inl (fun _ => 0))), (a4, .inl (cI, 4200, .inl (fun _ => 0))), (a5, .inl (cI, 4200, .inl (fun _ => 0))), (a6, .inl (cI, 4200, .inl (fun _ => 0))), (a7, .inl (cI, 4200, .inl (fun _ => 0))), (a8, .inl (cI, 4200, .inl (fun _ => 0))), (a9, .inl (cI, 10, .inl (gFill 10))), (a10, .inl (cI, 10, .inl (fun _ => 0)))] H _ := hI
  refine lv_dup hx hb dX2_init_133 rfl ?_
  refine lv_iconst (v := 0) hx hb dX2_init_134 (by decide) ?_
  refine lv_iconst (v := -1) hx hb dX2_init_135 (by decide) ?_
  refine gAst (j := 0) (w' := [(h, .inr (2, [.int 0, .ref a1, .ref a2, .ref a3, .ref a4, .ref a5, .ref a6, .ref a7, .ref a8, .ref a9, .null, .int 0, .int 0, .null, .int 0, .int 0, .int 0, .int 0, .null, .null])), (a1, .inl (cI, 4200, .inl (fun _ => 0))), (a2, .inl (cI, 4200, .inl (fun _ => 0))), (a3, .inl (cI, 4200, .inl (fun _ => 0))), (a4, .inl (cI, 4200, .inl (fun _ => 0))), (a5, .inl (cI, 4200, .inl (fun _ => 0))), (a6, .inl (cI, 4200, .inl (fun _ => 0))), (a7, .inl (cI, 4200, .inl (fun _ => 0))), (a8, .inl (cI, 4200, .inl (fun _ => 0))), (a9, .inl (cI, 10, .inl (gFill 10))), (a10, .inl (cI, 10, .inl (gFill 1)))]) hX hK hI 10 0 rfl rfl rfl (by decide) (by decide) rfl dX2_init_136 (fun H locs hI => ?_)
  refine lv_dup hx hb dX2_init_137 rfl ?_
  refine lv_iconst (v := 1) hx hb dX2_init_138 (by decide) ?_
  refine lv_iconst (v := -1) hx hb dX2_init_139 (by decide) ?_
  refine gAst (j := 1) (w' := [(h, .inr (2, [.int 0, .ref a1, .ref a2, .ref a3, .ref a4, .ref a5, .ref a6, .ref a7, .ref a8, .ref a9, .null, .int 0, .int 0, .null, .int 0, .int 0, .int 0, .int 0, .null, .null])), (a1, .inl (cI, 4200, .inl (fun _ => 0))), (a2, .inl (cI, 4200, .inl (fun _ => 0))), (a3, .inl (cI, 4200, .inl (fun _ => 0))), (a4, .inl (cI, 4200, .inl (fun _ => 0))), (a5, .inl (cI, 4200, .inl (fun _ => 0))), (a6, .inl (cI, 4200, .inl (fun _ => 0))), (a7, .inl (cI, 4200, .inl (fun _ => 0))), (a8, .inl (cI, 4200, .inl (fun _ => 0))), (a9, .inl (cI, 10, .inl (gFill 10))), (a10, .inl (cI, 10, .inl (gFill 2)))]) hX hK hI 10 0 rfl rfl rfl (by decide) (by decide) rfl dX2_init_140 (fun H locs hI => ?_)
  refine lv_dup hx hb dX2_init_141 rfl ?_
  refine lv_iconst (v := 2) hx hb dX2_init_142 (by decide) ?_
  refine lv_iconst (v := -1) hx hb dX2_init_143 (by decide) ?_
  refine gAst (j := 2) (w' := [(h, .inr (2, [.int 0, .ref a1, .ref a2, .ref a3, .ref a4, .ref a5, .ref a6, .ref a7, .ref a8, .ref a9, .null, .int 0, .int 0, .null, .int 0, .int 0, .int 0, .int 0, .null, .null])), (a1, .inl (cI, 4200, .inl (fun _ => 0))), (a2, .inl (cI, 4200, .inl (fun _ => 0))), (a3, .inl (cI, 4200, .inl (fun _ => 0))), (a4, .inl (cI, 4200, .inl (fun _ => 0))), (a5, .inl (cI, 4200, .inl (fun _ => 0))), (a6, .inl (cI, 4200, .inl (fun _ => 0))), (a7, .inl (cI, 4200, .inl (fun _ => 0))), (a8, .inl (cI, 4200, .inl (fun _ => 0))), (a9, .inl (cI, 10, .inl (gFill 10))), (a10, .inl (cI, 10, .inl (gFill 3)))]) hX hK hI 10 0 rfl rfl rfl (by decide) (by decide) rfl dX2_init_144 (fun H locs hI => ?_)
  refine lv_dup hx hb dX2_init_145 rfl ?_
  refine lv_iconst (v := 3) hx hb dX2_init_146 (by decide) ?_
  refine lv_iconst (v := -1) hx hb dX2_init_147 (by decide) ?_
  refine gAst (j := 3) (w' := [(h, .inr (2, [.int 0, .ref a1, .ref a2, .ref a3, .ref a4, .ref a5, .ref a6, .ref a7, .ref a8, .ref a9, .null, .int 0, .int 0, .null, .int 0, .int 0, .int 0, .int 0, .null, .null])), (a1, .inl (cI, 4200, .inl (fun _ => 0))), (a2, .inl (cI, 4200, .inl (fun _ => 0))), (a3, .inl (cI, 4200, .inl (fun _ => 0))), (a4, .inl (cI, 4200, .inl (fun _ => 0))), (a5, .inl (cI, 4200, .inl (fun _ => 0))), (a6, .inl (cI, 4200, .inl (fun _ => 0))), (a7, .inl (cI, 4200, .inl (fun _ => 0))), (a8, .inl (cI, 4200, .inl (fun _ => 0))), (a9, .inl (cI, 10, .inl (gFill 10))), (a10, .inl (cI, 10, .inl (gFill 4)))]) hX hK hI 10 0 rfl rfl rfl (by decide) (by decide) rfl dX2_init_148 (fun H locs hI => ?_)
  refine lv_dup hx hb dX2_init_149 rfl ?_
  refine lv_iconst (v := 4) hx hb dX2_init_150 (by decide) ?_
  refine lv_iconst (v := -1) hx hb dX2_init_151 (by decide) ?_
  refine gAst (j := 4) (w' := [(h, .inr (2, [.int 0, .ref a1, .ref a2, .ref a3, .ref a4, .ref a5, .ref a6, .ref a7, .ref a8, .ref a9, .null, .int 0, .int 0, .null, .int 0, .int 0, .int 0, .int 0, .null, .null])), (a1, .inl (cI, 4200, .inl (fun _ => 0))), (a2, .inl (cI, 4200, .inl (fun _ => 0))), (a3, .inl (cI, 4200, .inl (fun _ => 0))), (a4, .inl (cI, 4200, .inl (fun _ => 0))), (a5, .inl (cI, 4200, .inl (fun _ => 0))), (a6, .inl (cI, 4200, .inl (fun _ => 0))), (a7, .inl (cI, 4200, .inl (fun _ => 0))), (a8, .inl (cI, 4200, .inl (fun _ => 0))), (a9, .inl (cI, 10, .inl (gFill 10))), (a10, .inl (cI, 10, .inl (gFill 5)))]) hX hK hI 10 0 rfl rfl rfl (by decide) (by decide) rfl dX2_init_152 (fun H locs hI => ?_)
  refine lv_dup hx hb dX2_init_153 rfl ?_
  refine lv_iconst (v := 5) hx hb dX2_init_154 (by decide) ?_
  refine lv_iconst (v := -1) hx hb dX2_init_155 (by decide) ?_
  refine gAst (j := 5) (w' := [(h, .inr (2, [.int 0, .ref a1, .ref a2, .ref a3, .ref a4, .ref a5, .ref a6, .ref a7, .ref a8, .ref a9, .null, .int 0, .int 0, .null, .int 0, .int 0, .int 0, .int 0, .null, .null])), (a1, .inl (cI, 4200, .inl (fun _ => 0))), (a2, .inl (cI, 4200, .inl (fun _ => 0))), (a3, .inl (cI, 4200, .inl (fun _ => 0))), (a4, .inl (cI, 4200, .inl (fun _ => 0))), (a5, .inl (cI, 4200, .inl (fun _ => 0))), (a6, .inl (cI, 4200, .inl (fun _ => 0))), (a7, .inl (cI, 4200, .inl (fun _ => 0))), (a8, .inl (cI, 4200, .inl (fun _ => 0))), (a9, .inl (cI, 10, .inl (gFill 10))), (a10, .inl (cI, 10, .inl (gFill 6)))]) hX hK hI 10 0 rfl rfl rfl (by decide) (by decide) rfl dX2_init_156 (fun H locs hI => ?_)
  refine lv_dup hx hb dX2_init_157 rfl ?_
  refine lv_bipush (v := 6) hx hb dX2_init_158 (by decide) ?_
  refine lv_iconst (v := -1) hx hb dX2_init_160 (by decide) ?_
  refine gAst (j := 6) (w' := [(h, .inr (2, [.int 0, .ref a1, .ref a2, .ref a3, .ref a4, .ref a5, .ref a6, .ref a7, .ref a8, .ref a9, .null, .int 0, .int 0, .null, .int 0, .int 0, .int 0, .int 0, .null, .null])), (a1, .inl (cI, 4200, .inl (fun _ => 0))), (a2, .inl (cI, 4200, .inl (fun _ => 0))), (a3, .inl (cI, 4200, .inl (fun _ => 0))), (a4, .inl (cI, 4200, .inl (fun _ => 0))), (a5, .inl (cI, 4200, .inl (fun _ => 0))), (a6, .inl (cI, 4200, .inl (fun _ => 0))), (a7, .inl (cI, 4200, .inl (fun _ => 0))), (a8, .inl (cI, 4200, .inl (fun _ => 0))), (a9, .inl (cI, 10, .inl (gFill 10))), (a10, .inl (cI, 10, .inl (gFill 7)))]) hX hK hI 10 0 rfl rfl rfl (by decide) (by decide) rfl dX2_init_161 (fun H locs hI => ?_)
  refine lv_dup hx hb dX2_init_162 rfl ?_
  refine lv_bipush (v := 7) hx hb dX2_init_163 (by decide) ?_
  refine lv_iconst (v := -1) hx hb dX2_init_165 (by decide) ?_
  refine gAst (j := 7) (w' := [(h, .inr (2, [.int 0, .ref a1, .ref a2, .ref a3, .ref a4, .ref a5, .ref a6, .ref a7, .ref a8, .ref a9, .null, .int 0, .int 0, .null, .int 0, .int 0, .int 0, .int 0, .null, .null])), (a1, .inl (cI, 4200, .inl (fun _ => 0))), (a2, .inl (cI, 4200, .inl (fun _ => 0))), (a3, .inl (cI, 4200, .inl (fun _ => 0))), (a4, .inl (cI, 4200, .inl (fun _ => 0))), (a5, .inl (cI, 4200, .inl (fun _ => 0))), (a6, .inl (cI, 4200, .inl (fun _ => 0))), (a7, .inl (cI, 4200, .inl (fun _ => 0))), (a8, .inl (cI, 4200, .inl (fun _ => 0))), (a9, .inl (cI, 10, .inl (gFill 10))), (a10, .inl (cI, 10, .inl (gFill 8)))]) hX hK hI 10 0 rfl rfl rfl (by decide) (by decide) rfl dX2_init_166 (fun H locs hI => ?_)
  refine lv_dup hx hb dX2_init_167 rfl ?_
  refine lv_bipush (v := 8) hx hb dX2_init_168 (by decide) ?_
  refine lv_iconst (v := -1) hx hb dX2_init_170 (by decide) ?_
  refine gAst (j := 8) (w' := [(h, .inr (2, [.int 0, .ref a1, .ref a2, .ref a3, .ref a4, .ref a5, .ref a6, .ref a7, .ref a8, .ref a9, .null, .int 0, .int 0, .null, .int 0, .int 0, .int 0, .int 0, .null, .null])), (a1, .inl (cI, 4200, .inl (fun _ => 0))), (a2, .inl (cI, 4200, .inl (fun _ => 0))), (a3, .inl (cI, 4200, .inl (fun _ => 0))), (a4, .inl (cI, 4200, .inl (fun _ => 0))), (a5, .inl (cI, 4200, .inl (fun _ => 0))), (a6, .inl (cI, 4200, .inl (fun _ => 0))), (a7, .inl (cI, 4200, .inl (fun _ => 0))), (a8, .inl (cI, 4200, .inl (fun _ => 0))), (a9, .inl (cI, 10, .inl (gFill 10))), (a10, .inl (cI, 10, .inl (gFill 9)))]) hX hK hI 10 0 rfl rfl rfl (by decide) (by decide) rfl dX2_init_171 (fun H locs hI => ?_)
  refine lv_dup hx hb dX2_init_172 rfl ?_
  refine lv_bipush (v := 9) hx hb dX2_init_173 (by decide) ?_
  refine lv_iconst (v := -1) hx hb dX2_init_175 (by decide) ?_
  refine gAst (j := 9) (w' := [(h, .inr (2, [.int 0, .ref a1, .ref a2, .ref a3, .ref a4, .ref a5, .ref a6, .ref a7, .ref a8, .ref a9, .null, .int 0, .int 0, .null, .int 0, .int 0, .int 0, .int 0, .null, .null])), (a1, .inl (cI, 4200, .inl (fun _ => 0))), (a2, .inl (cI, 4200, .inl (fun _ => 0))), (a3, .inl (cI, 4200, .inl (fun _ => 0))), (a4, .inl (cI, 4200, .inl (fun _ => 0))), (a5, .inl (cI, 4200, .inl (fun _ => 0))), (a6, .inl (cI, 4200, .inl (fun _ => 0))), (a7, .inl (cI, 4200, .inl (fun _ => 0))), (a8, .inl (cI, 4200, .inl (fun _ => 0))), (a9, .inl (cI, 10, .inl (gFill 10))), (a10, .inl (cI, 10, .inl (gFill 10)))]) hX hK hI 10 0 rfl rfl rfl (by decide) (by decide) rfl dX2_init_176 (fun H locs hI => ?_)
  refine gPutF (ci := 2) hX hin2 tyX2 tyX2_ok nmX2 hK hI 0 rfl rfl 10 (by decide) (hts (.fieldLink RX2 37 "GateHallsModel" "parents" "[I") (by decide +kernel)) rfl hnm rfl rfl rfl (Nat.le_of_ble_eq_true rfl) (w' := [(h, .inr (2, [.int 0, .ref a1, .ref a2, .ref a3, .ref a4, .ref a5, .ref a6, .ref a7, .ref a8, .ref a9, .ref a10, .int 0, .int 0, .null, .int 0, .int 0, .int 0, .int 0, .null, .null])), (a1, .inl (cI, 4200, .inl (fun _ => 0))), (a2, .inl (cI, 4200, .inl (fun _ => 0))), (a3, .inl (cI, 4200, .inl (fun _ => 0))), (a4, .inl (cI, 4200, .inl (fun _ => 0))), (a5, .inl (cI, 4200, .inl (fun _ => 0))), (a6, .inl (cI, 4200, .inl (fun _ => 0))), (a7, .inl (cI, 4200, .inl (fun _ => 0))), (a8, .inl (cI, 4200, .inl (fun _ => 0))), (a9, .inl (cI, 10, .inl (gFill 10))), (a10, .inl (cI, 10, .inl (gFill 10)))]) rfl dX2_init_177 (fun H locs hI => ?_)
  refine lv_aload_n hx hb dX2_init_180 rfl (lv_at hl 0 rfl) ?_
  refine lv_bipush (v := 100) hx hb dX2_init_181 (by decide) ?_
  refine gNewa hX (hts (.arrayClass .int) (by decide +kernel)) hK hI hA (by decide) (show (100 : Int32).toNatClampNeg = 100 by decide) (by decide) (Nat.le_of_ble_eq_true rfl) (Nat.le_of_ble_eq_true rfl) dX2_init_183 (fun a13 cA H hK hI => ?_)
  obtain rfl := gK_int hK 0 1 rfl rfl
  have hK := hK.sub (tys' := [(cI, .int)]) [0] rfl
  have hI : InW D A s.heap [(h, .inr (2, [.int 0, .ref a1, .ref a2, .ref a3, .ref a4, .ref a5, .ref a6, .ref a7, .ref a8, .ref a9, .ref a10, .int 0, .int 0, .null, .int 0, .int 0, .int 0, .int 0, .null, .null])), (a1, .inl (cI, 4200, .inl (fun _ => 0))), (a2, .inl (cI, 4200, .inl (fun _ => 0))), (a3, .inl (cI, 4200, .inl (fun _ => 0))), (a4, .inl (cI, 4200, .inl (fun _ => 0))), (a5, .inl (cI, 4200, .inl (fun _ => 0))), (a6, .inl (cI, 4200, .inl (fun _ => 0))), (a7, .inl (cI, 4200, .inl (fun _ => 0))), (a8, .inl (cI, 4200, .inl (fun _ => 0))), (a9, .inl (cI, 10, .inl (gFill 10))), (a10, .inl (cI, 10, .inl (gFill 10))), (a13, .inl (cI, 100, .inl (fun _ => 0)))] H _ := hI
  refine gPutF (ci := 2) hX hin2 tyX2 tyX2_ok nmX2 hK hI 0 rfl rfl 13 (by decide) (hts (.fieldLink RX2 40 "GateHallsModel" "traced" "[I") (by decide +kernel)) rfl hnm rfl rfl rfl (Nat.le_of_ble_eq_true rfl) (w' := [(h, .inr (2, [.int 0, .ref a1, .ref a2, .ref a3, .ref a4, .ref a5, .ref a6, .ref a7, .ref a8, .ref a9, .ref a10, .int 0, .int 0, .ref a13, .int 0, .int 0, .int 0, .int 0, .null, .null])), (a1, .inl (cI, 4200, .inl (fun _ => 0))), (a2, .inl (cI, 4200, .inl (fun _ => 0))), (a3, .inl (cI, 4200, .inl (fun _ => 0))), (a4, .inl (cI, 4200, .inl (fun _ => 0))), (a5, .inl (cI, 4200, .inl (fun _ => 0))), (a6, .inl (cI, 4200, .inl (fun _ => 0))), (a7, .inl (cI, 4200, .inl (fun _ => 0))), (a8, .inl (cI, 4200, .inl (fun _ => 0))), (a9, .inl (cI, 10, .inl (gFill 10))), (a10, .inl (cI, 10, .inl (gFill 10))), (a13, .inl (cI, 100, .inl (fun _ => 0)))]) rfl dX2_init_185 (fun H locs hI => ?_)
  refine lv_aload_n hx hb dX2_init_188 rfl (lv_at hl 0 rfl) ?_
  refine lv_bipush (v := 64) hx hb dX2_init_189 (by decide) ?_
  refine gNewa hX (hts (.arrayClass .int) (by decide +kernel)) hK hI hA (by decide) (show (64 : Int32).toNatClampNeg = 64 by decide) (by decide) (Nat.le_of_ble_eq_true rfl) (Nat.le_of_ble_eq_true rfl) dX2_init_191 (fun a18 cA H hK hI => ?_)
  obtain rfl := gK_int hK 0 1 rfl rfl
  have hK := hK.sub (tys' := [(cI, .int)]) [0] rfl
  have hI : InW D A s.heap [(h, .inr (2, [.int 0, .ref a1, .ref a2, .ref a3, .ref a4, .ref a5, .ref a6, .ref a7, .ref a8, .ref a9, .ref a10, .int 0, .int 0, .ref a13, .int 0, .int 0, .int 0, .int 0, .null, .null])), (a1, .inl (cI, 4200, .inl (fun _ => 0))), (a2, .inl (cI, 4200, .inl (fun _ => 0))), (a3, .inl (cI, 4200, .inl (fun _ => 0))), (a4, .inl (cI, 4200, .inl (fun _ => 0))), (a5, .inl (cI, 4200, .inl (fun _ => 0))), (a6, .inl (cI, 4200, .inl (fun _ => 0))), (a7, .inl (cI, 4200, .inl (fun _ => 0))), (a8, .inl (cI, 4200, .inl (fun _ => 0))), (a9, .inl (cI, 10, .inl (gFill 10))), (a10, .inl (cI, 10, .inl (gFill 10))), (a13, .inl (cI, 100, .inl (fun _ => 0))), (a18, .inl (cI, 64, .inl (fun _ => 0)))] H _ := hI
  refine gPutF (ci := 2) hX hin2 tyX2 tyX2_ok nmX2 hK hI 0 rfl rfl 18 (by decide) (hts (.fieldLink RX2 43 "GateHallsModel" "row" "[I") (by decide +kernel)) rfl hnm rfl rfl rfl (Nat.le_of_ble_eq_true rfl) (w' := [(h, .inr (2, [.int 0, .ref a1, .ref a2, .ref a3, .ref a4, .ref a5, .ref a6, .ref a7, .ref a8, .ref a9, .ref a10, .int 0, .int 0, .ref a13, .int 0, .int 0, .int 0, .int 0, .ref a18, .null])), (a1, .inl (cI, 4200, .inl (fun _ => 0))), (a2, .inl (cI, 4200, .inl (fun _ => 0))), (a3, .inl (cI, 4200, .inl (fun _ => 0))), (a4, .inl (cI, 4200, .inl (fun _ => 0))), (a5, .inl (cI, 4200, .inl (fun _ => 0))), (a6, .inl (cI, 4200, .inl (fun _ => 0))), (a7, .inl (cI, 4200, .inl (fun _ => 0))), (a8, .inl (cI, 4200, .inl (fun _ => 0))), (a9, .inl (cI, 10, .inl (gFill 10))), (a10, .inl (cI, 10, .inl (gFill 10))), (a13, .inl (cI, 100, .inl (fun _ => 0))), (a18, .inl (cI, 64, .inl (fun _ => 0)))]) rfl dX2_init_193 (fun H locs hI => ?_)
  refine lv_aload_n hx hb dX2_init_196 rfl (lv_at hl 0 rfl) ?_
  refine lv_bipush (v := 10) hx hb dX2_init_197 (by decide) ?_
  refine gNewa hX (hts (.arrayClass .int) (by decide +kernel)) hK hI hA (by decide) (show (10 : Int32).toNatClampNeg = 10 by decide) (by decide) (Nat.le_of_ble_eq_true rfl) (Nat.le_of_ble_eq_true rfl) dX2_init_199 (fun a19 cA H hK hI => ?_)
  obtain rfl := gK_int hK 0 1 rfl rfl
  have hK := hK.sub (tys' := [(cI, .int)]) [0] rfl
  have hI : InW D A s.heap [(h, .inr (2, [.int 0, .ref a1, .ref a2, .ref a3, .ref a4, .ref a5, .ref a6, .ref a7, .ref a8, .ref a9, .ref a10, .int 0, .int 0, .ref a13, .int 0, .int 0, .int 0, .int 0, .ref a18, .null])), (a1, .inl (cI, 4200, .inl (fun _ => 0))), (a2, .inl (cI, 4200, .inl (fun _ => 0))), (a3, .inl (cI, 4200, .inl (fun _ => 0))), (a4, .inl (cI, 4200, .inl (fun _ => 0))), (a5, .inl (cI, 4200, .inl (fun _ => 0))), (a6, .inl (cI, 4200, .inl (fun _ => 0))), (a7, .inl (cI, 4200, .inl (fun _ => 0))), (a8, .inl (cI, 4200, .inl (fun _ => 0))), (a9, .inl (cI, 10, .inl (gFill 10))), (a10, .inl (cI, 10, .inl (gFill 10))), (a13, .inl (cI, 100, .inl (fun _ => 0))), (a18, .inl (cI, 64, .inl (fun _ => 0))), (a19, .inl (cI, 10, .inl (fun _ => 0)))] H _ := hI
  refine gPutF (ci := 2) hX hin2 tyX2 tyX2_ok nmX2 hK hI 0 rfl rfl 19 (by decide) (hts (.fieldLink RX2 46 "GateHallsModel" "path" "[I") (by decide +kernel)) rfl hnm rfl rfl rfl (Nat.le_of_ble_eq_true rfl) (w' := [(h, .inr (2, [.int 0, .ref a1, .ref a2, .ref a3, .ref a4, .ref a5, .ref a6, .ref a7, .ref a8, .ref a9, .ref a10, .int 0, .int 0, .ref a13, .int 0, .int 0, .int 0, .int 0, .ref a18, .ref a19])), (a1, .inl (cI, 4200, .inl (fun _ => 0))), (a2, .inl (cI, 4200, .inl (fun _ => 0))), (a3, .inl (cI, 4200, .inl (fun _ => 0))), (a4, .inl (cI, 4200, .inl (fun _ => 0))), (a5, .inl (cI, 4200, .inl (fun _ => 0))), (a6, .inl (cI, 4200, .inl (fun _ => 0))), (a7, .inl (cI, 4200, .inl (fun _ => 0))), (a8, .inl (cI, 4200, .inl (fun _ => 0))), (a9, .inl (cI, 10, .inl (gFill 10))), (a10, .inl (cI, 10, .inl (gFill 10))), (a13, .inl (cI, 100, .inl (fun _ => 0))), (a18, .inl (cI, 64, .inl (fun _ => 0))), (a19, .inl (cI, 10, .inl (fun _ => 0)))]) rfl dX2_init_201 (fun H locs hI => ?_)
  obtain ⟨q, hq⟩ : ∃ q : Nat → Nat, q = fun k => if k = 1 then a1 else if k = 2 then a2 else if k = 3 then a3 else if k = 4 then a4 else if k = 5 then a5 else if k = 6 then a6 else if k = 7 then a7 else if k = 8 then a8 else if k = 9 then a9 else if k = 10 then a10 else if k = 13 then a13 else if k = 18 then a18 else a19 := ⟨_, rfl⟩
  have hI : InW D A s.heap (wM h q cI (fun _ => 0) g0) H locs := by
    rw [hq]
    exact hI
  exact W.vret hx hb hr (fun t ht hW => ⟨⟨(q, cI), rfl, trivial, ⟨by rw [ht]; exact hI.1, hI.2.1⟩, va_K.moved hW.alike hK⟩, hI.2.2.F ht⟩) hI.2.2.2.2 dX2_init_204 hlk
