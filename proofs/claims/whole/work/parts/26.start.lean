theorem iL_0 : ∀ w ∈ wsX00, w ∈ wsL_law := fun w h => List.mem_append_left _ (List.mem_append_right _ h)
theorem iL_1 : ∀ w ∈ wsX10, w ∈ wsL_law := fun w h => List.mem_append_left _ (List.mem_append_left _ (List.mem_append_left _ (List.mem_append_right _ h)))
theorem iL_2 : ∀ w ∈ wsX20, w ∈ wsL_law := fun w h => List.mem_append_left _ (List.mem_append_left _ (List.mem_append_right _ h))
theorem gPreE_blind {av : List Value} {D : va_G} {w : va_W} {tys : List (ClassId × FieldType)} {sz : Nat} : FrameBlind (va_Pc av (fun U => gPre D w tys sz U ∧ va_AO "GateHalls$Hall" U)) := fun a U g mk q => by
  obtain ⟨q0, ⟨q1, qP, qK, qD, qN⟩, qO⟩ := q
  exact ⟨q0, ⟨q1, qP, va_K.moved (u := U) (U := U.calling g mk a) (Vm.Alike.refl U.vm) qK, qD, gNw.same rfl qN⟩, va_AO.moved (u := U) (U := U.calling g mk a) (Vm.Alike.refl U.vm) qO⟩
theorem gNw_law {s : State} {args : Array Value} (hts : ∀ w ∈ lw_tbl, w.before args s = true) : gNw s :=
  ⟨va_Nw.of rfl (hts (.methodLinkNest RX1 42 yX0_init "GateHalls") (by decide +kernel)), va_Nw.of rfl (hts (.fieldLinkNest RX1 83 "GateHalls$Hall" "gifts" "I" "GateHalls") (by decide +kernel)), va_Nw.of rfl (hts (.fieldLinkNest RX1 68 "GateHalls$Hall" "asks" "I" "GateHalls") (by decide +kernel)), va_Nw.of rfl (hts (.fieldLinkNest RX1 136 "GateHalls$Hall" "inside" "I" "GateHalls") (by decide +kernel)), va_Nw.of rfl (hts (.fieldLinkNest RX1 133 "GateHalls$Hall" "paid" "I" "GateHalls") (by decide +kernel)), va_Nw.of rfl (hts (.methodLinkNest RX1 114 yX0_enter "GateHalls") (by decide +kernel)), va_Nw.of rfl (hts (.methodLinkNest RX1 120 yX0_mark "GateHalls") (by decide +kernel)), va_Nw.of rfl (hts (.methodLinkNest RX1 126 yX0_guardIsInTheWay "GateHalls") (by decide +kernel)), va_Nw.of rfl (hts (.methodLinkNest RX1 130 yX0_charge "GateHalls") (by decide +kernel)), va_Nw.of rfl (hts (.methodLinkNest RX1 79 yX0_fact "GateHalls") (by decide +kernel))⟩
set_option maxHeartbeats 40000000 in
set_option maxRecDepth 100000 in
/-- from the entry, for every script of at most 2048 ints, the law comes to its end with true -/
theorem whole_start {p : Program} {e : Env} {s : State} {m : MethodId} {below : List Frame} {meth : Method} {c : Code} (l : Launch) {b L : Nat} {xs : Nat → Int32} (hL : L ≤ 2048) (C0 : lw_At p s m meth c b L xs) : W p l e room_1 s m #[Value.ref b] below meth c s.heap [] 0 0 (lw_Z below #[Value.ref b] s) (entryFrame m ([Value.ref b] : List Value).toArray 4) := by
  obtain ⟨hx, hb, hr, hml, hown0, hts0, hXs, hbl, hlocks, hgv⟩ := id C0
  have hA : ∀ q : Nat, s.heap.size ≤ q → (fun q : Nat => s.heap.size ≤ q) q := fun _ h => h
  have hts : ∀ w ∈ wsL_law, w.before #[Value.ref b] s = true := fun w h => hts0 w (wsL_law_in w h)
  have hown : s.vm.findClass RL = some m.cls := hown0
  have hX : CallFix p m c cL_law 4 s #[Value.ref b] wsL_law RL := ⟨hx, hb, hml, hown, hts⟩
  have hN : gNw s := gNw_law hts0
  have hO : va_AO "GateHalls$Hall" s := va_AO.of (hts0 (.arrayOver (.object "GateHalls$Hall")) (by decide +kernel))
  obtain ⟨c0, iS0, hKn0⟩ := u_known (C := RX0) (T := TX0) (N := 9) (n := 9) hts iL_0 (hts (.instantiable RX0 9) (by decide +kernel))
  obtain ⟨c1, iS1, hKn1⟩ := u_known (C := RX1) (T := TX1) (N := 12) (n := 12) hts iL_1 (hts (.instantiable RX1 12) (by decide +kernel))
  obtain ⟨c2, iS2, hKn2⟩ := u_known (C := RX2) (T := TX2) (N := 20) (n := 20) hts iL_2 (hts (.instantiable RX2 20) (by decide +kernel))
  obtain ⟨D, hKc⟩ : ∃ D : va_G, ∀ (k : Nat) (q : vw_C), vwCl[k]? = some q → u_Kn s q.1 q.2.1 q.2.2 (D.1 k) (D.2 k) := by
    refine ⟨(fun k => if k = 0 then c0 else if k = 1 then c1 else c2, fun k => if k = 0 then iS0 else if k = 1 then iS1 else iS2), ?_⟩
    intro k q hq
    match k, hq with
    | 0, hq => cases hq; exact hKn0
    | 1, hq => cases hq; exact hKn1
    | 2, hq => cases hq; exact hKn2
    | k + 3, hq => simp [vwCl] at hq
  have hK : va_K D vwCl [] s := ⟨hKc, fun k q h => by simp at h⟩
  have hI : InW D (fun q : Nat => s.heap.size ≤ q) s.heap [] s.heap [] := ⟨fun k q h => by simp at h, ⟨fun i j p q h => by simp at h, fun k q h => by simp at h⟩, va_S.rf⟩
  have hl := lv_entry ([.ref b]) (n := 4) (Nat.le_of_ble_eq_true rfl)
  rw [lg_entry_eq]
  generalize (lg_sl ([.ref b]) ++ List.replicate (4 - (lg_sl ([.ref b])).length) Slot.unset).toArray = ls at hl ⊢
  have hl : lv_has ls 4 [(0, .ref b)] := hl
  refine gNew (ci := 1) (fs := [.null, .null, .int 0, .int 0, .null, .null, .int 0, .int 0, .null, .int 0, .int 0, .int 0]) hX iL_1 tyX1 tyX1_ok (hts (.classLink RL 7 RX1) (by decide +kernel)) (hts (.instantiable RX1 12) (by decide +kernel)) (hts (.initialized RX1) (by decide +kernel)) hK hI hA rfl (fun j hj => by rcases (show j = 0 ∨ j = 1 ∨ j = 2 ∨ j = 3 ∨ j = 4 ∨ j = 5 ∨ j = 6 ∨ j = 7 ∨ j = 8 ∨ j = 9 ∨ j = 10 ∨ j = 11 by omega) with rfl | rfl | rfl | rfl | rfl | rfl | rfl | rfl | rfl | rfl | rfl | rfl <;> rfl) (Nat.le_of_ble_eq_true rfl) (Nat.le_of_ble_eq_true rfl) dL_law_0 (fun g H hI => ?_)
  have hI : InW D (fun q : Nat => s.heap.size ≤ q) s.heap [(g, .inr (1, [.null, .null, .int 0, .int 0, .null, .null, .int 0, .int 0, .null, .int 0, .int 0, .int 0]))] H [] := hI
  refine lv_dup hx hb dL_law_3 rfl ?_
  have hF := gFree hI hA
  refine va_callv (va_runI (As := []) (rest := [.ref g]) hX (c_X1_init l D g (fun _ => 0) H.size) (cwI 0 hts gL_law_X1_init rfl rfl rfl (hts (.initialized RX1) (by decide +kernel)) (hts (.methodLink RL 9 yX1_init) (by decide +kernel)) (hts (.instanceMethod yX1_init) (by decide +kernel)) rfl (by decide +kernel) ⟨by show _ ≤ 2048; exact Nat.le_of_ble_eq_true rfl, by show _ ≤ 84000; exact Nat.le_of_ble_eq_true rfl⟩) ⟨gPreE_blind, fun U hU hW => ⟨rfl, (gPre_ok (av := [.ref g]) hI hK hN U hU hW).2, va_AO.moved hW.alike hO⟩⟩ rfl rfl hl.1 rfl (lv_room (Nat.le_of_ble_eq_true rfl)) dL_law_4 ⟨Nat.le_of_ble_eq_true rfl, Nat.le_of_ble_eq_true rfl⟩) hI.2.2 (fun q _ h => hF q h) hF (fun u t H1 locs ht hvm hw hB hz1 hk1 hS => ?_)
  obtain ⟨qc, cI, cH⟩ := u
  obtain ⟨⟨hP1, hD1⟩, hK1⟩ := hB
  rw [ht] at hP1
  have hK : va_K D vwCl (gTy cI cH) s := va_K.moved hvm.symm hK1
  have hI : InW D (fun q : Nat => s.heap.size ≤ q) s.heap (wCn g qc cI cH (fun _ => 0) (fun _ => 0) 0 g0) H1 locs := ⟨hP1, hD1.weaken (fun _ q _ h => hF q.1 h), hS⟩
  clear hP1 hD1 hK1 hF hk1 hz1
  generalize H1 = H at hI ht ⊢
  refine lv_astore_n (lv' := [(1, .ref g), (0, .ref b)]) hx hb dL_law_7 rfl hl (by decide) rfl (fun ls hl => ?_)
  refine gNew (ci := 2) (fs := [.int 0, .null, .null, .null, .null, .null, .null, .null, .null, .null, .null, .int 0, .int 0, .null, .int 0, .int 0, .int 0, .int 0, .null, .null]) hX iL_2 tyX2 tyX2_ok (hts (.classLink RL 10 RX2) (by decide +kernel)) (hts (.instantiable RX2 20) (by decide +kernel)) (hts (.initialized RX2) (by decide +kernel)) hK hI hA rfl (fun j hj => by rcases (show j = 0 ∨ j = 1 ∨ j = 2 ∨ j = 3 ∨ j = 4 ∨ j = 5 ∨ j = 6 ∨ j = 7 ∨ j = 8 ∨ j = 9 ∨ j = 10 ∨ j = 11 ∨ j = 12 ∨ j = 13 ∨ j = 14 ∨ j = 15 ∨ j = 16 ∨ j = 17 ∨ j = 18 ∨ j = 19 by omega) with rfl | rfl | rfl | rfl | rfl | rfl | rfl | rfl | rfl | rfl | rfl | rfl | rfl | rfl | rfl | rfl | rfl | rfl | rfl | rfl <;> rfl) (Nat.le_of_ble_eq_true rfl) (Nat.le_of_ble_eq_true rfl) dL_law_8 (fun h H hI => ?_)
  refine lv_dup hx hb dL_law_11 rfl ?_
  have hF := gFree (InW_right hI) hA
  have hK0 : va_K D vwCl [] s := hK.sub (tys' := []) [] rfl
  refine va_callv (va_runI (As := []) (rest := [.ref h]) hX (c_X2_init l D h H.size) (cwI 0 hts gL_law_X2_init rfl rfl rfl (hts (.initialized RX2) (by decide +kernel)) (hts (.methodLink RL 12 yX2_init) (by decide +kernel)) (hts (.instanceMethod yX2_init) (by decide +kernel)) rfl (by decide +kernel) ⟨by show _ ≤ 2048; exact Nat.le_of_ble_eq_true rfl, by show _ ≤ 84000; exact Nat.le_of_ble_eq_true rfl⟩) ⟨gPre_blind, gPre_ok (InW_right hI) hK0 hN⟩ rfl rfl hl.1 rfl (lv_room (Nat.le_of_ble_eq_true rfl)) dL_law_12 ⟨Nat.le_of_ble_eq_true rfl, Nat.le_of_ble_eq_true rfl⟩) hI.2.2 (fun q _ h => hF q h) hF (fun u t H1 locs ht hvm hw hB hz1 hk1 hS => ?_)
  obtain ⟨qm, cJ⟩ := u
  obtain ⟨⟨hP1, hD1⟩, hK1⟩ := hB
  rw [ht] at hP1
  have hK1 : va_K D vwCl [(cJ, .int)] s := va_K.moved hvm.symm hK1
  have hKK := hK.app hK1
  obtain rfl := gK_int hKK 0 2 rfl rfl
  obtain ⟨hPj, hDj⟩ := gJoinR hI hA hk1 hP1 hD1
  have hI : InW D (fun q : Nat => s.heap.size ≤ q) s.heap (wCn g qc cI cH (fun _ => 0) (fun _ => 0) 0 g0 ++ wM h qm cI (fun _ => 0) g0) H1 locs := ⟨hPj, hDj, hS⟩
  refine lv_astore_n (lv' := [(2, .ref h), (1, .ref g), (0, .ref b)]) hx hb dL_law_15 rfl hl (by decide) rfl (fun ls hl => ?_)
  refine lv_iconst (v := 0) hx hb dL_law_16 (by decide) ?_
  refine lv_istore_n (lv' := [(3, .int 0), (2, .ref h), (1, .ref g), (0, .ref b)]) hx hb dL_law_17 rfl hl (by decide) rfl (fun ls hl => ?_)
  refine W.widen (k := 20 + 0) (n := 33986 + 9 * 0) (Nat.le_of_ble_eq_true rfl) (Nat.le_of_ble_eq_true rfl) ?_
  exact law_loop hL C0 hK hN 513 0 0 g0 (fun _ => 0) (fun _ => 0) (fun _ => 0) H1 locs ls (by omega) (by omega) (Nat.le_refl _) g0_I g0_K hI (lv_sub hl [3, 2, 1, 0] rfl)
