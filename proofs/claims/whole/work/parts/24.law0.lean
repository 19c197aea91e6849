/-! THE CLAIM OUT OF ONE WALK OF THE LAW'S BODY. Your part is whole_start (and what it stands on); all else here is the same for every law, but numbers. -/
def R_law : String := "GateHallsLaw"
def lw_P (b : Addr) (xs : List Int32) (args : Array Value) (s : State) : Prop := args = #[.ref b] ∧ s.IntsAt b xs ∧ xs.length ≤ 2048 ∧ (Jvm.Cond.and given_1 narrow_1).before args s = true
def lw_Q (_ : Array Value) (s : State) (o : Outcome) (t : State) : Prop := o = .returned (some (.int 1)) ∧ Framed s o t [] 600000 7302250
def lw_Z (below : List Frame) (a : Array Value) (s : State) : State → Prop := fun t => ∃ o, t.status = .running ∧ Ended t below o ∧ lw_Q a s o t
/-- the law's own end, with 1 on the stack, nothing written that was there before, its room as the claim has it -/
theorem lw_ret {p : Program} {l : Launch} {e : Env} {s : State} {m : MethodId} {below : List Frame} {meth : Method} {c : Code} {b : Nat} (hx : p.tables.exec = Jvm.exec) (hb : c.code = code) (hr : meth.sig.returnType = ret) (hlocks : meth.locks = false) {pc : Nat} {H : Heap} {ls : Array Slot} (hdg : decode code pc = .ok (.ireturn, 1)) : W p l e room_1 s m #[Value.ref b] below meth c H [] 600000 7302250 (lw_Z below #[Value.ref b] s) (F0 m pc ls [.int 1]) := by
  intro T hT X
  obtain ⟨fs, hret, hrun, hended, hW, hframe⟩ := X.leave (v := some (.int 1)) (hlocks := hlocks) (fun h => by rw [hr] at h; cases h)
  have hmeth' : T.vm.method? m = some meth := X.method'
  refine ⟨T.setFrames fs, ?_, .returned (some (.int 1)), hrun, hended, rfl, ⟨_, rfl⟩, hW, hframe⟩
  jvm_step X.here [X.here.top, hx, hb, hdg, hmeth', hr, ret, narrow_b1]
  (try refine ⟨rfl, ?_⟩); (try refine ⟨rfl, ?_⟩)
  first | (intro acts; rw [hret _ acts rfl rfl rfl]) | rw [hret _ _ rfl rfl rfl]
  exact Steps.refl _
/-- what holds at the law's entry: the machine, the code, the tables' words (any of lw_tbl by 'hts w (by decide +kernel)'), the script of L ints xs at the cell b, what the Statement gives of the start (any of its parts by flat_of_before) -/
def lw_At (p : Program) (s : State) (m : MethodId) (meth : Method) (c : Code) (b L : Nat) (xs : Nat → Int32) : Prop :=
  p.tables.exec = Jvm.exec ∧ c.code = code ∧ meth.sig.returnType = ret ∧ c.maxLocals = 4 ∧ s.vm.findClass R_law = some m.cls ∧ (∀ w ∈ lw_tbl, w.before #[Value.ref b] s = true) ∧ va_X b L xs s s.heap ∧ b < s.heap.size ∧ meth.locks = false ∧ (Jvm.Cond.and given_1 narrow_1).before #[Value.ref b] s = true
/-! two worlds side by side -/
theorem InW_left {D : va_G} {A : Nat → Prop} {H0 : Heap} {w1 w2 : va_W} {H : Heap} {locs : List Loc} (hI : InW D A H0 (w1 ++ w2) H locs) : InW D A H0 w1 H locs := by
  have key : ∀ (k : Nat) (q : Nat × va_E), w1[k]? = some q → (w1 ++ w2)[k]? = some q := fun k q h => by
    rw [List.getElem?_append_left (List.getElem?_eq_some_iff.mp h).1]; exact h
  exact ⟨fun k q h => hI.1 k q (key k q h), ⟨fun i j x y hx hy e => hI.2.1.1 i j x y (key i x hx) (key j y hy) e, fun k q h => hI.2.1.2 k q (key k q h)⟩, hI.2.2⟩
theorem InW_rightk {w1 w2 : va_W} (k : Nat) (q : Nat × va_E) (h : w2[k]? = some q) : (w1 ++ w2)[w1.length + k]? = some q := by
  rw [List.getElem?_append_right (by omega), Nat.add_sub_cancel_left]; exact h
theorem InW_right {D : va_G} {A : Nat → Prop} {H0 : Heap} {w1 w2 : va_W} {H : Heap} {locs : List Loc} (hI : InW D A H0 (w1 ++ w2) H locs) : InW D A H0 w2 H locs :=
  ⟨fun k q h => hI.1 _ q (InW_rightk k q h), ⟨fun i j x y hx hy e => by
    have := hI.2.1.1 _ _ x y (InW_rightk i x hx) (InW_rightk j y hy) e
    omega, fun k q h => hI.2.1.2 _ q (InW_rightk k q h)⟩, hI.2.2⟩
theorem InW_apart {D : va_G} {A : Nat → Prop} {H0 : Heap} {w1 w2 : va_W} {H : Heap} {locs : List Loc} (hI : InW D A H0 (w1 ++ w2) H locs) {i j : Nat} {x y : Nat × va_E} (hx : w1[i]? = some x) (hy : w2[j]? = some y) : x.1 ≠ y.1 := fun e => by
  have hl := (List.getElem?_eq_some_iff.mp hx).1
  have h1 : (w1 ++ w2)[i]? = some x := by rw [List.getElem?_append_left hl]; exact hx
  have := hI.2.1.1 i (w1.length + j) x y h1 (InW_rightk j y hy) e
  omega
/-- behind a call over the first world -/
theorem gJoinL {D : va_G} {A : Nat → Prop} {H0 : Heap} {w1 w2 u : va_W} {H H1 : Heap} {locs : List Loc} (hI : InW D A H0 (w1 ++ w2) H locs) (hA : ∀ q, H0.size ≤ q → A q) (hk : ∀ q : Nat, q < H.size → ¬ va_A w1 H.size q → H1[q]? = H[q]?) (hP : va_P D vwCl u H1) (hD : va_D (va_A w1 H.size) u) : va_P D vwCl (u ++ w2) H1 ∧ va_D A (u ++ w2) := by
  have hF := gFree (InW_left hI) hA
  have out : ∀ (k : Nat) (q : Nat × va_E), w2[k]? = some q → q.1 < H.size ∧ ¬ va_A w1 H.size q.1 := fun k q hq => by
    have hlt := ((InW_right hI).1 k q hq).lt
    refine ⟨hlt, fun h => ?_⟩
    rcases h with ⟨i, e, h⟩ | h
    · exact InW_apart hI h hq rfl
    · omega
  refine ⟨va_P.app hP (fun k q hq => ((InW_right hI).1 k q hq).kept (hk q.1 (out k q hq).1 (out k q hq).2)), va_D.app (hD.weaken (fun _ q _ h => hF q.1 h)) (InW_right hI).2.1 (fun i j x y hx hy e => ?_)⟩
  exact (out j y hy).2 (by rw [← e]; exact hD.2 i x hx)
/-- behind a call over the second -/
theorem gJoinR {D : va_G} {A : Nat → Prop} {H0 : Heap} {w1 w2 u : va_W} {H H1 : Heap} {locs : List Loc} (hI : InW D A H0 (w1 ++ w2) H locs) (hA : ∀ q, H0.size ≤ q → A q) (hk : ∀ q : Nat, q < H.size → ¬ va_A w2 H.size q → H1[q]? = H[q]?) (hP : va_P D vwCl u H1) (hD : va_D (va_A w2 H.size) u) : va_P D vwCl (w1 ++ u) H1 ∧ va_D A (w1 ++ u) := by
  have hF := gFree (InW_right hI) hA
  have out : ∀ (k : Nat) (q : Nat × va_E), w1[k]? = some q → q.1 < H.size ∧ ¬ va_A w2 H.size q.1 := fun k q hq => by
    have hlt := ((InW_left hI).1 k q hq).lt
    refine ⟨hlt, fun h => ?_⟩
    rcases h with ⟨i, e, h⟩ | h
    · exact InW_apart hI hq h rfl
    · omega
  refine ⟨va_P.app (fun k q hq => ((InW_left hI).1 k q hq).kept (hk q.1 (out k q hq).1 (out k q hq).2)) hP, va_D.app (InW_left hI).2.1 (hD.weaken (fun _ q _ h => hF q.1 h)) (fun i j x y hx hy e => ?_)⟩
  exact (out i x hx).2 (by rw [e]; exact hD.2 j y hy)
section LC
variable {p : Program} {l : Launch} {e : Env} {R : Room} {s : State} {m : MethodId} {args : Array Value} {below : List Frame} {meth : Method} {c : Code} {H : Heap} {locs : List Loc} {cells slots mc ms : Nat} {Q : State → Prop}
variable {cc : ByteArray} {pc nL : Nat} {ls : Array Slot} {rest st0 : List Value} {D : va_G} {A : Nat → Prop} {w1 w2 : va_W} {H0 : Heap} {Ts : List Cond} {own : String} {av : Array Value}
theorem gCallL {post : Int32 → va_W → Prop} (hr : va_Run p l e R s m args below meth c H locs cells slots mc ms (F0 m pc ls st0) rest (va_Qi post (gPost D (va_A w1 H.size)) (va_A w1 H.size) av) (va_A w1 H.size)) (hI : InW D A H0 (w1 ++ w2) H locs) (hA : ∀ q, H0.size ≤ q → A q)
    (kk : ∀ (r : Int32) (u : va_W) (H1 : Heap) (locs1 : List Loc), post r u → InW D A H0 (u ++ w2) H1 locs1 → W p l e R s m args below meth c H1 locs1 (cells + mc) (slots + ms) Q (F0 m (pc + 3) ls (.int r :: rest))) : W p l e R s m args below meth c H locs cells slots Q (F0 m pc ls st0) := by
  have hF := gFree (InW_left hI) hA
  refine va_calli hr hI.2.2 (fun q _ h => hF q h) hF (fun r u t H1 locs1 ht hvm hw hB hz hk hS => ?_)
  obtain ⟨hP1, hD1⟩ := hB
  rw [ht] at hP1
  obtain ⟨h1, h2⟩ := gJoinL hI hA hk hP1 hD1
  exact kk r u H1 locs1 hw ⟨h1, h2, hS⟩
theorem gCallR {post : Int32 → va_W → Prop} (hr : va_Run p l e R s m args below meth c H locs cells slots mc ms (F0 m pc ls st0) rest (va_Qi post (gPost D (va_A w2 H.size)) (va_A w2 H.size) av) (va_A w2 H.size)) (hI : InW D A H0 (w1 ++ w2) H locs) (hA : ∀ q, H0.size ≤ q → A q)
    (kk : ∀ (r : Int32) (u : va_W) (H1 : Heap) (locs1 : List Loc), post r u → InW D A H0 (w1 ++ u) H1 locs1 → W p l e R s m args below meth c H1 locs1 (cells + mc) (slots + ms) Q (F0 m (pc + 3) ls (.int r :: rest))) : W p l e R s m args below meth c H locs cells slots Q (F0 m pc ls st0) := by
  have hF := gFree (InW_right hI) hA
  refine va_calli hr hI.2.2 (fun q _ h => hF q h) hF (fun r u t H1 locs1 ht hvm hw hB hz hk hS => ?_)
  obtain ⟨hP1, hD1⟩ := hB
  rw [ht] at hP1
  obtain ⟨h1, h2⟩ := gJoinR hI hA hk hP1 hD1
  exact kk r u H1 locs1 hw ⟨h1, h2, hS⟩
/-- a read of the script -/
theorem gSld (hX : CallFix p m c cc nL s args Ts own) {b L : Nat} {xs : Nat → Int32} (hXs : va_X b L xs s H0) (hbl : b < H0.size) (hbA : ¬ A b) {w : va_W} (hI : InW D A H0 w H locs) {i : Int32} {j : Nat} (hij : i = nI j) (hj : j < L) (hL : L < 2 ^ 31) (hdg : decode cc pc = .ok (.iaload, 1))
    (kk : W p l e R s m args below meth c H locs cells slots Q (F0 m (pc + 1) ls (.int (xs j) :: rest))) : W p l e R s m args below meth c H locs cells slots Q (F0 m pc ls (.int i :: .ref b :: rest)) := by
  subst hij
  refine va_sld hX.1 hX.2.1 hXs hbl hbA hI.2.2 (vp_in_nI hj hL) hdg ?_
  rw [nI_clamp (by omega)]
  exact kk
end LC
/-! the invariant over the calls -/
theorem gI_sHall {n w : Nat} {σ : gh_S} {x k f : Int32} (hn : n < 4000) (hg : gI n w σ) : gI (zN n x k f) w (sHall σ x k f).2 := by
  unfold zN sHall
  by_cases hb : x < 0 ∨ 9 < x ∨ k < 0 ∨ 2 < k ∨ f < 0 ∨ 1000 < f
  · rw [if_pos hb, if_pos hb]; exact hg
  · rw [if_neg hb, if_neg hb]
    obtain ⟨a1, a2, a3, a4, a5, a6, a7, a8, a9⟩ := hg
    refine ⟨by show σ.2 0 + 1 = _; rw [a1]; exact nI_1 n, a2, a3, ?_, a5, ?_, by omega, a8, ?_⟩
    · intro j hj
      show (uA (uA (uA σ 1 (σ.2 0).toNatClampNeg k) 2 (σ.2 0).toNatClampNeg f) 9 x.toNatClampNeg (σ.2 0)).1 9 j = -1 ∨ ∃ h : Nat, h < n + 1 ∧ (uA (uA (uA σ 1 (σ.2 0).toNatClampNeg k) 2 (σ.2 0).toNatClampNeg f) 9 x.toNatClampNeg (σ.2 0)).1 9 j = nI h
      rw [uA_ki]
      split
      · exact Or.inr ⟨n, by omega, a1⟩
      · rcases a4 j hj with h | ⟨h, h1, h2⟩
        · exact Or.inl h
        · exact Or.inr ⟨h, by omega, h2⟩
    · intro j hj
      obtain ⟨h, h1, h2⟩ := a6 j hj
      exact ⟨h, by omega, h2⟩
    · intro k' i h3 h8 hi
      show (uA (uA (uA σ 1 _ k) 2 _ f) 9 x.toNatClampNeg (σ.2 0)).1 k' i = 0
      rw [uA_k (by omega), uA_k (by omega), uA_k (by omega)]
      exact a9 k' i h3 h8 (by omega)
theorem gKd_sHall {n w : Nat} {σ : gh_S} {x k f : Int32} (hg : gI n w σ) (hk : gKd n σ) : gKd (zN n x k f) (sHall σ x k f).2 := by
  unfold zN sHall
  by_cases hb : x < 0 ∨ 9 < x ∨ k < 0 ∨ 2 < k ∨ f < 0 ∨ 1000 < f
  · rw [if_pos hb, if_pos hb]; exact hk
  · rw [if_neg hb, if_neg hb]
    have h0 : ¬ k < 0 := fun h => hb (Or.inr (Or.inr (Or.inl h)))
    have h2 : ¬ 2 < k := fun h => hb (Or.inr (Or.inr (Or.inr (Or.inl h))))
    have hn4 := hg.2.2.2.2.2.2.1
    have hnC : (σ.2 0).toNatClampNeg = n := by rw [hg.1]; exact nI_clamp (by omega)
    have hkk : k = 0 ∨ k = 1 ∨ k = 2 := by
      obtain ⟨j, hj, e⟩ := nI_of2 (x := k) (M := 2) (n := 2) (by decide) h0 (by rw [Int32.le_iff_toInt_le]; rw [Int32.lt_iff_toInt_lt] at h2; omega)
      subst e
      rcases (show j = 0 ∨ j = 1 ∨ j = 2 by omega) with rfl | rfl | rfl <;> decide
    intro i hi
    show upd (σ.1 1) (σ.2 0).toNatClampNeg k i = 0 ∨ upd (σ.1 1) (σ.2 0).toNatClampNeg k i = 1 ∨ upd (σ.1 1) (σ.2 0).toNatClampNeg k i = 2
    rw [hnC]
    unfold upd
    by_cases hin : i = n
    · rw [if_pos hin]; exact hkk
    · rw [if_neg hin]; exact hk i (by omega)
theorem gI_sShare {n w : Nat} {σ : gh_S} {x y : Int32} (hg : gI n w σ) : gI n w (sShare σ x y).2 := by
  unfold sShare
  by_cases hb : x < 0 ∨ 9 < x ∨ y < 0 ∨ 9 < y
  · rw [if_pos hb]; exact hg
  · rw [if_neg hb]
    obtain ⟨j, hj, hjE, hjC⟩ := g_pl (x := x) (fun h => hb (Or.inl h)) (fun h => hb (Or.inr (Or.inl h)))
    exact gI_u9 (by rw [hjC]; exact hg.2.2.2.1 j hj) hg
theorem k_share {σ : gh_S} {x y : Int32} : (sShare σ x y).2.1 1 = σ.1 1 := by
  unfold sShare
  split <;> rfl
theorem gI_sParent {n w : Nat} {σ : gh_S} {x y : Int32} (hg : gI n w σ) : gI n w (sParent σ x y).2 := by
  unfold sParent
  by_cases hb : x < 0 ∨ 9 < x ∨ y < -1 ∨ 9 < y
  · rw [if_pos hb]; exact hg
  · rw [if_neg hb]
    have h1 : ¬ y < -1 := fun h => hb (Or.inr (Or.inr (Or.inl h)))
    have h9 : ¬ 9 < y := fun h => hb (Or.inr (Or.inr (Or.inr h)))
    have hy : y = -1 ∨ ∃ i : Nat, i < 10 ∧ y = nI i := by
      by_cases hm : y = -1
      · exact Or.inl hm
      · obtain ⟨i, hi, hiE, -⟩ := g_pl (x := y) (fun h => h1 (g_m1a h hm)) h9
        exact Or.inr ⟨i, hi, hiE⟩
    obtain ⟨a1, a2, a3, a4, a5, a6, a7, a8, a9⟩ := hg
    refine ⟨a1, a2, a3, a4, ?_, a6, a7, a8, ?_⟩
    · intro j hj
      show (uA σ 10 x.toNatClampNeg y).1 10 j = -1 ∨ ∃ i : Nat, i < 10 ∧ (uA σ 10 x.toNatClampNeg y).1 10 j = nI i
      rw [uA_ki]
      split
      · exact hy
      · exact a5 j hj
    · intro k' i h3 h8 hi
      show (uA σ 10 x.toNatClampNeg y).1 k' i = 0
      rw [uA_k (by omega)]
      exact a9 k' i h3 h8 hi
theorem k_parent {σ : gh_S} {x y : Int32} : (sParent σ x y).2.1 1 = σ.1 1 := by
  unfold sParent
  split <;> rfl
theorem gI_sFill {n w : Nat} {σ : gh_S} {x : Int32} (hg : gI n w σ) : gI n w (sFill σ x).2 := by
  unfold sFill
  split
  · exact hg
  · exact gI_uS 11 _ (by decide) (by decide) (by decide) hg
theorem k_fill {σ : gh_S} {x : Int32} : (sFill σ x).2.1 1 = σ.1 1 := by
  unfold sFill
  split <;> rfl
theorem gI_sWalk {n : Nat} {σ : gh_S} {x y z : Int32} (hg : gI n 0 σ) : gI n 0 (sWalk σ x y z).2 := by
  unfold sWalk
  by_cases hb : x < 0 ∨ 9 < x ∨ y < 0 ∨ 7 < y
  · rw [if_pos hb]; exact hg
  · rw [if_neg hb]
    obtain ⟨j, hj, hjE, -⟩ := g_pl (x := x) (fun h => hb (Or.inl h)) (fun h => hb (Or.inr (Or.inl h)))
    exact gI_uS 14 _ (by decide) (by decide) (by decide) (gI_wt 3 0 (by omega) ⟨j, hj, hjE⟩ (gI_begin hg))
theorem k_walk {σ : gh_S} {x y z : Int32} : (sWalk σ x y z).2.1 1 = σ.1 1 := by
  unfold sWalk
  split
  · rfl
  · exact k_wt 3
theorem k_SB {x : Nat} {sum : Int64} : ∀ (f b : Nat) {σ : gh_S}, (zSB x sum f b σ).2.1 1 = σ.1 1
  | 0, _, _ => rfl
  | f + 1, b, σ => by
    unfold zSB
    split
    · exact k_SB f (b + 1)
    · dsimp only
      split
      · rfl
      · split
        · rfl
        · exact k_SB f (b + 1)
theorem k_SA {sum : Int64} : ∀ (f a : Nat) {σ : gh_S}, (zSA sum f a σ).2.1 1 = σ.1 1
  | 0, _, _ => rfl
  | f + 1, a, σ => by
    unfold zSA
    split
    · exact k_SA f (a + 1)
    · dsimp only
      split
      · exact (k_SA f (a + 1)).trans (k_SB _ _)
      · exact k_SB _ _
theorem gI_SA {n w : Nat} {sum : Int64} : ∀ (f a : Nat) {σ : gh_S}, a + f ≤ 10 → gI n w σ → gI n w (zSA sum f a σ).2
  | 0, _, _, _, hg => hg
  | f + 1, a, σ, ha, hg => by
    unfold zSA
    by_cases hno : σ.1 9 a = -1
    · rw [if_pos hno]; exact gI_SA f (a + 1) (by omega) hg
    · rw [if_neg hno]
      obtain ⟨x, hx, hxE⟩ := (hg.2.2.2.1 a (by omega)).resolve_left hno
      have hn4 := hg.2.2.2.2.2.2.1
      have hxC : (σ.1 9 a).toNatClampNeg = x := by rw [hxE]; exact nI_clamp (by omega)
      dsimp only
      rw [hxC]
      have hB := gI_SB (x := x) (sum := sum) (9 - a) (a + 1) (by omega) (gI_ask hx hg)
      split
      · exact gI_SA f (a + 1) (by omega) hB
      · exact hB
