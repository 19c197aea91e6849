/-! THE INVARIANT IS KEPT -/
theorem uS_ne {σ : gh_S} {k j : Nat} {v : Int32} (h : j ≠ k) : (uS σ k v).2 j = σ.2 j := by simp [uS, upd, h]
theorem uS_eq {σ : gh_S} {k : Nat} {v : Int32} : (uS σ k v).2 k = v := by simp [uS, upd]
theorem uA_k {σ : gh_S} {k j i : Nat} {v : Int32} (h : j ≠ k) : (uA σ k i v).1 j = σ.1 j := by simp [uA, h]
theorem uA_ki {σ : gh_S} {k i j : Nat} {v : Int32} : (uA σ k i v).1 k j = if j = i then v else σ.1 k j := by simp [uA, upd]
theorem gI_uS {n w : Nat} {σ : gh_S} (k : Nat) (v : Int32) (h0 : 0 ≠ k) (h1 : 12 ≠ k) (h2 : 17 ≠ k) (hg : gI n w σ) : gI n w (uS σ k v) := by
  obtain ⟨a1, a2, ⟨t, ht, a3⟩, a4⟩ := hg
  exact ⟨by rw [uS_ne h0]; exact a1, by rw [uS_ne h2]; exact a2, ⟨t, ht, by rw [uS_ne h1]; exact a3⟩, a4⟩
/-- a row's number 3 .. 8 is set for a hall -/
theorem gI_uH {n w : Nat} {σ : gh_S} (k i : Nat) (v : Int32) (hi : i < n) (h1 : k ≤ 8) (hg : gI n w σ) : gI n w (uA σ k i v) := by
  obtain ⟨a1, a2, a3, a4, a5, a6, a7, a8, a9⟩ := hg
  refine ⟨a1, a2, a3, ?_, ?_, ?_, a7, a8, ?_⟩
  · rw [uA_k (by omega)]; exact a4
  · rw [uA_k (by omega)]; exact a5
  · rw [uA_k (by omega)]; exact a6
  · intro k' j h3 h8 hj
    rw [uA_ne (by omega)]
    exact a9 k' j h3 h8 hj
theorem gI_uX {n w : Nat} {σ : gh_S} (k i : Nat) (v : Int32) (h1 : 8 < k) (h9 : 9 ≠ k) (h10 : 10 ≠ k) (h18 : 18 ≠ k) (hg : gI n w σ) : gI n w (uA σ k i v) := by
  obtain ⟨a1, a2, a3, a4, a5, a6, a7, a8, a9⟩ := hg
  refine ⟨a1, a2, a3, ?_, ?_, ?_, a7, a8, ?_⟩
  · rw [uA_k h9]; exact a4
  · rw [uA_k h10]; exact a5
  · rw [uA_k h18]; exact a6
  · intro k' j h3 h8 hj
    rw [uA_k (by omega)]
    exact a9 k' j h3 h8 hj
theorem gI_leave {n w : Nat} {σ : gh_S} {x : Int32} (hg : gI n w σ) : gI n w (zLeave σ x) := by
  unfold zLeave
  by_cases hc : (100 : Int32) ≤ σ.2 12
  · rw [if_pos hc]; exact hg
  · rw [if_neg hc]
    have h1 := gI_uX 13 (σ.2 12).toNatClampNeg x (by decide) (by decide) (by decide) (by decide) hg
    obtain ⟨a1, a2, ⟨t, ht, a3⟩, a4⟩ := h1
    have ht' : t < 100 := g_lt100 (x := σ.2 12) a3 ht hc
    refine ⟨?_, ?_, ⟨t + 1, by omega, ?_⟩, a4⟩
    · rw [uS_ne (by decide)]; exact a1
    · rw [uS_ne (by decide)]; exact a2
    · rw [uS_eq]
      have e : σ.2 12 = nI t := a3
      rw [e]; exact nI_1 t
theorem gI_enter {n w i : Nat} {σ : gh_S} (hi : i < n) (hg : gI n w σ) : gI n w (zEnter σ i) :=
  gI_uH 8 i _ hi (by decide) (gI_uH 7 i _ hi (by decide) (gI_uH 4 i _ hi (by decide) hg))
theorem gI_push {n w i : Nat} {σ : gh_S} (hi : i < n) (hw : w < 30) (hg : gI n w σ) : gI n (w + 1) (zPush σ i) := by
  obtain ⟨a1, a2, ⟨t, ht, a3⟩, a4, a5, a6, a7, a8, a9⟩ := hg
  have hC : (σ.2 17).toNatClampNeg = w := by rw [a2]; exact nI_clamp (by omega)
  refine ⟨a1, ?_, ⟨t, ht, a3⟩, a4, a5, ?_, a7, by omega, ?_⟩
  · show σ.2 17 + 1 = nI (w + 1)
    rw [a2]; exact nI_1 w
  · intro j hj
    show ∃ h : Nat, h < n ∧ upd (σ.1 18) (σ.2 17).toNatClampNeg (nI i) j = nI h
    rw [hC]
    by_cases hjw : j = w
    · exact ⟨i, hi, by simp [upd, hjw]⟩
    · obtain ⟨h, h1, h2⟩ := a6 j (by omega)
      exact ⟨h, h1, by simp [upd, hjw, h2]⟩
  · intro k j h3 h8 hj
    show (uA σ 18 _ _).1 k j = 0
    rw [uA_k (by omega)]
    exact a9 k j h3 h8 hj
theorem gI_in {n w i : Nat} {σ : gh_S} (hi : i < n) (hw : w < 30) (hg : gI n w σ) : gI n (w + 1) (zIn σ i) := gI_push hi hw (gI_leave (gI_enter hi hg))
theorem gI_pay {n w i : Nat} {σ : gh_S} (hi : i < n) (hg : gI n w σ) : gI n w (zPay σ i).2 := by
  unfold zPay
  split
  · exact hg
  · split
    · exact gI_uH 6 i _ hi (by decide) (gI_uS 11 _ (by decide) (by decide) (by decide) hg)
    · exact hg
theorem gI_pass {n w i : Nat} {σ : gh_S} (hi : i < n) (hw : w < 30) (hg : gI n w σ) : gI n (w + 1) (zPass σ i).2 := gI_pay hi (gI_in hi hw hg)
theorem zPop_eq {σ : gh_S} {w i : Nat} (hw : w < 2 ^ 31 - 1) (hi : i < 2 ^ 31) (h1 : σ.2 17 = nI (w + 1)) (h2 : σ.1 18 w = nI i) : zPop σ = zLeave (uA (uS σ 17 (nI w)) 7 i (σ.1 7 i - 1)) (100 + zRem (nI i) 100) := by
  have e1 : σ.2 17 - 1 = nI w := by rw [h1]; exact nI_pred w
  unfold zPop
  rw [e1, nI_clamp (by omega), h2, nI_clamp hi]
theorem gI_pop {n w : Nat} {σ : gh_S} (hg : gI n (w + 1) σ) : gI n w (zPop σ) := by
  obtain ⟨a1, a2, ⟨t, ht, a3⟩, a4, a5, a6, a7, a8, a9⟩ := id hg
  obtain ⟨i, hi, hiE⟩ := a6 w (by omega)
  rw [zPop_eq (by omega) (by omega) a2 hiE]
  refine gI_leave (gI_uH 7 i _ hi (by decide) ?_)
  exact ⟨a1, rfl, ⟨t, ht, a3⟩, a4, a5, fun j hj => a6 j (by omega), a7, by omega, a9⟩
theorem gI_pops {n w : Nat} : ∀ (k : Nat) {σ : gh_S}, gI n (w + k) σ → gI n w (zPops σ k)
  | 0, _, hg => hg
  | k + 1, _, hg => gI_pops k (gI_pop hg)
theorem zW_of {n w : Nat} {σ : gh_S} (hg : gI n w σ) : zW σ = w := by
  unfold zW
  have := hg.2.2.2.2.2.2.2.1
  rw [hg.2.1]; exact nI_clamp (by omega)
theorem gI_down {n : Nat} {o : Nat → Int32} : ∀ (k w : Nat) {σ : gh_S}, w + k ≤ 30 → (∀ i, i < k → ∃ j : Nat, j < 10 ∧ o i = nI j) → gI n w σ → ∃ w', w ≤ w' ∧ w' ≤ w + k ∧ gI n w' (zDown o k σ).2 ∧ ((zDown o k σ).1 = 0 → w' = w + k)
  | 0, w, _, _, _, hg => ⟨w, Nat.le_refl _, Nat.le_refl _, hg, fun _ => rfl⟩
  | k + 1, w, σ, hk, ho, hg => by
    obtain ⟨j, hj, hjE⟩ := ho k (by omega)
    have hjC : (o k).toNatClampNeg = j := by rw [hjE]; exact nI_clamp (by omega)
    unfold zDown
    rw [hjC]
    by_cases hc : σ.1 9 j = -1
    · rw [if_pos hc]
      exact ⟨w, Nat.le_refl _, by omega, hg, fun h => absurd h (show ¬ (1 : Int32) = 0 by decide)⟩
    · rw [if_neg hc]
      obtain ⟨i, hi, hiE⟩ := (hg.2.2.2.1 j hj).resolve_left hc
      have hn4 := hg.2.2.2.2.2.2.1
      have hiC : (σ.1 9 j).toNatClampNeg = i := by rw [hiE]; exact nI_clamp (by omega)
      rw [hiC]
      have hp := gI_pass (i := i) hi (by omega) hg
      by_cases hr : (zPass σ i).1 = 0
      · rw [if_pos hr]
        obtain ⟨w', h1, h2, h3, h4⟩ := gI_down k (w + 1) (by omega) (fun i hi => ho i (by omega)) hp
        exact ⟨w', by omega, by omega, h3, fun h => by rw [h4 h]; omega⟩
      · rw [if_neg hr]
        exact ⟨w + 1, by omega, by omega, hp, fun h => absurd h hr⟩
/-- the places of a path -/
theorem zOrb_in {n w : Nat} {σ : gh_S} (hg : gI n w σ) {p : Int32} (hp : ∃ j : Nat, j < 10 ∧ p = nI j) : ∀ i, zOrb (σ.1 10) p i = -1 ∨ ∃ j : Nat, j < 10 ∧ zOrb (σ.1 10) p i = nI j
  | 0 => Or.inr hp
  | i + 1 => by
    unfold zOrb
    by_cases h : zOrb (σ.1 10) p i = -1
    · rw [if_pos h]; exact Or.inl rfl
    · rw [if_neg h]
      obtain ⟨j, hj, hjE⟩ := (zOrb_in hg hp i).resolve_left h
      rw [hjE, nI_clamp (by omega)]
      exact hg.2.2.2.2.1 j hj
theorem zLen_some {o : Nat → Int32} : ∀ (f i k : Nat), zLen o f i = some k → i ≤ k ∧ k ≤ i + f ∧ o k = -1 ∧ ∀ j, i ≤ j → j < k → o j ≠ -1
  | 0, i, k, h => by
    unfold zLen at h
    by_cases hc : o i = -1
    · rw [if_pos hc] at h
      cases h
      exact ⟨Nat.le_refl _, Nat.le_refl _, hc, fun j h1 h2 => by omega⟩
    · rw [if_neg hc] at h; cases h
  | f + 1, i, k, h => by
    unfold zLen at h
    by_cases hc : o i = -1
    · rw [if_pos hc] at h
      cases h
      exact ⟨Nat.le_refl _, by omega, hc, fun j h1 h2 => by omega⟩
    · rw [if_neg hc] at h
      obtain ⟨h1, h2, h3, h4⟩ := zLen_some f (i + 1) k h
      refine ⟨by omega, by omega, h3, fun j g1 g2 => ?_⟩
      by_cases hj : j = i
      · rw [hj]; exact hc
      · exact h4 j (by omega) g2
theorem zLen_none {o : Nat → Int32} : ∀ (f i : Nat), zLen o f i = none → ∀ j, i ≤ j → j ≤ i + f → o j ≠ -1
  | 0, i, h, j, h1, h2 => by
    unfold zLen at h
    by_cases hc : o i = -1
    · rw [if_pos hc] at h; cases h
    · have : j = i := by omega
      rw [this]; exact hc
  | f + 1, i, h, j, h1, h2 => by
    unfold zLen at h
    by_cases hc : o i = -1
    · rw [if_pos hc] at h; cases h
    · rw [if_neg hc] at h
      by_cases hj : j = i
      · rw [hj]; exact hc
      · exact zLen_none f (i + 1) h j (by omega) (by omega)
theorem zLen_is {o : Nat → Int32} {k : Nat} (hk : k ≤ 10) (h0 : ∀ j, j < k → o j ≠ -1) (h1 : o k = -1) : zLen o 10 0 = some k := by
  cases h : zLen o 10 0 with
  | none => exact absurd h1 (zLen_none 10 0 h k (by omega) (by omega))
  | some m =>
    obtain ⟨g1, g2, g3, g4⟩ := zLen_some 10 0 m h
    rcases Nat.lt_trichotomy k m with hlt | heq | hgt
    · exact absurd h1 (g4 k (by omega) hlt)
    · rw [heq]
    · exact absurd g3 (h0 m hgt)
theorem zLen_no {o : Nat → Int32} (h0 : ∀ j, j ≤ 10 → o j ≠ -1) : zLen o 10 0 = none := by
  cases h : zLen o 10 0 with
  | none => rfl
  | some m =>
    obtain ⟨g1, g2, g3, g4⟩ := zLen_some 10 0 m h
    exact absurd g3 (h0 m (by omega))
theorem gI_go {n w : Nat} {σ : gh_S} {p : Int32} (hw : w + 10 ≤ 30) (hp : ∃ j : Nat, j < 10 ∧ p = nI j) (hg : gI n w σ) : ∃ w', w ≤ w' ∧ w' ≤ w + 10 ∧ gI n w' (zGo σ p).2 ∧ ((zGo σ p).1 = 0 → w < w') := by
  unfold zGo
  have hg1 : gI n w (uS σ 15 (σ.2 15 + 1)) := gI_uS 15 _ (by decide) (by decide) (by decide) hg
  cases h : zLen (zOrb (σ.1 10) p) 10 0 with
  | none => exact ⟨w, Nat.le_refl _, by omega, hg1, fun h => absurd h (show ¬ (8 : Int32) = 0 by decide)⟩
  | some k =>
    obtain ⟨g1, g2, g3, g4⟩ := zLen_some 10 0 k h
    have hk : 0 < k := by
      rcases Nat.eq_zero_or_pos k with h0 | h0
      · subst h0
        obtain ⟨j, hj, hjE⟩ := hp
        have : p = -1 := g3
        rw [hjE] at this
        exact absurd this (by
          have hx : ∀ j, j < 10 → ¬ nI j = -1 := by decide
          exact hx j hj)
      · exact h0
    obtain ⟨w', h1, h2, h3, h4⟩ := gI_down (n := n) (o := zOrb (σ.1 10) p) k w (by omega) (fun i hi => (zOrb_in hg hp i).resolve_left (g4 i (by omega) hi)) hg1
    exact ⟨w', h1, by omega, h3, fun h => by rw [h4 h]; omega⟩
theorem zTen_in (n : Int32) : ∃ j : Nat, j < 10 ∧ zTen n = nI j := by
  have h1 : (zRem n 10).toInt = n.toInt.tmod 10 := rem_toInt n 10
  have h2 := tmod_bounds (a := n.toInt) (M := 10) (by decide)
  rw [← h1] at h2
  unfold zTen
  generalize zRem n 10 = r at h2
  clear h1
  by_cases hc : 0 ≤ r
  · rw [if_pos hc]
    obtain ⟨j, hj, rfl⟩ := nI_of (x := r) (by rw [Int32.lt_iff_toInt_lt]; rw [Int32.le_iff_toInt_le] at hc; omega)
    rw [nI_toInt hj] at h2
    exact ⟨j, by omega, rfl⟩
  · rw [if_neg hc]
    rw [Int32.le_iff_toInt_le] at hc
    have h0 : (0 : Int32).toInt = 0 := by decide
    rw [h0] at hc
    refine ⟨(r.toInt + 10).toNat, by omega, Int32.toInt_inj.mp ?_⟩
    rw [nI_toInt (by omega), Int32.toInt_add]
    have h10 : (10 : Int32).toInt = 10 := by decide
    rw [h10, Int.bmod_eq_of_le (by omega) (by omega)]
    omega
