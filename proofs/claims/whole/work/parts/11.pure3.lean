theorem zDoes_out {σ : gh_S} {x y : Int32} (h : x.toInt < 1 ∨ 7 < x.toInt) : zDoes σ x y = (0, σ) := by
  have hk : ∀ k : Int32, ¬ (k.toInt < 1 ∨ 7 < k.toInt) → ¬ x = k := fun k a e => by subst e; exact a h
  unfold zDoes zDeed
  rw [if_neg (hk 5 (by decide)), if_neg (hk 1 (by decide)), if_neg (hk 2 (by decide)), if_neg (hk 3 (by decide)), if_neg (hk 4 (by decide)), if_neg (hk 6 (by decide)), if_neg (hk 7 (by decide))]
theorem zDoes5 {σ : gh_S} {y : Int32} : zDoes σ 5 y = if (zOn 2 σ y).1 = 0 then (0, zPops (zOn 2 σ y).2 (zW (zOn 2 σ y).2 - zW σ)) else zOn 2 σ y := by
  unfold zDoes
  rw [if_pos rfl]
theorem zDoes_deed {σ : gh_S} {x y : Int32} {i : Nat} (h : ¬ x = 5) (hi : zInner σ = i) : zDoes σ x y = zDeed σ i x y := by
  unfold zDoes
  rw [if_neg h, hi]
def mWalk (σ : gh_S) (p d n : Int32) : Int32 × gh_S := if p < 0 ∨ 9 < p ∨ d < 0 ∨ 7 < d then (-1, σ) else
  let g := zGo (sBegin σ) p
  let r : Int32 × gh_S := if g.1 = 0 then ((zDoes (uS g.2 14 g.1) d n).1, uS (zDoes (uS g.2 14 g.1) d n).2 14 (zDoes (uS g.2 14 g.1) d n).1) else (g.1, uS g.2 14 g.1)
  (if r.1 = 0 then 1 else -10 - r.1, zPops r.2 (zW r.2))
theorem zLeave_S {σ : gh_S} {x : Int32} {k : Nat} (h : k ≠ 12) : (zLeave σ x).2 k = σ.2 k := by
  unfold zLeave
  split
  · rfl
  · rw [uS_ne h]; rfl
theorem zPop_S {σ : gh_S} {k : Nat} (h : k ≠ 12) (h2 : k ≠ 17) : (zPop σ).2 k = σ.2 k := by
  unfold zPop
  rw [zLeave_S h]
  show (uS σ 17 _).2 k = σ.2 k
  rw [uS_ne h2]
theorem zPops_S {k : Nat} (h : k ≠ 12) (h2 : k ≠ 17) : ∀ (j : Nat) (σ : gh_S), (zPops σ j).2 k = σ.2 k
  | 0, _ => rfl
  | j + 1, σ => (zPops_S h h2 j (zPop σ)).trans (zPop_S h h2)
theorem gI_begin {n w : Nat} {σ : gh_S} (hg : gI n w σ) : gI n 0 (sBegin σ) := by
  obtain ⟨a1, a2, a3, a4, a5, a6, a7, a8, a9⟩ := hg
  exact ⟨a1, rfl, ⟨0, by omega, rfl⟩, a4, a5, fun j hj => absurd hj (by omega), a7, by omega, a9⟩
/-- the invariant behind the walks within -/
theorem gI_on {n : Nat} : ∀ (f w : Nat) {σ : gh_S} {m : Int32}, w + 10 * f ≤ 30 → gI n w σ → ∃ w', w ≤ w' ∧ w' ≤ 30 ∧ gI n w' (zOn f σ m).2
  | 0, w, σ, m, h, hg => ⟨w, Nat.le_refl _, by omega, hg⟩
  | f + 1, w, σ, m, h, hg => by
    obtain ⟨w', h1, h2, h3, h4⟩ := gI_go (p := zTen m) (by omega) (zTen_in m) hg
    unfold zOn
    by_cases c1 : (zGo σ (zTen m)).1 = 0
    · rw [if_pos c1]
      by_cases c2 : m / 10 = 0
      · rw [if_pos c2]; exact ⟨w', h1, by omega, h3⟩
      · rw [if_neg c2]
        obtain ⟨w2, g1, g2, g3⟩ := gI_on f w' (m := m / 10) (by omega) h3
        exact ⟨w2, by omega, g2, g3⟩
    · rw [if_neg c1]; exact ⟨w', h1, by omega, h3⟩
theorem gI_rich {n w : Nat} {σ : gh_S} {x : Int64} (hg : gI n w σ) : gI n w (zRich σ x).2 := by
  unfold zRich
  split
  · exact hg
  · split
    · exact gI_uS 11 _ (by decide) (by decide) (by decide) hg
    · exact hg
theorem gI_u9 {n w : Nat} {σ : gh_S} {j : Nat} {v : Int32} (hv : v = -1 ∨ ∃ h : Nat, h < n ∧ v = nI h) (hg : gI n w σ) : gI n w (uA σ 9 j v) := by
  obtain ⟨a1, a2, a3, a4, a5, a6, a7, a8, a9⟩ := hg
  refine ⟨a1, a2, a3, ?_, a5, a6, a7, a8, ?_⟩
  · intro k hk
    rw [uA_ki]
    split
    · exact hv
    · exact a4 k hk
  · intro k' i h3 h8 hi
    rw [uA_k (by omega)]
    exact a9 k' i h3 h8 hi
theorem gI_deed {n w i : Nat} {σ : gh_S} {x y : Int32} (hi : i < n) (hg : gI n w σ) : gI n w (zDeed σ i x y).2 := by
  unfold zDeed
  split
  · exact gI_uH 3 i _ hi (by decide) hg
  · split
    · split
      · exact gI_uH 3 i _ hi (by decide) (gI_rich hg)
      · exact hg
    · split
      · split
        · exact hg
        · exact gI_uH 3 i _ hi (by decide) hg
      · split
        · exact gI_u9 (Or.inl rfl) hg
        · split
          · exact hg
          · split
            · exact gI_rich hg
            · exact hg
theorem zInner_of {n w : Nat} {σ : gh_S} (hw : 0 < w) (hg : gI n w σ) : ∃ i : Nat, i < n ∧ zInner σ = i ∧ σ.1 18 (w - 1) = nI i ∧ σ.2 17 - 1 = nI (w - 1) := by
  obtain ⟨a1, a2, a3, a4, a5, a6, a7, a8, a9⟩ := hg
  obtain ⟨i, hi, hiE⟩ := a6 (w - 1) (by omega)
  have e1 : σ.2 17 - 1 = nI (w - 1) := by rw [a2, show w = (w - 1) + 1 by omega]; exact nI_pred _
  refine ⟨i, hi, ?_, hiE, e1⟩
  unfold zInner
  rw [e1, nI_clamp (by omega), hiE, nI_clamp (by omega)]
theorem gI_does {n w : Nat} {σ : gh_S} {x y : Int32} (hw : 0 < w) (hw10 : w ≤ 10) (hg : gI n w σ) : ∃ w', w ≤ w' ∧ w' ≤ 30 ∧ gI n w' (zDoes σ x y).2 := by
  by_cases c : x = 5
  · subst c
    rw [zDoes5]
    obtain ⟨w', h1, h2, h3⟩ := gI_on 2 w (m := y) (by omega) hg
    split
    · refine ⟨w, Nat.le_refl _, by omega, ?_⟩
      rw [zW_of h3, zW_of hg]
      exact gI_pops (w' - w) (by rw [show w + (w' - w) = w' by omega]; exact h3)
    · exact ⟨w', h1, h2, h3⟩
  · obtain ⟨i, hi, hin, -, -⟩ := zInner_of hw hg
    rw [zDoes_deed c hin]
    exact ⟨w, Nat.le_refl _, by omega, gI_deed hi hg⟩
