/-! PATHS: as many different places as there are, no more; a path that comes twice to a place has no end -/
theorem g_hole : ∀ (N m : Nat) (g : Nat → Nat), (∀ j, j < m → g j < N) → (∀ a b, a < m → b < m → g a = g b → a = b) → m ≤ N
  | 0, m, g, h1, _ => by
    rcases Nat.eq_zero_or_pos m with h | h
    · omega
    · exact absurd (h1 0 h) (by omega)
  | N + 1, m, g, h1, h2 => by
    by_cases hx : ∃ j, j < m ∧ g j = N
    · obtain ⟨j0, hj0, hjN⟩ := hx
      have := g_hole N (m - 1) (fun j => g (if j < j0 then j else j + 1)) (fun j hj => by
        have h3 := h1 (if j < j0 then j else j + 1) (by split <;> omega)
        have h4 : g (if j < j0 then j else j + 1) ≠ N := fun e => by
          have := h2 (if j < j0 then j else j + 1) j0 (by split <;> omega) hj0 (e.trans hjN.symm)
          split at this <;> omega
        show g (if j < j0 then j else j + 1) < N
        omega) (fun a b ha hb e => by
        have := h2 (if a < j0 then a else a + 1) (if b < j0 then b else b + 1) (by split <;> omega) (by split <;> omega) e
        split at this <;> split at this <;> omega)
      omega
    · have := g_hole N m g (fun j hj => by
        have h3 := h1 j hj
        have h4 : g j ≠ N := fun e => hx ⟨j, hj, e⟩
        omega) h2
      omega
theorem zOrb_hole {o : Nat → Int32} {m : Nat} (h1 : ∀ j, j < m → ∃ i : Nat, i < 10 ∧ o j = nI i) (h2 : ∀ a b, a < m → b < m → a ≠ b → o a ≠ o b) : m ≤ 10 := by
  refine g_hole 10 m (fun j => (o j).toNatClampNeg) (fun j hj => ?_) (fun a b ha hb e => ?_)
  · obtain ⟨i, hi, hiE⟩ := h1 j hj
    show (o j).toNatClampNeg < 10
    rw [hiE, nI_clamp (by omega)]; exact hi
  · obtain ⟨i, hi, hiE⟩ := h1 a ha
    obtain ⟨k, hk, hkE⟩ := h1 b hb
    have e' : (o a).toNatClampNeg = (o b).toNatClampNeg := e
    rw [hiE, hkE, nI_clamp (by omega), nI_clamp (by omega)] at e'
    rcases Nat.eq_or_lt_of_le (Nat.le_refl a) with _ | _
    · by_cases hab : a = b
      · exact hab
      · exact absurd (by rw [hiE, hkE, e']) (h2 a b ha hb hab)
    · omega
theorem zOrb_step {par : Nat → Int32} {p : Int32} {a b : Nat} (h : zOrb par p a = zOrb par p b) : ∀ m, zOrb par p (a + m) = zOrb par p (b + m)
  | 0 => h
  | m + 1 => by
    show (if zOrb par p (a + m) = -1 then -1 else par (zOrb par p (a + m)).toNatClampNeg) = (if zOrb par p (b + m) = -1 then -1 else par (zOrb par p (b + m)).toNatClampNeg)
    rw [zOrb_step h m]
theorem zOrb_on {par : Nat → Int32} {p : Int32} {a k : Nat} (hak : a < k) (h : zOrb par p a = zOrb par p k) (h0 : ∀ j, j < k → zOrb par p j ≠ -1) : ∀ j, zOrb par p j ≠ -1 := by
  intro j
  induction j using Nat.strongRecOn with
  | ind j ih =>
    by_cases hj : j < k
    · exact h0 j hj
    · have e := zOrb_step h (j - k)
      rw [show k + (j - k) = j by omega] at e
      rw [← e]
      exact ih (a + (j - k)) (by omega)
theorem zOrb_succ {par : Nat → Int32} {p : Int32} {k j : Nat} (h : zOrb par p k = nI j) (hj : j < 10) : zOrb par p (k + 1) = par j := by
  show (if zOrb par p k = -1 then -1 else par (zOrb par p k).toNatClampNeg) = par j
  have hx : ∀ j, j < 10 → ¬ nI j = -1 := by decide
  rw [h, if_neg (hx j hj), nI_clamp (by omega)]
theorem zGo_none {σ : gh_S} {p : Int32} (h : ∀ j, zOrb (σ.1 10) p j ≠ -1) : zGo σ p = (8, uS σ 15 (σ.2 15 + 1)) := by
  unfold zGo
  rw [zLen_no (fun j _ => h j)]
theorem zGo_some {σ : gh_S} {p : Int32} {k : Nat} (hk : k ≤ 10) (h0 : ∀ j, j < k → zOrb (σ.1 10) p j ≠ -1) (h1 : zOrb (σ.1 10) p k = -1) : zGo σ p = zDown (zOrb (σ.1 10) p) k (uS σ 15 (σ.2 15 + 1)) := by
  unfold zGo
  rw [zLen_is hk h0 h1]
theorem zRich_fail {σ : gh_S} {x : Int64} (h : ¬ (zRich σ x).1 = 0) : zRich σ x = (22, σ) := by
  unfold zRich at h ⊢
  by_cases c1 : lg_cmp ((σ.2 11).toInt64 + x) 0 < 0
  · rw [if_pos c1]
  · rw [if_neg c1] at h ⊢
    by_cases c2 : lg_cmp ((σ.2 11).toInt64 + x) 1000000 ≤ 0
    · rw [if_pos c2] at h; exact absurd rfl h
    · rw [if_neg c2]
