/-! THE CLASS'S WALKS, ONE WITHIN THE OTHER -/
def zDD (f : Nat) (σ : gh_S) (x y : Int32) : Int32 × gh_S := if x = 5 then zWT f σ (zTen y) (if y / 10 = 0 then 0 else 5) (y / 10) else zDeed σ (zInner σ) x y
theorem zWT_go {f : Nat} {σ : gh_S} {p x y : Int32} (h : (zGo σ p).1 = 0) : zWT (f + 1) σ p x y = ((zDD f (zGo σ p).2 x y).1, zPops (zDD f (zGo σ p).2 x y).2 (zW (zDD f (zGo σ p).2 x y).2 - zW σ)) := by
  unfold zWT zDD
  dsimp only
  rw [if_pos h]
theorem zWT_no {f : Nat} {σ : gh_S} {p x y : Int32} (h : ¬ (zGo σ p).1 = 0) : zWT (f + 1) σ p x y = ((zGo σ p).1, zPops (zGo σ p).2 (zW (zGo σ p).2 - zW σ)) := by
  unfold zWT
  dsimp only
  rw [if_neg h]
theorem gI_wt {n : Nat} : ∀ (f w : Nat) {σ : gh_S} {p x y : Int32}, w + 10 * f ≤ 30 → (∃ j : Nat, j < 10 ∧ p = nI j) → gI n w σ → gI n w (zWT f σ p x y).2
  | 0, _, _, _, _, _, _, _, hg => hg
  | f + 1, w, σ, p, x, y, hw, hp, hg => by
    obtain ⟨w', h1, h2, h3, h4⟩ := gI_go (p := p) (by omega) hp hg
    by_cases c : (zGo σ p).1 = 0
    · rw [zWT_go c]
      have h5 : gI n w' (zDD f (zGo σ p).2 x y).2 := by
        unfold zDD
        by_cases c5 : x = 5
        · rw [if_pos c5]; exact gI_wt f w' (by omega) (zTen_in y) h3
        · rw [if_neg c5]
          obtain ⟨i, hi, hin, -, -⟩ := zInner_of (by have := h4 c; omega) h3
          rw [hin]
          exact gI_deed hi h3
      show gI n w (zPops _ _)
      rw [zW_of h5, zW_of hg]
      exact gI_pops (w' - w) (by rw [show w + (w' - w) = w' by omega]; exact h5)
    · rw [zWT_no c]
      show gI n w (zPops _ _)
      rw [zW_of h3, zW_of hg]
      exact gI_pops (w' - w) (by rw [show w + (w' - w) = w' by omega]; exact h3)
theorem gI_dd {n w : Nat} {f : Nat} {σ : gh_S} {x y : Int32} (hw : w + 10 * f ≤ 30) (hw1 : 0 < w) (hg : gI n w σ) : gI n w (zDD f σ x y).2 := by
  unfold zDD
  by_cases c5 : x = 5
  · rw [if_pos c5]; exact gI_wt f w hw (zTen_in y) hg
  · rw [if_neg c5]
    obtain ⟨i, hi, hin, -, -⟩ := zInner_of hw1 hg
    rw [hin]
    exact gI_deed hi hg
theorem zDD_out {f : Nat} {σ : gh_S} {x y : Int32} (h : x.toInt < 1 ∨ 7 < x.toInt) : zDD f σ x y = (0, σ) := by
  have hk : ∀ k : Int32, ¬ (k.toInt < 1 ∨ 7 < k.toInt) → ¬ x = k := fun k a e => by subst e; exact a h
  unfold zDD zDeed
  rw [if_neg (hk 5 (by decide)), if_neg (hk 1 (by decide)), if_neg (hk 2 (by decide)), if_neg (hk 3 (by decide)), if_neg (hk 4 (by decide)), if_neg (hk 6 (by decide)), if_neg (hk 7 (by decide))]
theorem zDD_deed {f : Nat} {σ : gh_S} {x y : Int32} {i : Nat} (h : ¬ x = 5) (hi : zInner σ = i) : zDD f σ x y = zDeed σ i x y := by
  unfold zDD
  rw [if_neg h, hi]
theorem zDD5 {f : Nat} {σ : gh_S} {y : Int32} : zDD f σ 5 y = zWT f σ (zTen y) (if y / 10 = 0 then 0 else 5) (y / 10) := by
  unfold zDD
  rw [if_pos rfl]
/-! the class's walks are the reference's -/
theorem zPops_add : ∀ (a b : Nat) {σ : gh_S}, zPops (zPops σ a) b = zPops σ (a + b)
  | 0, b, σ => by rw [Nat.zero_add]; rfl
  | a + 1, b, σ => by
    rw [show a + 1 + b = (a + b) + 1 by omega]
    show zPops (zPops (zPop σ) a) b = zPops (zPop σ) (a + b)
    exact zPops_add a b
theorem zWT_on {n : Nat} : ∀ (f w : Nat) {σ : gh_S} {m : Int32}, w + 10 * f ≤ 30 → gI n w σ → zWT f σ (zTen m) (if m / 10 = 0 then 0 else 5) (m / 10) = ((zOn f σ m).1, zPops (zOn f σ m).2 (zW (zOn f σ m).2 - zW σ))
  | 0, w, σ, m, hw, hg => by
    show ((2 : Int32), σ) = (2, zPops σ (zW σ - zW σ))
    rw [Nat.sub_self]; rfl
  | f + 1, w, σ, m, hw, hg => by
    obtain ⟨w', h1, h2, h3, h4⟩ := gI_go (p := zTen m) (by omega) (zTen_in m) hg
    by_cases c : (zGo σ (zTen m)).1 = 0
    · rw [zWT_go c]
      by_cases cm : m / 10 = 0
      · have e1 : zOn (f + 1) σ m = zGo σ (zTen m) := by rw [zOn, if_pos c, if_pos cm]
        rw [e1, if_pos cm]
        have e2 : zDD f (zGo σ (zTen m)).2 0 (m / 10) = (0, (zGo σ (zTen m)).2) := zDD_out (Or.inl (by decide))
        rw [e2, c]
      · have e1 : zOn (f + 1) σ m = zOn f (zGo σ (zTen m)).2 (m / 10) := by rw [zOn, if_pos c, if_neg cm]
        rw [e1, if_neg cm, zDD5, zWT_on f w' (by omega) h3]
        obtain ⟨w2, g1, g2, g3⟩ := gI_on f w' (m := m / 10) (by omega) h3
        have g4 := gI_pops (w := w') (w2 - w') (by rw [show w' + (w2 - w') = w2 by omega]; exact g3)
        dsimp only
        rw [zW_of g3, zW_of h3, zW_of g4, zW_of hg, zPops_add, show w2 - w' + (w' - w) = w2 - w by omega]
    · rw [zWT_no c]
      have e1 : zOn (f + 1) σ m = zGo σ (zTen m) := by rw [zOn, if_neg c]
      rw [e1]
/-! the failure's number: nothing but the end of a walk from outside reads it -/
theorem s14_leave {σ : gh_S} {v x : Int32} : zLeave (uS σ 14 v) x = uS (zLeave σ x) 14 v := by
  unfold zLeave
  have e : (uS σ 14 v).2 12 = σ.2 12 := rfl
  rw [e]
  by_cases c : (100 : Int32) ≤ σ.2 12
  · rw [if_pos c, if_pos c]
  · rw [if_neg c, if_neg c]
    rw [← uSA, uS_comm (a := 14) (b := 12) (by decide)]
theorem s14_enter {σ : gh_S} {v : Int32} {i : Nat} : zEnter (uS σ 14 v) i = uS (zEnter σ i) 14 v := rfl
theorem s14_push {σ : gh_S} {v : Int32} {i : Nat} : zPush (uS σ 14 v) i = uS (zPush σ i) 14 v := by
  unfold zPush
  show uS (uS (uA (uS σ 14 v) 18 (σ.2 17).toNatClampNeg (nI i)) 17 (σ.2 17 + 1)) 16 (if σ.2 17 + 1 ≤ σ.2 16 then σ.2 16 else σ.2 17 + 1) = _
  rw [← uSA, uS_comm (a := 14) (b := 17) (by decide), uS_comm (a := 14) (b := 16) (by decide)]
theorem s14_pay {σ : gh_S} {v : Int32} {i : Nat} : zPay (uS σ 14 v) i = ((zPay σ i).1, uS (zPay σ i).2 14 v) := by
  unfold zPay
  have e1 : zCharge (uS σ 14 v) i = zCharge σ i := rfl
  have e2 : (uS σ 14 v).2 11 = σ.2 11 := rfl
  have e3 : (uS σ 14 v).1 = σ.1 := rfl
  rw [e1, e2, e3]
  split
  · rfl
  · split
    · show ((0 : Int32), _) = (0, _)
      congr 1
      rw [uS_comm (a := 14) (b := 11) (by decide)]
      rfl
    · rfl
theorem s14_pass {σ : gh_S} {v : Int32} {i : Nat} : zPass (uS σ 14 v) i = ((zPass σ i).1, uS (zPass σ i).2 14 v) := by
  unfold zPass zIn
  rw [s14_enter, s14_leave, s14_push, s14_pay]
theorem s14_pop {σ : gh_S} {v : Int32} : zPop (uS σ 14 v) = uS (zPop σ) 14 v := by
  unfold zPop
  show zLeave (uA (uS (uS σ 14 v) 17 (σ.2 17 - 1)) 7 (σ.1 18 (σ.2 17 - 1).toNatClampNeg).toNatClampNeg (σ.1 7 (σ.1 18 (σ.2 17 - 1).toNatClampNeg).toNatClampNeg - 1)) (100 + zRem (σ.1 18 (σ.2 17 - 1).toNatClampNeg) 100) = _
  rw [uS_comm (a := 14) (b := 17) (by decide), ← uSA, s14_leave]
theorem s14_pops {v : Int32} : ∀ (k : Nat) {σ : gh_S}, zPops (uS σ 14 v) k = uS (zPops σ k) 14 v
  | 0, _ => rfl
  | k + 1, σ => by
    show zPops (zPop (uS σ 14 v)) k = uS (zPops (zPop σ) k) 14 v
    rw [s14_pop]; exact s14_pops k
theorem s14_down {o : Nat → Int32} {v : Int32} : ∀ (k : Nat) {σ : gh_S}, zDown o k (uS σ 14 v) = ((zDown o k σ).1, uS (zDown o k σ).2 14 v)
  | 0, _ => rfl
  | k + 1, σ => by
    unfold zDown
    have e3 : (uS σ 14 v).1 = σ.1 := rfl
    rw [e3, s14_pass]
    dsimp only
    split
    · rfl
    · split
      · exact s14_down k
      · rfl
theorem s14_go {σ : gh_S} {v p : Int32} : zGo (uS σ 14 v) p = ((zGo σ p).1, uS (zGo σ p).2 14 v) := by
  unfold zGo
  have e3 : (uS σ 14 v).1 = σ.1 := rfl
  have e4 : uS (uS σ 14 v) 15 ((uS σ 14 v).2 15 + 1) = uS (uS σ 15 (σ.2 15 + 1)) 14 v := uS_comm (by decide)
  rw [e3, e4]
  cases zLen (zOrb (σ.1 10) p) 10 0 with
  | none => rfl
  | some k => exact s14_down k
theorem s14_rich {σ : gh_S} {v : Int32} {x : Int64} : zRich (uS σ 14 v) x = ((zRich σ x).1, uS (zRich σ x).2 14 v) := by
  unfold zRich
  have e2 : (uS σ 14 v).2 11 = σ.2 11 := rfl
  rw [e2]
  split
  · rfl
  · split
    · show ((0 : Int32), _) = (0, _)
      congr 1
      exact uS_comm (by decide)
    · rfl
theorem s14_deed {σ : gh_S} {v : Int32} {i : Nat} {x y : Int32} : zDeed (uS σ 14 v) i x y = ((zDeed σ i x y).1, uS (zDeed σ i x y).2 14 v) := by
  unfold zDeed
  have e3 : (uS σ 14 v).1 = σ.1 := rfl
  have e2 : (uS σ 14 v).2 17 = σ.2 17 := rfl
  rw [e3, e2, s14_rich, s14_rich]
  dsimp only
  split
  · rfl
  · split
    · split
      · rfl
      · rfl
    · split
      · split
        · rfl
        · rfl
      · split
        · rfl
        · split
          · rfl
          · split
            · rfl
            · rfl
theorem s14_on {v : Int32} : ∀ (f : Nat) {σ : gh_S} {m : Int32}, zOn f (uS σ 14 v) m = ((zOn f σ m).1, uS (zOn f σ m).2 14 v)
  | 0, _, _ => rfl
  | f + 1, σ, m => by
    unfold zOn
    rw [s14_go]
    dsimp only
    split
    · split
      · rfl
      · exact s14_on f
    · rfl
theorem s14_does {σ : gh_S} {v x y : Int32} : zDoes (uS σ 14 v) x y = ((zDoes σ x y).1, uS (zDoes σ x y).2 14 v) := by
  unfold zDoes
  rw [s14_on]
  have e1 : zInner (uS σ 14 v) = zInner σ := rfl
  have e2 : zW (uS σ 14 v) = zW σ := rfl
  have e3 : zW (uS (zOn 2 σ y).2 14 v) = zW (zOn 2 σ y).2 := rfl
  rw [e1, e2, s14_deed]
  dsimp only
  split
  · split
    · rw [e3, s14_pops]
    · rfl
  · rfl
theorem uS_uS {σ : gh_S} {k : Nat} {a b : Int32} : uS (uS σ k a) k b = uS σ k b := by
  apply Prod.ext
  · rfl
  · funext j
    show upd (upd σ.2 k a) k b j = upd σ.2 k b j
    unfold upd
    by_cases h : j = k
    · rw [if_pos h, if_pos h]
    · rw [if_neg h, if_neg h, if_neg h]
theorem mWalk_eq {n : Nat} {σ : gh_S} {p d m : Int32} (hg : gI n 0 σ) : mWalk σ p d m = sWalk σ p d m := by
  unfold mWalk sWalk
  by_cases hb : p < 0 ∨ 9 < p ∨ d < 0 ∨ 7 < d
  · rw [if_pos hb, if_pos hb]
  · rw [if_neg hb, if_neg hb]
    have h0 : ¬ p < 0 := fun h => hb (Or.inl h)
    have h9 : ¬ 9 < p := fun h => hb (Or.inr (Or.inl h))
    obtain ⟨j, hj, hjE, -⟩ := g_pl h0 h9
    have hgB := gI_begin hg
    obtain ⟨w', h1, h2, h3, h4⟩ := gI_go (p := p) (by omega) ⟨j, hj, hjE⟩ hgB
    dsimp only
    by_cases c : (zGo (sBegin σ) p).1 = 0
    · rw [if_pos c, s14_does, zWT_go c]
      dsimp only
      rw [uS_uS]
      have hw0 : zW (sBegin σ) = 0 := zW_of hgB
      rw [hw0]
      by_cases c5 : d = 5
      · subst c5
        rw [zDD5, zDoes5, zWT_on 2 w' (by omega) h3]
        dsimp only
        obtain ⟨w2, g1, g2, g3⟩ := gI_on 2 w' (m := m) (by omega) h3
        have g4 := gI_pops (w := w') (w2 - w') (by rw [show w' + (w2 - w') = w2 by omega]; exact g3)
        rw [zW_of g3, zW_of h3]
        by_cases cr : (zOn 2 (zGo (sBegin σ) p).2 m).1 = 0
        · rw [if_pos cr, cr]
          dsimp only
          have e : zW (uS (zPops (zOn 2 (zGo (sBegin σ) p).2 m).2 (w2 - w')) 14 0) = w' := zW_of (gI_uS 14 _ (by decide) (by decide) (by decide) g4)
          rw [e, zW_of g4, s14_pops, Nat.sub_zero]
        · rw [if_neg cr]
          have e : zW (uS (zOn 2 (zGo (sBegin σ) p).2 m).2 14 (zOn 2 (zGo (sBegin σ) p).2 m).1) = w2 := zW_of (gI_uS 14 _ (by decide) (by decide) (by decide) g3)
          rw [e, zW_of g4, s14_pops, zPops_add, Nat.sub_zero, show w2 - w' + w' = w2 by omega]
      · obtain ⟨i, hi, hin, -, -⟩ := zInner_of (by have := h4 c; omega) h3
        rw [zDD_deed c5 hin, zDoes_deed c5 hin, s14_pops]
        rfl
    · rw [if_neg c, zWT_no c]
      dsimp only
      have hw0 : zW (sBegin σ) = 0 := zW_of hgB
      rw [hw0, s14_pops]
      rfl
