/-! THE CLASS'S WORLD: what its rows hold behind each change -/
abbrev wCn (g : Nat) (q : Nat → Nat) (cI cH : ClassId) (ad : Nat → Nat) (pf : Nat → Int32) (n : Nat) (σ : gh_S) : va_W := wCr g q cI cH ad pf (gfh ad σ) (gfp ad σ) n σ
theorem nI_ne_m1 {i : Nat} (h : i < 2 ^ 31) : ¬ nI i = -1 := by
  intro e
  have h1 : (nI i).toInt = (-1 : Int32).toInt := by rw [e]
  rw [nI_toInt h] at h1
  have h2 : (-1 : Int32).toInt = -1 := by decide
  rw [h2] at h1
  omega
theorem gfh_no {ad : Nat → Nat} {σ : gh_S} {j : Nat} (h : σ.1 9 j = -1) : gfh ad σ j = none := by
  unfold gfh
  rw [if_pos h]
  split <;> rfl
theorem gfh_at {ad : Nat → Nat} {σ : gh_S} {j i : Nat} (hj : j < 10) (hi : i < 2 ^ 31) (h : σ.1 9 j = nI i) : gfh ad σ j = some (ad i) := by
  unfold gfh
  rw [if_pos hj, h, if_neg (nI_ne_m1 hi), nI_clamp hi]
theorem gfh_set {ad : Nat → Nat} {σ : gh_S} {j : Nat} (hj : j < 10) {v : Int32} : va_up (gfh ad σ) j (if v = -1 then none else some (ad v.toNatClampNeg)) = gfh ad (uA σ 9 j v) := by
  funext k
  unfold va_up gfh
  rw [uA_ki]
  by_cases hk : k = j
  · subst hk
    rw [if_pos rfl, if_pos hj, if_pos rfl]
  · rw [if_neg hk, if_neg hk]
theorem gfh_some {ad : Nat → Nat} {σ : gh_S} {j i : Nat} (hj : j < 10) (hi : i < 2 ^ 31) : va_up (gfh ad σ) j (some (ad i)) = gfh ad (uA σ 9 j (nI i)) := by
  rw [← gfh_set hj, if_neg (nI_ne_m1 hi), nI_clamp hi]
theorem gfh_none {ad : Nat → Nat} {σ : gh_S} {j : Nat} (hj : j < 10) : va_up (gfh ad σ) j none = gfh ad (uA σ 9 j (-1)) := by
  rw [← gfh_set hj, if_pos rfl]
theorem gfp_at {ad : Nat → Nat} {σ : gh_S} {w j i : Nat} (hw : σ.2 17 = nI w) (hw2 : w < 2 ^ 31) (hj : j < w) (hi : i < 2 ^ 31) (h : σ.1 18 j = nI i) : gfp ad σ j = some (ad i) := by
  unfold gfp
  rw [hw, nI_clamp hw2, if_pos hj, h, nI_clamp hi]
theorem gfp_push {ad : Nat → Nat} {σ : gh_S} {w i : Nat} (hw : σ.2 17 = nI w) (hw2 : w < 1000) (hi : i < 2 ^ 31) : va_up (gfp ad σ) w (some (ad i)) = gfp ad (uS (uA σ 18 w (nI i)) 17 (σ.2 17 + 1)) := by
  funext j
  unfold va_up gfp
  show _ = (if j < (σ.2 17 + 1).toNatClampNeg then some (ad (upd (σ.1 18) w (nI i) j).toNatClampNeg) else none)
  rw [hw, nI_1, nI_clamp (by omega), nI_clamp (by omega)]
  by_cases hj : j = w
  · subst hj
    rw [if_pos rfl, if_pos (by omega)]
    simp [upd, nI_clamp hi]
  · rw [if_neg hj]
    by_cases hjw : j < w
    · rw [if_pos hjw, if_pos (by omega)]
      simp [upd, hj]
    · rw [if_neg hjw, if_neg (by omega)]
theorem gfp_pop {ad : Nat → Nat} {σ : gh_S} {w : Nat} (hw : σ.2 17 = nI (w + 1)) (hw2 : w < 1000) : va_up (gfp ad σ) w none = gfp ad (uS σ 17 (σ.2 17 - 1)) := by
  funext j
  unfold va_up gfp
  show _ = (if j < (σ.2 17 - 1).toNatClampNeg then some (ad (σ.1 18 j).toNatClampNeg) else none)
  rw [hw, nI_pred, nI_clamp (by omega), nI_clamp (by omega)]
  by_cases hj : j = w
  · subst hj
    rw [if_pos rfl, if_neg (by omega)]
  · rw [if_neg hj]
    by_cases hjw : j < w
    · rw [if_pos (by omega), if_pos hjw]
    · rw [if_neg (by omega), if_neg hjw]
theorem wCr_enter {g : Nat} {q : Nat → Nat} {cI cH : ClassId} {ad : Nat → Nat} {pf : Nat → Int32} {fh fp : Nat → Option Nat} {n i : Nat} {σ : gh_S} (h : i < n) : (wCr g q cI cH ad pf fh fp n σ).set (6 + i) (ad i, .inr (0, [.int (nI i), .int (σ.1 1 i), .int (σ.1 2 i), .int (σ.1 3 i), .int (σ.1 4 i + 1), .int (σ.1 5 i), .int (σ.1 6 i), .int (σ.1 7 i + 1), .int (if σ.1 8 i < σ.1 7 i + 1 then σ.1 7 i + 1 else σ.1 8 i)])) = wCr g q cI cH ad pf fh fp n (zEnter σ i) := by
  refine wCr_set h ?_ (fun j hj => ?_) rfl rfl rfl
  · have e : (if σ.1 8 i < σ.1 7 i + 1 then σ.1 7 i + 1 else σ.1 8 i) = (if σ.1 7 i + 1 ≤ σ.1 8 i then σ.1 8 i else σ.1 7 i + 1) := by
      by_cases c : σ.1 8 i < σ.1 7 i + 1
      · rw [if_pos c, if_neg]
        rw [Int32.lt_iff_toInt_lt] at c
        rw [Int32.le_iff_toInt_le]
        omega
      · rw [if_neg c, if_pos]
        rw [Int32.lt_iff_toInt_lt] at c
        rw [Int32.le_iff_toInt_le]
        omega
    rw [e]
    simp [gHf, zEnter, uA, upd]
  · unfold zEnter
    rw [gHf_ne hj, gHf_ne hj, gHf_ne hj]
/-- the kinds -/
def gKd (n : Nat) (σ : gh_S) : Prop := ∀ i : Nat, i < n → σ.1 1 i = 0 ∨ σ.1 1 i = 1 ∨ σ.1 1 i = 2
theorem zCharge_eq {n i : Nat} {σ : gh_S} (hk : gKd n σ) (hi : i < n) : (if σ.1 1 i = 0 then σ.1 2 i else if σ.1 1 i = 2 then 2 * (σ.1 2 i + σ.1 4 i) else σ.1 2 i + σ.1 4 i) = zCharge σ i := by
  unfold zCharge
  rcases hk i hi with h | h | h
  · rw [if_pos h, if_pos h]
  · rw [if_neg (by rw [h]; decide), if_neg (by rw [h]; decide), if_neg (by rw [h]; decide), if_pos h]
  · rw [if_neg (by rw [h]; decide), if_pos h, if_neg (by rw [h]; decide), if_neg (by rw [h]; decide)]
theorem k_leave {σ : gh_S} {x : Int32} : (zLeave σ x).1 1 = σ.1 1 := by
  unfold zLeave
  split
  · rfl
  · rfl
theorem k_in {σ : gh_S} {i : Nat} : (zIn σ i).1 1 = σ.1 1 := by
  show (zLeave (zEnter σ i) _).1 1 = σ.1 1
  rw [k_leave]
  rfl
theorem k_pay {σ : gh_S} {i : Nat} : (zPay σ i).2.1 1 = σ.1 1 := by
  unfold zPay
  split
  · rfl
  · split
    · rfl
    · rfl
theorem k_pass {σ : gh_S} {i : Nat} : (zPass σ i).2.1 1 = σ.1 1 := k_pay.trans k_in
theorem k_pop {σ : gh_S} : (zPop σ).1 1 = σ.1 1 := k_leave
theorem k_pops : ∀ (k : Nat) {σ : gh_S}, (zPops σ k).1 1 = σ.1 1
  | 0, _ => rfl
  | k + 1, _ => (k_pops k).trans k_pop
theorem k_down {o : Nat → Int32} : ∀ (k : Nat) {σ : gh_S}, (zDown o k σ).2.1 1 = σ.1 1
  | 0, _ => rfl
  | k + 1, σ => by
    unfold zDown
    split
    · rfl
    · split
      · exact (k_down k).trans k_pass
      · exact k_pass
theorem k_go {σ : gh_S} {p : Int32} : (zGo σ p).2.1 1 = σ.1 1 := by
  unfold zGo
  split
  · rfl
  · exact k_down _
theorem k_rich {σ : gh_S} {x : Int64} : (zRich σ x).2.1 1 = σ.1 1 := by
  unfold zRich
  split
  · rfl
  · split
    · rfl
    · rfl
theorem k_deed {σ : gh_S} {i : Nat} {x y : Int32} : (zDeed σ i x y).2.1 1 = σ.1 1 := by
  unfold zDeed
  split
  · rfl
  · split
    · split
      · exact k_rich
      · rfl
    · split
      · split
        · rfl
        · rfl
      · split
        · rfl
        · split
          · rfl
          · split
            · exact k_rich
            · rfl
theorem k_wt : ∀ (f : Nat) {σ : gh_S} {p d n : Int32}, (zWT f σ p d n).2.1 1 = σ.1 1
  | 0, _, _, _, _ => rfl
  | f + 1, σ, p, d, n => by
    show (zPops _ _).1 1 = σ.1 1
    rw [k_pops]
    split
    · split
      · exact (k_wt f).trans k_go
      · exact k_deed.trans k_go
    · exact k_go
theorem gKd_of {n : Nat} {σ τ : gh_S} (h : τ.1 1 = σ.1 1) (hk : gKd n σ) : gKd n τ := fun i hi => by rw [h]; exact hk i hi
