theorem g_hallAt {ad : Nat → Nat} {σ : gh_S} {b : Nat} {r : Option Nat} (hb : b < 10) (h : (r = none ∧ (nI b < 0 ∨ 9 < nI b)) ∨ (∃ j : Nat, j < 10 ∧ nI b = nI j ∧ r = gfh ad σ j)) : r = gfh ad σ b := by
  rcases h with ⟨-, h | h⟩ | ⟨j, hj, hjE, h⟩
  · exact absurd h (nI_pos (by omega))
  · exact absurd h (by rw [show (9 : Int32) = nI 9 from rfl]; exact nI_nlt (by omega) (by omega))
  · rw [h, (nI_eq (by omega) (by omega)).mp hjE]
theorem zMax_eq {x y : Int32} : (if x < y then y else x) = (if y ≤ x then x else y) := by
  by_cases c : y ≤ x
  · rw [if_pos c, if_neg]
    rw [Int32.lt_iff_toInt_lt]
    rw [Int32.le_iff_toInt_le] at c
    omega
  · rw [if_neg c, if_pos]
    rw [Int32.lt_iff_toInt_lt]
    rw [Int32.le_iff_toInt_le] at c
    omega
theorem upd_comm {f : Nat → Int32} {a b : Nat} {x y : Int32} (h : a ≠ b) : upd (upd f a x) b y = upd (upd f b y) a x := by
  funext k
  unfold upd
  by_cases h1 : k = a
  · subst h1
    rw [if_neg h, if_pos rfl, if_pos rfl]
  · rw [if_neg h1, if_neg h1]
theorem uA_comm {σ : gh_S} {a b i j : Nat} {x y : Int32} (h : a ≠ b) : uA (uA σ a i x) b j y = uA (uA σ b j y) a i x := by
  apply Prod.ext
  · funext k
    show (if k = b then upd ((uA σ a i x).1 b) j y else (uA σ a i x).1 k) = (if k = a then upd ((uA σ b j y).1 a) i x else (uA σ b j y).1 k)
    rw [uA_k (Ne.symm h), uA_k h]
    by_cases h1 : k = a
    · subst h1
      rw [if_neg h, if_pos rfl]
      simp [uA]
    · rw [if_neg h1]
      by_cases h2 : k = b
      · subst h2
        rw [if_pos rfl]
        simp [uA]
      · rw [if_neg h2, uA_k h1, uA_k h2]
  · rfl
theorem uS_comm {σ : gh_S} {a b : Nat} {x y : Int32} (h : a ≠ b) : uS (uS σ a x) b y = uS (uS σ b y) a x := by
  apply Prod.ext
  · rfl
  · exact upd_comm h
theorem uSA {σ : gh_S} {a b i : Nat} {x y : Int32} : uS (uA σ a i x) b y = uA (uS σ b y) a i x := rfl
theorem zLeave_push {σ : gh_S} {x : Int32} {i : Nat} : zLeave (zPush σ i) x = zPush (zLeave σ x) i := by
  unfold zLeave
  have e : (zPush σ i).2 12 = σ.2 12 := rfl
  rw [e]
  by_cases c : (100 : Int32) ≤ σ.2 12
  · rw [if_pos c, if_pos c]
  · rw [if_neg c, if_neg c]
    unfold zPush
    show uS (uA (uS (uS (uA σ 18 (σ.2 17).toNatClampNeg (nI i)) 17 (σ.2 17 + 1)) 16 _) 13 (σ.2 12).toNatClampNeg x) 12 (σ.2 12 + 1) = uS (uS (uA (uS (uA σ 13 (σ.2 12).toNatClampNeg x) 12 (σ.2 12 + 1)) 18 (σ.2 17).toNatClampNeg (nI i)) 17 (σ.2 17 + 1)) 16 _
    rw [← uSA, ← uSA, ← uSA, uA_comm (a := 18) (b := 13) (by decide), uS_comm (a := 16) (b := 12) (by decide), uS_comm (a := 17) (b := 12) (by decide)]
    rfl
