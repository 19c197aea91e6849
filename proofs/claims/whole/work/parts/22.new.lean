/-! NEW CELLS -/
section GN
variable {p : Program} {l : Launch} {e : Env} {R : Room} {s : State} {m : MethodId} {args : Array Value} {below : List Frame} {meth : Method} {c : Code} {H : Heap} {locs : List Loc} {cells slots : Nat} {Q : State → Prop}
variable {cc : ByteArray} {pc nL : Nat} {ls : Array Slot} {rest st0 : List Value} {D : va_G} {A : Nat → Prop} {a : Nat} {tys : List (ClassId × FieldType)} {w : va_W} {H0 : Heap} {Ts : List Cond} {own : String} {av : Array Value}
theorem gNew (hX : CallFix p m c cc nL s args Ts own) {C : String} {T : u_T} {N ci index : Nat} (hin : ∀ w ∈ u_ws C T N, w ∈ Ts) (ty0 : Nat → FieldType) (hty : ∀ k, k < N → parseFieldDescriptor (T k).2.2.1 = some (ty0 k)) (hcl : (Cond.classLink own index C).before args s = true) (hinst : (Cond.instantiable C N).before args s = true) (hini : (Cond.initialized C).before args s = true) (hK : va_K D vwCl tys s) (hI : InW D A H0 w H locs) (hA : ∀ q, H0.size ≤ q → A q) (hc : vwCl[ci]? = some (C, T, N)) {fs : List Value} (hfs : ∀ j, j < N → defaultValue (ty0 j) = vp_V fs j) (hcells : cells + 1 ≤ R.cells) (hslots : slots + N ≤ R.slots) (hdg : decode cc pc = .ok (.new index, 3))
    (kk : ∀ (q : Nat) (H1 : Heap), InW D A H0 (w ++ [(q, .inr (ci, fs))]) H1 locs → W p l e R s m args below meth c H1 locs (cells + 1) (slots + N) Q (F0 m (pc + 3) ls (.ref q :: rest))) : W p l e R s m args below meth c H locs cells slots Q (F0 m pc ls rest) :=
  va_new hX.1 hX.2.1 hX.2.2.2.2 hin ty0 hty hX.2.2.2.1 hcl hinst hini hK hI.1 hI.2.1 hI.2.2 hA hc hfs hcells hslots hdg (fun q H1 h1 h2 h3 => kk q H1 ⟨h1, h2, h3⟩)
theorem gNewa (hX : CallFix p m c cc nL s args Ts own) (harr : (Cond.arrayClass .int).before args s = true) (hK : va_K D vwCl tys s) (hI : InW D A H0 w H locs) (hA : ∀ q, H0.size ≤ q → A q) {n : Int32} {N' : Nat} (hn : ¬ n < 0) (hN : n.toNatClampNeg = N') (hbytes : N' * 4 ≤ 536870912) (hcells : cells + 1 ≤ R.cells) (hslots : slots + N' ≤ R.slots) (hdg : decode cc pc = .ok (.newarray .int, 2))
    (kk : ∀ (q : Nat) (cA : ClassId) (H1 : Heap), va_K D vwCl (tys ++ [(cA, .int)]) s → InW D A H0 (w ++ [(q, .inl (cA, N', .inl (fun _ => 0)))]) H1 locs → W p l e R s m args below meth c H1 locs (cells + 1) (slots + N') Q (F0 m (pc + 2) ls (.ref q :: rest))) : W p l e R s m args below meth c H locs cells slots Q (F0 m pc ls (.int n :: rest)) :=
  va_newa (atype := .int) (ty := .int) (a0 := (N', .inl (fun _ => 0))) hX.1 hX.2.1 harr rfl hK hI.1 hI.2.1 hI.2.2 hA (fun _ => rfl) hn hN hbytes hcells hslots hdg (fun q cA H1 h0 h1 h2 h3 => kk q cA H1 h0 ⟨h1, h2, h3⟩)
theorem gNewq (hX : CallFix p m c cc nL s args Ts own) {C : String} {index : Nat} (hcl : (Cond.classLink own index C).before args s = true) (hover : va_AO C s) (hK : va_K D vwCl tys s) (hI : InW D A H0 w H locs) (hA : ∀ q, H0.size ≤ q → A q) {n : Int32} {N' : Nat} (hn : ¬ n < 0) (hN : n.toNatClampNeg = N') (hbytes : N' * 4 ≤ 536870912) (hcells : cells + 1 ≤ R.cells) (hslots : slots + N' ≤ R.slots) (hdg : decode cc pc = .ok (.anewarray index, 3))
    (kk : ∀ (q : Nat) (cA : ClassId) (H1 : Heap), va_K D vwCl (tys ++ [(cA, .object C)]) s → InW D A H0 (w ++ [(q, .inl (cA, N', .inr (.inr (.inr (.inr (fun _ => none))))))]) H1 locs → W p l e R s m args below meth c H1 locs (cells + 1) (slots + N') Q (F0 m (pc + 3) ls (.ref q :: rest))) : W p l e R s m args below meth c H locs cells slots Q (F0 m pc ls (.int n :: rest)) :=
  va_newq hX.1 hX.2.1 hX.2.2.2.1 hcl hover hK hI.1 hI.2.1 hI.2.2 hA hn hN hbytes hcells hslots hdg (fun q cA H1 h0 h1 h2 h3 => kk q cA H1 h0 ⟨h1, h2, h3⟩)
end GN
theorem gK_int {D : va_G} {tys : List (ClassId × FieldType)} {s : State} {a b : ClassId} (hK : va_K D vwCl tys s) (i j : Nat) (hi : tys[i]? = some (a, .int)) (hj : tys[j]? = some (b, .int)) : a = b :=
  Option.some.inj ((va_nm_int (hK.2 i _ hi).2).symm.trans (va_nm_int (hK.2 j _ hj).2))
theorem gK_obj {D : va_G} {tys : List (ClassId × FieldType)} {s : State} {a b : ClassId} {C : String} (hK : va_K D vwCl tys s) (i j : Nat) (hi : tys[i]? = some (a, .object C)) (hj : tys[j]? = some (b, .object C)) : a = b := by
  obtain ⟨_, _, -, -, -, h1⟩ := (hK.2 i _ hi).2
  obtain ⟨_, _, -, -, -, h2⟩ := (hK.2 j _ hj).2
  exact Option.some.inj (h1.symm.trans h2)
theorem g_last {α : Type} (w : List α) (x : α) : (w ++ [x])[w.length]? = some x := by
  rw [List.getElem?_append_right (Nat.le_refl _), Nat.sub_self]; rfl
theorem g_setlast {α : Type} (w : List α) (x y : α) : (w ++ [x]).set w.length y = w ++ [y] := by
  rw [List.set_append_right _ _ (Nat.le_refl _), Nat.sub_self]; rfl
/-! a new hall -/
theorem gPool_new {ad : Nat → Nat} {n a : Nat} {σ : gh_S} {k f : Int32} (hz : ∀ k' i : Nat, 3 ≤ k' → k' ≤ 8 → n ≤ i → σ.1 k' i = 0) : gPool ad n σ ++ [(a, .inr (0, [.int (nI n), .int k, .int f, .int 0, .int 0, .int 0, .int 0, .int 0, .int 0]))] = gPool (va_up ad n a) (n + 1) (uA (uA σ 1 n k) 2 n f) := by
  unfold gPool
  rw [List.range_succ, List.map_append]
  congr 1
  · apply List.map_congr_left
    intro i hi
    have hi' : i < n := List.mem_range.mp hi
    rw [va_up_ne _ _ (by omega), gHf_ne (by omega), gHf_ne (by omega)]
  · show [(a, _)] = [(va_up ad n a n, Sum.inr (0, gHf (uA (uA σ 1 n k) 2 n f) n))]
    rw [va_up_self]
    have e3 := hz 3 n (by omega) (by omega) (Nat.le_refl _)
    have e4 := hz 4 n (by omega) (by omega) (Nat.le_refl _)
    have e5 := hz 5 n (by omega) (by omega) (Nat.le_refl _)
    have e6 := hz 6 n (by omega) (by omega) (Nat.le_refl _)
    have e7 := hz 7 n (by omega) (by omega) (Nat.le_refl _)
    have e8 := hz 8 n (by omega) (by omega) (Nat.le_refl _)
    simp [gHf, uA, upd, e3, e4, e5, e6, e7, e8]
theorem wCr_new {g : Nat} {q : Nat → Nat} {cI cH : ClassId} {ad : Nat → Nat} {pf : Nat → Int32} {fh fp : Nat → Option Nat} {n a : Nat} {σ : gh_S} {k f : Int32} (hz : ∀ k' i : Nat, 3 ≤ k' → k' ≤ 8 → n ≤ i → σ.1 k' i = 0) : wCr g q cI cH ad pf fh fp n σ ++ [(a, .inr (0, [.int (nI n), .int k, .int f, .int 0, .int 0, .int 0, .int 0, .int 0, .int 0]))] = wCr g q cI cH (va_up ad n a) pf fh fp (n + 1) (uA (uA σ 1 n k) 2 n f) := by
  unfold wCr
  rw [List.append_assoc, gPool_new hz]
  rfl
theorem gfh_new {ad : Nat → Nat} {σ : gh_S} {n j a : Nat} (hj : j < 10) (hn : n < 2 ^ 31) (hpl : ∀ k : Nat, k < 10 → σ.1 9 k = -1 ∨ ∃ h : Nat, h < n ∧ σ.1 9 k = nI h) : va_up (gfh ad σ) j (some a) = gfh (va_up ad n a) (uA σ 9 j (nI n)) := by
  funext k
  unfold gfh
  rw [uA_ki]
  by_cases hk : k = j
  · subst hk
    rw [va_up_self, if_pos hj, if_pos rfl, if_neg (nI_ne_m1 hn), nI_clamp hn, va_up_self]
  · rw [va_up_ne _ _ hk, if_neg hk]
    by_cases h10 : k < 10
    · rw [if_pos h10, if_pos h10]
      rcases hpl k h10 with h | ⟨h, hh, hE⟩
      · rw [if_pos h, if_pos h]
      · rw [hE, if_neg (nI_ne_m1 (by omega)), if_neg (nI_ne_m1 (by omega)), nI_clamp (by omega), va_up_ne _ _ (by omega)]
    · rw [if_neg h10, if_neg h10]
theorem gfp_new {ad : Nat → Nat} {σ : gh_S} {n w a : Nat} (hw : σ.2 17 = nI w) (hw2 : w < 1000) (hn : n < 2 ^ 31) (hrow : ∀ j : Nat, j < w → ∃ h : Nat, h < n ∧ σ.1 18 j = nI h) : gfp ad σ = gfp (va_up ad n a) σ := by
  funext j
  unfold gfp
  rw [hw, nI_clamp (by omega)]
  by_cases hj : j < w
  · obtain ⟨h, hh, hE⟩ := hrow j hj
    rw [if_pos hj, if_pos hj, hE, nI_clamp (by omega), va_up_ne _ _ (by omega)]
  · rw [if_neg hj, if_neg hj]
def zN (n : Nat) (x k f : Int32) : Nat := if x < 0 ∨ 9 < x ∨ k < 0 ∨ 2 < k ∨ f < 0 ∨ 1000 < f then n else n + 1
/-! the state at first -/
def gFill : Nat → Nat → Int32
  | 0 => fun _ => 0
  | k + 1 => upd (gFill k) k (-1)
def g0 : gh_S := (fun k => if k = 9 then gFill 10 else if k = 10 then gFill 10 else fun _ => 0, fun _ => 0)
theorem gFill_at : ∀ (k j : Nat), j < k → gFill k j = -1
  | 0, _, h => absurd h (by omega)
  | k + 1, j, h => by
    show upd (gFill k) k (-1) j = -1
    unfold upd
    by_cases hj : j = k
    · rw [if_pos hj]
    · rw [if_neg hj]; exact gFill_at k j (by omega)
theorem g0_I : gI 0 0 g0 := by
  refine ⟨rfl, rfl, ⟨0, by omega, rfl⟩, fun j hj => Or.inl (gFill_at 10 j hj), fun j hj => Or.inl (gFill_at 10 j hj), fun j hj => absurd hj (by omega), by omega, by omega, fun k i h3 h8 _ => ?_⟩
  show (if k = 9 then gFill 10 else if k = 10 then gFill 10 else fun _ => 0) i = 0
  rw [if_neg (by omega), if_neg (by omega)]
theorem g0_K : gKd 0 g0 := fun i hi => absurd hi (by omega)
theorem g0_fh {ad : Nat → Nat} : gfh ad g0 = fun _ => none := by
  funext j
  unfold gfh
  by_cases hj : j < 10
  · rw [if_pos hj]
    have : g0.1 9 j = -1 := gFill_at 10 j hj
    rw [if_pos this]
  · rw [if_neg hj]
theorem g0_fp {ad : Nat → Nat} : gfp ad g0 = fun _ => none := by
  funext j
  unfold gfp
  have e : (g0.2 17).toNatClampNeg = 0 := by decide
  rw [e, if_neg (by omega)]
