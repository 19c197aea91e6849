/-! THE STATE: rows and numbers, by the reference's numbers of its fields; both worlds are pictures of it -/
abbrev gh_S : Type := (Nat → Nat → Int32) × (Nat → Int32)
def uA (σ : gh_S) (k i : Nat) (v : Int32) : gh_S := (fun a => if a = k then upd (σ.1 k) i v else σ.1 a, σ.2)
def uS (σ : gh_S) (k : Nat) (v : Int32) : gh_S := (σ.1, upd σ.2 k v)
abbrev gTy (cI cH : ClassId) : List (ClassId × FieldType) := [(cI, .int), (cH, .object "GateHalls$Hall")]
/-- the reference's object -/
def gMf (q : Nat → Nat) (σ : gh_S) : List Value := [.int (σ.2 0), .ref (q 1), .ref (q 2), .ref (q 3), .ref (q 4), .ref (q 5), .ref (q 6), .ref (q 7), .ref (q 8), .ref (q 9), .ref (q 10), .int (σ.2 11), .int (σ.2 12), .ref (q 13), .int (σ.2 14), .int (σ.2 15), .int (σ.2 16), .int (σ.2 17), .ref (q 18), .ref (q 19)]
def wM (h : Nat) (q : Nat → Nat) (cI : ClassId) (pf : Nat → Int32) (σ : gh_S) : va_W := [(h, .inr (2, gMf q σ)), (q 1, .inl (cI, 4200, .inl (σ.1 1))), (q 2, .inl (cI, 4200, .inl (σ.1 2))), (q 3, .inl (cI, 4200, .inl (σ.1 3))), (q 4, .inl (cI, 4200, .inl (σ.1 4))), (q 5, .inl (cI, 4200, .inl (σ.1 5))), (q 6, .inl (cI, 4200, .inl (σ.1 6))), (q 7, .inl (cI, 4200, .inl (σ.1 7))), (q 8, .inl (cI, 4200, .inl (σ.1 8))), (q 9, .inl (cI, 10, .inl (σ.1 9))), (q 10, .inl (cI, 10, .inl (σ.1 10))), (q 13, .inl (cI, 100, .inl (σ.1 13))), (q 18, .inl (cI, 64, .inl (σ.1 18))), (q 19, .inl (cI, 10, .inl pf))]
/-- the class's object, its rows and its halls -/
def gCf (q : Nat → Nat) (σ : gh_S) : List Value := [.ref (q 0), .ref (q 1), .int (σ.2 11), .int (σ.2 0), .ref (q 4), .ref (q 5), .int (σ.2 17), .int (σ.2 16), .ref (q 8), .int (σ.2 12), .int (σ.2 14), .int (σ.2 15)]
def gHf (σ : gh_S) (i : Nat) : List Value := [.int (nI i), .int (σ.1 1 i), .int (σ.1 2 i), .int (σ.1 3 i), .int (σ.1 4 i), .int (σ.1 5 i), .int (σ.1 6 i), .int (σ.1 7 i), .int (σ.1 8 i)]
def gPool (ad : Nat → Nat) (n : Nat) (σ : gh_S) : va_W := (List.range n).map (fun i => (ad i, .inr (0, gHf σ i)))
def wCr (g : Nat) (q : Nat → Nat) (cI cH : ClassId) (ad : Nat → Nat) (pf : Nat → Int32) (fh fp : Nat → Option Nat) (n : Nat) (σ : gh_S) : va_W := [(g, .inr (1, gCf q σ)), (q 0, .inl (cH, 10, .inr (.inr (.inr (.inr fh))))), (q 1, .inl (cI, 10, .inl (σ.1 10))), (q 4, .inl (cI, 10, .inl pf)), (q 5, .inl (cH, 30, .inr (.inr (.inr (.inr fp))))), (q 8, .inl (cI, 100, .inl (σ.1 13)))] ++ gPool ad n σ
/-- what the row of halls holds, and the row of those that were passed into -/
def gfh (ad : Nat → Nat) (σ : gh_S) : Nat → Option Nat := fun j => if j < 10 then (if σ.1 9 j = -1 then none else some (ad (σ.1 9 j).toNatClampNeg)) else none
def gfp (ad : Nat → Nat) (σ : gh_S) : Nat → Option Nat := fun j => if j < (σ.2 17).toNatClampNeg then some (ad (σ.1 18 j).toNatClampNeg) else none
def wC (g : Nat) (q : Nat → Nat) (cI cH : ClassId) (ad : Nat → Nat) (pf : Nat → Int32) (σ : gh_S) : va_W := wCr g q cI cH ad pf (gfh ad σ) (gfp ad σ) (σ.2 0).toNatClampNeg σ
theorem gPool_get {ad : Nat → Nat} {n i : Nat} {σ : gh_S} (h : i < n) : (gPool ad n σ)[i]? = some (ad i, .inr (0, gHf σ i)) := by
  simp [gPool, h]
theorem wCr_hall {g : Nat} {q : Nat → Nat} {cI cH : ClassId} {ad : Nat → Nat} {pf : Nat → Int32} {fh fp : Nat → Option Nat} {n i : Nat} {σ : gh_S} (h : i < n) : (wCr g q cI cH ad pf fh fp n σ)[6 + i]? = some (ad i, .inr (0, gHf σ i)) := by
  unfold wCr
  rw [List.getElem?_append_right (by simp)]
  show (gPool ad n σ)[6 + i - 6]? = _
  rw [Nat.add_sub_cancel_left]
  exact gPool_get h
theorem gPool_set {ad : Nat → Nat} {n i : Nat} {σ σ' : gh_S} (h : i < n) {e : List Value} (he : e = gHf σ' i) (ho : ∀ j, j ≠ i → gHf σ' j = gHf σ j) : (gPool ad n σ).set i (ad i, .inr (0, e)) = gPool ad n σ' := by
  apply List.ext_getElem?
  intro j
  by_cases hj : j = i
  · subst hj
    rw [List.getElem?_set_self (by simpa [gPool] using h), gPool_get h, he]
  · rw [List.getElem?_set_ne (Ne.symm hj)]
    simp only [gPool, List.getElem?_map]
    cases hb : (List.range n)[j]? with
    | none => rfl
    | some b =>
      have : b = j := by
        have := List.getElem?_eq_some_iff.mp hb
        obtain ⟨h1, h2⟩ := this
        rw [← h2]; simp
      subst this
      simp [ho b hj]
theorem set_six {α : Type} (a b c d e f : α) (l : List α) (i : Nat) (x : α) : ([a, b, c, d, e, f] ++ l).set (6 + i) x = [a, b, c, d, e, f] ++ l.set i x := by
  rw [Nat.add_comm 6 i]
  rfl
theorem wCr_set {g : Nat} {q : Nat → Nat} {cI cH : ClassId} {ad : Nat → Nat} {pf : Nat → Int32} {fh fp : Nat → Option Nat} {n i : Nat} {σ σ' : gh_S} (h : i < n) {e : List Value} (he : e = gHf σ' i) (ho : ∀ j, j ≠ i → gHf σ' j = gHf σ j) (hc : gCf q σ' = gCf q σ) (h1 : σ'.1 10 = σ.1 10) (h2 : σ'.1 13 = σ.1 13) : (wCr g q cI cH ad pf fh fp n σ).set (6 + i) (ad i, .inr (0, e)) = wCr g q cI cH ad pf fh fp n σ' := by
  unfold wCr
  rw [hc, h1, h2]
  refine (set_six _ _ _ _ _ _ _ i _).trans ?_
  rw [gPool_set h he ho]
theorem uA_same {σ : gh_S} {k i : Nat} {v : Int32} : (uA σ k i v).1 k i = v := by simp [uA, upd]
theorem uA_ne {σ : gh_S} {k i j : Nat} {v : Int32} (h : j ≠ i) (a : Nat) : (uA σ k i v).1 a j = σ.1 a j := by
  by_cases ha : a = k
  · subst ha; simp [uA, upd, h]
  · simp [uA, ha]
theorem gHf_ne {σ : gh_S} {k i j : Nat} {v : Int32} (h : j ≠ i) : gHf (uA σ k i v) j = gHf σ j := by
  unfold gHf
  rw [uA_ne h, uA_ne h, uA_ne h, uA_ne h, uA_ne h, uA_ne h, uA_ne h, uA_ne h]
/-- a hall's field k (3 .. 8) is set -/
theorem wCr_hset {g : Nat} {q : Nat → Nat} {cI cH : ClassId} {ad : Nat → Nat} {pf : Nat → Int32} {fh fp : Nat → Option Nat} {n i : Nat} {σ : gh_S} (h : i < n) (k : Nat) (v : Int32) (he : (gHf σ i).set k (.int v) = gHf (uA σ k i v) i) (h1 : ¬ 10 = k) (h2 : ¬ 13 = k) : (wCr g q cI cH ad pf fh fp n σ).set (6 + i) (ad i, .inr (0, (gHf σ i).set k (.int v))) = wCr g q cI cH ad pf fh fp n (uA σ k i v) :=
  wCr_set h he (fun j hj => gHf_ne hj) rfl (by simp [uA, h1]) (by simp [uA, h2])
theorem gHs3 {σ : gh_S} {i : Nat} {v : Int32} : (gHf σ i).set 3 (.int v) = gHf (uA σ 3 i v) i := by simp [gHf, uA, upd]
theorem gHs4 {σ : gh_S} {i : Nat} {v : Int32} : (gHf σ i).set 4 (.int v) = gHf (uA σ 4 i v) i := by simp [gHf, uA, upd]
theorem gHs5 {σ : gh_S} {i : Nat} {v : Int32} : (gHf σ i).set 5 (.int v) = gHf (uA σ 5 i v) i := by simp [gHf, uA, upd]
theorem gHs6 {σ : gh_S} {i : Nat} {v : Int32} : (gHf σ i).set 6 (.int v) = gHf (uA σ 6 i v) i := by simp [gHf, uA, upd]
theorem gHs7 {σ : gh_S} {i : Nat} {v : Int32} : (gHf σ i).set 7 (.int v) = gHf (uA σ 7 i v) i := by simp [gHf, uA, upd]
theorem gHs8 {σ : gh_S} {i : Nat} {v : Int32} : (gHf σ i).set 8 (.int v) = gHf (uA σ 8 i v) i := by simp [gHf, uA, upd]
section MR
variable {p : Program} {l : Launch} {e : Env} {R : Room} {s : State} {m : MethodId} {args : Array Value} {below : List Frame} {meth : Method} {c : Code} {H : Heap} {locs : List Loc} {cells slots : Nat} {Q : State → Prop}
variable {cc : ByteArray} {pc nL : Nat} {ls : Array Slot} {rest st0 : List Value} {D : va_G} {A : Nat → Prop} {H0 : Heap} {Ts : List Cond} {cI cH : ClassId} {h : Nat} {q : Nat → Nat} {pf : Nat → Int32} {σ : gh_S} {g : Nat} {ad : Nat → Nat} {fh fp : Nat → Option Nat} {n : Nat}
/-! the reference's fields and rows -/
theorem mGet (hX : CallFix p m c cc nL s args Ts RX2) (hin : ∀ w ∈ wsX20, w ∈ Ts) (hK : va_K D vwCl (gTy cI cH) s) (hI : InW D A H0 (wM h q cI pf σ) H locs) (k : Nat) (hk : k < 20) {index : Nat} (hlink : (Cond.fieldLink RX2 index (TX2 k).1 (TX2 k).2.1 (TX2 k).2.2.1).before args s = true) {v : Value} (hv : (gMf q σ)[k]? = some v) (hdg : decode cc pc = .ok (.getfield index, 3))
    (kk : W p l e R s m args below meth c H locs cells slots Q (F0 m (pc + 3) ls (v :: rest))) : W p l e R s m args below meth c H locs cells slots Q (F0 m pc ls (.ref h :: rest)) :=
  gGet (ci := 2) hX hin hK hI 0 rfl rfl k hk hlink hv hdg kk
theorem mPut (hX : CallFix p m c cc nL s args Ts RX2) (hin : ∀ w ∈ wsX20, w ∈ Ts) (hK : va_K D vwCl (gTy cI cH) s) (hI : InW D A H0 (wM h q cI pf σ) H locs) (k : Nat) (hk : k < 20) {index : Nat} (hlink : (Cond.fieldLink RX2 index (TX2 k).1 (TX2 k).2.1 (TX2 k).2.2.1).before args s = true) (hfin : (TX2 k).2.2.2 = false) (hi : tyX2 k = .int) {v : Int32} (hw : (wM h q cI pf σ).set 0 (h, .inr (2, (gMf q σ).set k (.int v))) = wM h q cI pf (uS σ k v)) (hdg : decode cc pc = .ok (.putfield index, 3))
    (kk : ∀ (H1 : Heap) (locs1 : List Loc), InW D A H0 (wM h q cI pf (uS σ k v)) H1 locs1 → W p l e R s m args below meth c H1 locs1 cells slots Q (F0 m (pc + 3) ls rest)) : W p l e R s m args below meth c H locs cells slots Q (F0 m pc ls (.int v :: .ref h :: rest)) :=
  gPut (ci := 2) hX hin tyX2 tyX2_ok nmX2 hK hI 0 rfl rfl k hk hlink hfin hi hk hw hdg kk
theorem mAld (hX : CallFix p m c cc nL s args Ts RX2) (hK : va_K D vwCl (gTy cI cH) s) (hI : InW D A H0 (wM h q cI pf σ) H locs) (q0 : Nat) {a n : Nat} {f : Nat → Int32} (ha : (wM h q cI pf σ)[q0]? = some (a, .inl (cI, n, .inl f))) {i : Int32} {j : Nat} (hij : i = nI j) (hj : j < n) (hn : n < 2 ^ 31) (hdg : decode cc pc = .ok (.iaload, 1))
    (kk : W p l e R s m args below meth c H locs cells slots Q (F0 m (pc + 1) ls (.int (f j) :: rest))) : W p l e R s m args below meth c H locs cells slots Q (F0 m pc ls (.int i :: .ref a :: rest)) :=
  gAld hX hK hI q0 0 ha rfl hij hj hn hdg kk
theorem mAst (hX : CallFix p m c cc nL s args Ts RX2) (hK : va_K D vwCl (gTy cI cH) s) (hI : InW D A H0 (wM h q cI pf σ) H locs) (q0 : Nat) {a n : Nat} {f : Nat → Int32} (ha : (wM h q cI pf σ)[q0]? = some (a, .inl (cI, n, .inl f))) {i x : Int32} {j : Nat} (hij : i = nI j) (hj : j < n) (hn : n < 2 ^ 31) {pf' : Nat → Int32} {σ' : gh_S} (hw : (wM h q cI pf σ).set q0 (a, .inl (cI, n, .inl (upd f j x))) = wM h q cI pf' σ') (hdg : decode cc pc = .ok (.iastore, 1))
    (kk : ∀ (H1 : Heap) (locs1 : List Loc), InW D A H0 (wM h q cI pf' σ') H1 locs1 → W p l e R s m args below meth c H1 locs1 cells slots Q (F0 m (pc + 1) ls rest)) : W p l e R s m args below meth c H locs cells slots Q (F0 m pc ls (.int x :: .int i :: .ref a :: rest)) :=
  gAst hX hK hI q0 0 ha rfl hij hj hn hw hdg kk
/-! the class's -/
theorem cGet (hX : CallFix p m c cc nL s args Ts RX1) (hin : ∀ w ∈ wsX10, w ∈ Ts) (hK : va_K D vwCl (gTy cI cH) s) (hI : InW D A H0 (wCr g q cI cH ad pf fh fp n σ) H locs) (k : Nat) (hk : k < 12) {index : Nat} (hlink : (Cond.fieldLink RX1 index (TX1 k).1 (TX1 k).2.1 (TX1 k).2.2.1).before args s = true) {v : Value} (hv : (gCf q σ)[k]? = some v) (hdg : decode cc pc = .ok (.getfield index, 3))
    (kk : W p l e R s m args below meth c H locs cells slots Q (F0 m (pc + 3) ls (v :: rest))) : W p l e R s m args below meth c H locs cells slots Q (F0 m pc ls (.ref g :: rest)) :=
  gGet (ci := 1) hX hin hK hI 0 rfl rfl k hk hlink hv hdg kk
theorem cPut (hX : CallFix p m c cc nL s args Ts RX1) (hin : ∀ w ∈ wsX10, w ∈ Ts) (hK : va_K D vwCl (gTy cI cH) s) (hI : InW D A H0 (wCr g q cI cH ad pf fh fp n σ) H locs) (k : Nat) (hk : k < 12) {index : Nat} (hlink : (Cond.fieldLink RX1 index (TX1 k).1 (TX1 k).2.1 (TX1 k).2.2.1).before args s = true) (hfin : (TX1 k).2.2.2 = false) (hi : tyX1 k = .int) {v : Int32} {σ' : gh_S} (hw : (wCr g q cI cH ad pf fh fp n σ).set 0 (g, .inr (1, (gCf q σ).set k (.int v))) = wCr g q cI cH ad pf fh fp n σ') (hdg : decode cc pc = .ok (.putfield index, 3))
    (kk : ∀ (H1 : Heap) (locs1 : List Loc), InW D A H0 (wCr g q cI cH ad pf fh fp n σ') H1 locs1 → W p l e R s m args below meth c H1 locs1 cells slots Q (F0 m (pc + 3) ls rest)) : W p l e R s m args below meth c H locs cells slots Q (F0 m pc ls (.int v :: .ref g :: rest)) :=
  gPut (ci := 1) hX hin tyX1 tyX1_ok nmX1 hK hI 0 rfl rfl k hk hlink hfin hi hk hw hdg kk
theorem hGet (hX : CallFix p m c cc nL s args Ts RX1) (hin : ∀ w ∈ wsX00, w ∈ Ts) (hK : va_K D vwCl (gTy cI cH) s) (hI : InW D A H0 (wCr g q cI cH ad pf fh fp n σ) H locs) {i : Nat} (hi : i < n) (k : Nat) (hk : k < 9) {index : Nat} (hlink : va_Nw (.fieldLinkNest RX1 index (TX0 k).1 (TX0 k).2.1 (TX0 k).2.2.1 "GateHalls") s) {v : Value} (hv : (gHf σ i)[k]? = some v) (hdg : decode cc pc = .ok (.getfield index, 3))
    (kk : W p l e R s m args below meth c H locs cells slots Q (F0 m (pc + 3) ls (v :: rest))) : W p l e R s m args below meth c H locs cells slots Q (F0 m pc ls (.ref (ad i) :: rest)) :=
  gGetN (ci := 0) hX hin hK hI (6 + i) (wCr_hall hi) rfl k hk hlink hv hdg kk
theorem hPut (hX : CallFix p m c cc nL s args Ts RX1) (hin : ∀ w ∈ wsX00, w ∈ Ts) (hK : va_K D vwCl (gTy cI cH) s) (hI : InW D A H0 (wCr g q cI cH ad pf fh fp n σ) H locs) {i : Nat} (hi : i < n) (k : Nat) (hk : k < 9) {index : Nat} (hlink : va_Nw (.fieldLinkNest RX1 index (TX0 k).1 (TX0 k).2.1 (TX0 k).2.2.1 "GateHalls") s) (hfin : (TX0 k).2.2.2 = false) (hti : tyX0 k = .int) {v : Int32} (he : (gHf σ i).set k (.int v) = gHf (uA σ k i v) i) (h1 : ¬ 10 = k) (h2 : ¬ 13 = k) (hdg : decode cc pc = .ok (.putfield index, 3))
    (kk : ∀ (H1 : Heap) (locs1 : List Loc), InW D A H0 (wCr g q cI cH ad pf fh fp n (uA σ k i v)) H1 locs1 → W p l e R s m args below meth c H1 locs1 cells slots Q (F0 m (pc + 3) ls rest)) : W p l e R s m args below meth c H locs cells slots Q (F0 m pc ls (.int v :: .ref (ad i) :: rest)) :=
  gPutN (ci := 0) hX hin tyX0 tyX0_ok nmX0 hK hI (6 + i) (wCr_hall hi) rfl k hk hlink hfin hti hk (wCr_hset hi k v he h1 h2) hdg kk
end MR
