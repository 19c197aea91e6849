/-! WHAT THE CALLS ANSWER AND DO TO THE STATE -/
abbrev gMi (l : Launch) (y : MethodName) (ws : List Cond) (rm : Room) (D : va_G) (w : va_W) (tys : List (ClassId × FieldType)) (sz : Nat) (av : List Value) (post : Int32 → va_W → Prop) : Prop := Met l y ws rm (va_Pc av (gPre D w tys sz)) (va_Qi post (gPost D (va_A w sz)) (va_A w sz)) 0 0 (va_A w sz)
abbrev gMv (l : Launch) (y : MethodName) (ws : List Cond) (rm : Room) (D : va_G) (w : va_W) (tys : List (ClassId × FieldType)) (sz : Nat) (av : List Value) (post : va_W → Prop) : Prop := Met l y ws rm (va_Pc av (gPre D w tys sz)) (va_Qv post (gPost D (va_A w sz)) (va_A w sz)) 0 0 (va_A w sz)
abbrev gMq (l : Launch) (y : MethodName) (ws : List Cond) (rm : Room) (D : va_G) (w : va_W) (tys : List (ClassId × FieldType)) (sz : Nat) (av : List Value) (post : Option Nat → va_W → Prop) : Prop := Met l y ws rm (va_Pc av (gPre D w tys sz)) (va_Qq post (gPost D (va_A w sz)) (va_A w sz)) 0 0 (va_A w sz)
abbrev gMs (l : Launch) (y : MethodName) (ws : List Cond) (rm : Room) (av : List Value) (post : Int32 → Prop) : Prop := Met l y ws rm (fun v _ => v = av.toArray) (vp_Si post) 0 0 (fun _ => False)
section TP
variable {p : Program} {l : Launch} {e : Env} {R : Room} {s : State} {m : MethodId} {args : Array Value} {below : List Frame} {meth : Method} {c : Code} {H : Heap} {locs : List Loc} {cells slots : Nat} {Q : State → Prop} {pc : Nat} {ls : Array Slot} {rest : List Value}
theorem gTop {x y : Int32} (h : x = y) (k : W p l e R s m args below meth c H locs cells slots Q (F0 m pc ls (.int y :: rest))) : W p l e R s m args below meth c H locs cells slots Q (F0 m pc ls (.int x :: rest)) := h ▸ k
theorem gTopQ {x y : Option Nat} (h : x = y) (k : W p l e R s m args below meth c H locs cells slots Q (F0 m pc ls (va_rf y :: rest))) : W p l e R s m args below meth c H locs cells slots Q (F0 m pc ls (va_rf x :: rest)) := h ▸ k
theorem gTopN (k : W p l e R s m args below meth c H locs cells slots Q (F0 m pc ls (.null :: rest))) : W p l e R s m args below meth c H locs cells slots Q (F0 m pc ls (va_rf none :: rest)) := k
theorem gTopR {a : Nat} (k : W p l e R s m args below meth c H locs cells slots Q (F0 m pc ls (.ref a :: rest))) : W p l e R s m args below meth c H locs cells slots Q (F0 m pc ls (va_rf (some a) :: rest)) := k
end TP
theorem g_set_get {α : Type} {w : List α} {q0 : Nat} {x v : α} (he : w[q0]? = some x) : (w.set q0 v)[q0]? = some v := by
  rw [List.getElem?_set_self (List.getElem?_eq_some_iff.mp he).1]
/-- the invariant: n halls, w of them passed into -/
def gI (n w : Nat) (σ : gh_S) : Prop := σ.2 0 = nI n ∧ σ.2 17 = nI w ∧ (∃ t : Nat, t ≤ 100 ∧ σ.2 12 = nI t) ∧ (∀ j : Nat, j < 10 → σ.1 9 j = -1 ∨ ∃ h : Nat, h < n ∧ σ.1 9 j = nI h) ∧ (∀ j : Nat, j < 10 → σ.1 10 j = -1 ∨ ∃ i : Nat, i < 10 ∧ σ.1 10 j = nI i) ∧ (∀ j : Nat, j < w → ∃ h : Nat, h < n ∧ σ.1 18 j = nI h) ∧ n ≤ 4000 ∧ w ≤ 30 ∧ (∀ k i : Nat, 3 ≤ k → k ≤ 8 → n ≤ i → σ.1 k i = 0)
def zRem (x y : Int32) : Int32 := x - x / y * y
def zTen (n : Int32) : Int32 := if 0 ≤ zRem n 10 then zRem n 10 else zRem n 10 + 10
def zLeave (σ : gh_S) (x : Int32) : gh_S := if (100 : Int32) ≤ σ.2 12 then σ else uS (uA σ 13 (σ.2 12).toNatClampNeg x) 12 (σ.2 12 + 1)
def zCharge (σ : gh_S) (i : Nat) : Int32 := if σ.1 1 i = 0 then σ.1 2 i else if σ.1 1 i = 1 then σ.1 2 i + σ.1 4 i else 2 * (σ.1 2 i + σ.1 4 i)
/-- the hall's own numbers, when it is passed into -/
def zEnter (σ : gh_S) (i : Nat) : gh_S := uA (uA (uA σ 4 i (σ.1 4 i + 1)) 7 i (σ.1 7 i + 1)) 8 i (if σ.1 7 i + 1 ≤ σ.1 8 i then σ.1 8 i else σ.1 7 i + 1)
def zPush (σ : gh_S) (i : Nat) : gh_S := uS (uS (uA σ 18 (σ.2 17).toNatClampNeg (nI i)) 17 (σ.2 17 + 1)) 16 (if σ.2 17 + 1 ≤ σ.2 16 then σ.2 16 else σ.2 17 + 1)
def zIn (σ : gh_S) (i : Nat) : gh_S := zPush (zLeave (zEnter σ i) (zRem (nI i) 100)) i
def zPay (σ : gh_S) (i : Nat) : Int32 × gh_S := if σ.1 1 i = 2 ∧ zRem (σ.1 4 i) 3 = 0 then (21, σ) else if zCharge σ i ≤ σ.2 11 then (0, uA (uS σ 11 (σ.2 11 - zCharge σ i)) 6 i (σ.1 6 i + zCharge σ i)) else (20, σ)
def zPass (σ : gh_S) (i : Nat) : Int32 × gh_S := zPay (zIn σ i) i
def zPop (σ : gh_S) : gh_S := zLeave (uA (uS σ 17 (σ.2 17 - 1)) 7 (σ.1 18 (σ.2 17 - 1).toNatClampNeg).toNatClampNeg (σ.1 7 (σ.1 18 (σ.2 17 - 1).toNatClampNeg).toNatClampNeg - 1)) (100 + zRem (σ.1 18 (σ.2 17 - 1).toNatClampNeg) 100)
def zPops (σ : gh_S) : Nat → gh_S
  | 0 => σ
  | k + 1 => zPops (zPop σ) k
def zW (σ : gh_S) : Nat := (σ.2 17).toNatClampNeg
/-- up from a place: the i-th of its path -/
def zOrb (par : Nat → Int32) (p : Int32) : Nat → Int32
  | 0 => p
  | i + 1 => if zOrb par p i = -1 then -1 else par (zOrb par p i).toNatClampNeg
/-- how many places the path has, seen from its i-th on, f more at most -/
def zLen (o : Nat → Int32) : Nat → Nat → Option Nat
  | 0, i => if o i = -1 then some i else none
  | f + 1, i => if o i = -1 then some i else zLen o f (i + 1)
def zDown (o : Nat → Int32) : Nat → gh_S → Int32 × gh_S
  | 0, σ => (0, σ)
  | i + 1, σ => if σ.1 9 (o i).toNatClampNeg = -1 then (1, σ) else if (zPass σ (σ.1 9 (o i).toNatClampNeg).toNatClampNeg).1 = 0 then zDown o i (zPass σ (σ.1 9 (o i).toNatClampNeg).toNatClampNeg).2 else zPass σ (σ.1 9 (o i).toNatClampNeg).toNatClampNeg
def zGo (σ : gh_S) (p : Int32) : Int32 × gh_S := match zLen (zOrb (σ.1 10) p) 10 0 with
  | none => (8, uS σ 15 (σ.2 15 + 1))
  | some k => zDown (zOrb (σ.1 10) p) k (uS σ 15 (σ.2 15 + 1))
def zRich (σ : gh_S) (x : Int64) : Int32 × gh_S := if lg_cmp ((σ.2 11).toInt64 + x) 0 < 0 then (22, σ) else if lg_cmp ((σ.2 11).toInt64 + x) 1000000 ≤ 0 then (0, uS σ 11 ((σ.2 11).toInt64 + x).toInt32) else (22, σ)
/-- a deed that is not 5, in hall i -/
def zDeed (σ : gh_S) (i : Nat) (deed n : Int32) : Int32 × gh_S :=
  if deed = 1 then (0, uA σ 3 i (σ.1 3 i + n))
  else if deed = 2 then (if (zRich σ (σ.1 3 i).toInt64).1 = 0 then (0, uA (zRich σ (σ.1 3 i).toInt64).2 3 i 0) else (22, σ))
  else if deed = 3 then (if n = 0 then (6, σ) else (0, uA σ 3 i (σ.1 3 i / n)))
  else if deed = 4 then (0, uA σ 9 (zTen n).toNatClampNeg (-1))
  else if deed = 6 then (20 + (n &&& 3), σ)
  else if deed = 7 then zRich σ (σ.2 17).toInt64
  else (0, σ)
/-- the walks within, f of them at most: the reference's loop -/
def zOn : Nat → gh_S → Int32 → Int32 × gh_S
  | 0, σ, _ => (2, σ)
  | f + 1, σ, m => if (zGo σ (zTen m)).1 = 0 then (if m / 10 = 0 then zGo σ (zTen m) else zOn f (zGo σ (zTen m)).2 (m / 10)) else zGo σ (zTen m)
def zInner (σ : gh_S) : Nat := (σ.1 18 (σ.2 17 - 1).toNatClampNeg).toNatClampNeg
def zDoes (σ : gh_S) (deed n : Int32) : Int32 × gh_S :=
  if deed = 5 then (if (zOn 2 σ n).1 = 0 then (0, zPops (zOn 2 σ n).2 (zW (zOn 2 σ n).2 - zW σ)) else zOn 2 σ n)
  else zDeed σ (zInner σ) deed n
/-- the class's walks, f deep at most -/
def zWT : Nat → gh_S → Int32 → Int32 → Int32 → Int32 × gh_S
  | 0, σ, _, _, _ => (2, σ)
  | f + 1, σ, p, deed, n =>
    let g := zGo σ p
    let r := if g.1 = 0 then (if deed = 5 then zWT f g.2 (zTen n) (if n / 10 = 0 then 0 else 5) (n / 10) else zDeed g.2 (zInner g.2) deed n) else g
    (r.1, zPops r.2 (zW r.2 - zW σ))
def sBegin (σ : gh_S) : gh_S := uS (uS (uS σ 12 0) 16 0) 17 0
def sWalk (σ : gh_S) (p deed n : Int32) : Int32 × gh_S := if p < 0 ∨ 9 < p ∨ deed < 0 ∨ 7 < deed then (-1, σ) else
  let r := zWT 3 (sBegin σ) p deed n
  (if r.1 = 0 then 1 else -10 - r.1, uS r.2 14 r.1)
def sHall (σ : gh_S) (p k f : Int32) : Int32 × gh_S := if p < 0 ∨ 9 < p ∨ k < 0 ∨ 2 < k ∨ f < 0 ∨ 1000 < f then (-1, σ) else (σ.2 0, uS (uA (uA (uA σ 1 (σ.2 0).toNatClampNeg k) 2 (σ.2 0).toNatClampNeg f) 9 p.toNatClampNeg (σ.2 0)) 0 (σ.2 0 + 1))
def sShare (σ : gh_S) (f t : Int32) : Int32 × gh_S := if f < 0 ∨ 9 < f ∨ t < 0 ∨ 9 < t then (-1, σ) else (if σ.1 9 f.toNatClampNeg = -1 then 0 else 1, uA σ 9 t.toNatClampNeg (σ.1 9 f.toNatClampNeg))
def sParent (σ : gh_S) (p o : Int32) : Int32 × gh_S := if p < 0 ∨ 9 < p ∨ o < -1 ∨ 9 < o then (-2, σ) else (σ.1 10 p.toNatClampNeg, uA σ 10 p.toNatClampNeg o)
def zMin (x : Int32) : Int32 := if x ≤ 1000000 then x else 1000000
def sFill (σ : gh_S) (n : Int32) : Int32 × gh_S := if n < 0 ∨ 1000 < n then (-1, σ) else (zMin (σ.2 11 + n), uS σ 11 (zMin (σ.2 11 + n)))
def zFact (σ : gh_S) (i : Nat) (w : Int32) : Int32 := if w = 0 then nI i else if w = 1 then σ.1 1 i else if w = 2 then σ.1 2 i else if w = 3 then σ.1 4 i else if w = 4 then σ.1 5 i else if w = 5 then σ.1 6 i else if w = 6 then σ.1 7 i else if w = 7 then σ.1 8 i else -1
def sTold (σ : gh_S) (p w : Int32) : Int32 := if p < 0 ∨ 9 < p then -1 else if σ.1 9 p.toNatClampNeg = -1 then -1 else zFact σ (σ.1 9 p.toNatClampNeg).toNatClampNeg w
def sGifts (σ : gh_S) (p : Int32) : Int32 := if p < 0 ∨ 9 < p then 0 else if σ.1 9 p.toNatClampNeg = -1 then 0 else σ.1 3 (σ.1 9 p.toNatClampNeg).toNatClampNeg
def sTrace (σ : gh_S) (k : Int32) : Int32 := if k = -1 then σ.2 12 else if k < 0 ∨ σ.2 12 ≤ k then -1 else σ.1 13 k.toNatClampNeg
def zCnt (f : Nat → Int32) : Nat → Int32
  | 0 => 0
  | j + 1 => if f j = -1 then zCnt f j else zCnt f j + 1
def sCount (σ : gh_S) (w : Int32) : Int32 := if w = 0 then σ.2 11 else if w = 1 then σ.2 0 else if w = 2 then zCnt (σ.1 9) 10 else if w = 3 then σ.2 14 else if w = 4 then σ.2 15 else if w = 5 then σ.2 16 else -1
/-- the search: places b on, f of them, behind hall x -/
def zSB (x : Nat) (sum : Int64) : Nat → Nat → gh_S → Int32 × gh_S
  | 0, _, σ => (-1, σ)
  | f + 1, b, σ => if σ.1 9 b = -1 then zSB x sum f (b + 1) σ else
    let y := (σ.1 9 b).toNatClampNeg
    let τ := uA σ 5 y (σ.1 5 y + 1)
    if lg_cmp ((σ.1 3 x).toInt64 + (σ.1 3 y).toInt64) sum = 0 then (nI b, τ) else if σ.1 3 y < 0 then (-1, τ) else zSB x sum f (b + 1) τ
def zSA (sum : Int64) : Nat → Nat → gh_S → Int32 × gh_S
  | 0, _, σ => (-1, σ)
  | f + 1, a, σ => if σ.1 9 a = -1 then zSA sum f (a + 1) σ else
    let x := (σ.1 9 a).toNatClampNeg
    let r := zSB x sum (9 - a) (a + 1) (uA σ 5 x (σ.1 5 x + 1))
    if r.1 = -1 then zSA sum f (a + 1) r.2 else (10 * nI a + r.1, r.2)
def sSeek (σ : gh_S) (sum : Int64) : Int32 × gh_S := zSA sum 10 0 σ
