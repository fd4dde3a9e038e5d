/-! WHAT THE SYSTEM DOES, as functions: f is the row of all that an image keeps (the reference's s) -/
abbrev zN : Type := Nat → Int32
abbrev pn (x : Int32) : Nat := x.toNatClampNeg
theorem pn_nI {n : Nat} (h : n < 2147483648) : pn (nI n) = n := nI_clamp (by omega)
theorem zt_ne {x : Int32} {k : Nat} (hk : k < 2147483648) (h : ¬ x = nI k) : x.toInt ≠ (k : Int) := fun e => h (by
  rw [← Int32.toInt_inj, e, nI_toInt (by omega)])
def hdF (lo hi v : Int32) : Int32 := if v < lo then lo else if v > hi then hi else v
def jnF (v x y : Int32) : Int32 :=
  if v = 43 then x + y else if v = 45 then x - y else if v = 42 then x * y
  else if v = 47 then (if y = 0 then 0 else if y = -1 then -x else x / y)
  else if v = 37 then (if y = 0 then 0 else if y = -1 then 0 else x - x / y * y)
  else if v = 60 then (if x < y then 1 else 0) else if v = 62 then (if x > y then 1 else 0) else if v = 61 then (if x = y then 1 else 0)
  else if v = 38 then (if x = 0 then 0 else if y = 0 then 0 else 1) else (if x = 0 then (if y = 0 then 0 else 1) else 1)
/-- a step of a text: a pile q.2 with q.1 numbers -/
def evS (nm : zN) (w v : Int32) (q : Nat × zN) : Nat × zN :=
  if w = 0 then (q.1 + 1, upd q.2 q.1 v)
  else if w = 1 then (q.1 + 1, upd q.2 q.1 (nm (pn v)))
  else if w = 2 then (q.1, upd q.2 (q.1 - 1) (if q.2 (q.1 - 1) = 0 then 1 else 0))
  else (q.1 - 1, upd q.2 (q.1 - 2) (jnF v (q.2 (q.1 - 2)) (q.2 (q.1 - 1))))
def evR (nm f : zN) (b : Nat) (q : Nat × zN) : Nat → Nat × zN
  | 0 => q
  | k + 1 => evS nm (f (b + 1 + 2 * k)) (f (b + 2 + 2 * k)) (evR nm f b q k)
/-- how many numbers lie on the pile behind k steps -/
def dpS (w v : Int32) (m : Nat) : Option Nat :=
  if w = 0 then (if m < 60 then some (m + 1) else none)
  else if w = 1 then (if m < 60 ∧ 0 ≤ v ∧ v < 128 then some (m + 1) else none)
  else if w = 2 then (if 0 < m then some m else none)
  else (if 1 < m then some (m - 1) else none)
def dpR (f : zN) (b : Nat) : Nat → Option Nat
  | 0 => some 0
  | k + 1 => (dpR f b k).bind (dpS (f (b + 1 + 2 * k)) (f (b + 2 + 2 * k)))
theorem dpR_le {f : zN} {b : Nat} : ∀ {n k : Nat}, k ≤ n → dpR f b n ≠ none → dpR f b k ≠ none
  | 0, k, h, hn => by
    have : k = 0 := by omega
    subst this
    exact hn
  | n + 1, k, h, hn => by
    rcases Nat.lt_or_eq_of_le h with q | q
    · refine dpR_le (n := n) (by omega) (fun z => hn ?_)
      simp only [dpR, z, Option.bind_none]
    · subst q
      exact hn
theorem evR_dp {nm f : zN} {b : Nat} {g : zN} : ∀ {k m : Nat}, dpR f b k = some m → (evR nm f b (0, g) k).1 = m
  | 0, m, h => by
    simp only [dpR, Option.some.injEq] at h
    exact h
  | k + 1, m, h => by
    simp only [dpR] at h
    cases hk : dpR f b k with
    | none => rw [hk] at h; simp at h
    | some j =>
      rw [hk, Option.bind_some] at h
      have ih := evR_dp (nm := nm) (g := g) hk
      simp only [evR, evS, ih]
      simp only [dpS] at h
      grind
theorem dpR_60 {f : zN} {b : Nat} : ∀ {k m : Nat}, dpR f b k = some m → m ≤ 60
  | 0, m, h => by
    simp only [dpR, Option.some.injEq] at h
    omega
  | k + 1, m, h => by
    simp only [dpR] at h
    cases hk : dpR f b k with
    | none => rw [hk] at h; simp at h
    | some j =>
      rw [hk, Option.bind_some] at h
      have ih := dpR_60 hk
      simp only [dpS] at h
      grind
/-- what lies below stays the same, whatever was on the pile at first -/
theorem evR_same {nm nm' f f' : zN} {b b' : Nat} {g g' : zN} {n : Nat} (hf : ∀ k, k < n → f (b + 1 + 2 * k) = f' (b' + 1 + 2 * k) ∧ f (b + 2 + 2 * k) = f' (b' + 2 + 2 * k)) (hnm : ∀ k, k < n → f (b + 1 + 2 * k) = 1 → nm (pn (f (b + 2 + 2 * k))) = nm' (pn (f (b + 2 + 2 * k)))) : ∀ {k m : Nat}, k ≤ n → dpR f b k = some m → ∀ j, j < m → (evR nm f b (0, g) k).2 j = (evR nm' f' b' (0, g') k).2 j
  | 0, m, _, h, j, hj => by
    simp only [dpR, Option.some.injEq] at h
    omega
  | k + 1, m, hkn, h, j, hj => by
    have h0 := h
    simp only [dpR] at h
    cases hk : dpR f b k with
    | none => rw [hk] at h; simp at h
    | some i =>
      rw [hk, Option.bind_some] at h
      have ih := evR_same hf hnm (g := g) (g' := g') (k := k) (m := i) (by omega) hk
      have e1 := evR_dp (nm := nm) (g := g) hk
      have hk2 : dpR f' b' k = some i := by
        have : ∀ k, k ≤ n → dpR f' b' k = dpR f b k := by
          intro k
          induction k with
          | zero => intro _; rfl
          | succ k ihk =>
            intro hk
            simp only [dpR, ihk (by omega), (hf k (by omega)).1, (hf k (by omega)).2]
        rw [this k (by omega)]
        exact hk
      have e2 := evR_dp (nm := nm') (g := g') hk2
      have hn := hnm k (by omega)
      obtain ⟨q1, q2⟩ := hf k (by omega)
      simp only [evR, ← q1, ← q2]
      simp only [evS, e1, e2]
      simp only [dpS] at h
      have ihi := ih (i - 1)
      have ihi2 := ih (i - 2)
      have ihj := ih j
      unfold upd
      grind
def nmF (a b c : Int32) : zN := fun v => if v = 99 then a else if v = 115 ∨ v = 109 then b else c
def txF (f : zN) (u : Nat) (a b c : Int32) : Int32 := (evR (nmF a b c) f (38 + 125 * u) (0, fun _ => 0) (pn (f (38 + 125 * u)))).2 0
def clF (f : zN) (a b h : Int32) : Int32 := hdF 0 20 (if 0 < f 38 then txF f 0 a b h else a)
def paF (f : zN) (a m k : Int32) : Int32 := hdF 0 3 (if 0 < f 163 then txF f 1 a m k else if 3 < a then 2 else 1)
def togN (f : zN) (p : Nat) : Nat → Int32
  | 0 => 0
  | o + 1 => togN f p o + (if o ≠ p ∧ f (8 + 5 * o + 3) = f (8 + 5 * p + 3) ∧ f (8 + 5 * o + 4) = 0 then 1 else 0)
def seF (f : zN) (p : Nat) : Int32 :=
  let plain := f (8 + 5 * p + 2) / 10
  let m := f (8 + 5 * p + 1)
  let k := f (8 + 5 * p)
  if k = 1 then plain / 2 else if k = 2 then (if 3 < plain then plain - 3 else 0) else if k = 3 then 9 + m
  else if k = 4 then plain / 2 + togN f p (pn (f 5)) else if k = 5 then 1 + (m - m / 2 * 2) else if k = 6 then plain + (f 0 - f 0 / 5 * 5) else plain
def faF (f : zN) (p : Nat) : Bool :=
  let m := f (8 + 5 * p + 1)
  let k := f (8 + 5 * p)
  if k = 2 then decide (f (8 + 5 * p + 2) < 10 + m) else if k = 3 then true else if k = 6 then decide (20 - m < f 0 - f 0 / 24 * 24) else false
def cleF (f : zN) (p : Nat) : Int32 := clF f (seF f p) (f (8 + 5 * p + 2)) (f 0 - f 0 / 24 * 24)
def pacF (f : zN) (p : Nat) : Int32 := paF f (cleF f p) (f (8 + 5 * p + 1)) (f (8 + 5 * p))
/-- one goes on, up to s CELLS -/
def wkF (p : Nat) (fall : Bool) : Nat → zN → zN
  | 0, f => f
  | s + 1, f => if f (8 + 5 * p + 3) < 15 then (
      if (f 1 >>> ((f (8 + 5 * p + 3) + 1) &&& 31)) &&& 1 = 1 then (if fall then upd (upd f (8 + 5 * p + 3) (f (8 + 5 * p + 3) + 1)) (8 + 5 * p + 4) 1 else f)
      else wkF p fall s (upd (upd f (8 + 5 * p + 3) (f (8 + 5 * p + 3) + 1)) (8 + 5 * p + 4) 0)) else f
def stF (f : zN) (p : Nat) : Nat := pn (if pacF f p < cleF f p then pacF f p else cleF f p)
/-- an HOUR: the first n of PEOPLE -/
def hrN (f : zN) : Nat → zN
  | 0 => f
  | p + 1 => if hrN f p (8 + 5 * p + 4) = 0 then wkF p (faF (hrN f p) p) (stF (hrN f p) p) (hrN f p) else hrN f p
def hrF (f : zN) : zN := upd (hrN f (pn (f 5))) 0 (hrN f (pn (f 5)) 0 + 1)
def goF : Nat → zN → zN
  | 0, f => f
  | n + 1, f => goF n (hrF f)
def thN (f : zN) : Nat → Int32
  | 0 => 0
  | p + 1 => thN f p ||| (if f (8 + 5 * p + 3) = 15 then 1 <<< (nI p &&& 31) else 0)
def thF (f : zN) : Int32 := thN f (pn (f 5))
def dzF (f : zN) : zN := upd f 2 (f 2 * 1103515245 + 12345)
def dvF (f : zN) : Int32 := ((f 2 * 1103515245 + 12345).toUInt32 >>> ((8 : Int32).toUInt32 &&& Int32.toUInt32 31)).toInt32
def reF (a b : Int32) : Int32 := a - a / b * b
/-- the draws for SURE -/
def suF (f : zN) : zN := if 0 < f 5 then
    let p := pn (reF (dvF f) (f 5))
    upd (dzF (dzF f)) (8 + 5 * p + 2) (hdF 0 99 (f (8 + 5 * p + 2) + reF (dvF (dzF f)) 21 - 10)) else f
def drF (f : zN) : zN := if reF (dvF (dzF f)) 8 = 0 then upd (dzF (dzF f)) 1 (f 1 ^^^ 1 <<< ((1 + reF (dvF f) 14) &&& 31)) else dzF (dzF f)
def loF : Nat → zN → zN
  | 0, f => f
  | n + 1, f => loF n (hrF (drF (suF f)))
/-- behind how many hours one is there: at most n more -/
def coF (p : Nat) (cell : Int32) : Nat → Nat → zN → Int32
  | 0, _, _ => -1
  | n + 1, k, f => if f (8 + 5 * p + 4) = 0 ∧ cell ≤ f (8 + 5 * p + 3) then nI k else coF p cell n (k + 1) (hrF f)
def cwF (f : zN) (p : Nat) (cell : Int32) (n : Nat) (sure : Int32) : Bool := decide (coF p cell (n + 1) 0 (upd f (8 + 5 * p + 2) sure) ≠ -1)
def coutF (f : zN) (p : Nat) (cell : Int32) (n : Nat) (set : Int32) : Bool := decide (coF p cell (n + 1) 0 (upd f 1 (f 1 &&& (set ^^^ (-1)))) ≠ -1)
