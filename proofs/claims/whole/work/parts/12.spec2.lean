/-! the calls, as functions on what the reference keeps: s, kept, errors, images, traced, trace, bits, sizes, number -/
abbrev zT : Type := zN × zN × zN × Int32 × Int32 × zN × zN × zN × zN
def mst (c : zS) : zT := (c 52, c 53, c 55, c 51 3, c 51 12, c 59, c 60, c 61, c 62)
def wS (σ : zT) (f : zN) : zT := (f, σ.2)
def wE (σ : zT) (e : zN) : zT := (σ.1, σ.2.1, e, σ.2.2.2)
def err (σ : zT) (k : Nat) : Int32 × zT := (-1000000000 - nI k, wE σ (upd σ.2.2.1 k (σ.2.2.1 k + 1)))
abbrev isP (σ : zT) (p : Int32) : Prop := 0 ≤ p ∧ p ≤ σ.1 5 - 1
def o_person (σ : zT) (km sure : Int32) : Int32 × zT :=
  if (0 ≤ km ∧ km ≤ 69) ∧ 0 ≤ sure ∧ sure ≤ 99 then (
    if σ.1 5 = 6 then err σ 4 else (σ.1 5, wS σ (upd (upd (upd (upd (upd (upd σ.1 (8 + 5 * pn (σ.1 5)) (km / 10)) (8 + 5 * pn (σ.1 5) + 1) (km - km / 10 * 10)) (8 + 5 * pn (σ.1 5) + 2) sure) (8 + 5 * pn (σ.1 5) + 3) 0) (8 + 5 * pn (σ.1 5) + 4) 0) 5 (σ.1 5 + 1)))) else err σ 1
def o_personIs (σ : zT) (p w : Int32) : Int32 × zT :=
  if isP σ p ∧ 0 ≤ w ∧ w ≤ 7 then ((if w = 5 then cleF σ.1 (pn p) else if w = 6 then pacF σ.1 (pn p) else if w = 7 then (if faF σ.1 (pn p) = true then 1 else 0) else σ.1 (8 + 5 * pn p + pn w)), σ) else err σ 1
def o_become (σ : zT) (p km : Int32) : Int32 × zT :=
  if isP σ p ∧ 0 ≤ km ∧ km ≤ 69 then (σ.1 (8 + 5 * pn p), wS σ (upd (upd σ.1 (8 + 5 * pn p + 1) (km - km / 10 * 10)) (8 + 5 * pn p) (km / 10))) else err σ 1

def o_as (σ : zT) (p k : Int32) : Int32 × zT :=
  if isP σ p ∧ 0 ≤ k ∧ k ≤ 6 then (if k = σ.1 (8 + 5 * pn p) ∨ k = 0 ∨ (σ.1 (8 + 5 * pn p) = 4 ∧ k = 1) ∨ (σ.1 (8 + 5 * pn p) = 5 ∧ k = 2) then (σ.1 (8 + 5 * pn p + 1), σ) else err σ 5) else err σ 1
def o_answers (σ : zT) (p sure : Int32) : Int32 × zT :=
  if isP σ p ∧ 0 ≤ sure ∧ sure ≤ 99 then (σ.1 (8 + 5 * pn p + 2), wS σ (upd σ.1 (8 + 5 * pn p + 2) sure)) else err σ 1
def o_puts (σ : zT) (p cell : Int32) : Int32 × zT :=
  if isP σ p ∧ 0 ≤ cell ∧ cell ≤ 15 then (σ.1 (8 + 5 * pn p + 3), wS σ (upd (upd σ.1 (8 + 5 * pn p + 4) 0) (8 + 5 * pn p + 3) cell)) else err σ 1
def o_drop (σ : zT) (cell is : Int32) : Int32 × zT :=
  if (1 ≤ cell ∧ cell ≤ 14) ∧ 0 ≤ is ∧ is ≤ 1 then ((σ.1 1 >>> (cell &&& 31)) &&& 1, wS σ (upd σ.1 1 ((σ.1 1 &&& ((1 <<< (cell &&& 31)) ^^^ (-1))) ||| (is <<< (cell &&& 31))))) else err σ 1
def fdN (w : Int64) : Nat → zN → zN
  | 0, f => f
  | k + 1, f => upd (upd (fdN w k f) (288 + pn (fdN w k f 3)) (((w >>> ((8 * nI k).toInt64 &&& 63)) &&& 255).toInt32)) 3 (fdN w k f 3 + 1)
def o_feed (σ : zT) (w : Int64) (n : Int32) : Int32 × zT :=
  if 1 ≤ n ∧ n ≤ 8 then (if σ.1 3 + n ≤ 60 then (fdN w (pn n) σ.1 3, wS σ (fdN w (pn n) σ.1)) else err σ 4) else err σ 1
def o_untell (σ : zT) (u : Int32) : Int32 × zT :=
  if 0 ≤ u ∧ u ≤ 1 then ((if 0 < σ.1 (38 + 125 * pn u) then 1 else 0), wS σ (upd σ.1 (38 + 125 * pn u) 0)) else err σ 1
def o_law (σ : zT) (u a b h : Int32) : Int32 × zT :=
  if 0 ≤ u ∧ u ≤ 1 then ((if u = 0 then clF σ.1 a b h else paF σ.1 a b h), σ) else err σ 1
def o_hours (σ : zT) (n : Int32) : Int32 × zT :=
  if 1 ≤ n ∧ n ≤ 60 then (if σ.1 0 + n ≤ 9999 then (thF (goF (pn n) σ.1), wS σ (goF (pn n) σ.1)) else err σ 3) else err σ 1
def o_loose (σ : zT) (n : Int32) : Int32 × zT :=
  if 1 ≤ n ∧ n ≤ 30 then (if σ.1 0 + n ≤ 9999 then (thF (loF (pn n) σ.1), wS σ (loF (pn n) σ.1)) else err σ 3) else err σ 1
def o_hour (σ : zT) (v : Int32) : Int32 × zT := if 0 ≤ v ∧ v ≤ 9999 then (σ.1 0, wS σ (upd σ.1 0 v)) else err σ 1
def o_seed (σ : zT) (v : Int32) : Int32 × zT := (σ.1 2, wS σ (upd σ.1 2 v))
def o_then (σ : zT) (p n w : Int32) : Int32 × zT :=
  if isP σ p ∧ (0 ≤ n ∧ n ≤ 60) ∧ 0 ≤ w ∧ w ≤ 1 then (goF (pn n) σ.1 (8 + 5 * pn p + 3 + pn w), σ) else err σ 1
def o_soonest (σ : zT) (p cell : Int32) : Int32 × zT :=
  if isP σ p ∧ 0 ≤ cell ∧ cell ≤ 15 then (if coF (pn p) cell 61 0 σ.1 = -1 then err σ 2 else (coF (pn p) cell 61 0 σ.1, σ)) else err σ 1
/-- the first place from i on, of m places, where P holds -/
def fsF (P : Nat → Bool) : Nat → Nat → Nat
  | 0, i => i
  | m + 1, i => if P i = true then i else fsF P m (i + 1)
def o_least (σ : zT) (p cell n : Int32) : Int32 × zT :=
  if isP σ p ∧ (0 ≤ cell ∧ cell ≤ 15) ∧ 0 ≤ n ∧ n ≤ 20 then (if fsF (fun i => cwF σ.1 (pn p) cell (pn n) (nI i)) 100 0 = 100 then err σ 2 else (nI (fsF (fun i => cwF σ.1 (pn p) cell (pn n) (nI i)) 100 0), σ)) else err σ 1
def mnL : Nat → Int32 → Int32 → Int32
  | 0, n, _ => n
  | f + 1, n, x => if x = 0 then n else mnL f (n + 1) (x &&& (x - 1))
def mnF (x : Int32) : Int32 := mnL 4 0 x
def twF (a b : Nat) : Int32 := (if a = 0 then (0 : Int32) else (1 : Int32) <<< (nI a &&& 31)) ||| (if b = 0 then (0 : Int32) else (1 : Int32) <<< (nI b &&& 31))
def fiS (f : zN) (p : Nat) (cell : Int32) (n a b : Nat) (best : Int32) : Int32 :=
  if twF a b &&& (f 1 ^^^ (-1)) = 0 ∧ (best = -1 ∨ mnF (twF a b) < mnF best ∨ mnF (twF a b) = mnF best ∧ twF a b < best) ∧ coutF f p cell n (twF a b) = true then twF a b else best
def fiN (f : zN) (p : Nat) (cell : Int32) (n a : Nat) : Nat → Int32 → Int32
  | 0, best => best
  | b + 1, best => fiS f p cell n a b (fiN f p cell n a b best)
def fiO (f : zN) (p : Nat) (cell : Int32) (n : Nat) : Nat → Int32
  | 0 => -1
  | a + 1 => fiN f p cell n a (a + 1) (fiO f p cell n a)
def o_fills (σ : zT) (p cell n w : Int32) : Int32 × zT :=
  if isP σ p ∧ (0 ≤ cell ∧ cell ≤ 15) ∧ (0 ≤ n ∧ n ≤ 20) ∧ 0 ≤ w ∧ w ≤ 1 then (if fiO σ.1 (pn p) cell (pn n) 15 = -1 then err σ 2 else (if w = 0 then mnF (fiO σ.1 (pn p) cell (pn n) 15) else fiO σ.1 (pn p) cell (pn n) 15, σ)) else err σ 1
def farF (f : zN) (p o n : Nat) : Int32 :=
  if goF n (upd (upd f (8 + 5 * p + 3) (f (8 + 5 * o + 3))) (8 + 5 * p + 4) 0) (8 + 5 * p + 4) = 1 then 0 else goF n (upd (upd f (8 + 5 * p + 3) (f (8 + 5 * o + 3))) (8 + 5 * p + 4) 0) (8 + 5 * p + 3) - f (8 + 5 * o + 3)
def whS (f : zN) (p n o : Nat) (q : Int32 × Int32) : Int32 × Int32 := if q.2 < (if o = p then -1 else farF f p o n) then (nI o, if o = p then -1 else farF f p o n) else q
def whN (f : zN) (p n : Nat) : Nat → Int32 × Int32
  | 0 => (-1, -1)
  | o + 1 => whS f p n o (whN f p n o)
def o_withWhom (σ : zT) (p n : Int32) : Int32 × zT :=
  if isP σ p ∧ 0 ≤ n ∧ n ≤ 20 then (if (whN σ.1 (pn p) (pn n) (pn (σ.1 5))).1 = -1 then err σ 2 else ((whN σ.1 (pn p) (pn n) (pn (σ.1 5))).1, σ)) else err σ 1
def cnF (P : Nat → Bool) : Nat → Nat
  | 0 => 0
  | i + 1 => cnF P i + (if P i = true then 1 else 0)
def o_odds (σ : zT) (p cell n w : Int32) : Int32 × zT :=
  if isP σ p ∧ (0 ≤ cell ∧ cell ≤ 15) ∧ (0 ≤ n ∧ n ≤ 20) ∧ 0 ≤ w ∧ w ≤ 1 then ((if w = 0 then nI (cnF (fun i => cwF σ.1 (pn p) cell (pn n) (nI i)) 100 / Nat.gcd (cnF (fun i => cwF σ.1 (pn p) cell (pn n) (nI i)) 100) 100) else nI (100 / Nat.gcd (cnF (fun i => cwF σ.1 (pn p) cell (pn n) (nI i)) 100) 100)), σ) else err σ 1
def csN (num : zN) (p : Nat) : Nat → Nat → zN → Bool
  | 0, _, _ => true
  | m + 1, i, f => if cleF f p = num i then csN num p m (i + 1) (hrF f) else false
def csF (σ : zT) (sh p : Nat) (sure : Int32) : Bool := csN (fun i => σ.2.2.2.2.2.2.2.2 (24 * sh + i)) p (pn (σ.2.2.2.2.2.2.2.1 sh)) 0 (upd σ.1 (8 + 5 * p + 2) sure)
def o_fits (σ : zT) (sh p w : Int32) : Int32 × zT :=
  if (isP σ p ∧ 0 ≤ w ∧ w ≤ 1) ∧ 0 ≤ sh ∧ sh ≤ 3 then (if σ.2.2.2.2.2.2.1 (pn sh) = 0 then err σ 2 else if w = 0 then (nI (cnF (fun i => csF σ (pn sh) (pn p) (nI i)) 100), σ) else if fsF (fun i => csF σ (pn sh) (pn p) (nI i)) 100 0 = 100 then err σ 2 else (nI (fsF (fun i => csF σ (pn sh) (pn p) (nI i)) 100 0), σ)) else err σ 1
def o_body (σ : zT) (i : Int32) : Int32 × zT := if 0 ≤ i ∧ i ≤ σ.2.2.2.2.1 - 1 then (σ.2.2.2.2.2.1 (pn i), σ) else err σ 2
def wSh (σ : zT) (b z u : zN) : zT := (σ.1, σ.2.1, σ.2.2.1, σ.2.2.2.1, σ.2.2.2.2.1, σ.2.2.2.2.2.1, b, z, u)
def o_sheet (σ : zT) (k b n : Int32) : Int32 × zT :=
  if (0 ≤ k ∧ k ≤ 3) ∧ (b = 0 ∨ b = 8 ∨ b = 16 ∨ b = 32) then (if ¬ b = 0 ∧ n < 0 then err σ 3 else if ¬ b = 0 ∧ 24 < n then err σ 1 else (1, wSh σ (upd σ.2.2.2.2.2.2.1 (pn k) b) (upd σ.2.2.2.2.2.2.2.1 (pn k) (if b = 0 then 0 else n)) (fun i => if 24 * pn k ≤ i ∧ i < 24 * pn k + 24 then 0 else σ.2.2.2.2.2.2.2.2 i))) else err σ 1
def o_put (σ : zT) (k i v : Int32) : Int32 × zT :=
  if 0 ≤ k ∧ k ≤ 3 then (if σ.2.2.2.2.2.2.1 (pn k) = 0 then err σ 2 else if 0 ≤ i ∧ i ≤ σ.2.2.2.2.2.2.2.1 (pn k) - 1 then (1, wSh σ σ.2.2.2.2.2.2.1 σ.2.2.2.2.2.2.2.1 (upd σ.2.2.2.2.2.2.2.2 (24 * pn k + pn i) ((v <<< ((32 - σ.2.2.2.2.2.2.1 (pn k)) &&& 31)) >>> ((32 - σ.2.2.2.2.2.2.1 (pn k)) &&& 31)))) else err σ 1) else err σ 1
def o_move (σ : zT) (k i o j n : Int32) : Int32 × zT :=
  if (0 ≤ k ∧ k ≤ 3) ∧ 0 ≤ o ∧ o ≤ 3 then (
    if σ.2.2.2.2.2.2.1 (pn k) = 0 ∨ σ.2.2.2.2.2.2.1 (pn o) = 0 then err σ 2 else if ¬ σ.2.2.2.2.2.2.1 (pn k) = σ.2.2.2.2.2.2.1 (pn o) then err σ 5
    else if 0 ≤ n ∧ 0 ≤ i ∧ 0 ≤ j ∧ i ≤ σ.2.2.2.2.2.2.2.1 (pn k) - n ∧ j ≤ σ.2.2.2.2.2.2.2.1 (pn o) - n then (n, wSh σ σ.2.2.2.2.2.2.1 σ.2.2.2.2.2.2.2.1 (fun x => if 24 * pn o + pn j ≤ x ∧ x < 24 * pn o + pn j + pn n then σ.2.2.2.2.2.2.2.2 (24 * pn k + pn i + (x - (24 * pn o + pn j))) else σ.2.2.2.2.2.2.2.2 x)) else err σ 1) else err σ 1
def srN (num : zN) (z n : Nat) : Nat → Nat → zN → Nat × zN
  | 0, i, f => (i, f)
  | m + 1, i, f => if i < z ∧ i < n ∧ 0 ≤ num i ∧ num i ≤ 99 then srN num z n m (i + 1) (upd f (8 + 5 * i + 2) (num i)) else (i, f)
def o_sures (σ : zT) (k : Int32) : Int32 × zT :=
  if 0 ≤ k ∧ k ≤ 3 then (if σ.2.2.2.2.2.2.1 (pn k) = 0 then err σ 2 else (nI (srN (fun i => σ.2.2.2.2.2.2.2.2 (24 * pn k + i)) (pn (σ.2.2.2.2.2.2.2.1 (pn k))) (pn (σ.1 5)) 25 0 σ.1).1, wS σ (srN (fun i => σ.2.2.2.2.2.2.2.2 (24 * pn k + i)) (pn (σ.2.2.2.2.2.2.2.1 (pn k))) (pn (σ.1 5)) 25 0 σ.1).2)) else err σ 1
def jgN (num f : zN) (z n : Nat) : Nat → Nat → Nat
  | 0, i => i
  | m + 1, i => if i < z ∧ i < n ∧ f (8 + 5 * i + 3) = num i then jgN num f z n m (i + 1) else i
def o_judge (σ : zT) (k : Int32) : Int32 × zT :=
  if 0 ≤ k ∧ k ≤ 3 then (if σ.2.2.2.2.2.2.1 (pn k) = 0 then err σ 2 else (nI (jgN (fun i => σ.2.2.2.2.2.2.2.2 (24 * pn k + i)) σ.1 (pn (σ.2.2.2.2.2.2.2.1 (pn k))) (pn (σ.1 5)) 25 0), σ)) else err σ 1
def cpF (n : Nat) (f g : zN) : zN := fun k => if k < n then f k else g k
def o_image (σ : zT) : Int32 × zT := (σ.2.2.2.1 + 1, (σ.1, cpF 372 σ.1 σ.2.1, σ.2.2.1, σ.2.2.2.1 + 1, σ.2.2.2.2))
def o_restore (σ : zT) : Int32 × zT := if σ.2.2.2.1 = 0 then err σ 2 else (σ.2.1 0, wS σ (cpF 372 σ.2.1 σ.1))
def o_tell (σ : zT) (v : Int32) : Int32 × zT := if σ.1 4 = 24 then err σ 4 else (σ.1 4 + 1, wS σ (upd (upd σ.1 (348 + pn (σ.1 4)) v) 4 (σ.1 4 + 1)))
def ckN (f : zN) (n : Nat) : Nat → Nat → Int32
  | 0, _ => 0
  | m + 1, k => if k < n ∧ f (348 + k) = f (8 + 5 * k + 2) then ckN f n m (k + 1) else 1 + nI k
def o_check (σ : zT) : Int32 × zT := (ckN σ.1 (pn (σ.1 5)) (pn (σ.1 4)) 0, wS σ (upd σ.1 4 0))
def o_count (σ : zT) (w : Int32) : Int32 × zT :=
  if w = 0 then (σ.1 5, σ) else if w = 1 then (σ.1 1, σ) else if w = 2 then (σ.1 0, σ) else if w = 3 then (thF σ.1, σ) else if w = 4 then (σ.1 3, σ) else if w = 5 then (σ.1 4, σ) else if w = 6 then (σ.2.2.2.2.1, σ) else if w = 7 then (σ.1 2, σ) else err σ 1
def o_told (σ : zT) (k : Int32) : Int32 × zT := if 1 ≤ k ∧ k ≤ 6 then (σ.2.2.1 (pn k), σ) else err σ 1
theorem isP_of {f : zN} {n : Nat} {p : Int32} (h : 0 ≤ p ∧ p ≤ f 5 - 1) (hn : f 5 = nI n) (hn6 : n ≤ 6) : ∃ j : Nat, j < n ∧ p = nI j := by
  rw [hn] at h
  rcases Nat.eq_zero_or_pos n with q | q
  · subst q
    have : (nI 0 - 1 : Int32) = -1 := rfl
    grind
  · rw [zi_m1 q] at h
    obtain ⟨j, hj, rfl⟩ := zj_of (x := p) (n := n) h.1 (by have := h.2; have h2 := nI_ltI (a := n - 1) (b := n) (by omega) (by omega); have h3 := h2.mpr (by omega); grind) (by omega)
    exact ⟨j, hj, rfl⟩
