/-! LOST is 0 or 1; the sets of two DROPS by number -/
theorem wk_b {p : Nat} {fb : Bool} : ∀ {s : Nat} {f : zN}, (f (8 + 5 * p + 4) = 0 ∨ f (8 + 5 * p + 4) = 1) → (wkF p fb s f (8 + 5 * p + 4) = 0 ∨ wkF p fb s f (8 + 5 * p + 4) = 1)
  | 0, f, h => h
  | s + 1, f, h => by
    unfold wkF
    split
    · split
      · split
        · exact Or.inr pk_us
        · exact h
      · exact wk_b (Or.inl pk_us)
    · exact h
theorem hr_b {p n : Nat} {f : zN} (hv : vaF f n) (hp : p < n) (h : f (8 + 5 * p + 4) = 0 ∨ f (8 + 5 * p + 4) = 1) : hrF f (8 + 5 * p + 4) = 0 ∨ hrF f (8 + 5 * p + 4) = 1 := by
  have hn6 := hv.2.1
  have hpn : pn (f 5) = n := by rw [hv.1]; exact pn_nI (by omega)
  obtain ⟨g, h1, h2, _⟩ := hrF_ag hv hp
  have k1 := (hrN_lo (f := f) (p := p) (by omega) (Nat.le_refl p)).2.2.2 4 (by decide)
  unfold hrF
  rw [hpn, pk_un (by omega), h1.2.2.2 4 (by decide)]
  rw [← k1] at h
  rcases h2 with rfl | rfl
  · exact h
  · exact wk_b h
theorem go_b {p n : Nat} : ∀ (m : Nat) {f : zN}, vaF f n → p < n → (f (8 + 5 * p + 4) = 0 ∨ f (8 + 5 * p + 4) = 1) → (goF m f (8 + 5 * p + 4) = 0 ∨ goF m f (8 + 5 * p + 4) = 1)
  | 0, f, _, _, h => h
  | m + 1, f, hv, hp, h => go_b m (vaF_hr hv) hp (hr_b hv hp h)
theorem lo_b {p n : Nat} : ∀ (m : Nat) {f : zN}, vaF f n → p < n → (f (8 + 5 * p + 4) = 0 ∨ f (8 + 5 * p + 4) = 1) → (loF m f (8 + 5 * p + 4) = 0 ∨ loF m f (8 + 5 * p + 4) = 1)
  | 0, f, _, _, h => h
  | m + 1, f, hv, hp, h => by
    have hn6 := hv.2.1
    refine lo_b m (vaF_hr (vaF_dr (vaF_su hv))) hp (hr_b (vaF_dr (vaF_su hv)) hp ?_)
    have e1 : suF f (8 + 5 * p + 4) = f (8 + 5 * p + 4) := by
      unfold suF
      split
      · next h0 =>
        have hn0 : 0 < n := by rw [hv.1] at h0; exact (pn_0 (by omega)).mp h0
        obtain ⟨j, hj, e⟩ := reF_nI f hn0 (by omega)
        dsimp only
        rw [hv.1, e, pn_nI (by omega), pk_un (by omega)]
        unfold dzF
        rw [pk_un (by omega), pk_un (by omega)]
      · rfl
    have e2 : drF (suF f) (8 + 5 * p + 4) = suF f (8 + 5 * p + 4) := by
      unfold drF dzF
      split
      · rw [pk_un (by omega), pk_un (by omega), pk_un (by omega)]
      · rw [pk_un (by omega), pk_un (by omega)]
    rw [e2, e1]
    exact h
def tvN (a b : Nat) : Nat := (if a = 0 then 0 else 2 ^ a) ||| (if b = 0 then 0 else 2 ^ b)
def tcN (a b : Nat) : Nat := if a = 0 then (if b = 0 then 0 else 1) else if b = 0 ∨ b = a then 1 else 2
theorem tw_nI : ∀ a, a < 15 → ∀ b, b < 15 → twF a b = nI (tvN a b) ∧ mnF (twF a b) = nI (tcN a b) ∧ tvN a b < 32768 := by decide +kernel
def tkN (a b : Nat) : Nat := tcN a b * 32768 + tvN a b
/-- which of two sets comes first -/
theorem tw_lt {a b a' b' : Nat} (ha : a < 15) (hb : b < 15) (ha' : a' < 15) (hb' : b' < 15) : (mnF (twF a b) < mnF (twF a' b') ∨ mnF (twF a b) = mnF (twF a' b') ∧ twF a b < twF a' b') ↔ tkN a b < tkN a' b' := by
  obtain ⟨e1, e2, e3⟩ := tw_nI a ha b hb
  obtain ⟨e1', e2', e3'⟩ := tw_nI a' ha' b' hb'
  have c2 : tcN a b ≤ 2 := by unfold tcN; split <;> split <;> omega
  have c2' : tcN a' b' ≤ 2 := by unfold tcN; split <;> split <;> omega
  rw [e2, e2', e1, e1', nI_ltI (a := tcN a b) (b := tcN a' b') (by omega) (by omega), nI_ltI (a := tvN a b) (b := tvN a' b') (by omega) (by omega), nI_eq (a := tcN a b) (b := tcN a' b') (by omega) (by omega)]
  unfold tkN
  omega
theorem tw_inj {a b a' b' : Nat} (ha : a < 15) (hb : b < 15) (ha' : a' < 15) (hb' : b' < 15) (h : tkN a b = tkN a' b') : twF a b = twF a' b' := by
  obtain ⟨e1, e2, e3⟩ := tw_nI a ha b hb
  obtain ⟨e1', e2', e3'⟩ := tw_nI a' ha' b' hb'
  have c2 : tcN a b ≤ 2 := by unfold tcN; split <;> split <;> omega
  have c2' : tcN a' b' ≤ 2 := by unfold tcN; split <;> split <;> omega
  unfold tkN at h
  rw [e1, e1', show tvN a b = tvN a' b' by omega]
/-- a set that fills -/
def vfN (f : zN) (p : Nat) (cell : Int32) (n a b : Nat) : Prop := twF a b &&& (f 1 ^^^ (-1)) = 0 ∧ coutF f p cell n (twF a b) = true
/-- the best of those seen -/
def bfN (f : zN) (p : Nat) (cell : Int32) (n : Nat) (best : Int32) (S : Nat → Nat → Prop) : Prop := (best = -1 ∧ ∀ x y, S x y → ¬ vfN f p cell n x y) ∨ ∃ x y, S x y ∧ best = twF x y ∧ vfN f p cell n x y ∧ ∀ x' y', S x' y' → vfN f p cell n x' y' → tkN x y ≤ tkN x' y'
theorem fiS_b {f : zN} {p n a b : Nat} {cell best : Int32} {S S' : Nat → Nat → Prop} (ha : a < 15) (hb : b < 15) (hS : ∀ x y, S x y → x < 15 ∧ y < 15) (hS' : ∀ x y, S' x y ↔ S x y ∨ (x = a ∧ y = b)) (h : bfN f p cell n best S) : bfN f p cell n (fiS f p cell n a b best) S' := by
  have hm1 : ¬ twF a b = -1 := by
    rw [(tw_nI a ha b hb).1]
    intro q
    have h0 := nI_pos' (n := tvN a b) (by have := (tw_nI a ha b hb).2.2; omega)
    rw [q] at h0
    exact absurd h0 (by decide)
  unfold fiS
  by_cases hV : vfN f p cell n a b
  · rcases h with ⟨e, h⟩ | ⟨x, y, hxy, e, hv, h⟩
    · rw [if_pos ⟨hV.1, Or.inl e, hV.2⟩]
      refine Or.inr ⟨a, b, (hS' a b).mpr (Or.inr ⟨rfl, rfl⟩), rfl, hV, fun x' y' h1 h2 => ?_⟩
      rcases (hS' x' y').mp h1 with q | ⟨rfl, rfl⟩
      · exact absurd h2 (h x' y' q)
      · exact Nat.le_refl _
    · obtain ⟨hx, hy⟩ := hS x y hxy
      have hl := tw_lt ha hb hx hy
      by_cases hlt : tkN a b < tkN x y
      · rw [if_pos ⟨hV.1, Or.inr (by rw [e]; exact hl.mpr hlt), hV.2⟩]
        refine Or.inr ⟨a, b, (hS' a b).mpr (Or.inr ⟨rfl, rfl⟩), rfl, hV, fun x' y' h1 h2 => ?_⟩
        rcases (hS' x' y').mp h1 with q | ⟨rfl, rfl⟩
        · exact Nat.le_trans (Nat.le_of_lt hlt) (h x' y' q h2)
        · exact Nat.le_refl _
      · have hne : ¬ best = -1 := by
          rw [e, (tw_nI x hx y hy).1]
          intro q
          have h0 := nI_pos' (n := tvN x y) (by have := (tw_nI x hx y hy).2.2; omega)
          rw [q] at h0
          exact absurd h0 (by decide)
        rw [if_neg (fun q => by
          rcases q.2.1 with w | w
          · exact hne w
          · rw [e] at w; exact hlt (hl.mp w))]
        refine Or.inr ⟨x, y, (hS' x y).mpr (Or.inl hxy), e, hv, fun x' y' h1 h2 => ?_⟩
        rcases (hS' x' y').mp h1 with q | ⟨rfl, rfl⟩
        · exact h x' y' q h2
        · omega
  · rw [if_neg (fun q => hV ⟨q.1, q.2.2⟩)]
    rcases h with ⟨e, h⟩ | ⟨x, y, hxy, e, hv, h⟩
    · refine Or.inl ⟨e, fun x' y' h1 => ?_⟩
      rcases (hS' x' y').mp h1 with q | ⟨rfl, rfl⟩
      · exact h x' y' q
      · exact hV
    · refine Or.inr ⟨x, y, (hS' x y).mpr (Or.inl hxy), e, hv, fun x' y' h1 h2 => ?_⟩
      rcases (hS' x' y').mp h1 with q | ⟨rfl, rfl⟩
      · exact h x' y' q h2
      · exact absurd h2 hV
theorem fiN_b {f : zN} {p n a : Nat} {cell best : Int32} (ha : a < 15) (h : bfN f p cell n best (fun x y => x < a ∧ y ≤ x)) : ∀ b, b ≤ a + 1 → bfN f p cell n (fiN f p cell n a b best) (fun x y => (x < a ∧ y ≤ x) ∨ (x = a ∧ y < b))
  | 0, _ => by
    have e : (fun x y => (x < a ∧ y ≤ x) ∨ (x = a ∧ y < 0)) = (fun x y => x < a ∧ y ≤ x) := by
      funext x y
      apply propext
      omega
    rw [e]
    exact h
  | b + 1, hb => by
    have ih := fiN_b ha h b (by omega)
    rw [show fiN f p cell n a (b + 1) best = fiS f p cell n a b (fiN f p cell n a b best) from rfl]
    exact fiS_b ha (by omega) (fun x y q => by omega) (fun x y => by omega) ih
theorem fiO_b {f : zN} {p n : Nat} {cell : Int32} : ∀ a, a ≤ 15 → bfN f p cell n (fiO f p cell n a) (fun x y => x < a ∧ y ≤ x)
  | 0, _ => Or.inl ⟨rfl, fun x y q => by omega⟩
  | a + 1, ha => by
    have ih := fiO_b (f := f) (p := p) (n := n) (cell := cell) a (by omega)
    have h := fiN_b (by omega) ih (a + 1) (Nat.le_refl _)
    have e : (fun x y => (x < a ∧ y ≤ x) ∨ (x = a ∧ y < a + 1)) = (fun x y => x < a + 1 ∧ y ≤ x) := by
      funext x y
      apply propext
      omega
    rw [e] at h
    exact h
/-- the class's way: the first that fills -/
theorem fi_none {f : zN} {p n : Nat} {cell : Int32} (h : ∀ x y, x < 15 → y ≤ x → ¬ vfN f p cell n x y) : fiO f p cell n 15 = -1 := by
  rcases fiO_b (f := f) (p := p) (n := n) (cell := cell) 15 (Nat.le_refl _) with ⟨e, _⟩ | ⟨x, y, hxy, _, hv, _⟩
  · exact e
  · exact absurd hv (h x y hxy.1 hxy.2)
theorem fi_first {f : zN} {p n x y : Nat} {cell : Int32} (hx : x < 15) (hy : y ≤ x) (hv : vfN f p cell n x y) (h : ∀ x' y', x' < 15 → y' ≤ x' → vfN f p cell n x' y' → tkN x y ≤ tkN x' y') : fiO f p cell n 15 = twF x y := by
  rcases fiO_b (f := f) (p := p) (n := n) (cell := cell) 15 (Nat.le_refl _) with ⟨_, h2⟩ | ⟨x2, y2, hxy, e, hv2, h2⟩
  · exact absurd hv (h2 x y ⟨hx, hy⟩)
  · rw [e]
    have a1 := h x2 y2 hxy.1 hxy.2 hv2
    have a2 := h2 x y ⟨hx, hy⟩ hv
    exact tw_inj hxy.1 (by omega) hx (by omega) (by omega)
