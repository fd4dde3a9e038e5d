/-! an HOUR as it matters for one PERSON -/
def AgS (p : Nat) (f g : zN) : Prop := (∀ k, 38 ≤ k → g k = f k) ∧ g 0 = f 0 ∧ g 1 = f 1 ∧ ∀ w, w < 5 → g (8 + 5 * p + w) = f (8 + 5 * p + w)
theorem AgS_rf {p : Nat} {f : zN} : AgS p f f := ⟨fun _ _ => rfl, rfl, rfl, fun _ _ => rfl⟩
theorem AgS_tr {p : Nat} {f g h : zN} (a : AgS p f g) (b : AgS p g h) : AgS p f h := ⟨fun k hk => (b.1 k hk).trans (a.1 k hk), b.2.1.trans a.2.1, b.2.2.1.trans a.2.2.1, fun w hw => (b.2.2.2 w hw).trans (a.2.2.2 w hw)⟩
theorem AgS_sy {p : Nat} {f g : zN} (a : AgS p f g) : AgS p g f := ⟨fun k hk => (a.1 k hk).symm, a.2.1.symm, a.2.2.1.symm, fun w hw => (a.2.2.2 w hw).symm⟩
theorem up_cg {f g : zN} {i k : Nat} {v : Int32} (h : g k = f k) : upd g i v k = upd f i v k := by
  unfold upd
  split
  · rfl
  · exact h
theorem AgS_up {p i : Nat} {v : Int32} {f g : zN} (a : AgS p f g) : AgS p (upd f i v) (upd g i v) := ⟨fun k hk => up_cg (a.1 k hk), up_cg a.2.1, up_cg a.2.2.1, fun w hw => up_cg (a.2.2.2 w hw)⟩
theorem evR_cg {nm f g : zN} {b : Nat} {q : Nat × zN} (h : ∀ k, 38 ≤ k → g k = f k) (hb : 38 ≤ b) : ∀ k, evR nm g b q k = evR nm f b q k
  | 0 => rfl
  | k + 1 => by
    have ih := evR_cg (nm := nm) (q := q) h hb k
    show evS nm (g (b + 1 + 2 * k)) (g (b + 2 + 2 * k)) (evR nm g b q k) = evS nm (f (b + 1 + 2 * k)) (f (b + 2 + 2 * k)) (evR nm f b q k)
    rw [ih, h _ (by omega), h _ (by omega)]
theorem txF_cg {f g : zN} {u : Nat} {a b c : Int32} (h : ∀ k, 38 ≤ k → g k = f k) : txF g u a b c = txF f u a b c := by
  unfold txF
  rw [h (38 + 125 * u) (by omega), evR_cg h (by omega)]
theorem cl_cg {p : Nat} {f g : zN} (h : AgS p f g) (h4 : ¬ f (8 + 5 * p) = 4) : cleF g p = cleF f p := by
  have e0 : g (8 + 5 * p) = f (8 + 5 * p) := h.2.2.2 0 (by decide)
  have e1 := h.2.2.2 1 (by decide)
  have e2 := h.2.2.2 2 (by decide)
  have es : seF g p = seF f p := by
    unfold seF
    dsimp only
    rw [e0, e1, e2, h.2.1]
    grind
  unfold cleF clF
  rw [es, e2, h.2.1, h.1 38 (by decide), txF_cg h.1]
theorem pa_cg {p : Nat} {f g : zN} (h : AgS p f g) (h4 : ¬ f (8 + 5 * p) = 4) : pacF g p = pacF f p := by
  have e0 : g (8 + 5 * p) = f (8 + 5 * p) := h.2.2.2 0 (by decide)
  have e1 := h.2.2.2 1 (by decide)
  unfold pacF paF
  rw [cl_cg h h4, e0, e1, h.1 163 (by decide), txF_cg h.1]
theorem st_cg {p : Nat} {f g : zN} (h : AgS p f g) (h4 : ¬ f (8 + 5 * p) = 4) : stF g p = stF f p := by
  unfold stF
  rw [cl_cg h h4, pa_cg h h4]
theorem fa_cg {p : Nat} {f g : zN} (h : AgS p f g) : faF g p = faF f p := by
  have e0 : g (8 + 5 * p) = f (8 + 5 * p) := h.2.2.2 0 (by decide)
  have e1 := h.2.2.2 1 (by decide)
  have e2 := h.2.2.2 2 (by decide)
  unfold faF
  dsimp only
  rw [e0, e1, e2, h.2.1]
theorem wk_cg {p : Nat} {fb : Bool} : ∀ {s : Nat} {f g : zN}, AgS p f g → AgS p (wkF p fb s f) (wkF p fb s g)
  | 0, f, g, h => h
  | s + 1, f, g, h => by
    have e3 := h.2.2.2 3 (by decide)
    unfold wkF
    rw [e3, h.2.2.1]
    split
    · split
      · split
        · exact AgS_up (AgS_up h)
        · exact h
      · exact wk_cg (AgS_up (AgS_up h))
    · exact h
theorem wk_un {i k : Nat} {fb : Bool} (h3 : k ≠ 8 + 5 * i + 3) (h4 : k ≠ 8 + 5 * i + 4) : ∀ {s : Nat} {f : zN}, wkF i fb s f k = f k
  | 0, f => rfl
  | s + 1, f => by
    unfold wkF
    split
    · split
      · split
        · rw [pk_un h4, pk_un h3]
        · rfl
      · rw [wk_un h3 h4, pk_un h4, pk_un h3]
    · rfl
theorem wk_ot {p i s : Nat} {fb : Bool} {f : zN} (h : i ≠ p) (hi : i < 6) : AgS p f (wkF i fb s f) := ⟨fun k hk => wk_un (by omega) (by omega), wk_un (by omega) (by omega), wk_un (by omega) (by omega), fun w hw => wk_un (by omega) (by omega)⟩
theorem hrN_lo {p : Nat} {f : zN} (hp : p < 6) : ∀ {i : Nat}, i ≤ p → AgS p f (hrN f i)
  | 0, _ => AgS_rf
  | i + 1, hi => by
    have ih := hrN_lo (f := f) hp (i := i) (by omega)
    unfold hrN
    split
    · exact AgS_tr ih (wk_ot (by omega) (by omega))
    · exact ih
theorem hrN_up {p : Nat} {f : zN} (hp : p < 6) : ∀ {j : Nat}, p + 1 + j ≤ 6 → AgS p (hrN f (p + 1)) (hrN f (p + 1 + j))
  | 0, _ => AgS_rf
  | j + 1, hj => by
    have ih := hrN_up (f := f) hp (j := j) (by omega)
    rw [show p + 1 + (j + 1) = p + 1 + j + 1 by omega]
    rw [show hrN f (p + 1 + j + 1) = if hrN f (p + 1 + j) (8 + 5 * (p + 1 + j) + 4) = 0 then wkF (p + 1 + j) (faF (hrN f (p + 1 + j)) (p + 1 + j)) (stF (hrN f (p + 1 + j)) (p + 1 + j)) (hrN f (p + 1 + j)) else hrN f (p + 1 + j) from rfl]
    split
    · exact AgS_tr ih (wk_ot (by omega) (by omega))
    · exact ih
theorem hrA_t {p : Nat} {f : zN} : ∀ i, hrA true p f i = hrN f i
  | 0 => rfl
  | i + 1 => by
    have ih := hrA_t (p := p) (f := f) i
    rw [show hrA true p f (i + 1) = if hrA true p f i (8 + 5 * i + 4) = 0 ∧ (true = true ∨ i = p) then wkF i (faF (hrA true p f i) i) (stF (hrA true p f i) i) (hrA true p f i) else hrA true p f i from rfl, ih]
    rw [show hrN f (i + 1) = if hrN f i (8 + 5 * i + 4) = 0 then wkF i (faF (hrN f i) i) (stF (hrN f i) i) (hrN f i) else hrN f i from rfl]
    by_cases h : hrN f i (8 + 5 * i + 4) = 0
    · rw [if_pos ⟨h, Or.inl rfl⟩, if_pos h]
    · rw [if_neg (fun q => h q.1), if_neg h]
theorem hrB_t {p n : Nat} {f : zN} (h : pn (f 5) = n) : hrB true p f n = hrF f := by
  unfold hrB hrF
  rw [hrA_t, h]
theorem hrA_lo {p : Nat} {f : zN} : ∀ {i : Nat}, i ≤ p → hrA false p f i = f
  | 0, _ => rfl
  | i + 1, hi => by
    have ih := hrA_lo (p := p) (f := f) (i := i) (by omega)
    rw [show hrA false p f (i + 1) = if hrA false p f i (8 + 5 * i + 4) = 0 ∧ (false = true ∨ i = p) then wkF i (faF (hrA false p f i) i) (stF (hrA false p f i) i) (hrA false p f i) else hrA false p f i from rfl, ih, if_neg (fun q => by rcases q.2 with q2 | q2; exact absurd q2 Bool.false_ne_true; omega)]
theorem hrA_hi2 {p : Nat} {f : zN} : ∀ {j : Nat}, hrA false p f (p + 1 + j) = hrA false p f (p + 1)
  | 0 => rfl
  | j + 1 => by
    have ih := hrA_hi2 (p := p) (f := f) (j := j)
    rw [show p + 1 + (j + 1) = p + 1 + j + 1 by omega]
    rw [show hrA false p f (p + 1 + j + 1) = if hrA false p f (p + 1 + j) (8 + 5 * (p + 1 + j) + 4) = 0 ∧ (false = true ∨ p + 1 + j = p) then wkF (p + 1 + j) (faF (hrA false p f (p + 1 + j)) (p + 1 + j)) (stF (hrA false p f (p + 1 + j)) (p + 1 + j)) (hrA false p f (p + 1 + j)) else hrA false p f (p + 1 + j) from rfl, if_neg (fun q => by rcases q.2 with q2 | q2; exact absurd q2 Bool.false_ne_true; omega), ih]
/-- alone, one goes as with all, unless of KIND 4 -/
theorem Ag_hr {p n : Nat} {f g : zN} (hv : vaF f n) (hp : p < n) (h : AgS p f g) (h4 : ¬ f (8 + 5 * p) = 4) : AgS p (hrF f) (hrB false p g n) := by
  have hn6 := hv.2.1
  have hpn : pn (f 5) = n := by rw [hv.1]; exact pn_nI (by omega)
  obtain ⟨j, hj⟩ : ∃ j, n = p + 1 + j := ⟨n - (p + 1), by omega⟩
  have k1 := hrN_lo (f := f) (p := p) (by omega) (Nat.le_refl p)
  have a1 : AgS p (hrN f p) g := AgS_tr (AgS_sy k1) h
  have h4' : ¬ hrN f p (8 + 5 * p) = 4 := by
    have := k1.2.2.2 0 (by decide)
    rw [show hrN f p (8 + 5 * p) = f (8 + 5 * p) from this]
    exact h4
  have a2 : AgS p (hrN f (p + 1)) (hrA false p g (p + 1)) := by
    rw [show hrN f (p + 1) = if hrN f p (8 + 5 * p + 4) = 0 then wkF p (faF (hrN f p) p) (stF (hrN f p) p) (hrN f p) else hrN f p from rfl]
    rw [show hrA false p g (p + 1) = if hrA false p g p (8 + 5 * p + 4) = 0 ∧ (false = true ∨ p = p) then wkF p (faF (hrA false p g p) p) (stF (hrA false p g p) p) (hrA false p g p) else hrA false p g p from rfl, hrA_lo (Nat.le_refl p)]
    have e4 := a1.2.2.2 4 (by decide)
    by_cases q : hrN f p (8 + 5 * p + 4) = 0
    · rw [if_pos q, if_pos ⟨e4.trans q, Or.inr rfl⟩, fa_cg a1, st_cg a1 h4']
      exact wk_cg a1
    · rw [if_neg q, if_neg (fun w => q (e4.symm.trans w.1))]
      exact a1
  have a3 : AgS p (hrN f n) (hrA false p g n) := by
    rw [hj, hrA_hi2]
    exact AgS_tr (AgS_sy (hrN_up (by omega) (by omega))) a2
  unfold hrF hrB
  rw [hpn, a3.2.1]
  exact AgS_up a3
