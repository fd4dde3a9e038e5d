/-! class and reference side by side: the relation -/
def SI (f : zN) (n t m : Nat) : Prop := vaF f n ∧ f 3 = nI t ∧ t ≤ 60 ∧ f 4 = nI m ∧ m ≤ 24 ∧ (∀ i, i < n → ∃ K : Nat, K ≤ 6 ∧ f (8 + 5 * i) = nI K) ∧ (∀ i, i < n → f (8 + 5 * i + 4) = 0 ∨ f (8 + 5 * i + 4) = 1) ∧ (∃ h : Nat, h ≤ 9999 ∧ f 0 = nI h) ∧ (∀ i, i < t → ∃ b : Nat, b < 256 ∧ f (288 + i) = nI b) ∧ stG f 0 ∧ stG f 1
def SHx (c : zS) (b z u : zN) : Prop := ∀ j, j < 4 → c 43 j = b j ∧ (b j = 0 ∨ b j = 8 ∨ b j = 16 ∨ b j = 32) ∧ c 44 j = z j ∧ ∃ s : Nat, s ≤ 24 ∧ z j = nI s ∧ ∀ i, i < s → c (46 + j) i = u (24 * j + i)
def RX (c : zS) (σ : zT) : Prop := (∃ n t m : Nat, ST c 1 8 2 3 5 6 14 15 n t m σ.1 ∧ SI σ.1 n t m) ∧ c 0 7 = σ.2.2.2.1 ∧ (¬ σ.2.2.2.1 = 0 → ∃ n t m : Nat, ST c 16 23 17 18 20 21 29 30 n t m σ.2.1 ∧ SI σ.2.1 n t m) ∧ (c 17 0 = nI 0 ∧ c 20 0 = nI 1) ∧ c 50 = σ.2.2.1 ∧ (c 40 1 = σ.2.2.2.2.1 ∧ c 41 = σ.2.2.2.2.2.1 ∧ ∃ a : Nat, a ≤ 30 ∧ σ.2.2.2.2.1 = nI a) ∧ SHx c σ.2.2.2.2.2.2.1 σ.2.2.2.2.2.2.2.1 σ.2.2.2.2.2.2.2.2
def WX (c : zS) (Qf : Int32 → zS → Prop) (r : Int32 × zT) : Prop := ∀ c1 : zS, (∀ k, 51 ≤ k → c1 k = c k) → RX c1 r.2 → Qf r.1 c1
theorem LR_cg {c c' : zS} {L C u : Nat} {f g : zN} (hu : u < 2) (h : LR c L C u f) (e : ∀ k, 38 ≤ k → g k = f k) (eL : c' L = c L) (eC : c' C = c C) : LR c' L C u g := by
  unfold LR at *
  rw [eL, eC, e _ (by omega)]
  refine ⟨h.1, h.2.1, fun i hi => ?_⟩
  rw [e _ (by omega), e _ (by omega)]
  exact h.2.2 i hi
theorem stG_cg {u : Nat} {f g : zN} (hu : u < 2) (h : stG f u) (e : ∀ k, 38 ≤ k → g k = f k) : stG g u := by
  unfold stG at *
  rw [e _ (by omega)]
  intro k hk
  rw [e _ (by omega), e _ (by omega)]
  exact h k hk
theorem ST_pr {c c' : zS} {n n' t m : Nat} {f g : zN} (h : ST c 1 8 2 3 5 6 14 15 n t m f) (hP : PR c' 8 n' g) (e : ∀ k, k = 1 ∨ k = 2 ∨ k = 3 ∨ k = 5 ∨ k = 6 ∨ k = 14 ∨ k = 15 → c' k = c k) (e2 : ∀ k, 38 ≤ k → g k = f k) (e3 : g 2 = f 2) : ST c' 1 8 2 3 5 6 14 15 n' t m g := by
  obtain ⟨h1, h2, h3, h4, h5, h6, h7, h8⟩ := h
  refine ⟨hP, LR_cg (by decide) h2 e2 (e 2 (by decide)) (e 3 (by decide)), LR_cg (by decide) h3 e2 (e 5 (by decide)) (e 6 (by decide)), by rw [e 1 (by decide)]; exact h4, by rw [e 1 (by decide)]; exact h5, by rw [e 1 (by decide), e3]; exact h6, fun i hi => by rw [e 14 (by decide), e2 _ (by omega)]; exact h7 i hi, fun i hi => by rw [e 15 (by decide), e2 _ (by omega)]; exact h8 i hi⟩
theorem SI_u {f : zN} {n t m i : Nat} {v : Int32} (h : SI f n t m) (hi : i < 38) (h3 : i ≠ 3) (h4 : i ≠ 4) (h5 : i ≠ 5) (hk : ∀ j, j < n → i = 8 + 5 * j → ∃ K : Nat, K ≤ 6 ∧ v = nI K) (hl : ∀ j, j < n → i = 8 + 5 * j + 4 → v = 0 ∨ v = 1) (h0 : i = 0 → ∃ h : Nat, h ≤ 9999 ∧ v = nI h) : SI (upd f i v) n t m := by
  obtain ⟨a1, a2, a3, a4, a5, a6, a7, a8, a9, a10, a11⟩ := h
  refine ⟨vaF_up hi h5 a1, by rw [pk_un (by omega)]; exact a2, a3, by rw [pk_un (by omega)]; exact a4, a5, fun j hj => ?_, fun j hj => ?_, ?_, fun j hj => ?_, stG_cg (by decide) a10 (fun k hk => pk_un (by omega)), stG_cg (by decide) a11 (fun k hk => pk_un (by omega))⟩
  · by_cases e : i = 8 + 5 * j
    · rw [e, pk_us]; exact hk j hj e
    · rw [pk_un (by omega)]; exact a6 j hj
  · by_cases e : i = 8 + 5 * j + 4
    · rw [e, pk_us]; exact hl j hj e
    · rw [pk_un (by omega)]; exact a7 j hj
  · by_cases e : i = 0
    · rw [e, pk_us]; exact h0 e
    · rw [pk_un (by omega)]; exact a8
  · rw [pk_un (by omega)]; exact a9 j hj
/-- outside of the State that is now, and of what is only for thinking -/
def zfr (c c' : zS) : Prop := c' 0 = c 0 ∧ ∀ k, 16 ≤ k → k ≠ 31 → k ≠ 32 → (k < 33 ∨ 39 < k) → c' k = c k
theorem zfr_rf {c : zS} : zfr c c := ⟨rfl, fun _ _ _ _ _ => rfl⟩
theorem zfr_tr {c c1 c2 : zS} (h : zfr c c1) (h2 : zfr c1 c2) : zfr c c2 := ⟨h2.1.trans h.1, fun k a b e g => (h2.2 k a b e g).trans (h.2 k a b e g)⟩
theorem zfr_u {c : zS} {k : Nat} {g : zN} (h : 1 ≤ k ∧ k ≤ 15 ∨ k = 31 ∨ k = 32 ∨ 33 ≤ k ∧ k ≤ 39) : zfr c (zup c k g) := ⟨zup_n (by omega), fun j a b e w => zup_n (by omega)⟩
theorem zfr_51 {c c' : zS} (h : zfr c c') : ∀ k, 51 ≤ k → c' k = c k := fun k hk => h.2 k (by omega) (by omega) (by omega) (by omega)
theorem zfr_th {c c' : zS} (h : zth c c') : zfr c c' := ⟨h 0 (by omega) (by decide) (by decide), fun k a b e g => h k (by omega) (by omega) (by omega)⟩
theorem ST_kept {c c' : zS} {n t m : Nat} {f : zN} (h : ST c 16 23 17 18 20 21 29 30 n t m f) (e : ∀ k, 16 ≤ k → k ≤ 30 → c' k = c k) : ST c' 16 23 17 18 20 21 29 30 n t m f := by
  obtain ⟨h1, h2, h3, h4, h5, h6, h7, h8⟩ := h
  refine ⟨PR_cg h1 (fun k a b => e k (by omega) (by omega)), LR_cg (by decide) h2 (fun _ _ => rfl) (e 17 (by decide) (by decide)) (e 18 (by decide) (by decide)), LR_cg (by decide) h3 (fun _ _ => rfl) (e 20 (by decide) (by decide)) (e 21 (by decide) (by decide)), by rw [e 16 (by decide) (by decide)]; exact h4, by rw [e 16 (by decide) (by decide)]; exact h5, by rw [e 16 (by decide) (by decide)]; exact h6, fun i hi => by rw [e 29 (by decide) (by decide)]; exact h7 i hi, fun i hi => by rw [e 30 (by decide) (by decide)]; exact h8 i hi⟩
theorem SHx_cg {c c' : zS} {b z u : zN} (h : SHx c b z u) (e : ∀ k, 43 ≤ k → k ≤ 49 → c' k = c k) : SHx c' b z u := by
  intro j hj
  obtain ⟨h1, h2, h3, s, hs, ez, hr⟩ := h j hj
  exact ⟨by rw [e 43 (by decide) (by decide)]; exact h1, h2, by rw [e 44 (by decide) (by decide)]; exact h3, s, hs, ez, fun i hi => by rw [e (46 + j) (by omega) (by omega)]; exact hr i hi⟩
theorem RX_now {c c' : zS} {σ : zT} {g : zN} (h : RX c σ) (e : zfr c c') (hs : ∃ n t m : Nat, ST c' 1 8 2 3 5 6 14 15 n t m g ∧ SI g n t m) : RX c' (wS σ g) := by
  obtain ⟨_, h2, h3, h4, h5, h6, h7⟩ := h
  have e1 : ∀ k, 16 ≤ k → k ≤ 30 → c' k = c k := fun k a b => e.2 k a (by omega) (by omega) (by omega)
  have e2 : ∀ k, 40 ≤ k → c' k = c k := fun k a => e.2 k (by omega) (by omega) (by omega) (by omega)
  refine ⟨hs, by rw [e.1]; exact h2, fun w => ?_, ?_, by rw [e2 50 (by decide)]; exact h5, ?_, SHx_cg h7 (fun k a _ => e2 k (by omega))⟩
  · obtain ⟨n, t, m, a, b⟩ := h3 w
    exact ⟨n, t, m, ST_kept a e1, b⟩
  · rw [e1 17 (by decide) (by decide), e1 20 (by decide) (by decide)]; exact h4
  · rw [e2 40 (by decide), e2 41 (by decide)]; exact h6
theorem RX_th {c c' : zS} {σ : zT} (h : RX c σ) (e : zfr c c') (e2 : ∀ k, 1 ≤ k → k ≤ 15 → k ≠ 4 → k ≠ 7 → c' k = c k) : RX c' σ := by
  obtain ⟨n, t, m, a, b⟩ := id h.1
  have : RX c' (wS σ σ.1) := RX_now h e ⟨n, t, m, ST_pr a (PR_cg a.1 (fun k x y => e2 k (by omega) (by omega) (by omega) (by omega))) (fun k hk => e2 k (by omega) (by omega) (by omega) (by omega)) (fun _ _ => rfl) rfl, b⟩
  exact this
theorem RX_zth {c c' : zS} {σ : zT} (h : RX c σ) (e : zth c c') : RX c' σ := RX_th h (zfr_th e) (fun k a b x y => e k (by omega) x y)
theorem RX_err {c : zS} {σ : zT} {k : Nat} (h : RX c σ) : RX (zup c 50 (upd (c 50) k (c 50 k + 1))) (err σ k).2 := by
  obtain ⟨⟨n, t, m, a, b⟩, h2, h3, h4, h5, h6, h7⟩ := h
  have e : ∀ j, j ≠ 50 → zup c 50 (upd (c 50) k (c 50 k + 1)) j = c j := fun j hj => zup_n hj
  generalize hc : zup c 50 (upd (c 50) k (c 50 k + 1)) = c' at e
  have e50 : c' 50 = upd (c 50) k (c 50 k + 1) := by rw [← hc, zup_s]
  refine ⟨⟨n, t, m, ST_pr a (PR_cg a.1 (fun k x y => e k (by omega))) (fun k hk => e k (by omega)) (fun _ _ => rfl) rfl, b⟩, by rw [e 0 (by decide)]; exact h2, fun w => ?_, ?_, ?_, ?_, SHx_cg h7 (fun k a b => e k (by omega))⟩
  · obtain ⟨n, t, m, a, b⟩ := h3 w
    exact ⟨n, t, m, ST_kept a (fun k x y => e k (by omega)), b⟩
  · rw [e 17 (by decide), e 20 (by decide)]; exact h4
  · rw [e50, h5]; rfl
  · rw [e 40 (by decide), e 41 (by decide)]; exact h6
theorem WX_err {c : zS} {σ : zT} {k : Nat} {Qf : Int32 → zS → Prop} (h : RX c σ) (hQ : WX c Qf (err σ k)) : Qf (-1000000000 - nI k) (zup c 50 (upd (c 50) k (c 50 k + 1))) := hQ _ (fun j hj => zup_n (by omega)) (RX_err h)
theorem WX_now {c c' : zS} {σ : zT} {g : zN} {r : Int32} {Qf : Int32 → zS → Prop} (h : RX c σ) (hQ : WX c Qf (r, wS σ g)) (e : zfr c c') (hs : ∃ n t m : Nat, ST c' 1 8 2 3 5 6 14 15 n t m g ∧ SI g n t m) : Qf r c' := hQ _ (zfr_51 e) (RX_now h e hs)
theorem WX_zth {c c' : zS} {σ : zT} {r : Int32} {Qf : Int32 → zS → Prop} (h : RX c σ) (hQ : WX c Qf (r, σ)) (e : zth c c') : Qf r c' := hQ _ (zfr_51 (zfr_th e)) (RX_zth h e)
theorem WX_rf {c : zS} {σ : zT} {r : Int32} {Qf : Int32 → zS → Prop} (h : RX c σ) (hQ : WX c Qf (r, σ)) : Qf r c := hQ _ (fun _ _ => rfl) h
/-- an error behind a thought -/
theorem WX_therr {c c' : zS} {σ : zT} {k : Nat} {Qf : Int32 → zS → Prop} (h : RX c σ) (hQ : WX c Qf (err σ k)) (e : zth c c') : Qf (-1000000000 - nI k) (zup c' 50 (upd (c' 50) k (c' 50 k + 1))) := hQ _ (fun j hj => by rw [zup_n (by omega)]; exact zfr_51 (zfr_th e) j hj) (RX_err (RX_zth h e))
theorem lt_m1 {p : Int32} {n : Nat} (hn : n ≤ 6) : (0 ≤ p ∧ p < nI n) ↔ (0 ≤ p ∧ p ≤ nI n - 1) := by
  rcases Nat.eq_zero_or_pos n with rfl | h
  · constructor
    · intro ⟨a, b⟩
      exfalso
      rw [Int32.le_iff_toInt_le] at a
      rw [Int32.lt_iff_toInt_lt] at b
      have : (nI 0 : Int32).toInt = 0 := rfl
      have : (0 : Int32).toInt = 0 := rfl
      omega
    · intro ⟨a, b⟩
      exfalso
      rw [Int32.le_iff_toInt_le] at a b
      have : (nI 0 - 1 : Int32).toInt = -1 := rfl
      have : (0 : Int32).toInt = 0 := rfl
      omega
  · rw [zi_m1 h, Int32.lt_iff_toInt_lt, Int32.le_iff_toInt_le, Int32.le_iff_toInt_le, nI_toInt (by omega), nI_toInt (by omega)]
    omega
theorem RX_isP {c : zS} {σ : zT} {p : Int32} (h : RX c σ) : (0 ≤ p ∧ p < c 8 7) ↔ isP σ p := by
  obtain ⟨n, t, m, a, b⟩ := h.1
  rw [show c 8 7 = nI n from a.1.1]
  unfold isP
  rw [show σ.1 5 = nI n from b.1.1]
  exact lt_m1 b.1.2.1
section RXM
variable {l : Launch} {E : zE} {ad : Nat → Nat} {c : zS} {Qf : Int32 → zS → Prop} {d n : Nat}
theorem s_refuse {k : Int32} {j : Nat} (hk : k = nI j) (hj : j < 7) (hQ : Qf (-1000000000 - nI j) (zup c 50 (upd (c 50) j (c 50 j + 1)))) : zCl l E ad mX7_refuse d [.ref (ad 0), .int k] c Qf := by
  subst hk
  refine z_enter (own := RX7) [some (.ref (ad 0)), some (.int (nI j))] (by decide +kernel) rfl rfl rfl (Nat.le_of_ble_eq_true rfl) ?_
  refine z_aload_n (i := 0) dX7_refuse_0 rfl rfl ?_
  refine z_getf dX7_refuse_1 f_X7_59 (by first | decide | assumption | omega) rfl (by rfl) ?_
  refine z_iload_n (i := 1) dX7_refuse_4 rfl rfl ?_
  refine z_dup2 dX7_refuse_5 rfl rfl ?_
  refine z_iald (j := j) dX7_refuse_6 (by first | decide | assumption | omega) rfl (by rfl) (by first | decide | omega) (by first | decide | omega) ?_
  refine z_iconst (v := 1) dX7_refuse_7 (by decide) ?_
  refine z_iadd dX7_refuse_8 ?_
  refine z_iast (j := j) dX7_refuse_9 (by first | decide | assumption | omega) (fun _ => rfl) (by rfl) (by first | decide | omega) (by first | decide | omega) ?_
  refine z_ldc_w dX7_refuse_10 k_X7_285 ?_
  refine z_iload_n (i := 1) dX7_refuse_13 rfl rfl ?_
  refine z_isub dX7_refuse_14 ?_
  exact z_ret dX7_refuse_15 hQ trivial rfl
theorem s_isPerson {p : Int32} {σ : zT} (hX : RX c σ) (hQ : Qf (if 0 ≤ p ∧ p ≤ σ.1 5 - 1 then 1 else 0) c) : zCl l E ad mX7_isPerson d [.ref (ad 0), .int p] c Qf := by
  have hP := RX_isP (p := p) hX
  have e : (if 0 ≤ p ∧ p ≤ σ.1 5 - 1 then (1 : Int32) else 0) = (if 0 ≤ p ∧ p < c 8 7 then 1 else 0) := by
    by_cases w : 0 ≤ p ∧ p ≤ σ.1 5 - 1
    · rw [if_pos w, if_pos (hP.mpr w)]
    · rw [if_neg w, if_neg (mt hP.mp w)]
  rw [e] at hQ
  refine z_enter (own := RX7) [some (.ref (ad 0)), some (.int p)] (by decide +kernel) rfl rfl rfl (Nat.le_of_ble_eq_true rfl) ?_
  refine z_iload_n (i := 1) dX7_isPerson_0 rfl rfl ?_
  refine z_if_lt 22 dX7_isPerson_1 (by decide) (fun h_1 => ?_) (fun h_1 => ?_)
  · refine z_iconst (v := 0) dX7_isPerson_22 (by decide) ?_
    exact z_ret dX7_isPerson_23 (by grind) (by rfl) rfl
  · refine z_iload_n (i := 1) dX7_isPerson_4 rfl rfl ?_
    refine z_aload_n (i := 0) dX7_isPerson_5 rfl rfl ?_
    refine z_getf dX7_isPerson_6 f_X7_10 (by first | decide | assumption | omega) rfl (by rfl) ?_
    refine z_getf dX7_isPerson_9 f_X7_34 (by first | decide | assumption | omega) rfl (by rfl) ?_
    refine z_getf dX7_isPerson_12 f_X7_77 (by first | decide | assumption | omega) rfl (by rfl) ?_
    refine z_icmp_ge 22 dX7_isPerson_15 (by decide) (fun h_15 => ?_) (fun h_15 => ?_)
    · refine z_iconst (v := 0) dX7_isPerson_22 (by decide) ?_
      exact z_ret dX7_isPerson_23 (by grind) (by rfl) rfl
    · refine z_iconst (v := 1) dX7_isPerson_18 (by decide) ?_
      refine z_goto 23 dX7_isPerson_19 (by decide) ?_
      exact z_ret dX7_isPerson_23 (by grind) (by rfl) rfl
theorem s_isWithin {v lo hi : Int32} (hQ : Qf (if lo ≤ v ∧ v ≤ hi then 1 else 0) c) : zCl l E ad mX7_isWithin d [.int v, .int lo, .int hi] c Qf := by
  refine z_enter (own := RX7) [some (.int v), some (.int lo), some (.int hi)] (by decide +kernel) rfl rfl rfl (Nat.le_of_ble_eq_true rfl) ?_
  refine z_iload_n (i := 0) dX7_isWithin_0 rfl rfl ?_
  refine z_iload_n (i := 1) dX7_isWithin_1 rfl rfl ?_
  refine z_icmp_lt 14 dX7_isWithin_2 (by decide) (fun h_2 => ?_) (fun h_2 => ?_)
  · refine z_iconst (v := 0) dX7_isWithin_14 (by decide) ?_
    exact z_ret dX7_isWithin_15 (by grind) (by rfl) rfl
  · refine z_iload_n (i := 0) dX7_isWithin_5 rfl rfl ?_
    refine z_iload_n (i := 2) dX7_isWithin_6 rfl rfl ?_
    refine z_icmp_gt 14 dX7_isWithin_7 (by decide) (fun h_7 => ?_) (fun h_7 => ?_)
    · refine z_iconst (v := 0) dX7_isWithin_14 (by decide) ?_
      exact z_ret dX7_isWithin_15 (by grind) (by rfl) rfl
    · refine z_iconst (v := 1) dX7_isWithin_10 (by decide) ?_
      refine z_goto 15 dX7_isWithin_11 (by decide) ?_
      exact z_ret dX7_isWithin_15 (by grind) (by rfl) rfl
theorem s_isKindAndNumber {v : Int32} (hd : 1 ≤ d) (hQ : Qf (if 0 ≤ v ∧ v ≤ 69 then 1 else 0) c) : zCl l E ad mX7_isKindAndNumber d [.int v] c Qf := by
  refine z_enter (own := RX7) [some (.int v)] (by decide +kernel) rfl rfl rfl (Nat.le_of_ble_eq_true rfl) ?_
  refine z_iload_n (i := 0) dX7_isKindAndNumber_0 rfl rfl ?_
  refine z_iconst (v := 0) dX7_isKindAndNumber_1 (by decide) ?_
  refine z_bipush (v := 69) dX7_isKindAndNumber_2 (by decide) ?_
  refine z_Sb (As := [_, _, _]) dX7_isKindAndNumber_4 (by rfl) v_X7_isWithin l_X7_115 rfl (by omega) (by decide) (Nat.le_of_ble_eq_true rfl) ?_
  refine s_isWithin ?_
  exact z_ret dX7_isKindAndNumber_7 hQ (by show narrow _ _ = _; split <;> rfl) rfl
theorem s_isSure {v : Int32} (hd : 1 ≤ d) (hQ : Qf (if 0 ≤ v ∧ v ≤ 99 then 1 else 0) c) : zCl l E ad mX7_isSure d [.int v] c Qf := by
  refine z_enter (own := RX7) [some (.int v)] (by decide +kernel) rfl rfl rfl (Nat.le_of_ble_eq_true rfl) ?_
  refine z_iload_n (i := 0) dX7_isSure_0 rfl rfl ?_
  refine z_iconst (v := 0) dX7_isSure_1 (by decide) ?_
  refine z_bipush (v := 99) dX7_isSure_2 (by decide) ?_
  refine z_Sb (As := [_, _, _]) dX7_isSure_4 (by rfl) v_X7_isWithin l_X7_115 rfl (by omega) (by decide) (Nat.le_of_ble_eq_true rfl) ?_
  refine s_isWithin ?_
  exact z_ret dX7_isSure_7 hQ (by show narrow _ _ = _; split <;> rfl) rfl
theorem s_isCell {v : Int32} (hd : 1 ≤ d) (hQ : Qf (if 0 ≤ v ∧ v ≤ 15 then 1 else 0) c) : zCl l E ad mX7_isCell d [.int v] c Qf := by
  refine z_enter (own := RX7) [some (.int v)] (by decide +kernel) rfl rfl rfl (Nat.le_of_ble_eq_true rfl) ?_
  refine z_iload_n (i := 0) dX7_isCell_0 rfl rfl ?_
  refine z_iconst (v := 0) dX7_isCell_1 (by decide) ?_
  refine z_bipush (v := 15) dX7_isCell_2 (by decide) ?_
  refine z_Sb (As := [_, _, _]) dX7_isCell_4 (by rfl) v_X7_isWithin l_X7_115 rfl (by omega) (by decide) (Nat.le_of_ble_eq_true rfl) ?_
  refine s_isWithin ?_
  exact z_ret dX7_isCell_7 hQ (by show narrow _ _ = _; split <;> rfl) rfl
theorem s_isNear {v : Int32} (hd : 1 ≤ d) (hQ : Qf (if 0 ≤ v ∧ v ≤ 20 then 1 else 0) c) : zCl l E ad mX7_isNear d [.int v] c Qf := by
  refine z_enter (own := RX7) [some (.int v)] (by decide +kernel) rfl rfl rfl (Nat.le_of_ble_eq_true rfl) ?_
  refine z_iload_n (i := 0) dX7_isNear_0 rfl rfl ?_
  refine z_iconst (v := 0) dX7_isNear_1 (by decide) ?_
  refine z_bipush (v := 20) dX7_isNear_2 (by decide) ?_
  refine z_Sb (As := [_, _, _]) dX7_isNear_4 (by rfl) v_X7_isWithin l_X7_115 rfl (by omega) (by decide) (Nat.le_of_ble_eq_true rfl) ?_
  refine s_isWithin ?_
  exact z_ret dX7_isNear_7 hQ (by show narrow _ _ = _; split <;> rfl) rfl
theorem s_isUse {v : Int32} (hd : 1 ≤ d) (hQ : Qf (if 0 ≤ v ∧ v ≤ 1 then 1 else 0) c) : zCl l E ad mX7_isUse d [.int v] c Qf := by
  refine z_enter (own := RX7) [some (.int v)] (by decide +kernel) rfl rfl rfl (Nat.le_of_ble_eq_true rfl) ?_
  refine z_iload_n (i := 0) dX7_isUse_0 rfl rfl ?_
  refine z_iconst (v := 0) dX7_isUse_1 (by decide) ?_
  refine z_iconst (v := 1) dX7_isUse_2 (by decide) ?_
  refine z_Sb (As := [_, _, _]) dX7_isUse_3 (by rfl) v_X7_isWithin l_X7_115 rfl (by omega) (by decide) (Nat.le_of_ble_eq_true rfl) ?_
  refine s_isWithin ?_
  exact z_ret dX7_isUse_6 hQ (by show narrow _ _ = _; split <;> rfl) rfl
theorem s_isSheet {v : Int32} (hd : 1 ≤ d) (hQ : Qf (if 0 ≤ v ∧ v ≤ 3 then 1 else 0) c) : zCl l E ad mX7_isSheet d [.int v] c Qf := by
  refine z_enter (own := RX7) [some (.int v)] (by decide +kernel) rfl rfl rfl (Nat.le_of_ble_eq_true rfl) ?_
  refine z_iload_n (i := 0) dX7_isSheet_0 rfl rfl ?_
  refine z_iconst (v := 0) dX7_isSheet_1 (by decide) ?_
  refine z_iconst (v := 3) dX7_isSheet_2 (by decide) ?_
  refine z_Sb (As := [_, _, _]) dX7_isSheet_3 (by rfl) v_X7_isWithin l_X7_115 rfl (by omega) (by decide) (Nat.le_of_ble_eq_true rfl) ?_
  refine s_isWithin ?_
  exact z_ret dX7_isSheet_6 hQ (by show narrow _ _ = _; split <;> rfl) rfl
end RXM
