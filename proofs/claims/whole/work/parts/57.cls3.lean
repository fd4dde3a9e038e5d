/-! the class's calls: as, tell, check, count, body -/
theorem lt_m60 {p : Int32} {n : Nat} (hn : n ≤ 60) : (0 ≤ p ∧ p ≤ nI n - 1) → ∃ j : Nat, j < n ∧ p = nI j := by
  intro h
  rcases Nat.eq_zero_or_pos n with rfl | h0
  · exfalso
    have a := h.1
    have b := h.2
    rw [Int32.le_iff_toInt_le] at a b
    have : (nI 0 - 1 : Int32).toInt = -1 := rfl
    have : (0 : Int32).toInt = 0 := rfl
    omega
  · rw [zi_m1 h0] at h
    refine zj_of h.1 ?_ (by omega)
    have b := h.2
    rw [Int32.le_iff_toInt_le, nI_toInt (by omega)] at b
    rw [Int32.lt_iff_toInt_lt, nI_toInt (by omega)]
    omega
theorem lt_m60' {j n : Nat} (hn : n ≤ 60) (hj : j < n) : 0 ≤ nI j ∧ nI j ≤ nI n - 1 := by
  rw [zi_m1 (by omega)]
  exact ⟨nI_pos' (by omega), (nI_leI (by omega) (by omega)).mpr (by omega)⟩
theorem hm_ge {e r : zN} {z n : Nat} : ∀ {f i : Nat}, i ≤ z → i ≤ hmF e r z n f i ∧ hmF e r z n f i ≤ z
  | 0, i, h => ⟨Nat.le_refl _, h⟩
  | f + 1, i, h => by
    unfold hmF
    split
    · next q =>
      have := hm_ge (e := e) (r := r) (z := z) (n := n) (f := f) (i := i + 1) (by omega)
      omega
    · exact ⟨Nat.le_refl _, h⟩
theorem hm_ck {e r f : zN} {z n : Nat} (hz : z ≤ 24) (he : ∀ i, i < n → e i = f (8 + 5 * i + 2)) (hr : ∀ i, i < z → r i = f (348 + i)) : ∀ {m k fu : Nat}, m + k = z → m < fu → ckN f n m k = if hmF e r z n fu k = z then 0 else 1 + nI (hmF e r z n fu k)
  | 0, k, fu, h, hf => by
    obtain ⟨q, rfl⟩ : ∃ q, fu = q + 1 := ⟨fu - 1, by omega⟩
    have hk : k = z := by omega
    have e1 : hmF e r z n (q + 1) k = k := by
      rw [show hmF e r z n (q + 1) k = if k < z ∧ k < n ∧ r k = e k then hmF e r z n q (k + 1) else k from rfl]
      exact if_neg (fun w => by omega)
    rw [e1, if_pos hk]
    rfl
  | m + 1, k, fu, h, hf => by
    obtain ⟨q, rfl⟩ : ∃ q, fu = q + 1 := ⟨fu - 1, by omega⟩
    have ih := hm_ck hz he hr (m := m) (k := k + 1) (fu := q) (by omega) (by omega)
    have e0 : hmF e r z n (q + 1) k = if k < z ∧ k < n ∧ r k = e k then hmF e r z n q (k + 1) else k := rfl
    rw [show ckN f n (m + 1) k = if k < n ∧ f (348 + k) = f (8 + 5 * k + 2) then ckN f n m (k + 1) else 1 + nI k from rfl]
    by_cases w : k < n ∧ f (348 + k) = f (8 + 5 * k + 2)
    · have e1 : hmF e r z n (q + 1) k = hmF e r z n q (k + 1) := by
        rw [e0]
        exact if_pos ⟨by omega, w.1, by rw [hr k (by omega), he k w.1]; exact w.2⟩
      rw [if_pos w, e1]
      exact ih
    · have e1 : hmF e r z n (q + 1) k = k := by
        rw [e0]
        exact if_neg (fun q2 => w ⟨q2.2.1, by rw [← hr k (by omega), ← he k q2.2.1]; exact q2.2.2⟩)
      rw [if_neg w, e1, if_neg (by omega)]
theorem LR_cb {c c' : zS} {L C u : Nat} {f g : zN} (hu : u < 2) (h : LR c L C u f) (hw : wfT f u) (e : ∀ k, 38 ≤ k → k < 288 → g k = f k) (eL : c' L = c L) (eC : c' C = c C) : LR c' L C u g := by
  obtain ⟨s, hs, es, -⟩ := hw
  have ep : pn (f (38 + 125 * u)) = s := by rw [es]; exact pn_nI (by omega)
  unfold LR at *
  rw [eL, eC, e _ (by omega) (by omega)]
  rw [ep] at h ⊢
  refine ⟨h.1, h.2.1, fun i hi => ?_⟩
  rw [e _ (by omega) (by omega), e _ (by omega) (by omega)]
  exact h.2.2 i hi
theorem stG_cb {u : Nat} {f g : zN} (hu : u < 2) (h : stG f u) (hw : wfT f u) (e : ∀ k, 38 ≤ k → k < 288 → g k = f k) : stG g u := by
  obtain ⟨s, hs, es, -⟩ := hw
  have ep : pn (f (38 + 125 * u)) = s := by rw [es]; exact pn_nI (by omega)
  unfold stG at *
  rw [e _ (by omega) (by omega)]
  rw [ep] at h ⊢
  intro k hk
  rw [e _ (by omega) (by omega), e _ (by omega) (by omega)]
  exact h k hk
theorem wfT_cb {u : Nat} {f g : zN} (hu : u < 2) (hw : wfT f u) (e : ∀ k, 38 ≤ k → k < 288 → g k = f k) : wfT g u := by
  obtain ⟨s, hs, es, hr⟩ := hw
  refine ⟨s, hs, by rw [e _ (by omega) (by omega)]; exact es, fun h0 => ⟨?_, fun k hk h1 => ?_⟩⟩
  · rw [← (hr h0).1]
    exact dpR_cg (fun k hk => ⟨e _ (by omega) (by omega), e _ (by omega) (by omega)⟩)
  · rw [e _ (by omega) (by omega)] at h1
    rw [e _ (by omega) (by omega)]
    exact (hr h0).2 k hk h1
theorem SI_cb {f g : zN} {n t m t' m' : Nat} (h : SI f n t m) (e : ∀ k, 38 ≤ k → k < 288 → g k = f k) (e2 : ∀ k, k = 0 ∨ k = 5 ∨ 8 ≤ k ∧ k < 38 → g k = f k) (h3 : g 3 = nI t') (ht : t' ≤ 60) (h4 : g 4 = nI m') (hm : m' ≤ 24) (hb : ∀ i, i < t' → ∃ b : Nat, b < 256 ∧ g (288 + i) = nI b) : SI g n t' m' := by
  obtain ⟨a1, a2, a3, a4, a5, a6, a7, a8, a9, a10, a11⟩ := h
  have hn6 := a1.2.1
  refine ⟨⟨by rw [e2 5 (by decide)]; exact a1.1, a1.2.1, wfT_cb (by decide) a1.2.2.1 e, wfT_cb (by decide) a1.2.2.2 e⟩, h3, ht, h4, hm, fun i hi => by rw [e2 _ (by omega)]; exact a6 i hi, fun i hi => by rw [e2 _ (by omega)]; exact a7 i hi, by rw [e2 0 (by decide)]; exact a8, hb, stG_cb (by decide) a10 a1.2.2.1 e, stG_cb (by decide) a11 a1.2.2.2 e⟩
theorem PR_f {c c' : zS} {P n : Nat} {f g : zN} (h : PR c P n f) (hn : n ≤ 6) (e : ∀ k, P ≤ k → k ≤ P + 5 → c' k = c k) (e2 : ∀ k, k = 0 ∨ k = 1 ∨ 8 ≤ k ∧ k < 38 → g k = f k) : PR c' P n g := by
  have h := PR_cg h e
  obtain ⟨a1, a2, a3, a4⟩ := h
  exact ⟨a1, by rw [e2 1 (by decide)]; exact a2, by rw [e2 0 (by decide)]; exact a3, fun i hi => by rw [e2 _ (by omega), e2 _ (by omega), e2 _ (by omega), e2 _ (by omega), e2 _ (by omega)]; exact a4 i hi⟩
theorem ST_cb {c c' : zS} {f g : zN} {n t m t' m' : Nat} (h : ST c 1 8 2 3 5 6 14 15 n t m f) (hv : vaF f n) (ec : ∀ k, k = 2 ∨ k = 3 ∨ k = 5 ∨ k = 6 ∨ 8 ≤ k ∧ k ≤ 13 → c' k = c k) (e : ∀ k, 38 ≤ k → k < 288 → g k = f k) (e2 : ∀ k, k = 0 ∨ k = 1 ∨ 8 ≤ k ∧ k < 38 → g k = f k) (h4 : c' 1 4 = nI t') (h6 : c' 1 6 = nI m') (h7 : c' 1 7 = g 2) (hA : ∀ i, i < t' → c' 14 i = g (288 + i)) (hW : ∀ i, i < m' → c' 15 i = g (348 + i)) : ST c' 1 8 2 3 5 6 14 15 n t' m' g := by
  obtain ⟨a1, a2, a3, -⟩ := h
  exact ⟨PR_f a1 hv.2.1 (fun k a b => ec k (by omega)) e2, LR_cb (by decide) a2 hv.2.2.1 e (ec 2 (by decide)) (ec 3 (by decide)), LR_cb (by decide) a3 hv.2.2.2 e (ec 5 (by decide)) (ec 6 (by decide)), h4, h6, h7, hA, hW⟩
section X3
variable {l : Launch} {E : zE} {ad : Nat → Nat} {c : zS} {Qf : Int32 → zS → Prop} {d n : Nat} {σ : zT}
theorem s_isKindOrUnder {K : Nat} {a : Int32} (hK : K < 7) (hQ : Qf (if a = nI K ∨ a = 0 ∨ (K = 4 ∧ a = 1) ∨ (K = 5 ∧ a = 2) then 1 else 0) c) : zCl l E ad mX7_isKindOrUnder d [.int (nI K), .int a] c Qf := by
  refine z_enter (own := RX7) [some (.int (nI K)), some (.int a), none, none] (by decide +kernel) rfl rfl rfl (Nat.le_of_ble_eq_true rfl) ?_
  have stp : ∀ (k i : Nat) (k' : Int32), k < 7 → i < 7 → zAbove.getD k 0 = k' → (a = nI k → Qf 1 c) → (¬ a = nI k → zW l E ad RX7 cX7_isKindOrUnder 4 3 d Qf 4 [some (.int (nI K)), some (.int a), some (.int k'), some (.int (nI (i + 1)))] [] c) → zW l E ad RX7 cX7_isKindOrUnder 4 3 d Qf 4 [some (.int (nI K)), some (.int a), some (.int (nI k)), some (.int (nI i))] [] c := by
    intro k i k' hk hi hz q1 q2
    have hlt := nI_leI (a := 7) (b := i) (by omega) (by omega)
    have hp := nI_pos' (n := k) (by omega)
    refine z_iload_n (i := 3) dX7_isKindOrUnder_4 rfl rfl ?_
    refine z_bipush (v := 7) dX7_isKindOrUnder_5 (by decide) ?_
    refine z_icmp_ge 33 dX7_isKindOrUnder_7 (by decide) (fun h_7 => ?_) (fun h_7 => ?_)
    · exfalso; have := hlt.mp h_7; omega
    refine z_iload_n (i := 2) dX7_isKindOrUnder_10 rfl rfl ?_
    refine z_if_lt 33 dX7_isKindOrUnder_11 (by decide) (fun h_11 => ?_) (fun h_11 => ?_)
    · exfalso; grind
    refine z_iload_n (i := 2) dX7_isKindOrUnder_14 rfl rfl ?_
    refine z_iload_n (i := 1) dX7_isKindOrUnder_15 rfl rfl ?_
    refine z_icmp_ne 21 dX7_isKindOrUnder_16 (by decide) (fun h_16 => ?_) (fun h_16 => ?_)
    · refine z_gsAbove dX7_isKindOrUnder_21 f_X7_286 ?_
      refine z_iload_n (i := 2) dX7_isKindOrUnder_24 rfl rfl ?_
      refine z_above (j := k) dX7_isKindOrUnder_25 rfl hk (by decide) hz ?_
      refine z_istore_n (i := 2) [_, _, _, _] dX7_isKindOrUnder_26 rfl (by decide) rfl rfl ?_
      refine z_iinc (i := 3) (v := 1) [_, _, _, _] dX7_isKindOrUnder_27 rfl (by decide) (by decide) rfl rfl ?_
      refine z_goto 4 dX7_isKindOrUnder_30 (by decide) ?_
      rw [nI_1]
      exact q2 (fun w => by first | exact h_16 w.symm | exact (by assumption : ¬ nI k = a) w.symm)
    · refine z_iconst (v := 1) dX7_isKindOrUnder_19 (by decide) ?_
      exact z_ret (r := 1) dX7_isKindOrUnder_20 (q1 (Eq.symm (by first | exact h_16 | exact Classical.not_not.mp h_16))) (by rfl) rfl
  have fin : ∀ i, i < 7 → Qf 0 c → zW l E ad RX7 cX7_isKindOrUnder 4 3 d Qf 4 [some (.int (nI K)), some (.int a), some (.int (-1)), some (.int (nI i))] [] c := by
    intro i hi q
    have hlt := nI_leI (a := 7) (b := i) (by omega) (by omega)
    refine z_iload_n (i := 3) dX7_isKindOrUnder_4 rfl rfl ?_
    refine z_bipush (v := 7) dX7_isKindOrUnder_5 (by decide) ?_
    refine z_icmp_ge 33 dX7_isKindOrUnder_7 (by decide) (fun h_7 => ?_) (fun h_7 => ?_)
    · exfalso; have := hlt.mp h_7; omega
    refine z_iload_n (i := 2) dX7_isKindOrUnder_10 rfl rfl ?_
    refine z_if_lt 33 dX7_isKindOrUnder_11 (by decide) (fun h_11 => ?_) (fun h_11 => ?_)
    rotate_left
    · exact absurd (by decide) h_11
    refine z_iconst (v := 0) dX7_isKindOrUnder_33 (by decide) ?_
    exact z_ret (r := 0) dX7_isKindOrUnder_34 q (by rfl) rfl
  have q1 : (a = nI K ∨ a = 0 ∨ (K = 4 ∧ a = 1) ∨ (K = 5 ∧ a = 2)) → Qf 1 c := fun w => by rw [if_pos w] at hQ; exact hQ
  have q0 : ¬ (a = nI K ∨ a = 0 ∨ (K = 4 ∧ a = 1) ∨ (K = 5 ∧ a = 2)) → Qf 0 c := fun w => by rw [if_neg w] at hQ; exact hQ
  refine z_iload_n (i := 0) dX7_isKindOrUnder_0 rfl rfl ?_
  refine z_istore_n (i := 2) [_, _, _, _] dX7_isKindOrUnder_1 rfl (by decide) rfl rfl ?_
  refine z_iconst (v := 0) dX7_isKindOrUnder_2 (by decide) ?_
  refine z_istore_n (i := 3) [_, _, _, _] dX7_isKindOrUnder_3 rfl (by decide) rfl rfl ?_
  rcases (show K = 0 ∨ K = 1 ∨ K = 2 ∨ K = 3 ∨ K = 4 ∨ K = 5 ∨ K = 6 by omega) with rfl | rfl | rfl | rfl | rfl | rfl | rfl
  · exact stp 0 0 (-1) (by decide) (by decide) rfl (fun w => q1 (Or.inl w)) (fun w => fin 1 (by decide) (q0 (fun z => by rcases z with z | z | z | z; exact w z; exact w z; exact absurd z.1 (by decide); exact absurd z.1 (by decide))))
  · exact stp 1 0 0 (by decide) (by decide) rfl (fun w => q1 (Or.inl w)) (fun w => stp 0 1 (-1) (by decide) (by decide) rfl (fun w2 => q1 (Or.inr (Or.inl w2))) (fun w2 => fin 2 (by decide) (q0 (fun z => by rcases z with z | z | z | z; exact w z; exact w2 z; exact absurd z.1 (by decide); exact absurd z.1 (by decide)))))
  · exact stp 2 0 0 (by decide) (by decide) rfl (fun w => q1 (Or.inl w)) (fun w => stp 0 1 (-1) (by decide) (by decide) rfl (fun w2 => q1 (Or.inr (Or.inl w2))) (fun w2 => fin 2 (by decide) (q0 (fun z => by rcases z with z | z | z | z; exact w z; exact w2 z; exact absurd z.1 (by decide); exact absurd z.1 (by decide)))))
  · exact stp 3 0 0 (by decide) (by decide) rfl (fun w => q1 (Or.inl w)) (fun w => stp 0 1 (-1) (by decide) (by decide) rfl (fun w2 => q1 (Or.inr (Or.inl w2))) (fun w2 => fin 2 (by decide) (q0 (fun z => by rcases z with z | z | z | z; exact w z; exact w2 z; exact absurd z.1 (by decide); exact absurd z.1 (by decide)))))
  · exact stp 4 0 1 (by decide) (by decide) rfl (fun w => q1 (Or.inl w)) (fun w => stp 1 1 0 (by decide) (by decide) rfl (fun w2 => q1 (Or.inr (Or.inr (Or.inl ⟨rfl, w2⟩)))) (fun w2 => stp 0 2 (-1) (by decide) (by decide) rfl (fun w3 => q1 (Or.inr (Or.inl w3))) (fun w3 => fin 3 (by decide) (q0 (fun z => by rcases z with z | z | z | z; exact w z; exact w3 z; exact w2 z.2; exact absurd z.1 (by decide))))))
  · exact stp 5 0 2 (by decide) (by decide) rfl (fun w => q1 (Or.inl w)) (fun w => stp 2 1 0 (by decide) (by decide) rfl (fun w2 => q1 (Or.inr (Or.inr (Or.inr ⟨rfl, w2⟩)))) (fun w2 => stp 0 2 (-1) (by decide) (by decide) rfl (fun w3 => q1 (Or.inr (Or.inl w3))) (fun w3 => fin 3 (by decide) (q0 (fun z => by rcases z with z | z | z | z; exact w z; exact w3 z; exact absurd z.1 (by decide); exact w2 z.2)))))
  · exact stp 6 0 0 (by decide) (by decide) rfl (fun w => q1 (Or.inl w)) (fun w => stp 0 1 (-1) (by decide) (by decide) rfl (fun w2 => q1 (Or.inr (Or.inl w2))) (fun w2 => fin 2 (by decide) (q0 (fun z => by rcases z with z | z | z | z; exact w z; exact w2 z; exact absurd z.1 (by decide); exact absurd z.1 (by decide)))))
theorem x_as {p k : Int32} (hX : RX c σ) (hd : 8 ≤ d) (hQ : WX c Qf (o_as σ p k)) : zCl l E ad mX7_as d [.ref (ad 0), .int p, .int k] c Qf := by
  obtain ⟨n, t, m, hS, hI⟩ := id hX.1
  have hn6 := hI.1.2.1
  refine z_enter (own := RX7) [some (.ref (ad 0)), some (.int p), some (.int k)] (by decide +kernel) rfl rfl rfl (Nat.le_of_ble_eq_true rfl) ?_
  by_cases hok : isP σ p ∧ 0 ≤ k ∧ k ≤ 6
  · obtain ⟨j, hj, rfl⟩ := isP_of (f := σ.1) hok.1 hI.1.1 hn6
    have epj : pn (nI j) = j := pn_nI (by omega)
    have hR := hS.1.2.2.2 j hj
    obtain ⟨K, hK, eK⟩ := hI.2.2.2.2.2.1 j hj
    have hpc : (0 ≤ nI j ∧ nI j ≤ σ.1 5 - 1) ∧ 0 ≤ k ∧ k ≤ 6 := hok
    have a4 : nI K = 4 ↔ K = 4 := nI_eq (a := K) (b := 4) (by omega) (by omega)
    have a5 : nI K = 5 ↔ K = 5 := nI_eq (a := K) (b := 5) (by omega) (by omega)
    unfold o_as at hQ
    rw [if_pos hok, epj, eK] at hQ
    simp only [a4, a5] at hQ
    refine z_aload_n (i := 0) dX7_as_0 rfl rfl ?_
    refine z_iload_n (i := 1) dX7_as_1 rfl rfl ?_
    refine z_Vb (As := [_]) dX7_as_2 (by rfl) v_X7_isPerson l_X7_86 (by first | decide | assumption | omega) rfl rfl rfl (by omega) (by decide) (Nat.le_of_ble_eq_true rfl) ?_
    refine s_isPerson hX ?_
    refine z_if_eq 18 dX7_as_5 (by decide) (fun h_5 => ?_) (fun h_5 => ?_)
    · exfalso; exact absurd hpc.1 (bite.mp (by first | exact h_5 | exact Classical.not_not.mp h_5))
    refine z_iload_n (i := 2) dX7_as_8 rfl rfl ?_
    refine z_iconst (v := 0) dX7_as_9 (by decide) ?_
    refine z_bipush (v := 6) dX7_as_10 (by decide) ?_
    refine z_Sb (As := [_, _, _]) dX7_as_12 (by rfl) v_X7_isWithin l_X7_115 rfl (by omega) (by decide) (Nat.le_of_ble_eq_true rfl) ?_
    refine s_isWithin ?_
    refine z_if_ne 24 dX7_as_15 (by decide) (fun h_15 => ?_) (fun h_15 => ?_)
    rotate_left
    · exfalso; exact absurd hpc.2 (bite.mp (by first | exact h_15 | exact Classical.not_not.mp h_15))
    refine z_aload_n (i := 0) dX7_as_24 rfl rfl ?_
    refine z_getf dX7_as_25 f_X7_10 (by first | decide | assumption | omega) rfl (by rfl) ?_
    refine z_getf dX7_as_28 f_X7_34 (by first | decide | assumption | omega) rfl (by rfl) ?_
    refine z_getf dX7_as_31 f_X7_89 (by first | decide | assumption | omega) rfl (by rfl) ?_
    refine z_iload_n (i := 1) dX7_as_34 rfl rfl ?_
    refine z_iald (j := j) dX7_as_35 (by first | decide | assumption | omega) rfl (by rfl) (by first | decide | omega) (by first | decide | omega) ?_
    rw [hR.1, eK]
    refine z_iload_n (i := 2) dX7_as_36 rfl rfl ?_
    refine z_Sb (As := [_, _]) dX7_as_37 (by rfl) v_X7_isKindOrUnder l_X7_119 rfl (by omega) (by decide) (Nat.le_of_ble_eq_true rfl) ?_
    refine s_isKindOrUnder (by omega) ?_
    refine z_if_ne 49 dX7_as_40 (by decide) (fun h_40 => ?_) (fun h_40 => ?_)
    · refine z_aload_n (i := 0) dX7_as_49 rfl rfl ?_
      refine z_getf dX7_as_50 f_X7_10 (by first | decide | assumption | omega) rfl (by rfl) ?_
      refine z_getf dX7_as_53 f_X7_34 (by first | decide | assumption | omega) rfl (by rfl) ?_
      refine z_getf dX7_as_56 f_X7_92 (by first | decide | assumption | omega) rfl (by rfl) ?_
      refine z_iload_n (i := 1) dX7_as_59 rfl rfl ?_
      refine z_iald (j := j) dX7_as_60 (by first | decide | assumption | omega) rfl (by rfl) (by first | decide | omega) (by first | decide | omega) ?_
      rw [if_pos (Classical.byContradiction (fun q => h_40 (bite.mpr q)))] at hQ
      exact z_ret dX7_as_61 (WX_rf hX (by rw [hR.2.1]; exact hQ)) trivial rfl
    · refine z_aload_n (i := 0) dX7_as_43 rfl rfl ?_
      refine z_iconst (v := 5) dX7_as_44 (by decide) ?_
      refine z_Vi (As := [_]) dX7_as_45 (by rfl) v_X7_refuse l_X7_73 (by first | decide | assumption | omega) rfl rfl rfl (by omega) (by decide) (Nat.le_of_ble_eq_true rfl) ?_
      refine s_refuse (by rfl) (by decide) ?_
      rw [if_neg (bite.mp (by first | exact h_40 | exact Classical.not_not.mp h_40))] at hQ
      exact z_ret dX7_as_48 (WX_err hX hQ) trivial rfl
  · unfold o_as at hQ
    rw [if_neg hok] at hQ
    refine z_aload_n (i := 0) dX7_as_0 rfl rfl ?_
    refine z_iload_n (i := 1) dX7_as_1 rfl rfl ?_
    refine z_Vb (As := [_]) dX7_as_2 (by rfl) v_X7_isPerson l_X7_86 (by first | decide | assumption | omega) rfl rfl rfl (by omega) (by decide) (Nat.le_of_ble_eq_true rfl) ?_
    refine s_isPerson hX ?_
    refine z_if_eq 18 dX7_as_5 (by decide) (fun h_5 => ?_) (fun h_5 => ?_)
    · refine z_aload_n (i := 0) dX7_as_18 rfl rfl ?_
      refine z_iconst (v := 1) dX7_as_19 (by decide) ?_
      refine z_Vi (As := [_]) dX7_as_20 (by rfl) v_X7_refuse l_X7_73 (by first | decide | assumption | omega) rfl rfl rfl (by omega) (by decide) (Nat.le_of_ble_eq_true rfl) ?_
      refine s_refuse (by rfl) (by decide) ?_
      exact z_ret dX7_as_23 (WX_err hX hQ) trivial rfl
    · refine z_iload_n (i := 2) dX7_as_8 rfl rfl ?_
      refine z_iconst (v := 0) dX7_as_9 (by decide) ?_
      refine z_bipush (v := 6) dX7_as_10 (by decide) ?_
      refine z_Sb (As := [_, _, _]) dX7_as_12 (by rfl) v_X7_isWithin l_X7_115 rfl (by omega) (by decide) (Nat.le_of_ble_eq_true rfl) ?_
      refine s_isWithin ?_
      refine z_if_ne 24 dX7_as_15 (by decide) (fun h_15 => ?_) (fun h_15 => ?_)
      · exfalso; exact hok ⟨Classical.byContradiction (fun q => h_5 (bite.mpr q)), Classical.byContradiction (fun q => h_15 (bite.mpr q))⟩
      refine z_aload_n (i := 0) dX7_as_18 rfl rfl ?_
      refine z_iconst (v := 1) dX7_as_19 (by decide) ?_
      refine z_Vi (As := [_]) dX7_as_20 (by rfl) v_X7_refuse l_X7_73 (by first | decide | assumption | omega) rfl rfl rfl (by omega) (by decide) (Nat.le_of_ble_eq_true rfl) ?_
      refine s_refuse (by rfl) (by decide) ?_
      exact z_ret dX7_as_23 (WX_err hX hQ) trivial rfl
theorem x_tell {v : Int32} (hX : RX c σ) (hd : 8 ≤ d) (hQ : WX c Qf (o_tell σ v)) : zCl l E ad mX7_tell d [.ref (ad 0), .int v] c Qf := by
  obtain ⟨n, t, m, hS, hI⟩ := id hX.1
  have ht60 := hI.2.2.1
  have eM : c 1 6 = nI m := hS.2.2.2.2.1
  have e4 : σ.1 4 = nI m := hI.2.2.2.1
  have hm := hI.2.2.2.2.1
  have l24 : nI m < (24 : Int32) ↔ m < 24 := nI_ltI (a := m) (b := 24) (by omega) (by omega)
  have q24 : nI m = 24 ↔ m = 24 := nI_eq (a := m) (b := 24) (by omega) (by omega)
  unfold o_tell at hQ
  rw [e4, pn_nI (by omega)] at hQ
  refine z_enter (own := RX7) [some (.ref (ad 0)), some (.int v)] (by decide +kernel) rfl rfl rfl (Nat.le_of_ble_eq_true rfl) ?_
  refine z_aload_n (i := 0) dX7_tell_0 rfl rfl ?_
  refine z_getf dX7_tell_1 f_X7_10 (by first | decide | assumption | omega) rfl (by rfl) ?_
  refine z_getf dX7_tell_4 f_X7_279 (by first | decide | assumption | omega) rfl (by rfl) ?_
  refine z_bipush (v := 24) dX7_tell_7 (by decide) ?_
  rw [eM]
  refine z_icmp_lt 18 dX7_tell_9 (by decide) (fun h_9 => ?_) (fun h_9 => ?_)
  · have hm24 : m < 24 := l24.mp h_9
    rw [if_neg (fun w => by have := q24.mp w; omega), nI_1] at hQ
    refine z_aload_n (i := 0) dX7_tell_18 rfl rfl ?_
    refine z_getf dX7_tell_19 f_X7_10 (by first | decide | assumption | omega) rfl (by rfl) ?_
    refine z_getf dX7_tell_22 f_X7_282 (by first | decide | assumption | omega) rfl (by rfl) ?_
    refine z_aload_n (i := 0) dX7_tell_25 rfl rfl ?_
    refine z_getf dX7_tell_26 f_X7_10 (by first | decide | assumption | omega) rfl (by rfl) ?_
    refine z_getf dX7_tell_29 f_X7_279 (by first | decide | assumption | omega) rfl (by rfl) ?_
    rw [eM]
    refine z_iload_n (i := 1) dX7_tell_32 rfl rfl ?_
    refine z_iast (j := m) dX7_tell_33 (by first | decide | assumption | omega) (fun _ => rfl) (by rfl) (by first | decide | omega) (by first | decide | omega) ?_
    refine z_aload_n (i := 0) dX7_tell_34 rfl rfl ?_
    refine z_getf dX7_tell_35 f_X7_10 (by first | decide | assumption | omega) rfl (by rfl) ?_
    refine z_dup dX7_tell_38 rfl ?_
    refine z_getf dX7_tell_39 f_X7_279 (by first | decide | assumption | omega) rfl (by rfl) ?_
    rw [show zup c 15 (upd (c 15) m v) 1 6 = nI m from eM]
    refine z_iconst (v := 1) dX7_tell_42 (by decide) ?_
    refine z_iadd dX7_tell_43 ?_
    rw [nI_1]
    refine z_putfi dX7_tell_44 f_X7_279 fp_X4_6 (by first | decide | assumption | omega) rfl (by exact Nat.le_of_ble_eq_true rfl) rfl ?_
    refine z_aload_n (i := 0) dX7_tell_47 rfl rfl ?_
    refine z_getf dX7_tell_48 f_X7_10 (by first | decide | assumption | omega) rfl (by rfl) ?_
    refine z_getf dX7_tell_51 f_X7_279 (by first | decide | assumption | omega) rfl (by rfl) ?_
    rw [zup_s, pk_us]
    refine z_ret dX7_tell_54 (WX_now hX hQ ⟨by rw [zup_n (by decide), zup_n (by decide)], fun k a b e g => by rw [zup_n (by omega), zup_n (by omega)]⟩ ⟨n, t, m + 1, ?_, ?_⟩) trivial rfl
    · refine ST_cb hS hI.1 (fun k hk => by rw [zup_n (by omega), zup_n (by omega)]) (fun k a b => by rw [pk_un (by omega), pk_un (by omega)]) (fun k hk => by rw [pk_un (by omega), pk_un (by omega)]) ?_ (by rw [zup_s, pk_us]) ?_ (fun i hi => ?_) (fun i hi => ?_)
      · rw [zup_s, pk_un (by decide)]; exact hS.2.2.2.1
      · rw [zup_s, pk_un (by decide), pk_un (by decide), pk_un (by omega)]; exact hS.2.2.2.2.2.1
      · rw [zup_n (by decide), zup_n (by decide), pk_un (by omega), pk_un (by omega)]; exact hS.2.2.2.2.2.2.1 i hi
      · rw [zup_n (by decide), zup_s, pk_un (show 348 + i ≠ 4 by omega)]
        by_cases q : i = m
        · subst q; rw [pk_us, pk_us]
        · rw [pk_un q, pk_un (by omega)]; exact hS.2.2.2.2.2.2.2 i (by omega)
    · refine SI_cb hI (fun k a b => by rw [pk_un (by omega), pk_un (by omega)]) (fun k hk => by rw [pk_un (by omega), pk_un (by omega)]) (by rw [pk_un (by decide), pk_un (by omega)]; exact hI.2.1) hI.2.2.1 pk_us (by omega) (fun i hi => by rw [pk_un (by omega), pk_un (by have := hI.2.2.1; omega)]; exact hI.2.2.2.2.2.2.2.2.1 i hi)
  · refine z_aload_n (i := 0) dX7_tell_12 rfl rfl ?_
    refine z_iconst (v := 4) dX7_tell_13 (by decide) ?_
    refine z_Vi (As := [_]) dX7_tell_14 (by rfl) v_X7_refuse l_X7_73 (by first | decide | assumption | omega) rfl rfl rfl (by omega) (by decide) (Nat.le_of_ble_eq_true rfl) ?_
    refine s_refuse (by rfl) (by decide) ?_
    rw [if_pos (q24.mpr (by have := mt l24.mpr h_9; omega))] at hQ
    exact z_ret dX7_tell_17 (WX_err hX hQ) trivial rfl
theorem x_check (hX : RX c σ) (hd : 8 ≤ d) (hQ : WX c Qf (o_check σ)) : zCl l E ad mX7_check d [.ref (ad 0)] c Qf := by
  obtain ⟨n, t, m, hS, hI⟩ := id hX.1
  have eM : c 1 6 = nI m := hS.2.2.2.2.1
  have e4 : σ.1 4 = nI m := hI.2.2.2.1
  have hm := hI.2.2.2.2.1
  have hn6 := hI.1.2.1
  unfold o_check at hQ
  rw [e4, pn_nI (by omega), show σ.1 5 = nI n from hI.1.1, pn_nI (by omega)] at hQ
  rw [hm_ck (e := c 11) (r := c 15) (z := m) (fu := 25) hm (fun i hi => (hS.1.2.2.2 i hi).2.2.1) (fun i hi => hS.2.2.2.2.2.2.2 i hi) (by omega) (by omega)] at hQ
  have hg := hm_ge (e := c 11) (r := c 15) (z := m) (n := n) (f := 25) (i := 0) (by omega)
  generalize hW : hmF (c 11) (c 15) m n 25 0 = W at hQ hg
  have eq : nI W = nI m ↔ W = m := nI_eq (by omega) (by omega)
  have fin : ∃ n' t' m' : Nat, ST (zup c 1 (upd (c 1) 6 0)) 1 8 2 3 5 6 14 15 n' t' m' (upd σ.1 4 0) ∧ SI (upd σ.1 4 0) n' t' m' := by
    refine ⟨n, t, 0, ?_, ?_⟩
    · refine ST_cb hS hI.1 (fun k hk => zup_n (by omega)) (fun k a b => pk_un (by omega)) (fun k hk => pk_un (by omega)) ?_ (by rw [zup_s, pk_us]; rfl) ?_ (fun i hi => ?_) (fun i hi => by omega)
      · rw [zup_s, pk_un (by decide)]; exact hS.2.2.2.1
      · rw [zup_s, pk_un (by decide), pk_un (by decide)]; exact hS.2.2.2.2.2.1
      · rw [zup_n (by decide), pk_un (by omega)]; exact hS.2.2.2.2.2.2.1 i hi
    · exact SI_cb hI (fun k a b => pk_un (by omega)) (fun k hk => pk_un (by omega)) (by rw [pk_un (by decide)]; exact hI.2.1) hI.2.2.1 pk_us (by omega) (fun i hi => by rw [pk_un (by omega)]; exact hI.2.2.2.2.2.2.2.2.1 i hi)
  refine z_enter (own := RX7) [some (.ref (ad 0)), none, none] (by decide +kernel) rfl rfl rfl (Nat.le_of_ble_eq_true rfl) ?_
  refine z_aload_n (i := 0) dX7_check_0 rfl rfl ?_
  refine z_getf dX7_check_1 f_X7_10 (by first | decide | assumption | omega) rfl (by rfl) ?_
  refine z_getf dX7_check_4 f_X7_279 (by first | decide | assumption | omega) rfl (by rfl) ?_
  rw [eM]
  refine z_istore_n (i := 1) [_, _, _] dX7_check_7 rfl (by decide) rfl rfl ?_
  refine z_aload_n (i := 0) dX7_check_8 rfl rfl ?_
  refine z_getf dX7_check_9 f_X7_10 (by first | decide | assumption | omega) rfl (by rfl) ?_
  refine z_getf dX7_check_12 f_X7_34 (by first | decide | assumption | omega) rfl (by rfl) ?_
  refine z_aload_n (i := 0) dX7_check_15 rfl rfl ?_
  refine z_getf dX7_check_16 f_X7_10 (by first | decide | assumption | omega) rfl (by rfl) ?_
  refine z_getf dX7_check_19 f_X7_34 (by first | decide | assumption | omega) rfl (by rfl) ?_
  refine z_getf dX7_check_22 f_X7_95 (by first | decide | assumption | omega) rfl (by rfl) ?_
  refine z_aload_n (i := 0) dX7_check_25 rfl rfl ?_
  refine z_getf dX7_check_26 f_X7_10 (by first | decide | assumption | omega) rfl (by rfl) ?_
  refine z_getf dX7_check_29 f_X7_282 (by first | decide | assumption | omega) rfl (by rfl) ?_
  refine z_iload_n (i := 1) dX7_check_32 rfl rfl ?_
  refine z_Vi (As := [_, _, _]) dX7_check_33 (by rfl) v_X1_howManyAre l_X7_271 (by first | decide | assumption | omega) rfl rfl rfl (by omega) (by decide) (Nat.le_of_ble_eq_true rfl) ?_
  refine s_howMany (e := 11) (R := 15) (by decide) (by decide) (fun _ => rfl) (fun _ => rfl) hS.1.1 hn6 hm ?_
  rw [hW]
  refine z_istore_n (i := 2) [_, _, _] dX7_check_36 rfl (by decide) rfl rfl ?_
  refine z_aload_n (i := 0) dX7_check_37 rfl rfl ?_
  refine z_getf dX7_check_38 f_X7_10 (by first | decide | assumption | omega) rfl (by rfl) ?_
  refine z_iconst (v := 0) dX7_check_41 (by decide) ?_
  refine z_putfi dX7_check_42 f_X7_279 fp_X4_6 (by first | decide | assumption | omega) rfl (by exact Nat.le_of_ble_eq_true rfl) rfl ?_
  refine z_iload_n (i := 2) dX7_check_45 rfl rfl ?_
  refine z_iload_n (i := 1) dX7_check_46 rfl rfl ?_
  refine z_icmp_ne 54 dX7_check_47 (by decide) (fun h_47 => ?_) (fun h_47 => ?_)
  · refine z_iconst (v := 1) dX7_check_54 (by decide) ?_
    refine z_iload_n (i := 2) dX7_check_55 rfl rfl ?_
    refine z_iadd dX7_check_56 ?_
    first
    | (rw [if_pos (eq.mp (by first | exact h_47 | exact Classical.not_not.mp h_47))] at hQ
       exact z_ret dX7_check_57 (WX_now hX hQ (zfr_u (by omega)) fin) trivial rfl)
    | (rw [if_neg (fun w => h_47 (eq.mpr w))] at hQ
       exact z_ret dX7_check_57 (WX_now hX hQ (zfr_u (by omega)) fin) trivial rfl)
  · refine z_iconst (v := 0) dX7_check_50 (by decide) ?_
    refine z_goto 57 dX7_check_51 (by decide) ?_
    first
    | (rw [if_pos (eq.mp (by first | exact h_47 | exact Classical.not_not.mp h_47))] at hQ
       exact z_ret dX7_check_57 (WX_now hX hQ (zfr_u (by omega)) fin) trivial rfl)
    | (rw [if_neg (fun w => h_47 (eq.mpr w))] at hQ
       exact z_ret dX7_check_57 (WX_now hX hQ (zfr_u (by omega)) fin) trivial rfl)
theorem x_count {w : Int32} (hX : RX c σ) (hd : 8 ≤ d) (hQ : WX c Qf (o_count σ w)) : zCl l E ad mX7_count d [.ref (ad 0), .int w] c Qf := by
  obtain ⟨n, t, m, hS, hI⟩ := id hX.1
  have hn6 := hI.1.2.1
  have e5 : σ.1 5 = nI n := hI.1.1
  unfold o_count at hQ
  refine z_enter (own := RX7) [some (.ref (ad 0)), some (.int w)] (by decide +kernel) rfl rfl rfl (Nat.le_of_ble_eq_true rfl) ?_
  refine z_iload_n (i := 1) dX7_count_0 rfl rfl ?_
  by_cases h_1_0 : w = 0
  · refine z_table (v := 0) 48 dX7_count_1 h_1_0 (by decide) (by decide) rfl (by decide) ?_
    refine z_aload_n (i := 0) dX7_count_48 rfl rfl ?_
    refine z_getf dX7_count_49 f_X7_10 (by first | decide | assumption | omega) rfl (by rfl) ?_
    refine z_getf dX7_count_52 f_X7_34 (by first | decide | assumption | omega) rfl (by rfl) ?_
    refine z_getf dX7_count_55 f_X7_77 (by first | decide | assumption | omega) rfl (by rfl) ?_
    exact z_ret dX7_count_58 (WX_rf hX (by rw [show c 8 7 = σ.1 5 by rw [e5]; exact hS.1.1]; rw [h_1_0] at hQ; exact hQ)) trivial rfl
  by_cases h_1_1 : w = 1
  · refine z_table (v := 1) 59 dX7_count_1 h_1_1 (by decide) (by decide) rfl (by decide) ?_
    refine z_aload_n (i := 0) dX7_count_59 rfl rfl ?_
    refine z_getf dX7_count_60 f_X7_10 (by first | decide | assumption | omega) rfl (by rfl) ?_
    refine z_getf dX7_count_63 f_X7_34 (by first | decide | assumption | omega) rfl (by rfl) ?_
    refine z_getf dX7_count_66 f_X7_130 (by first | decide | assumption | omega) rfl (by rfl) ?_
    exact z_ret dX7_count_69 (WX_rf hX (by rw [show c 8 8 = σ.1 1 from hS.1.2.1]; rw [h_1_1] at hQ; exact hQ)) trivial rfl
  by_cases h_1_2 : w = 2
  · refine z_table (v := 2) 70 dX7_count_1 h_1_2 (by decide) (by decide) rfl (by decide) ?_
    refine z_aload_n (i := 0) dX7_count_70 rfl rfl ?_
    refine z_getf dX7_count_71 f_X7_10 (by first | decide | assumption | omega) rfl (by rfl) ?_
    refine z_getf dX7_count_74 f_X7_34 (by first | decide | assumption | omega) rfl (by rfl) ?_
    refine z_getf dX7_count_77 f_X7_168 (by first | decide | assumption | omega) rfl (by rfl) ?_
    exact z_ret dX7_count_80 (WX_rf hX (by rw [show c 8 9 = σ.1 0 from hS.1.2.2.1]; rw [h_1_2] at hQ; exact hQ)) trivial rfl
  by_cases h_1_3 : w = 3
  · refine z_table (v := 3) 81 dX7_count_1 h_1_3 (by decide) (by decide) rfl (by decide) ?_
    refine z_aload_n (i := 0) dX7_count_81 rfl rfl ?_
    refine z_getf dX7_count_82 f_X7_10 (by first | decide | assumption | omega) rfl (by rfl) ?_
    refine z_getf dX7_count_85 f_X7_34 (by first | decide | assumption | omega) rfl (by rfl) ?_
    refine z_Vi (As := []) dX7_count_88 (by rfl) v_X1_through l_X7_175 (by first | decide | assumption | omega) rfl rfl rfl (by omega) (by decide) (Nat.le_of_ble_eq_true rfl) ?_
    refine s_through hS.1 hn6 ?_
    exact z_ret dX7_count_91 (WX_rf hX (by rw [h_1_3] at hQ; have h9 : WX c Qf (thF σ.1, σ) := hQ; unfold thF at h9; rw [e5, pn_nI (by omega)] at h9; exact h9)) trivial rfl
  by_cases h_1_4 : w = 4
  · refine z_table (v := 4) 92 dX7_count_1 h_1_4 (by decide) (by decide) rfl (by decide) ?_
    refine z_aload_n (i := 0) dX7_count_92 rfl rfl ?_
    refine z_getf dX7_count_93 f_X7_10 (by first | decide | assumption | omega) rfl (by rfl) ?_
    refine z_getf dX7_count_96 f_X7_133 (by first | decide | assumption | omega) rfl (by rfl) ?_
    exact z_ret dX7_count_99 (WX_rf hX (by rw [show c 1 4 = σ.1 3 by rw [hI.2.1]; exact hS.2.2.2.1]; rw [h_1_4] at hQ; exact hQ)) trivial rfl
  by_cases h_1_5 : w = 5
  · refine z_table (v := 5) 100 dX7_count_1 h_1_5 (by decide) (by decide) rfl (by decide) ?_
    refine z_aload_n (i := 0) dX7_count_100 rfl rfl ?_
    refine z_getf dX7_count_101 f_X7_10 (by first | decide | assumption | omega) rfl (by rfl) ?_
    refine z_getf dX7_count_104 f_X7_279 (by first | decide | assumption | omega) rfl (by rfl) ?_
    exact z_ret dX7_count_107 (WX_rf hX (by rw [show c 1 6 = σ.1 4 by rw [hI.2.2.2.1]; exact hS.2.2.2.2.1]; rw [h_1_5] at hQ; exact hQ)) trivial rfl
  by_cases h_1_6 : w = 6
  · refine z_table (v := 6) 108 dX7_count_1 h_1_6 (by decide) (by decide) rfl (by decide) ?_
    refine z_aload_n (i := 0) dX7_count_108 rfl rfl ?_
    refine z_getf dX7_count_109 f_X7_48 (by first | decide | assumption | omega) rfl (by rfl) ?_
    refine z_getf dX7_count_112 f_X7_241 (by first | decide | assumption | omega) rfl (by rfl) ?_
    exact z_ret dX7_count_115 (WX_rf hX (by rw [show c 40 1 = σ.2.2.2.2.1 from hX.2.2.2.2.2.1.1]; rw [h_1_6] at hQ; exact hQ)) trivial rfl
  by_cases h_1_7 : w = 7
  · refine z_table (v := 7) 116 dX7_count_1 h_1_7 (by decide) (by decide) rfl (by decide) ?_
    refine z_aload_n (i := 0) dX7_count_116 rfl rfl ?_
    refine z_getf dX7_count_117 f_X7_10 (by first | decide | assumption | omega) rfl (by rfl) ?_
    refine z_getf dX7_count_120 f_X7_182 (by first | decide | assumption | omega) rfl (by rfl) ?_
    exact z_ret dX7_count_123 (WX_rf hX (by rw [show c 1 7 = σ.1 2 from hS.2.2.2.2.2.1]; rw [h_1_7] at hQ; exact hQ)) trivial rfl
  refine z_tableD 124 dX7_count_1 (by have a0 := zt_ne (k := 0) (by decide) h_1_0; have a1 := zt_ne (k := 1) (by decide) h_1_1; have a2 := zt_ne (k := 2) (by decide) h_1_2; have a3 := zt_ne (k := 3) (by decide) h_1_3; have a4 := zt_ne (k := 4) (by decide) h_1_4; have a5 := zt_ne (k := 5) (by decide) h_1_5; have a6 := zt_ne (k := 6) (by decide) h_1_6; have a7 := zt_ne (k := 7) (by decide) h_1_7; omega) (by decide) ?_
  refine z_aload_n (i := 0) dX7_count_124 rfl rfl ?_
  refine z_iconst (v := 1) dX7_count_125 (by decide) ?_
  refine z_Vi (As := [_]) dX7_count_126 (by rfl) v_X7_refuse l_X7_73 (by first | decide | assumption | omega) rfl rfl rfl (by omega) (by decide) (Nat.le_of_ble_eq_true rfl) ?_
  refine s_refuse (by rfl) (by decide) ?_
  rw [if_neg h_1_0, if_neg h_1_1, if_neg h_1_2, if_neg h_1_3, if_neg h_1_4, if_neg h_1_5, if_neg h_1_6, if_neg h_1_7] at hQ
  exact z_ret dX7_count_129 (WX_err hX hQ) trivial rfl
theorem x_body {i : Int32} (hX : RX c σ) (hd : 8 ≤ d) (hQ : WX c Qf (o_body σ i)) : zCl l E ad mX7_body d [.ref (ad 0), .int i] c Qf := by
  obtain ⟨e1, e2, a, ha, e3⟩ := id hX.2.2.2.2.2.1
  refine z_enter (own := RX7) [some (.ref (ad 0)), some (.int i)] (by decide +kernel) rfl rfl rfl (Nat.le_of_ble_eq_true rfl) ?_
  by_cases hok : 0 ≤ i ∧ i ≤ σ.2.2.2.2.1 - 1
  · obtain ⟨j, hj, rfl⟩ := lt_m60 (p := i) (n := a) (by omega) (by rw [← e3]; exact hok)
    unfold o_body at hQ
    rw [if_pos hok, pn_nI (by omega), ← e2] at hQ
    refine z_iload_n (i := 1) dX7_body_0 rfl rfl ?_
    refine z_iconst (v := 0) dX7_body_1 (by decide) ?_
    refine z_aload_n (i := 0) dX7_body_2 rfl rfl ?_
    refine z_getf dX7_body_3 f_X7_48 (by first | decide | assumption | omega) rfl (by rfl) ?_
    refine z_getf dX7_body_6 f_X7_241 (by first | decide | assumption | omega) rfl (by rfl) ?_
    rw [e1]
    refine z_iconst (v := 1) dX7_body_9 (by decide) ?_
    refine z_isub dX7_body_10 ?_
    refine z_Sb (As := [_, _, _]) dX7_body_11 (by rfl) v_X7_isWithin l_X7_115 rfl (by omega) (by decide) (Nat.le_of_ble_eq_true rfl) ?_
    refine s_isWithin ?_
    refine z_if_ne 23 dX7_body_14 (by decide) (fun h_14 => ?_) (fun h_14 => ?_)
    rotate_left
    · exfalso; exact absurd hok (bite.mp (by first | exact h_14 | exact Classical.not_not.mp h_14))
    refine z_aload_n (i := 0) dX7_body_23 rfl rfl ?_
    refine z_getf dX7_body_24 f_X7_48 (by first | decide | assumption | omega) rfl (by rfl) ?_
    refine z_getf dX7_body_27 f_X7_244 (by first | decide | assumption | omega) rfl (by rfl) ?_
    refine z_iload_n (i := 1) dX7_body_30 rfl rfl ?_
    refine z_iald (j := j) dX7_body_31 (by first | decide | assumption | omega) rfl (by rfl) (by first | decide | omega) (by first | decide | omega) ?_
    exact z_ret dX7_body_32 (WX_rf hX hQ) trivial rfl
  · unfold o_body at hQ
    rw [if_neg hok] at hQ
    refine z_iload_n (i := 1) dX7_body_0 rfl rfl ?_
    refine z_iconst (v := 0) dX7_body_1 (by decide) ?_
    refine z_aload_n (i := 0) dX7_body_2 rfl rfl ?_
    refine z_getf dX7_body_3 f_X7_48 (by first | decide | assumption | omega) rfl (by rfl) ?_
    refine z_getf dX7_body_6 f_X7_241 (by first | decide | assumption | omega) rfl (by rfl) ?_
    rw [e1]
    refine z_iconst (v := 1) dX7_body_9 (by decide) ?_
    refine z_isub dX7_body_10 ?_
    refine z_Sb (As := [_, _, _]) dX7_body_11 (by rfl) v_X7_isWithin l_X7_115 rfl (by omega) (by decide) (Nat.le_of_ble_eq_true rfl) ?_
    refine s_isWithin ?_
    refine z_if_ne 23 dX7_body_14 (by decide) (fun h_14 => ?_) (fun h_14 => ?_)
    · exfalso; exact hok (Classical.byContradiction (fun q => h_14 (bite.mpr q)))
    refine z_aload_n (i := 0) dX7_body_17 rfl rfl ?_
    refine z_iconst (v := 2) dX7_body_18 (by decide) ?_
    refine z_Vi (As := [_]) dX7_body_19 (by rfl) v_X7_refuse l_X7_73 (by first | decide | assumption | omega) rfl rfl rfl (by omega) (by decide) (Nat.le_of_ble_eq_true rfl) ?_
    refine s_refuse (by rfl) (by decide) ?_
    exact z_ret dX7_body_22 (WX_err hX hQ) trivial rfl
end X3
