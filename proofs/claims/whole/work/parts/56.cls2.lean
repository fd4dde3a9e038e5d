/-! the class's calls: travellers, two; hour, seed, what is told -/
section X2
variable {l : Launch} {E : zE} {ad : Nat → Nat} {c : zS} {Qf : Int32 → zS → Prop} {d n : Nat} {σ : zT}
theorem x_become {p km : Int32} (hX : RX c σ) (hd : 8 ≤ d) (hQ : WX c Qf (o_become σ p km)) : zCl l E ad mX7_become d [.ref (ad 0), .int p, .int km] c Qf := by
  obtain ⟨n, t, m, hS, hI⟩ := id hX.1
  have hn6 := hI.1.2.1
  refine z_enter (own := RX7) [some (.ref (ad 0)), some (.int p), some (.int km), none, none] (by decide +kernel) rfl rfl rfl (Nat.le_of_ble_eq_true rfl) ?_
  by_cases hok : isP σ p ∧ 0 ≤ km ∧ km ≤ 69
  · obtain ⟨j, hj, rfl⟩ := isP_of (f := σ.1) hok.1 hI.1.1 hn6
    have epj : pn (nI j) = j := pn_nI (by omega)
    have hR := hS.1.2.2.2 j hj
    obtain ⟨i, hi, rfl⟩ := zj_of (x := km) (n := 70) hok.2.1 (by have := hok.2.2; show km < (70 : Int32); grind) (by decide)
    have hpc : (0 ≤ nI j ∧ nI j ≤ σ.1 5 - 1) ∧ 0 ≤ nI i ∧ nI i ≤ 69 := hok
    unfold o_become at hQ
    rw [if_pos hok, epj] at hQ
    have h1 := PR_up (p := j) (v := nI i / 10) 0 hS.1 (by omega)
    have h2 := PR_up (p := j) (v := nI i - nI i / 10 * 10) 1 h1 (by omega)
    refine z_aload_n (i := 0) dX7_become_0 rfl rfl ?_
    refine z_iload_n (i := 1) dX7_become_1 rfl rfl ?_
    refine z_Vb (As := [_]) dX7_become_2 (by rfl) v_X7_isPerson l_X7_86 (by first | decide | assumption | omega) rfl rfl rfl (by omega) (by decide) (Nat.le_of_ble_eq_true rfl) ?_
    refine s_isPerson hX ?_
    refine z_if_eq 15 dX7_become_5 (by decide) (fun h_5 => ?_) (fun h_5 => ?_)
    · exfalso; exact absurd hpc.1 (bite.mp (by first | exact h_5 | exact Classical.not_not.mp h_5))
    refine z_iload_n (i := 2) dX7_become_8 rfl rfl ?_
    refine z_Sb (As := [_]) dX7_become_9 (by rfl) v_X7_isKindAndNumber l_X7_66 rfl (by omega) (by decide) (Nat.le_of_ble_eq_true rfl) ?_
    refine s_isKindAndNumber (by omega) ?_
    refine z_if_ne 21 dX7_become_12 (by decide) (fun h_12 => ?_) (fun h_12 => ?_)
    rotate_left
    · exfalso; exact absurd hpc.2 (bite.mp (by first | exact h_12 | exact Classical.not_not.mp h_12))
    refine z_aload_n (i := 0) dX7_become_21 rfl rfl ?_
    refine z_getf dX7_become_22 f_X7_10 (by first | decide | assumption | omega) rfl (by rfl) ?_
    refine z_getf dX7_become_25 f_X7_34 (by first | decide | assumption | omega) rfl (by rfl) ?_
    refine z_astore_n (i := 3) [_, _, _, _, _] dX7_become_28 rfl (by decide) rfl rfl ?_
    refine z_aload_n (i := 3) dX7_become_29 rfl rfl ?_
    refine z_getf dX7_become_30 f_X7_89 (by first | decide | assumption | omega) rfl (by rfl) ?_
    refine z_iload_n (i := 1) dX7_become_33 rfl rfl ?_
    refine z_iald (j := j) dX7_become_34 (by first | decide | assumption | omega) rfl (by rfl) (by first | decide | omega) (by first | decide | omega) ?_
    rw [hR.1]
    refine z_istore (i := 4) [_, _, _, _, _] dX7_become_35 (by decide) rfl rfl ?_
    refine z_aload_n (i := 3) dX7_become_37 rfl rfl ?_
    refine z_getf dX7_become_38 f_X7_89 (by first | decide | assumption | omega) rfl (by rfl) ?_
    refine z_iload_n (i := 1) dX7_become_41 rfl rfl ?_
    refine z_iload_n (i := 2) dX7_become_42 rfl rfl ?_
    refine z_bipush (v := 10) dX7_become_43 (by decide) ?_
    refine z_idiv dX7_become_45 (by first | decide | assumption) ?_
    refine z_iast (j := j) dX7_become_46 (by first | decide | assumption | omega) (fun _ => rfl) (by rfl) (by first | decide | omega) (by first | decide | omega) ?_
    refine z_aload_n (i := 3) dX7_become_47 rfl rfl ?_
    refine z_getf dX7_become_48 f_X7_92 (by first | decide | assumption | omega) rfl (by rfl) ?_
    refine z_iload_n (i := 1) dX7_become_51 rfl rfl ?_
    refine z_iload_n (i := 2) dX7_become_52 rfl rfl ?_
    refine z_bipush (v := 10) dX7_become_53 (by decide) ?_
    refine z_irem dX7_become_55 (by first | decide | assumption) ?_
    refine z_iast (j := j) dX7_become_56 (by first | decide | assumption | omega) (fun _ => rfl) (by rfl) (by first | decide | omega) (by first | decide | omega) ?_
    refine z_iload (i := 4) dX7_become_57 rfl ?_
    refine z_ret dX7_become_59 (WX_now hX hQ ⟨by rw [zup_n (by omega), zup_n (by omega)], fun k a b e g => by rw [zup_n (by omega), zup_n (by omega)]⟩ ⟨n, t, m, ST_pr hS (by rw [upd_cm (by omega)]; exact h2) (fun k hk => by rw [zup_n (by omega), zup_n (by omega)]) (fun k hk => by rw [pk_un (by omega), pk_un (by omega)]) (by rw [pk_un (by omega), pk_un (by omega)]), ?_⟩) trivial rfl
    exact SI_u (SI_u hI (by omega) (by omega) (by omega) (by omega) (fun i hi e => by omega) (fun i hi e => by omega) (fun e => by omega)) (by omega) (by omega) (by omega) (by omega) (fun _ _ _ => ⟨i / 10, by omega, km_nI i hi⟩) (fun i hi e => by omega) (fun e => by omega)
  · unfold o_become at hQ
    rw [if_neg hok] at hQ
    refine z_aload_n (i := 0) dX7_become_0 rfl rfl ?_
    refine z_iload_n (i := 1) dX7_become_1 rfl rfl ?_
    refine z_Vb (As := [_]) dX7_become_2 (by rfl) v_X7_isPerson l_X7_86 (by first | decide | assumption | omega) rfl rfl rfl (by omega) (by decide) (Nat.le_of_ble_eq_true rfl) ?_
    refine s_isPerson hX ?_
    refine z_if_eq 15 dX7_become_5 (by decide) (fun h_5 => ?_) (fun h_5 => ?_)
    · refine z_aload_n (i := 0) dX7_become_15 rfl rfl ?_
      refine z_iconst (v := 1) dX7_become_16 (by decide) ?_
      refine z_Vi (As := [_]) dX7_become_17 (by rfl) v_X7_refuse l_X7_73 (by first | decide | assumption | omega) rfl rfl rfl (by omega) (by decide) (Nat.le_of_ble_eq_true rfl) ?_
      refine s_refuse (by rfl) (by decide) ?_
      exact z_ret dX7_become_20 (WX_err hX hQ) trivial rfl
    · refine z_iload_n (i := 2) dX7_become_8 rfl rfl ?_
      refine z_Sb (As := [_]) dX7_become_9 (by rfl) v_X7_isKindAndNumber l_X7_66 rfl (by omega) (by decide) (Nat.le_of_ble_eq_true rfl) ?_
      refine s_isKindAndNumber (by omega) ?_
      refine z_if_ne 21 dX7_become_12 (by decide) (fun h_12 => ?_) (fun h_12 => ?_)
      · exfalso; exact hok ⟨Classical.byContradiction (fun q => h_5 (bite.mpr q)), Classical.byContradiction (fun q => h_12 (bite.mpr q))⟩
      refine z_aload_n (i := 0) dX7_become_15 rfl rfl ?_
      refine z_iconst (v := 1) dX7_become_16 (by decide) ?_
      refine z_Vi (As := [_]) dX7_become_17 (by rfl) v_X7_refuse l_X7_73 (by first | decide | assumption | omega) rfl rfl rfl (by omega) (by decide) (Nat.le_of_ble_eq_true rfl) ?_
      refine s_refuse (by rfl) (by decide) ?_
      exact z_ret dX7_become_20 (WX_err hX hQ) trivial rfl
theorem x_answers {p sure : Int32} (hX : RX c σ) (hd : 8 ≤ d) (hQ : WX c Qf (o_answers σ p sure)) : zCl l E ad mX7_answers d [.ref (ad 0), .int p, .int sure] c Qf := by
  obtain ⟨n, t, m, hS, hI⟩ := id hX.1
  have hn6 := hI.1.2.1
  refine z_enter (own := RX7) [some (.ref (ad 0)), some (.int p), some (.int sure), none] (by decide +kernel) rfl rfl rfl (Nat.le_of_ble_eq_true rfl) ?_
  by_cases hok : isP σ p ∧ 0 ≤ sure ∧ sure ≤ 99
  · obtain ⟨j, hj, rfl⟩ := isP_of (f := σ.1) hok.1 hI.1.1 hn6
    have epj : pn (nI j) = j := pn_nI (by omega)
    have hR := hS.1.2.2.2 j hj
    have hpc : (0 ≤ nI j ∧ nI j ≤ σ.1 5 - 1) ∧ 0 ≤ sure ∧ sure ≤ 99 := hok
    unfold o_answers at hQ
    rw [if_pos hok, epj] at hQ
    have h1 := PR_up (p := j) (v := sure) 2 hS.1 (by omega)
    refine z_aload_n (i := 0) dX7_answers_0 rfl rfl ?_
    refine z_iload_n (i := 1) dX7_answers_1 rfl rfl ?_
    refine z_Vb (As := [_]) dX7_answers_2 (by rfl) v_X7_isPerson l_X7_86 (by first | decide | assumption | omega) rfl rfl rfl (by omega) (by decide) (Nat.le_of_ble_eq_true rfl) ?_
    refine s_isPerson hX ?_
    refine z_if_eq 15 dX7_answers_5 (by decide) (fun h_5 => ?_) (fun h_5 => ?_)
    · exfalso; exact absurd hpc.1 (bite.mp (by first | exact h_5 | exact Classical.not_not.mp h_5))
    refine z_iload_n (i := 2) dX7_answers_8 rfl rfl ?_
    refine z_Sb (As := [_]) dX7_answers_9 (by rfl) v_X7_isSure l_X7_70 rfl (by omega) (by decide) (Nat.le_of_ble_eq_true rfl) ?_
    refine s_isSure (by omega) ?_
    refine z_if_ne 21 dX7_answers_12 (by decide) (fun h_12 => ?_) (fun h_12 => ?_)
    rotate_left
    · exfalso; exact absurd hpc.2 (bite.mp (by first | exact h_12 | exact Classical.not_not.mp h_12))
    refine z_aload_n (i := 0) dX7_answers_21 rfl rfl ?_
    refine z_getf dX7_answers_22 f_X7_10 (by first | decide | assumption | omega) rfl (by rfl) ?_
    refine z_getf dX7_answers_25 f_X7_34 (by first | decide | assumption | omega) rfl (by rfl) ?_
    refine z_getf dX7_answers_28 f_X7_95 (by first | decide | assumption | omega) rfl (by rfl) ?_
    refine z_iload_n (i := 1) dX7_answers_31 rfl rfl ?_
    refine z_iald (j := j) dX7_answers_32 (by first | decide | assumption | omega) rfl (by rfl) (by first | decide | omega) (by first | decide | omega) ?_
    rw [hR.2.2.1]
    refine z_istore_n (i := 3) [_, _, _, _] dX7_answers_33 rfl (by decide) rfl rfl ?_
    refine z_aload_n (i := 0) dX7_answers_34 rfl rfl ?_
    refine z_getf dX7_answers_35 f_X7_10 (by first | decide | assumption | omega) rfl (by rfl) ?_
    refine z_getf dX7_answers_38 f_X7_34 (by first | decide | assumption | omega) rfl (by rfl) ?_
    refine z_getf dX7_answers_41 f_X7_95 (by first | decide | assumption | omega) rfl (by rfl) ?_
    refine z_iload_n (i := 1) dX7_answers_44 rfl rfl ?_
    refine z_iload_n (i := 2) dX7_answers_45 rfl rfl ?_
    refine z_iast (j := j) dX7_answers_46 (by first | decide | assumption | omega) (fun _ => rfl) (by rfl) (by first | decide | omega) (by first | decide | omega) ?_
    refine z_iload_n (i := 3) dX7_answers_47 rfl rfl ?_
    refine z_ret dX7_answers_48 (WX_now hX hQ (zfr_u (by omega)) ⟨n, t, m, ST_pr hS h1 (fun k hk => zup_n (by omega)) (fun k hk => pk_un (by omega)) (pk_un (by omega)), ?_⟩) trivial rfl
    exact SI_u hI (by omega) (by omega) (by omega) (by omega) (fun i hi e => by omega) (fun i hi e => by omega) (fun e => by omega)
  · unfold o_answers at hQ
    rw [if_neg hok] at hQ
    refine z_aload_n (i := 0) dX7_answers_0 rfl rfl ?_
    refine z_iload_n (i := 1) dX7_answers_1 rfl rfl ?_
    refine z_Vb (As := [_]) dX7_answers_2 (by rfl) v_X7_isPerson l_X7_86 (by first | decide | assumption | omega) rfl rfl rfl (by omega) (by decide) (Nat.le_of_ble_eq_true rfl) ?_
    refine s_isPerson hX ?_
    refine z_if_eq 15 dX7_answers_5 (by decide) (fun h_5 => ?_) (fun h_5 => ?_)
    · refine z_aload_n (i := 0) dX7_answers_15 rfl rfl ?_
      refine z_iconst (v := 1) dX7_answers_16 (by decide) ?_
      refine z_Vi (As := [_]) dX7_answers_17 (by rfl) v_X7_refuse l_X7_73 (by first | decide | assumption | omega) rfl rfl rfl (by omega) (by decide) (Nat.le_of_ble_eq_true rfl) ?_
      refine s_refuse (by rfl) (by decide) ?_
      exact z_ret dX7_answers_20 (WX_err hX hQ) trivial rfl
    · refine z_iload_n (i := 2) dX7_answers_8 rfl rfl ?_
      refine z_Sb (As := [_]) dX7_answers_9 (by rfl) v_X7_isSure l_X7_70 rfl (by omega) (by decide) (Nat.le_of_ble_eq_true rfl) ?_
      refine s_isSure (by omega) ?_
      refine z_if_ne 21 dX7_answers_12 (by decide) (fun h_12 => ?_) (fun h_12 => ?_)
      · exfalso; exact hok ⟨Classical.byContradiction (fun q => h_5 (bite.mpr q)), Classical.byContradiction (fun q => h_12 (bite.mpr q))⟩
      refine z_aload_n (i := 0) dX7_answers_15 rfl rfl ?_
      refine z_iconst (v := 1) dX7_answers_16 (by decide) ?_
      refine z_Vi (As := [_]) dX7_answers_17 (by rfl) v_X7_refuse l_X7_73 (by first | decide | assumption | omega) rfl rfl rfl (by omega) (by decide) (Nat.le_of_ble_eq_true rfl) ?_
      refine s_refuse (by rfl) (by decide) ?_
      exact z_ret dX7_answers_20 (WX_err hX hQ) trivial rfl
theorem x_puts {p cell : Int32} (hX : RX c σ) (hd : 8 ≤ d) (hQ : WX c Qf (o_puts σ p cell)) : zCl l E ad mX7_puts d [.ref (ad 0), .int p, .int cell] c Qf := by
  obtain ⟨n, t, m, hS, hI⟩ := id hX.1
  have hn6 := hI.1.2.1
  refine z_enter (own := RX7) [some (.ref (ad 0)), some (.int p), some (.int cell), none] (by decide +kernel) rfl rfl rfl (Nat.le_of_ble_eq_true rfl) ?_
  by_cases hok : isP σ p ∧ 0 ≤ cell ∧ cell ≤ 15
  · obtain ⟨j, hj, rfl⟩ := isP_of (f := σ.1) hok.1 hI.1.1 hn6
    have epj : pn (nI j) = j := pn_nI (by omega)
    have hR := hS.1.2.2.2 j hj
    have hpc : (0 ≤ nI j ∧ nI j ≤ σ.1 5 - 1) ∧ 0 ≤ cell ∧ cell ≤ 15 := hok
    unfold o_puts at hQ
    rw [if_pos hok, epj, upd_cm (by omega)] at hQ
    refine z_aload_n (i := 0) dX7_puts_0 rfl rfl ?_
    refine z_iload_n (i := 1) dX7_puts_1 rfl rfl ?_
    refine z_Vb (As := [_]) dX7_puts_2 (by rfl) v_X7_isPerson l_X7_86 (by first | decide | assumption | omega) rfl rfl rfl (by omega) (by decide) (Nat.le_of_ble_eq_true rfl) ?_
    refine s_isPerson hX ?_
    refine z_if_eq 15 dX7_puts_5 (by decide) (fun h_5 => ?_) (fun h_5 => ?_)
    · exfalso; exact absurd hpc.1 (bite.mp (by first | exact h_5 | exact Classical.not_not.mp h_5))
    refine z_iload_n (i := 2) dX7_puts_8 rfl rfl ?_
    refine z_Sb (As := [_]) dX7_puts_9 (by rfl) v_X7_isCell l_X7_123 rfl (by omega) (by decide) (Nat.le_of_ble_eq_true rfl) ?_
    refine s_isCell (by omega) ?_
    refine z_if_ne 21 dX7_puts_12 (by decide) (fun h_12 => ?_) (fun h_12 => ?_)
    rotate_left
    · exfalso; exact absurd hpc.2 (bite.mp (by first | exact h_12 | exact Classical.not_not.mp h_12))
    refine z_aload_n (i := 0) dX7_puts_21 rfl rfl ?_
    refine z_getf dX7_puts_22 f_X7_10 (by first | decide | assumption | omega) rfl (by rfl) ?_
    refine z_getf dX7_puts_25 f_X7_34 (by first | decide | assumption | omega) rfl (by rfl) ?_
    refine z_getf dX7_puts_28 f_X7_98 (by first | decide | assumption | omega) rfl (by rfl) ?_
    refine z_iload_n (i := 1) dX7_puts_31 rfl rfl ?_
    refine z_iald (j := j) dX7_puts_32 (by first | decide | assumption | omega) rfl (by rfl) (by first | decide | omega) (by first | decide | omega) ?_
    rw [hR.2.2.2.1]
    refine z_istore_n (i := 3) [_, _, _, _] dX7_puts_33 rfl (by decide) rfl rfl ?_
    refine z_aload_n (i := 0) dX7_puts_34 rfl rfl ?_
    refine z_getf dX7_puts_35 f_X7_10 (by first | decide | assumption | omega) rfl (by rfl) ?_
    refine z_getf dX7_puts_38 f_X7_34 (by first | decide | assumption | omega) rfl (by rfl) ?_
    refine z_iload_n (i := 1) dX7_puts_41 rfl rfl ?_
    refine z_iload_n (i := 2) dX7_puts_42 rfl rfl ?_
    refine z_Vv (As := [_, _]) dX7_puts_43 (by rfl) v_X1_stands l_X7_126 (by first | decide | assumption | omega) rfl rfl rfl (by omega) (by decide) (Nat.le_of_ble_eq_true rfl) ?_
    refine s_stands8 (v := cell) hS.1 hn6 (by omega) (fun c' hP hf => ?_)
    refine z_iload_n (i := 3) dX7_puts_46 rfl rfl ?_
    refine z_ret dX7_puts_47 (WX_now hX hQ ⟨hf 0 (by decide) (by decide), fun k a b e g => hf k (by omega) (by omega)⟩ ⟨n, t, m, ST_pr hS hP (fun k hk => hf k (by omega) (by omega)) (fun k hk => by rw [pk_un (by omega), pk_un (by omega)]) (by rw [pk_un (by omega), pk_un (by omega)]), ?_⟩) trivial rfl
    exact SI_u (SI_u hI (by omega) (by omega) (by omega) (by omega) (fun i hi e => by omega) (fun i hi e => by omega) (fun e => by omega)) (by omega) (by omega) (by omega) (by omega) (fun i hi e => by omega) (fun _ _ _ => Or.inl rfl) (fun e => by omega)
  · unfold o_puts at hQ
    rw [if_neg hok] at hQ
    refine z_aload_n (i := 0) dX7_puts_0 rfl rfl ?_
    refine z_iload_n (i := 1) dX7_puts_1 rfl rfl ?_
    refine z_Vb (As := [_]) dX7_puts_2 (by rfl) v_X7_isPerson l_X7_86 (by first | decide | assumption | omega) rfl rfl rfl (by omega) (by decide) (Nat.le_of_ble_eq_true rfl) ?_
    refine s_isPerson hX ?_
    refine z_if_eq 15 dX7_puts_5 (by decide) (fun h_5 => ?_) (fun h_5 => ?_)
    · refine z_aload_n (i := 0) dX7_puts_15 rfl rfl ?_
      refine z_iconst (v := 1) dX7_puts_16 (by decide) ?_
      refine z_Vi (As := [_]) dX7_puts_17 (by rfl) v_X7_refuse l_X7_73 (by first | decide | assumption | omega) rfl rfl rfl (by omega) (by decide) (Nat.le_of_ble_eq_true rfl) ?_
      refine s_refuse (by rfl) (by decide) ?_
      exact z_ret dX7_puts_20 (WX_err hX hQ) trivial rfl
    · refine z_iload_n (i := 2) dX7_puts_8 rfl rfl ?_
      refine z_Sb (As := [_]) dX7_puts_9 (by rfl) v_X7_isCell l_X7_123 rfl (by omega) (by decide) (Nat.le_of_ble_eq_true rfl) ?_
      refine s_isCell (by omega) ?_
      refine z_if_ne 21 dX7_puts_12 (by decide) (fun h_12 => ?_) (fun h_12 => ?_)
      · exfalso; exact hok ⟨Classical.byContradiction (fun q => h_5 (bite.mpr q)), Classical.byContradiction (fun q => h_12 (bite.mpr q))⟩
      refine z_aload_n (i := 0) dX7_puts_15 rfl rfl ?_
      refine z_iconst (v := 1) dX7_puts_16 (by decide) ?_
      refine z_Vi (As := [_]) dX7_puts_17 (by rfl) v_X7_refuse l_X7_73 (by first | decide | assumption | omega) rfl rfl rfl (by omega) (by decide) (Nat.le_of_ble_eq_true rfl) ?_
      refine s_refuse (by rfl) (by decide) ?_
      exact z_ret dX7_puts_20 (WX_err hX hQ) trivial rfl
theorem x_drop {cell is : Int32} (hX : RX c σ) (hd : 8 ≤ d) (hQ : WX c Qf (o_drop σ cell is)) : zCl l E ad mX7_drop d [.ref (ad 0), .int cell, .int is] c Qf := by
  obtain ⟨n, t, m, hS, hI⟩ := id hX.1
  have hn6 := hI.1.2.1
  refine z_enter (own := RX7) [some (.ref (ad 0)), some (.int cell), some (.int is), none, none] (by decide +kernel) rfl rfl rfl (Nat.le_of_ble_eq_true rfl) ?_
  by_cases hok : (1 ≤ cell ∧ cell ≤ 14) ∧ 0 ≤ is ∧ is ≤ 1
  · obtain ⟨j, hj, rfl⟩ := zj_of (x := cell) (n := 15) (by have := hok.1.1; grind) (by have := hok.1.2; show cell < (15 : Int32); grind) (by decide)
    have his : is = 0 ∨ is = 1 := by have := hok.2; grind
    unfold o_drop at hQ
    rw [if_pos hok] at hQ
    have eD : c 8 8 = σ.1 1 := hS.1.2.1
    have hb := dr_b (x := σ.1 1) hj
    have h01 := and1 (σ.1 1 >>> (nI j &&& 31))
    have z0 : (0 : Int32) <<< (nI j &&& 31) = 0 := Int32.zero_shiftLeft
    refine z_iload_n (i := 1) dX7_drop_0 rfl rfl ?_
    refine z_iconst (v := 1) dX7_drop_1 (by decide) ?_
    refine z_bipush (v := 14) dX7_drop_2 (by decide) ?_
    refine z_Sb (As := [_, _, _]) dX7_drop_4 (by rfl) v_X7_isWithin l_X7_115 rfl (by omega) (by decide) (Nat.le_of_ble_eq_true rfl) ?_
    refine s_isWithin ?_
    refine z_if_eq 19 dX7_drop_7 (by decide) (fun h_7 => ?_) (fun h_7 => ?_)
    · exfalso; exact absurd hok.1 (bite.mp (by first | exact h_7 | exact Classical.not_not.mp h_7))
    refine z_iload_n (i := 2) dX7_drop_10 rfl rfl ?_
    refine z_iconst (v := 0) dX7_drop_11 (by decide) ?_
    refine z_iconst (v := 1) dX7_drop_12 (by decide) ?_
    refine z_Sb (As := [_, _, _]) dX7_drop_13 (by rfl) v_X7_isWithin l_X7_115 rfl (by omega) (by decide) (Nat.le_of_ble_eq_true rfl) ?_
    refine s_isWithin ?_
    refine z_if_ne 25 dX7_drop_16 (by decide) (fun h_16 => ?_) (fun h_16 => ?_)
    rotate_left
    · exfalso; exact absurd hok.2 (bite.mp (by first | exact h_16 | exact Classical.not_not.mp h_16))
    refine z_aload_n (i := 0) dX7_drop_25 rfl rfl ?_
    refine z_getf dX7_drop_26 f_X7_10 (by first | decide | assumption | omega) rfl (by rfl) ?_
    refine z_getf dX7_drop_29 f_X7_34 (by first | decide | assumption | omega) rfl (by rfl) ?_
    refine z_astore_n (i := 3) [_, _, _, _, _] dX7_drop_32 rfl (by decide) rfl rfl ?_
    refine z_aload_n (i := 3) dX7_drop_33 rfl rfl ?_
    refine z_getf dX7_drop_34 f_X7_130 (by first | decide | assumption | omega) rfl (by rfl) ?_
    rw [eD]
    refine z_iload_n (i := 1) dX7_drop_37 rfl rfl ?_
    refine z_ishr dX7_drop_38 ?_
    refine z_iconst (v := 1) dX7_drop_39 (by decide) ?_
    refine z_iand dX7_drop_40 ?_
    refine z_istore (i := 4) [_, _, _, _, _] dX7_drop_41 (by decide) rfl rfl ?_
    refine z_iload (i := 4) dX7_drop_43 rfl ?_
    refine z_iload_n (i := 2) dX7_drop_45 rfl rfl ?_
    refine z_icmp_eq 61 dX7_drop_46 (by decide) (fun h_46 => ?_) (fun h_46 => ?_)
    · refine z_iload (i := 4) dX7_drop_61 rfl ?_
      first
      | (have hw : σ.1 1 >>> (nI j &&& 31) &&& 1 = is := by first | exact h_46 | exact Classical.not_not.mp h_46
         have e9 : σ.1 1 &&& ((1 : Int32) <<< (nI j &&& 31) ^^^ -1) ||| is <<< (nI j &&& 31) = σ.1 1 := by
           rcases his with e | e
           · rw [e] at hw ⊢
             rw [z0, Int32.or_zero]
             exact (hb.2 (by rw [hw]; decide)).1.symm
           · rw [e] at hw ⊢
             exact (hb.1 hw).1.symm
         rw [e9] at hQ
         refine z_ret dX7_drop_63 (WX_now hX hQ zfr_rf ⟨n, t, m, ?_, ?_⟩) trivial rfl
         · rw [upd_id rfl]; exact hS
         · rw [upd_id rfl]; exact hI)
      | (have hw : ¬ σ.1 1 >>> (nI j &&& 31) &&& 1 = is := h_46
         have e9 : σ.1 1 &&& ((1 : Int32) <<< (nI j &&& 31) ^^^ -1) ||| is <<< (nI j &&& 31) = σ.1 1 ^^^ (1 : Int32) <<< (nI j &&& 31) := by
           rcases his with e | e
           · rw [e] at hw ⊢
             rw [z0, Int32.or_zero]
             exact (hb.1 (h01.resolve_left hw)).2.symm
           · rw [e] at hw ⊢
             exact (hb.2 hw).2.symm
         rw [e9] at hQ
         refine z_ret dX7_drop_63 (WX_now hX hQ (zfr_u (by omega)) ⟨n, t, m, ST_pr hS (PR_dr hS.1) (fun k hk => zup_n (by omega)) (fun k hk => pk_un (by omega)) (pk_un (by omega)), ?_⟩) trivial rfl
         exact SI_u hI (by omega) (by omega) (by omega) (by omega) (fun i hi e => by omega) (fun i hi e => by omega) (fun e => by omega))
    · refine z_aload_n (i := 3) dX7_drop_49 rfl rfl ?_
      refine z_dup dX7_drop_50 rfl ?_
      refine z_getf dX7_drop_51 f_X7_130 (by first | decide | assumption | omega) rfl (by rfl) ?_
      rw [eD]
      refine z_iconst (v := 1) dX7_drop_54 (by decide) ?_
      refine z_iload_n (i := 1) dX7_drop_55 rfl rfl ?_
      refine z_ishl dX7_drop_56 ?_
      refine z_ixor dX7_drop_57 ?_
      refine z_putfi dX7_drop_58 f_X7_130 fp_X1_8 (by first | decide | assumption | omega) rfl (by exact Nat.le_of_ble_eq_true rfl) rfl ?_
      refine z_iload (i := 4) dX7_drop_61 rfl ?_
      first
      | (have hw : σ.1 1 >>> (nI j &&& 31) &&& 1 = is := by first | exact h_46 | exact Classical.not_not.mp h_46
         have e9 : σ.1 1 &&& ((1 : Int32) <<< (nI j &&& 31) ^^^ -1) ||| is <<< (nI j &&& 31) = σ.1 1 := by
           rcases his with e | e
           · rw [e] at hw ⊢
             rw [z0, Int32.or_zero]
             exact (hb.2 (by rw [hw]; decide)).1.symm
           · rw [e] at hw ⊢
             exact (hb.1 hw).1.symm
         rw [e9] at hQ
         refine z_ret dX7_drop_63 (WX_now hX hQ zfr_rf ⟨n, t, m, ?_, ?_⟩) trivial rfl
         · rw [upd_id rfl]; exact hS
         · rw [upd_id rfl]; exact hI)
      | (have hw : ¬ σ.1 1 >>> (nI j &&& 31) &&& 1 = is := h_46
         have e9 : σ.1 1 &&& ((1 : Int32) <<< (nI j &&& 31) ^^^ -1) ||| is <<< (nI j &&& 31) = σ.1 1 ^^^ (1 : Int32) <<< (nI j &&& 31) := by
           rcases his with e | e
           · rw [e] at hw ⊢
             rw [z0, Int32.or_zero]
             exact (hb.1 (h01.resolve_left hw)).2.symm
           · rw [e] at hw ⊢
             exact (hb.2 hw).2.symm
         rw [e9] at hQ
         refine z_ret dX7_drop_63 (WX_now hX hQ (zfr_u (by omega)) ⟨n, t, m, ST_pr hS (PR_dr hS.1) (fun k hk => zup_n (by omega)) (fun k hk => pk_un (by omega)) (pk_un (by omega)), ?_⟩) trivial rfl
         exact SI_u hI (by omega) (by omega) (by omega) (by omega) (fun i hi e => by omega) (fun i hi e => by omega) (fun e => by omega))
  · unfold o_drop at hQ
    rw [if_neg hok] at hQ
    refine z_iload_n (i := 1) dX7_drop_0 rfl rfl ?_
    refine z_iconst (v := 1) dX7_drop_1 (by decide) ?_
    refine z_bipush (v := 14) dX7_drop_2 (by decide) ?_
    refine z_Sb (As := [_, _, _]) dX7_drop_4 (by rfl) v_X7_isWithin l_X7_115 rfl (by omega) (by decide) (Nat.le_of_ble_eq_true rfl) ?_
    refine s_isWithin ?_
    refine z_if_eq 19 dX7_drop_7 (by decide) (fun h_7 => ?_) (fun h_7 => ?_)
    · refine z_aload_n (i := 0) dX7_drop_19 rfl rfl ?_
      refine z_iconst (v := 1) dX7_drop_20 (by decide) ?_
      refine z_Vi (As := [_]) dX7_drop_21 (by rfl) v_X7_refuse l_X7_73 (by first | decide | assumption | omega) rfl rfl rfl (by omega) (by decide) (Nat.le_of_ble_eq_true rfl) ?_
      refine s_refuse (by rfl) (by decide) ?_
      exact z_ret dX7_drop_24 (WX_err hX hQ) trivial rfl
    · refine z_iload_n (i := 2) dX7_drop_10 rfl rfl ?_
      refine z_iconst (v := 0) dX7_drop_11 (by decide) ?_
      refine z_iconst (v := 1) dX7_drop_12 (by decide) ?_
      refine z_Sb (As := [_, _, _]) dX7_drop_13 (by rfl) v_X7_isWithin l_X7_115 rfl (by omega) (by decide) (Nat.le_of_ble_eq_true rfl) ?_
      refine s_isWithin ?_
      refine z_if_ne 25 dX7_drop_16 (by decide) (fun h_16 => ?_) (fun h_16 => ?_)
      · exfalso; exact hok ⟨Classical.byContradiction (fun q => h_7 (bite.mpr q)), Classical.byContradiction (fun q => h_16 (bite.mpr q))⟩
      refine z_aload_n (i := 0) dX7_drop_19 rfl rfl ?_
      refine z_iconst (v := 1) dX7_drop_20 (by decide) ?_
      refine z_Vi (As := [_]) dX7_drop_21 (by rfl) v_X7_refuse l_X7_73 (by first | decide | assumption | omega) rfl rfl rfl (by omega) (by decide) (Nat.le_of_ble_eq_true rfl) ?_
      refine s_refuse (by rfl) (by decide) ?_
      exact z_ret dX7_drop_24 (WX_err hX hQ) trivial rfl
theorem x_hour {v : Int32} (hX : RX c σ) (hd : 8 ≤ d) (hQ : WX c Qf (o_hour σ v)) : zCl l E ad mX7_hour d [.ref (ad 0), .int v] c Qf := by
  obtain ⟨n, t, m, hS, hI⟩ := id hX.1
  have hn6 := hI.1.2.1
  have eH : c 8 9 = σ.1 0 := hS.1.2.2.1
  refine z_enter (own := RX7) [some (.ref (ad 0)), some (.int v), none] (by decide +kernel) rfl rfl rfl (Nat.le_of_ble_eq_true rfl) ?_
  by_cases hok : 0 ≤ v ∧ v ≤ 9999
  · obtain ⟨j, hj, rfl⟩ := zj_of (x := v) (n := 10000) hok.1 (by have := hok.2; show v < (10000 : Int32); grind) (by decide)
    unfold o_hour at hQ
    rw [if_pos hok] at hQ
    refine z_iload_n (i := 1) dX7_hour_0 rfl rfl ?_
    refine z_iconst (v := 0) dX7_hour_1 (by decide) ?_
    refine z_sipush (v := 9999) dX7_hour_2 (by decide) ?_
    refine z_Sb (As := [_, _, _]) dX7_hour_5 (by rfl) v_X7_isWithin l_X7_115 rfl (by omega) (by decide) (Nat.le_of_ble_eq_true rfl) ?_
    refine s_isWithin ?_
    refine z_if_ne 17 dX7_hour_8 (by decide) (fun h_8 => ?_) (fun h_8 => ?_)
    rotate_left
    · exfalso; exact absurd hok (bite.mp (by first | exact h_8 | exact Classical.not_not.mp h_8))
    refine z_aload_n (i := 0) dX7_hour_17 rfl rfl ?_
    refine z_getf dX7_hour_18 f_X7_10 (by first | decide | assumption | omega) rfl (by rfl) ?_
    refine z_getf dX7_hour_21 f_X7_34 (by first | decide | assumption | omega) rfl (by rfl) ?_
    refine z_getf dX7_hour_24 f_X7_168 (by first | decide | assumption | omega) rfl (by rfl) ?_
    rw [eH]
    refine z_istore_n (i := 2) [_, _, _] dX7_hour_27 rfl (by decide) rfl rfl ?_
    refine z_aload_n (i := 0) dX7_hour_28 rfl rfl ?_
    refine z_getf dX7_hour_29 f_X7_10 (by first | decide | assumption | omega) rfl (by rfl) ?_
    refine z_getf dX7_hour_32 f_X7_34 (by first | decide | assumption | omega) rfl (by rfl) ?_
    refine z_iload_n (i := 1) dX7_hour_35 rfl rfl ?_
    refine z_putfi dX7_hour_36 f_X7_168 fp_X1_9 (by first | decide | assumption | omega) rfl (by exact Nat.le_of_ble_eq_true rfl) rfl ?_
    refine z_iload_n (i := 2) dX7_hour_39 rfl rfl ?_
    refine z_ret dX7_hour_40 (WX_now hX hQ (zfr_u (by omega)) ⟨n, t, m, ST_pr hS (PR_hr hS.1) (fun k hk => zup_n (by omega)) (fun k hk => pk_un (by omega)) (pk_un (by omega)), ?_⟩) trivial rfl
    exact SI_u hI (by omega) (by omega) (by omega) (by omega) (fun i hi e => by omega) (fun i hi e => by omega) (fun _ => ⟨j, by omega, rfl⟩)
  · unfold o_hour at hQ
    rw [if_neg hok] at hQ
    refine z_iload_n (i := 1) dX7_hour_0 rfl rfl ?_
    refine z_iconst (v := 0) dX7_hour_1 (by decide) ?_
    refine z_sipush (v := 9999) dX7_hour_2 (by decide) ?_
    refine z_Sb (As := [_, _, _]) dX7_hour_5 (by rfl) v_X7_isWithin l_X7_115 rfl (by omega) (by decide) (Nat.le_of_ble_eq_true rfl) ?_
    refine s_isWithin ?_
    refine z_if_ne 17 dX7_hour_8 (by decide) (fun h_8 => ?_) (fun h_8 => ?_)
    · exfalso; exact hok (Classical.byContradiction (fun q => h_8 (bite.mpr q)))
    refine z_aload_n (i := 0) dX7_hour_11 rfl rfl ?_
    refine z_iconst (v := 1) dX7_hour_12 (by decide) ?_
    refine z_Vi (As := [_]) dX7_hour_13 (by rfl) v_X7_refuse l_X7_73 (by first | decide | assumption | omega) rfl rfl rfl (by omega) (by decide) (Nat.le_of_ble_eq_true rfl) ?_
    refine s_refuse (by rfl) (by decide) ?_
    exact z_ret dX7_hour_16 (WX_err hX hQ) trivial rfl
theorem ST_1 {c : zS} {n t m i : Nat} {f g : zN} {v : Int32} (h : ST c 1 8 2 3 5 6 14 15 n t m f) (hi : i ≠ 4) (hi6 : i ≠ 6) (e2 : ∀ k, k ≠ 2 → g k = f k) (e3 : g 2 = upd (c 1) i v 7) : ST (zup c 1 (upd (c 1) i v)) 1 8 2 3 5 6 14 15 n t m g := by
  obtain ⟨h1, h2, h3, h4, h5, h6, h7, h8⟩ := h
  refine ⟨?_, LR_cg (by decide) h2 (fun k hk => e2 k (by omega)) rfl rfl, LR_cg (by decide) h3 (fun k hk => e2 k (by omega)) rfl rfl, by rw [zup_s, pk_un (Ne.symm hi)]; exact h4, by rw [zup_s, pk_un (Ne.symm hi6)]; exact h5, by rw [zup_s]; exact e3.symm, fun i hi => by rw [zup_n (by decide), e2 _ (by omega)]; exact h7 i hi, fun i hi => by rw [zup_n (by decide), e2 _ (by omega)]; exact h8 i hi⟩
  obtain ⟨a1, a2, a3, a4⟩ := h1
  exact ⟨a1, by rw [e2 1 (by decide)]; exact a2, by rw [e2 0 (by decide)]; exact a3, fun i hi => by rw [e2 _ (by omega), e2 _ (by omega), e2 _ (by omega), e2 _ (by omega), e2 _ (by omega)]; exact a4 i hi⟩
theorem x_seed {v : Int32} (hX : RX c σ) (hd : 8 ≤ d) (hQ : WX c Qf (o_seed σ v)) : zCl l E ad mX7_seed d [.ref (ad 0), .int v] c Qf := by
  obtain ⟨n, t, m, hS, hI⟩ := id hX.1
  have eZ : c 1 7 = σ.1 2 := hS.2.2.2.2.2.1
  refine z_enter (own := RX7) [some (.ref (ad 0)), some (.int v), none] (by decide +kernel) rfl rfl rfl (Nat.le_of_ble_eq_true rfl) ?_
  refine z_aload_n (i := 0) dX7_seed_0 rfl rfl ?_
  refine z_getf dX7_seed_1 f_X7_10 (by first | decide | assumption | omega) rfl (by rfl) ?_
  refine z_getf dX7_seed_4 f_X7_182 (by first | decide | assumption | omega) rfl (by rfl) ?_
  rw [eZ]
  refine z_istore_n (i := 2) [_, _, _] dX7_seed_7 rfl (by decide) rfl rfl ?_
  refine z_aload_n (i := 0) dX7_seed_8 rfl rfl ?_
  refine z_getf dX7_seed_9 f_X7_10 (by first | decide | assumption | omega) rfl (by rfl) ?_
  refine z_iload_n (i := 1) dX7_seed_12 rfl rfl ?_
  refine z_putfi dX7_seed_13 f_X7_182 fp_X4_7 (by first | decide | assumption | omega) rfl (by exact Nat.le_of_ble_eq_true rfl) rfl ?_
  refine z_iload_n (i := 2) dX7_seed_16 rfl rfl ?_
  refine z_ret dX7_seed_17 (WX_now hX hQ (zfr_u (by omega)) ⟨n, t, m, ST_1 hS (by decide) (by decide) (fun k hk => pk_un hk) (by rw [pk_us, pk_us]), ?_⟩) trivial rfl
  exact SI_u hI (by omega) (by omega) (by omega) (by omega) (fun i hi e => by omega) (fun i hi e => by omega) (fun e => by omega)
theorem x_told {k : Int32} (hX : RX c σ) (hd : 8 ≤ d) (hQ : WX c Qf (o_told σ k)) : zCl l E ad mX7_told d [.ref (ad 0), .int k] c Qf := by
  refine z_enter (own := RX7) [some (.ref (ad 0)), some (.int k)] (by decide +kernel) rfl rfl rfl (Nat.le_of_ble_eq_true rfl) ?_
  by_cases hok : 1 ≤ k ∧ k ≤ 6
  · obtain ⟨j, hj, rfl⟩ := zj_of (x := k) (n := 7) (by have := hok.1; grind) (by have := hok.2; show k < (7 : Int32); grind) (by decide)
    have epj : pn (nI j) = j := pn_nI (by omega)
    unfold o_told at hQ
    rw [if_pos hok, epj, ← hX.2.2.2.2.1] at hQ
    refine z_iload_n (i := 1) dX7_told_0 rfl rfl ?_
    refine z_iconst (v := 1) dX7_told_1 (by decide) ?_
    refine z_bipush (v := 6) dX7_told_2 (by decide) ?_
    refine z_Sb (As := [_, _, _]) dX7_told_4 (by rfl) v_X7_isWithin l_X7_115 rfl (by omega) (by decide) (Nat.le_of_ble_eq_true rfl) ?_
    refine s_isWithin ?_
    refine z_if_ne 16 dX7_told_7 (by decide) (fun h_7 => ?_) (fun h_7 => ?_)
    rotate_left
    · exfalso; exact absurd hok (bite.mp (by first | exact h_7 | exact Classical.not_not.mp h_7))
    refine z_aload_n (i := 0) dX7_told_16 rfl rfl ?_
    refine z_getf dX7_told_17 f_X7_59 (by first | decide | assumption | omega) rfl (by rfl) ?_
    refine z_iload_n (i := 1) dX7_told_20 rfl rfl ?_
    refine z_iald dX7_told_21 (by first | decide | assumption | omega) rfl (by rfl) (by first | decide | omega) (by first | decide | omega) ?_
    exact z_ret dX7_told_22 (WX_rf hX hQ) trivial rfl
  · unfold o_told at hQ
    rw [if_neg hok] at hQ
    refine z_iload_n (i := 1) dX7_told_0 rfl rfl ?_
    refine z_iconst (v := 1) dX7_told_1 (by decide) ?_
    refine z_bipush (v := 6) dX7_told_2 (by decide) ?_
    refine z_Sb (As := [_, _, _]) dX7_told_4 (by rfl) v_X7_isWithin l_X7_115 rfl (by omega) (by decide) (Nat.le_of_ble_eq_true rfl) ?_
    refine s_isWithin ?_
    refine z_if_ne 16 dX7_told_7 (by decide) (fun h_7 => ?_) (fun h_7 => ?_)
    · exfalso; exact hok (Classical.byContradiction (fun q => h_7 (bite.mpr q)))
    refine z_aload_n (i := 0) dX7_told_10 rfl rfl ?_
    refine z_iconst (v := 1) dX7_told_11 (by decide) ?_
    refine z_Vi (As := [_]) dX7_told_12 (by rfl) v_X7_refuse l_X7_73 (by first | decide | assumption | omega) rfl rfl rfl (by omega) (by decide) (Nat.le_of_ble_eq_true rfl) ?_
    refine s_refuse (by rfl) (by decide) ?_
    exact z_ret dX7_told_15 (WX_err hX hQ) trivial rfl
end X2
