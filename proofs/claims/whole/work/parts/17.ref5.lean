/-! the reference's calls, five: least, odds, with whom, draws -/
theorem dvF_nI (f : zN) : ∃ m : Nat, m < 16777216 ∧ dvF f = nI m := by
  refine ⟨(f 2 * 1103515245 + 12345).toBitVec.toNat / 2 ^ 8, ?_, ?_⟩
  · have := (f 2 * 1103515245 + 12345).toBitVec.isLt
    omega
  · have h := pk_ushr (f 2 * 1103515245 + 12345) 8 8 (by decide)
    have h2 := pk_tn (n := (f 2 * 1103515245 + 12345).toBitVec.toNat / 2 ^ 8) (by have := (f 2 * 1103515245 + 12345).toBitVec.isLt; omega)
    unfold dvF
    apply Int32.toBitVec_inj.mp
    apply BitVec.eq_of_toNat_eq
    rw [h2]
    exact h
theorem reF_nI (f : zN) {n : Nat} (h0 : 0 < n) (hn : n < 1000) : ∃ j : Nat, j < n ∧ reF (dvF f) (nI n) = nI j := by
  obtain ⟨m, hm, e⟩ := dvF_nI f
  refine ⟨m % n, Nat.mod_lt _ h0, ?_⟩
  unfold reF
  rw [e]
  exact pk_rem (by omega) h0 (by omega)
theorem vaF_dz {f : zN} {n : Nat} (h : vaF f n) : vaF (dzF f) n := vaF_up (by omega) (by omega) h
theorem vaF_su {f : zN} {n : Nat} (h : vaF f n) : vaF (suF f) n := by
  unfold suF
  split
  · next h0 =>
    have hn : 0 < n := by rw [h.1] at h0; exact (pn_0 (by have := h.2.1; omega)).mp h0
    obtain ⟨j, hj, e⟩ := reF_nI f hn (by have := h.2.1; omega)
    have h6 := h.2.1
    dsimp only
    rw [h.1, e, pn_nI (by omega)]
    exact vaF_up (by omega) (by omega) (vaF_dz (vaF_dz h))
  · exact h
theorem vaF_dr {f : zN} {n : Nat} (h : vaF f n) : vaF (drF f) n := by
  unfold drF
  split
  · exact vaF_up (by omega) (by omega) (vaF_dz (vaF_dz h))
  · exact vaF_dz (vaF_dz h)
theorem vaF_lo {n : Nat} : ∀ {k : Nat} {f : zN}, vaF f n → vaF (loF k f) n
  | 0, _, h => h
  | k + 1, _, h => vaF_lo (k := k) (vaF_hr (vaF_dr (vaF_su h)))
theorem h99_le {i : Nat} (h : ¬ (99 : Int32) < nI i) (hi : i ≤ 100) : i ≤ 99 := by
  have := nI_ltI (a := 99) (b := i) (by omega) (by omega)
  have := mt this.mpr h
  omega
theorem h99_gt {i : Nat} (h : (99 : Int32) < nI i) (hi : i ≤ 100) : i = 100 := by
  have := (nI_ltI (a := 99) (b := i) (by omega) (by omega)).mp h
  omega
theorem h99_le' {i : Nat} (h : nI i ≤ (99 : Int32)) (hi : i ≤ 100) : i ≤ 99 := (nI_leI (a := i) (b := 99) (by omega) (by omega)).mp h
theorem h99_gt' {i : Nat} (h : ¬ nI i ≤ (99 : Int32)) (hi : i ≤ 100) : i = 100 := by
  have := mt (nI_leI (a := i) (b := 99) (by omega) (by omega)).mpr h
  omega
section R5
variable {l : Launch} {E : zE} {ad : Nat → Nat} {c : zS} {Qf : Int32 → zS → Prop} {d n : Nat}
theorem t_comesWith {f : zN} {p k : Nat} {cell sure : Int32} (hf : c 52 = f) (hv : vaF f n) (hp : p < n) (hk : k ≤ 60) (hd : 7 ≤ d) (hQ : ∀ c', zsc c c' → Qf (if cwF f p cell k sure = true then 1 else 0) c') : zCl l E ad mX8_comesWith d [.ref (ad 51), .int (nI p), .int cell, .int (nI k), .int sure] c Qf := by
  subst hf
  exact s_X8_comesWith hv hp hk hd hQ
theorem t_farWith {f : zN} {p o k : Nat} (hf : c 52 = f) (hv : vaF f n) (hp : p < n) (ho : o < n) (hk : k ≤ 60) (hd : 7 ≤ d) (hQ : ∀ c', zsc c c' → Qf (farF f p o k) c') : zCl l E ad mX8_farWith d [.ref (ad 51), .int (nI p), .int (nI o), .int (nI k)] c Qf := by
  subst hf
  exact s_X8_farWith hv hp ho hk hd hQ
theorem mst_err {c c' : zS} {k : Nat} (h : zsc c c') : mst (zup c' 55 (upd (c' 55) k (c' 55 k + 1))) = wE (mst c) (upd (c 55) k (c 55 k + 1)) := by
  have h9 := mst_zsc h
  unfold mst at h9
  simp only [Prod.mk.injEq] at h9
  obtain ⟨a1, a2, a3, a4, a5, a6, a7, a8, a9⟩ := h9
  unfold mst wE
  simp only [zup_n (show (52 : Nat) ≠ 55 by decide), zup_n (show (53 : Nat) ≠ 55 by decide), zup_n (show (51 : Nat) ≠ 55 by decide), zup_n (show (59 : Nat) ≠ 55 by decide), zup_n (show (60 : Nat) ≠ 55 by decide), zup_n (show (61 : Nat) ≠ 55 by decide), zup_n (show (62 : Nat) ≠ 55 by decide), zup_s, a1, a2, a3, a4, a5, a6, a7, a8, a9]
theorem err_eq {c c' : zS} {k : Nat} (h : zsc c c') : (-1000000000 - nI k, mst (zup c' 55 (upd (c' 55) k (c' 55 k + 1)))) = err (mst c) k := by
  unfold err
  rw [mst_err h]
  rfl
theorem o8_least {p cell k : Int32} (hv : vaF (c 52) n) (hd : 9 ≤ d) (hQ : ∀ r c', (∀ k, k < 51 → c' k = c k) → (r, mst c') = o_least (mst c) p cell k → Qf r c') : zCl l E ad mX8_least d [.ref (ad 51), .int p, .int cell, .int k] c Qf := by
  obtain ⟨hn, hn6, hw0, hw1⟩ := id hv
  refine z_enter (own := RX8) [some (.ref (ad 51)), some (.int p), some (.int cell), some (.int k), none] (by decide +kernel) rfl rfl rfl (Nat.le_of_ble_eq_true rfl) ?_
  have loop : ∀ (j m : Nat), j < n → m ≤ 20 → (isP (mst c) (nI j) ∧ (0 ≤ cell ∧ cell ≤ 15) ∧ 0 ≤ nI m ∧ nI m ≤ 20) → p = nI j → k = nI m → ∀ (r i : Nat) (c1 : zS), 100 - i < r → i ≤ 100 → zsc c c1 → fsF (fun i => cwF (c 52) j cell m (nI i)) (100 - i) i = fsF (fun i => cwF (c 52) j cell m (nI i)) 100 0 → zW l E ad RX8 cX8_least 5 1 d Qf 31 [some (.ref (ad 51)), some (.int (nI j)), some (.int cell), some (.int (nI m)), some (.int (nI i))] [] c1 := by
    intro j m hj hm hok ep ek r
    subst ep
    subst ek
    have tail : ∀ (i : Nat) (c1 : zS), i ≤ 100 → zsc c c1 → i = fsF (fun i => cwF (c 52) j cell m (nI i)) 100 0 → zW l E ad RX8 cX8_least 5 1 d Qf 56 [some (.ref (ad 51)), some (.int (nI j)), some (.int cell), some (.int (nI m)), some (.int (nI i))] [] c1 := by
      intro i c1 hi hc1 e
      have h99 : nI i ≤ (99 : Int32) ↔ i ≤ 99 := nI_leI (a := i) (b := 99) (by omega) (by omega)
      refine z_iload (i := 4) dX8_least_56 rfl ?_
      refine z_bipush (v := 99) dX8_least_58 (by decide) ?_
      refine z_icmp_le 71 dX8_least_60 (by decide) (fun h_60 => ?_) (fun h_60 => ?_)
      · refine z_iload (i := 4) dX8_least_71 rfl ?_
        first
        | (have h9 : i = 100 := h99_gt' h_60 hi
           subst h9
           exact z_ret dX8_least_73 (hQ _ _ (fun k hk => by rw [zup_n (by omega)]; exact hc1 k (by omega) (by omega) (by omega)) (by
             unfold o_least
             rw [if_pos hok, pn_nI (show j < 2147483648 by omega), pn_nI (show m < 2147483648 by omega), show (mst c).1 = c 52 from rfl, if_pos e.symm]
             exact err_eq hc1)) trivial rfl)
        | (have h9 : ¬ i = 100 := by have := h99.mp h_60; omega
           exact z_ret dX8_least_73 (hQ _ _ (fun k hk => hc1 k (by omega) (by omega) (by omega)) (by
             unfold o_least
             rw [if_pos hok, pn_nI (show j < 2147483648 by omega), pn_nI (show m < 2147483648 by omega), show (mst c).1 = c 52 from rfl, ← e, if_neg h9, mst_zsc hc1])) trivial rfl)
      · refine z_aload_n (i := 0) dX8_least_63 rfl rfl ?_
        refine z_iconst (v := 2) dX8_least_64 (by decide) ?_
        refine z_Vi (As := [_]) dX8_least_65 (by rfl) v_X8_error l_X8_51 (by first | decide | assumption | omega) rfl rfl rfl (by omega) (by decide) (Nat.le_of_ble_eq_true rfl) ?_
        refine s_X8_error (by rfl) (by first | decide | omega) ?_
        refine z_goto 73 dX8_least_68 (by decide) ?_
        first
        | (have h9 : i = 100 := h99_gt' h_60 hi
           subst h9
           exact z_ret dX8_least_73 (hQ _ _ (fun k hk => by rw [zup_n (by omega)]; exact hc1 k (by omega) (by omega) (by omega)) (by
             unfold o_least
             rw [if_pos hok, pn_nI (show j < 2147483648 by omega), pn_nI (show m < 2147483648 by omega), show (mst c).1 = c 52 from rfl, if_pos e.symm]
             exact err_eq hc1)) trivial rfl)
        | (have h9 : ¬ i = 100 := by have := h99.mp h_60; omega
           exact z_ret dX8_least_73 (hQ _ _ (fun k hk => hc1 k (by omega) (by omega) (by omega)) (by
             unfold o_least
             rw [if_pos hok, pn_nI (show j < 2147483648 by omega), pn_nI (show m < 2147483648 by omega), show (mst c).1 = c 52 from rfl, ← e, if_neg h9, mst_zsc hc1])) trivial rfl)
    induction r with
    | zero => intro i c1 h; omega
    | succ r ih =>
      intro i c1 hr hi hc1 e
      have hlt : nI i ≤ (99 : Int32) ↔ i ≤ 99 := nI_leI (a := i) (b := 99) (by omega) (by omega)
      have e1 := hc1 52 (by decide) (by decide) (by decide)
      refine z_iload (i := 4) dX8_least_31 rfl ?_
      refine z_bipush (v := 99) dX8_least_33 (by decide) ?_
      refine z_icmp_gt 56 dX8_least_35 (by decide) (fun h_35 => ?_) (fun h_35 => ?_)
      · first
        | (rw [if_pos (by grind)] at e
           exact tail i _ hi (zsc_tr hc1 hc') e)
        | (have hi9 : i = 100 := h99_gt h_35 hi
           subst hi9
           exact tail 100 _ hi hc1 e)
      · have hi9 : i ≤ 99 := h99_le h_35 hi
        obtain ⟨s, es⟩ : ∃ s, 100 - i = s + 1 := ⟨99 - i, by omega⟩
        rw [es] at e
        unfold fsF at e
        refine z_aload_n (i := 0) dX8_least_38 rfl rfl ?_
        refine z_iload_n (i := 1) dX8_least_39 rfl rfl ?_
        refine z_iload_n (i := 2) dX8_least_40 rfl rfl ?_
        refine z_iload_n (i := 3) dX8_least_41 rfl rfl ?_
        refine z_iload (i := 4) dX8_least_42 rfl ?_
        refine z_Vb (As := [_, _, _, _]) dX8_least_44 (by rfl) v_X8_comesWith l_X8_199 (by first | decide | assumption | omega) rfl rfl rfl (by omega) (by decide) (Nat.le_of_ble_eq_true rfl) ?_
        refine t_comesWith e1 hv hj (by omega) (by omega) (fun c' hc' => ?_)
        refine z_if_ne 56 dX8_least_47 (by decide) (fun h_47 => ?_) (fun h_47 => ?_)
        · first
          | (rw [if_pos (by grind)] at e
             exact tail i _ hi (zsc_tr hc1 hc') e)
          | (have hi9 : i = 100 := h99_gt h_35 hi
             subst hi9
             exact tail 100 _ hi hc1 e)
        · refine z_iinc (i := 4) (v := 1) [_, _, _, _, _] dX8_least_50 rfl (by decide) (by decide) rfl rfl ?_
          refine z_goto 31 dX8_least_53 (by decide) ?_
          rw [nI_1]
          rw [if_neg (by grind)] at e
          exact ih (i + 1) c' (by omega) (by omega) (zsc_tr hc1 hc') (by rw [show 100 - (i + 1) = s by omega]; exact e)
  refine z_aload_n (i := 0) dX8_least_0 rfl rfl ?_
  refine z_iload_n (i := 1) dX8_least_1 rfl rfl ?_
  refine z_Vb (As := [_]) dX8_least_2 (by rfl) v_X8_isPerson l_X8_157 (by first | decide | assumption | omega) rfl rfl rfl (by omega) (by decide) (Nat.le_of_ble_eq_true rfl) ?_
  refine s_X8_isPerson (by omega) ?_
  refine z_if_eq 22 dX8_least_5 (by decide) (fun h_5 => ?_) (fun h_5 => ?_)
  · refine z_aload_n (i := 0) dX8_least_22 rfl rfl ?_
    refine z_iconst (v := 1) dX8_least_23 (by decide) ?_
    refine z_Vi (As := [_]) dX8_least_24 (by rfl) v_X8_error l_X8_51 (by first | decide | assumption | omega) rfl rfl rfl (by omega) (by decide) (Nat.le_of_ble_eq_true rfl) ?_
    refine s_X8_error (by rfl) (by first | decide | omega) ?_
    exact z_ret dX8_least_27 (hQ _ _ (by intro k hk; simp (disch := omega) only [zup_n]) (by unfold o_least; rw [if_neg (by show ¬ ((0 ≤ p ∧ p ≤ c 52 5 - 1) ∧ _); grind)]; rfl)) trivial rfl
  · refine z_iload_n (i := 2) dX8_least_8 rfl rfl ?_
    refine z_Sb (As := [_]) dX8_least_9 (by rfl) v_X8_isCell l_X8_169 rfl (by omega) (by decide) (Nat.le_of_ble_eq_true rfl) ?_
    refine s_X8_isCell (by omega) ?_
    refine z_if_eq 22 dX8_least_12 (by decide) (fun h_12 => ?_) (fun h_12 => ?_)
    · refine z_aload_n (i := 0) dX8_least_22 rfl rfl ?_
      refine z_iconst (v := 1) dX8_least_23 (by decide) ?_
      refine z_Vi (As := [_]) dX8_least_24 (by rfl) v_X8_error l_X8_51 (by first | decide | assumption | omega) rfl rfl rfl (by omega) (by decide) (Nat.le_of_ble_eq_true rfl) ?_
      refine s_X8_error (by rfl) (by first | decide | omega) ?_
      exact z_ret dX8_least_27 (hQ _ _ (by intro k hk; simp (disch := omega) only [zup_n]) (by unfold o_least; rw [if_neg (by show ¬ ((0 ≤ p ∧ p ≤ c 52 5 - 1) ∧ _); grind)]; rfl)) trivial rfl
    · refine z_iload_n (i := 3) dX8_least_15 rfl rfl ?_
      refine z_Sb (As := [_]) dX8_least_16 (by rfl) v_X8_isSoon l_X8_196 rfl (by omega) (by decide) (Nat.le_of_ble_eq_true rfl) ?_
      refine s_X8_isSoon (by omega) ?_
      refine z_if_ne 28 dX8_least_19 (by decide) (fun h_19 => ?_) (fun h_19 => ?_)
      · have hok : isP (mst c) p ∧ (0 ≤ cell ∧ cell ≤ 15) ∧ 0 ≤ k ∧ k ≤ 20 := by show (0 ≤ p ∧ p ≤ c 52 5 - 1) ∧ _; grind
        obtain ⟨j, hj, rfl⟩ := isP_of (f := c 52) hok.1 hn hn6
        obtain ⟨m, hm, rfl⟩ := zj_of (x := k) (n := 21) (by grind) (by show k < (21 : Int32); grind) (by decide)
        refine z_iconst (v := 0) dX8_least_28 (by decide) ?_
        refine z_istore (i := 4) [_, _, _, _, _] dX8_least_29 (by decide) rfl rfl ?_
        exact loop j m hj (by omega) hok rfl rfl 101 0 c (by omega) (by omega) zsc_rf rfl
      · refine z_aload_n (i := 0) dX8_least_22 rfl rfl ?_
        refine z_iconst (v := 1) dX8_least_23 (by decide) ?_
        refine z_Vi (As := [_]) dX8_least_24 (by rfl) v_X8_error l_X8_51 (by first | decide | assumption | omega) rfl rfl rfl (by omega) (by decide) (Nat.le_of_ble_eq_true rfl) ?_
        refine s_X8_error (by rfl) (by first | decide | omega) ?_
        exact z_ret dX8_least_27 (hQ _ _ (by intro k hk; simp (disch := omega) only [zup_n]) (by unfold o_least; rw [if_neg (by show ¬ ((0 ≤ p ∧ p ≤ c 52 5 - 1) ∧ _); grind)]; rfl)) trivial rfl
theorem s_X8_divisor {a b : Nat} (ha : a ≤ 1000) (hb : b ≤ 1000) (hQ : Qf (nI (Nat.gcd a b)) c) : zCl l E ad mX8_divisor d [.int (nI a), .int (nI b)] c Qf := by
  refine z_enter (own := RX8) [some (.int (nI a)), some (.int (nI b)), none, none, none] (by decide +kernel) rfl rfl rfl (Nat.le_of_ble_eq_true rfl) ?_
  have loop : ∀ (r x y : Nat) (z : Option Value), y < r → x ≤ 1000 → y ≤ 1000 → Nat.gcd x y = Nat.gcd a b → zW l E ad RX8 cX8_divisor 5 1 d Qf 4 [some (.int (nI a)), some (.int (nI b)), some (.int (nI x)), some (.int (nI y)), z] [] c := by
    intro r
    induction r with
    | zero => intro x y z h; omega
    | succ r ih =>
      intro x y z hr hx hy e
      have h0 := nI_eq (a := y) (b := 0) (by omega) (by omega)
      refine z_iload_n (i := 3) dX8_divisor_4 rfl rfl ?_
      refine z_if_eq 21 dX8_divisor_5 (by decide) (fun h_5 => ?_) (fun h_5 => ?_)
      · refine z_iload_n (i := 2) dX8_divisor_21 rfl rfl ?_
        have hy0 : y = 0 := h0.mp h_5
        subst hy0
        rw [Nat.gcd_zero_right] at e
        exact z_ret dX8_divisor_22 (by rw [e]; exact hQ) trivial rfl
      · have hy0 : 0 < y := by have := mt h0.mpr h_5; omega
        refine z_iload_n (i := 2) dX8_divisor_8 rfl rfl ?_
        refine z_iload_n (i := 3) dX8_divisor_9 rfl rfl ?_
        refine z_irem dX8_divisor_10 (by exact h_5) ?_
        rw [pk_rem (by omega) hy0 (by omega)]
        refine z_istore (i := 4) [_, _, _, _, _] dX8_divisor_11 (by decide) rfl rfl ?_
        refine z_iload_n (i := 3) dX8_divisor_13 rfl rfl ?_
        refine z_istore_n (i := 2) [_, _, _, _, _] dX8_divisor_14 rfl (by decide) rfl rfl ?_
        refine z_iload (i := 4) dX8_divisor_15 rfl ?_
        refine z_istore_n (i := 3) [_, _, _, _, _] dX8_divisor_17 rfl (by decide) rfl rfl ?_
        refine z_goto 4 dX8_divisor_18 (by decide) ?_
        exact ih y (x % y) _ (by have := Nat.mod_lt x hy0; omega) (by omega) (by have := Nat.mod_lt x hy0; omega) (by rw [← e, Nat.gcd_comm y, ← Nat.gcd_rec, Nat.gcd_comm])
  refine z_iload_n (i := 0) dX8_divisor_0 rfl rfl ?_
  refine z_istore_n (i := 2) [_, _, _, _, _] dX8_divisor_1 rfl (by decide) rfl rfl ?_
  refine z_iload_n (i := 1) dX8_divisor_2 rfl rfl ?_
  refine z_istore_n (i := 3) [_, _, _, _, _] dX8_divisor_3 rfl (by decide) rfl rfl ?_
  exact loop (b + 1) a b none (by omega) (by omega) (by omega) rfl
theorem cnF_le (P : Nat → Bool) : ∀ m, cnF P m ≤ m
  | 0 => Nat.le_refl _
  | m + 1 => by
    have := cnF_le P m
    unfold cnF
    split <;> omega
theorem o8_odds {p cell k w : Int32} (hv : vaF (c 52) n) (hd : 9 ≤ d) (hQ : ∀ r c', (∀ k, k < 51 → c' k = c k) → (r, mst c') = o_odds (mst c) p cell k w → Qf r c') : zCl l E ad mX8_odds d [.ref (ad 51), .int p, .int cell, .int k, .int w] c Qf := by
  obtain ⟨hn, hn6, hw0, hw1⟩ := id hv
  refine z_enter (own := RX8) [some (.ref (ad 51)), some (.int p), some (.int cell), some (.int k), some (.int w), none, none] (by decide +kernel) rfl rfl rfl (Nat.le_of_ble_eq_true rfl) ?_
  have loop : ∀ (j m : Nat), j < n → m ≤ 20 → (isP (mst c) (nI j) ∧ (0 ≤ cell ∧ cell ≤ 15) ∧ (0 ≤ nI m ∧ nI m ≤ 20) ∧ 0 ≤ w ∧ w ≤ 1) → p = nI j → k = nI m → ∀ (r i : Nat) (c1 : zS), 100 - i < r → i ≤ 100 → zsc c c1 → zW l E ad RX8 cX8_odds 7 1 d Qf 44 [some (.ref (ad 51)), some (.int (nI j)), some (.int cell), some (.int (nI m)), some (.int w), some (.int (nI (cnF (fun i => cwF (c 52) j cell m (nI i)) i))), some (.int (nI i))] [] c1 := by
    intro j m hj hm hok ep ek r
    subst ep
    subst ek
    induction r with
    | zero => intro i c1 h; omega
    | succ r ih =>
      intro i c1 hr hi hc1
      have hlt : nI i ≤ (99 : Int32) ↔ i ≤ 99 := nI_leI (a := i) (b := 99) (by omega) (by omega)
      have e1 := hc1 52 (by decide) (by decide) (by decide)
      have hcl := cnF_le (fun i => cwF (c 52) j cell m (nI i)) i
      have cut70 : ∀ (x : Nat) (c2 : zS), zsc c c2 → i ≤ 99 → x = (if cwF (c 52) j cell m (nI i) = true then 1 else 0) → zW l E ad RX8 cX8_odds 7 1 d Qf 70 [some (.ref (ad 51)), some (.int (nI j)), some (.int cell), some (.int (nI m)), some (.int w), some (.int (nI (cnF (fun i => cwF (c 52) j cell m (nI i)) i))), some (.int (nI i))] [.int (nI x), .int (nI (cnF (fun i => cwF (c 52) j cell m (nI i)) i))] c2 := by
        intro x c2 hc2 hi9 hx
        refine z_iadd dX8_odds_70 ?_
        refine z_istore (i := 5) [_, _, _, _, _, _, _] dX8_odds_71 (by decide) rfl rfl ?_
        refine z_iinc (i := 6) (v := 1) [_, _, _, _, _, _, _] dX8_odds_73 rfl (by decide) (by decide) rfl rfl ?_
        refine z_goto 44 dX8_odds_76 (by decide) ?_
        rw [nI_add, nI_1]
        have := ih (i + 1) c2 (by omega) (by omega) hc2
        rw [show cnF (fun i => cwF (c 52) j cell m (nI i)) (i + 1) = cnF (fun i => cwF (c 52) j cell m (nI i)) i + x from by rw [hx]; rfl] at this
        exact this
      refine z_iload (i := 6) dX8_odds_44 rfl ?_
      refine z_bipush (v := 99) dX8_odds_46 (by decide) ?_
      refine z_icmp_gt 79 dX8_odds_48 (by decide) (fun h_48 => ?_) (fun h_48 => ?_)
      · have hi9 : i = 100 := h99_gt h_48 hi
        subst hi9
        refine z_iload (i := 5) dX8_odds_79 rfl ?_
        refine z_bipush (v := 100) dX8_odds_81 (by decide) ?_
        refine z_Si (As := [_, _]) dX8_odds_83 (by rfl) v_X8_divisor l_X8_212 rfl (by omega) (by decide) (Nat.le_of_ble_eq_true rfl) ?_
        refine s_X8_divisor (b := 100) (by omega) (by omega) ?_
        have hg0 : 0 < Nat.gcd (cnF (fun i => cwF (c 52) j cell m (nI i)) 100) 100 := Nat.gcd_pos_of_pos_right _ (by decide)
        have hg1 : Nat.gcd (cnF (fun i => cwF (c 52) j cell m (nI i)) 100) 100 ≤ 100 := Nat.gcd_le_right _ (by decide)
        have hgn : ¬ nI (Nat.gcd (cnF (fun i => cwF (c 52) j cell m (nI i)) 100) 100) = 0 := nI_ne0 hg0 (by omega)
        refine z_istore (i := 6) [_, _, _, _, _, _, _] dX8_odds_86 (by decide) rfl rfl ?_
        refine z_iload (i := 4) dX8_odds_88 rfl ?_
        refine z_if_ne 101 dX8_odds_90 (by decide) (fun h_90 => ?_) (fun h_90 => ?_)
        · refine z_bipush (v := 100) dX8_odds_101 (by decide) ?_
          refine z_iload (i := 6) dX8_odds_103 rfl ?_
          refine z_idiv dX8_odds_105 (by exact hgn) ?_
          first
          | exact z_ret dX8_odds_106 (hQ _ _ (fun k hk => hc1 k (by omega) (by omega) (by omega)) (by
              unfold o_odds
              rw [if_pos hok, pn_nI (show j < 2147483648 by omega), pn_nI (show m < 2147483648 by omega), show (mst c).1 = c 52 from rfl, if_pos (by assumption), mst_zsc hc1, pk_div (by omega) hg0 (by omega)])) trivial rfl
          | exact z_ret dX8_odds_106 (hQ _ _ (fun k hk => hc1 k (by omega) (by omega) (by omega)) (by
              unfold o_odds
              rw [if_pos hok, pn_nI (show j < 2147483648 by omega), pn_nI (show m < 2147483648 by omega), show (mst c).1 = c 52 from rfl, if_neg (by assumption), mst_zsc hc1, show (100 : Int32) = nI 100 from rfl, pk_div (by omega) hg0 (by omega)])) trivial rfl
        · refine z_iload (i := 5) dX8_odds_93 rfl ?_
          refine z_iload (i := 6) dX8_odds_95 rfl ?_
          refine z_idiv dX8_odds_97 (by exact hgn) ?_
          refine z_goto 106 dX8_odds_98 (by decide) ?_
          first
          | exact z_ret dX8_odds_106 (hQ _ _ (fun k hk => hc1 k (by omega) (by omega) (by omega)) (by
              unfold o_odds
              rw [if_pos hok, pn_nI (show j < 2147483648 by omega), pn_nI (show m < 2147483648 by omega), show (mst c).1 = c 52 from rfl, if_pos (by assumption), mst_zsc hc1, pk_div (by omega) hg0 (by omega)])) trivial rfl
          | exact z_ret dX8_odds_106 (hQ _ _ (fun k hk => hc1 k (by omega) (by omega) (by omega)) (by
              unfold o_odds
              rw [if_pos hok, pn_nI (show j < 2147483648 by omega), pn_nI (show m < 2147483648 by omega), show (mst c).1 = c 52 from rfl, if_neg (by assumption), mst_zsc hc1, show (100 : Int32) = nI 100 from rfl, pk_div (by omega) hg0 (by omega)])) trivial rfl
      · have hi9 : i ≤ 99 := h99_le h_48 hi
        refine z_iload (i := 5) dX8_odds_51 rfl ?_
        refine z_aload_n (i := 0) dX8_odds_53 rfl rfl ?_
        refine z_iload_n (i := 1) dX8_odds_54 rfl rfl ?_
        refine z_iload_n (i := 2) dX8_odds_55 rfl rfl ?_
        refine z_iload_n (i := 3) dX8_odds_56 rfl rfl ?_
        refine z_iload (i := 6) dX8_odds_57 rfl ?_
        refine z_Vb (As := [_, _, _, _]) dX8_odds_59 (by rfl) v_X8_comesWith l_X8_199 (by first | decide | assumption | omega) rfl rfl rfl (by omega) (by decide) (Nat.le_of_ble_eq_true rfl) ?_
        refine t_comesWith e1 hv hj (by omega) (by omega) (fun c' hc' => ?_)
        refine z_if_eq 69 dX8_odds_62 (by decide) (fun h_62 => ?_) (fun h_62 => ?_)
        · refine z_iconst (v := 0) dX8_odds_69 (by decide) ?_
          first
          | exact cut70 1 _ (zsc_tr hc1 hc') hi9 (by grind)
          | exact cut70 0 _ (zsc_tr hc1 hc') hi9 (by grind)
        · refine z_iconst (v := 1) dX8_odds_65 (by decide) ?_
          refine z_goto 70 dX8_odds_66 (by decide) ?_
          first
          | exact cut70 1 _ (zsc_tr hc1 hc') hi9 (by grind)
          | exact cut70 0 _ (zsc_tr hc1 hc') hi9 (by grind)
  refine z_aload_n (i := 0) dX8_odds_0 rfl rfl ?_
  refine z_iload_n (i := 1) dX8_odds_1 rfl rfl ?_
  refine z_Vb (As := [_]) dX8_odds_2 (by rfl) v_X8_isPerson l_X8_157 (by first | decide | assumption | omega) rfl rfl rfl (by omega) (by decide) (Nat.le_of_ble_eq_true rfl) ?_
  refine s_X8_isPerson (by omega) ?_
  refine z_if_eq 32 dX8_odds_5 (by decide) (fun h_5 => ?_) (fun h_5 => ?_)
  · refine z_aload_n (i := 0) dX8_odds_32 rfl rfl ?_
    refine z_iconst (v := 1) dX8_odds_33 (by decide) ?_
    refine z_Vi (As := [_]) dX8_odds_34 (by rfl) v_X8_error l_X8_51 (by first | decide | assumption | omega) rfl rfl rfl (by omega) (by decide) (Nat.le_of_ble_eq_true rfl) ?_
    refine s_X8_error (by rfl) (by first | decide | omega) ?_
    exact z_ret dX8_odds_37 (hQ _ _ (by intro k hk; simp (disch := omega) only [zup_n]) (by unfold o_odds; rw [if_neg (by show ¬ ((0 ≤ p ∧ p ≤ c 52 5 - 1) ∧ _); grind)]; rfl)) trivial rfl
  · refine z_iload_n (i := 2) dX8_odds_8 rfl rfl ?_
    refine z_Sb (As := [_]) dX8_odds_9 (by rfl) v_X8_isCell l_X8_169 rfl (by omega) (by decide) (Nat.le_of_ble_eq_true rfl) ?_
    refine s_X8_isCell (by omega) ?_
    refine z_if_eq 32 dX8_odds_12 (by decide) (fun h_12 => ?_) (fun h_12 => ?_)
    · refine z_aload_n (i := 0) dX8_odds_32 rfl rfl ?_
      refine z_iconst (v := 1) dX8_odds_33 (by decide) ?_
      refine z_Vi (As := [_]) dX8_odds_34 (by rfl) v_X8_error l_X8_51 (by first | decide | assumption | omega) rfl rfl rfl (by omega) (by decide) (Nat.le_of_ble_eq_true rfl) ?_
      refine s_X8_error (by rfl) (by first | decide | omega) ?_
      exact z_ret dX8_odds_37 (hQ _ _ (by intro k hk; simp (disch := omega) only [zup_n]) (by unfold o_odds; rw [if_neg (by show ¬ ((0 ≤ p ∧ p ≤ c 52 5 - 1) ∧ _); grind)]; rfl)) trivial rfl
    · refine z_iload_n (i := 3) dX8_odds_15 rfl rfl ?_
      refine z_Sb (As := [_]) dX8_odds_16 (by rfl) v_X8_isSoon l_X8_196 rfl (by omega) (by decide) (Nat.le_of_ble_eq_true rfl) ?_
      refine s_X8_isSoon (by omega) ?_
      refine z_if_eq 32 dX8_odds_19 (by decide) (fun h_19 => ?_) (fun h_19 => ?_)
      · refine z_aload_n (i := 0) dX8_odds_32 rfl rfl ?_
        refine z_iconst (v := 1) dX8_odds_33 (by decide) ?_
        refine z_Vi (As := [_]) dX8_odds_34 (by rfl) v_X8_error l_X8_51 (by first | decide | assumption | omega) rfl rfl rfl (by omega) (by decide) (Nat.le_of_ble_eq_true rfl) ?_
        refine s_X8_error (by rfl) (by first | decide | omega) ?_
        exact z_ret dX8_odds_37 (hQ _ _ (by intro k hk; simp (disch := omega) only [zup_n]) (by unfold o_odds; rw [if_neg (by show ¬ ((0 ≤ p ∧ p ≤ c 52 5 - 1) ∧ _); grind)]; rfl)) trivial rfl
      · refine z_iload (i := 4) dX8_odds_22 rfl ?_
        refine z_iconst (v := 0) dX8_odds_24 (by decide) ?_
        refine z_iconst (v := 1) dX8_odds_25 (by decide) ?_
        refine z_Sb (As := [_, _, _]) dX8_odds_26 (by rfl) v_X8_in l_X8_47 rfl (by omega) (by decide) (Nat.le_of_ble_eq_true rfl) ?_
        refine s_X8_in ?_
        refine z_if_ne 38 dX8_odds_29 (by decide) (fun h_29 => ?_) (fun h_29 => ?_)
        · have hok : isP (mst c) p ∧ (0 ≤ cell ∧ cell ≤ 15) ∧ (0 ≤ k ∧ k ≤ 20) ∧ 0 ≤ w ∧ w ≤ 1 := by show (0 ≤ p ∧ p ≤ c 52 5 - 1) ∧ _; grind
          obtain ⟨j, hj, rfl⟩ := isP_of (f := c 52) hok.1 hn hn6
          obtain ⟨m, hm, rfl⟩ := zj_of (x := k) (n := 21) (by grind) (by show k < (21 : Int32); grind) (by decide)
          refine z_iconst (v := 0) dX8_odds_38 (by decide) ?_
          refine z_istore (i := 5) [_, _, _, _, _, _, _] dX8_odds_39 (by decide) rfl rfl ?_
          refine z_iconst (v := 0) dX8_odds_41 (by decide) ?_
          refine z_istore (i := 6) [_, _, _, _, _, _, _] dX8_odds_42 (by decide) rfl rfl ?_
          exact loop j m hj (by omega) hok rfl rfl 101 0 c (by omega) (by omega) zsc_rf
        · refine z_aload_n (i := 0) dX8_odds_32 rfl rfl ?_
          refine z_iconst (v := 1) dX8_odds_33 (by decide) ?_
          refine z_Vi (As := [_]) dX8_odds_34 (by rfl) v_X8_error l_X8_51 (by first | decide | assumption | omega) rfl rfl rfl (by omega) (by decide) (Nat.le_of_ble_eq_true rfl) ?_
          refine s_X8_error (by rfl) (by first | decide | omega) ?_
          exact z_ret dX8_odds_37 (hQ _ _ (by intro k hk; simp (disch := omega) only [zup_n]) (by unfold o_odds; rw [if_neg (by show ¬ ((0 ≤ p ∧ p ≤ c 52 5 - 1) ∧ _); grind)]; rfl)) trivial rfl
end R5
