/-! the reference's calls, four: thoughts -/
theorem zsc_of2 {c c1 c' : zS} {F : zN} (h : zfm c1 F c') (h1 : ∀ k, k ≠ 52 → k ≠ 54 → c1 k = c k) : zsc c (zup c' 52 (c 52)) := fun k a b e => by
  by_cases q : k = 52
  · subst q; exact zup_s _ _ _
  · rw [zup_n q, h.2 k q b e, h1 k q a]
theorem bite {b : Prop} [Decidable b] : (if b then (1 : Int32) else 0) = 0 ↔ ¬ b := by
  split <;> simp_all
section R4
variable {l : Launch} {E : zE} {ad : Nat → Nat} {c : zS} {Qf : Int32 → zS → Prop} {d n : Nat}
theorem o8_soonest {p cell : Int32} (hv : vaF (c 52) n) (hd : 8 ≤ d) (hQ : ∀ r c', (∀ k, k < 51 → c' k = c k) → (r, mst c') = o_soonest (mst c) p cell → Qf r c') : zCl l E ad mX8_soonest d [.ref (ad 51), .int p, .int cell] c Qf := by
  obtain ⟨hn, hn6, hw0, hw1⟩ := id hv
  refine z_enter (own := RX8) [some (.ref (ad 51)), some (.int p), some (.int cell), none] (by decide +kernel) rfl rfl rfl (Nat.le_of_ble_eq_true rfl) ?_
  refine z_aload_n (i := 0) dX8_soonest_0 rfl rfl ?_
  refine z_iload_n (i := 1) dX8_soonest_1 rfl rfl ?_
  refine z_Vb (As := [_]) dX8_soonest_2 (by rfl) v_X8_isPerson l_X8_157 (by first | decide | assumption | omega) rfl rfl rfl (by omega) (by decide) (Nat.le_of_ble_eq_true rfl) ?_
  refine s_X8_isPerson (by omega) ?_
  refine z_if_eq 15 dX8_soonest_5 (by decide) (fun h_5 => ?_) (fun h_5 => ?_)
  · refine z_aload_n (i := 0) dX8_soonest_15 rfl rfl ?_
    refine z_iconst (v := 1) dX8_soonest_16 (by decide) ?_
    refine z_Vi (As := [_]) dX8_soonest_17 (by rfl) v_X8_error l_X8_51 (by first | decide | assumption | omega) rfl rfl rfl (by omega) (by decide) (Nat.le_of_ble_eq_true rfl) ?_
    refine s_X8_error (by rfl) (by first | decide | omega) ?_
    exact z_ret dX8_soonest_20 (hQ _ _ (by intro k hk; simp (disch := omega) only [zup_n]) (by unfold o_soonest; rw [if_neg (by show ¬ ((0 ≤ p ∧ p ≤ c 52 5 - 1) ∧ _); grind)]; rfl)) trivial rfl
  · refine z_iload_n (i := 2) dX8_soonest_8 rfl rfl ?_
    refine z_Sb (As := [_]) dX8_soonest_9 (by rfl) v_X8_isCell l_X8_169 rfl (by omega) (by decide) (Nat.le_of_ble_eq_true rfl) ?_
    refine s_X8_isCell (by omega) ?_
    refine z_if_ne 21 dX8_soonest_12 (by decide) (fun h_12 => ?_) (fun h_12 => ?_)
    · have hok : isP (mst c) p ∧ 0 ≤ cell ∧ cell ≤ 15 := by show (0 ≤ p ∧ p ≤ c 52 5 - 1) ∧ _; grind
      obtain ⟨j, hj, rfl⟩ := isP_of (f := c 52) hok.1 hn hn6
      refine z_aload_n (i := 0) dX8_soonest_21 rfl rfl ?_
      refine z_Vv (As := []) dX8_soonest_22 (by rfl) v_X8_layDown l_X8_187 (by first | decide | assumption | omega) rfl rfl rfl (by omega) (by decide) (Nat.le_of_ble_eq_true rfl) ?_
      refine s_X8_layDown (fun g hg => ?_)
      refine z_aload_n (i := 0) dX8_soonest_25 rfl rfl ?_
      refine z_iload_n (i := 1) dX8_soonest_26 rfl rfl ?_
      refine z_iload_n (i := 2) dX8_soonest_27 rfl rfl ?_
      refine z_bipush (v := 60) dX8_soonest_28 (by decide) ?_
      refine z_Vi (As := [_, _, _]) dX8_soonest_30 (by rfl) v_X8_comesBy l_X8_193 (by first | decide | assumption | omega) rfl rfl rfl (by omega) (by decide) (Nat.le_of_ble_eq_true rfl) ?_
      refine s_X8_comesBy (f := c 52) (k := 60) rfl hv hj (by omega) (by omega) (fun m c' hc' => ?_)
      refine z_istore_n (i := 3) [_, _, _, _] dX8_soonest_33 rfl (by decide) rfl rfl ?_
      refine z_aload_n (i := 0) dX8_soonest_34 rfl rfl ?_
      refine z_Vv (As := []) dX8_soonest_35 (by rfl) v_X8_layBack l_X8_190 (by first | decide | assumption | omega) rfl rfl rfl (by omega) (by decide) (Nat.le_of_ble_eq_true rfl) ?_
      refine s_X8_layBack (fun g2 hg1 hg2 => ?_)
      have e2 : g2 = c 52 := zback (c1 := c) (fun k hk => by rw [hg1 k hk, hc'.2 54 (by decide) (by decide) (by decide), zup_s]; exact hg k hk) (fun k hk => by rw [hg2 k hk, hc'.1, goF_hi2 hk hv])
      subst e2
      have hsc := zsc_of hc'
      have e55 : zup c' 52 (c 52) 55 = c 55 := hsc 55 (by decide) (by decide) (by decide)
      refine z_iload_n (i := 3) dX8_soonest_38 rfl rfl ?_
      refine z_iconst (v := (-1)) dX8_soonest_39 (by decide) ?_
      refine z_icmp_ne 51 dX8_soonest_40 (by decide) (fun h_40 => ?_) (fun h_40 => ?_)
      · refine z_iload_n (i := 3) dX8_soonest_51 rfl rfl ?_
        first
        | exact z_ret dX8_soonest_52 (hQ _ _ (fun k hk => hsc k (by omega) (by omega) (by omega)) (by unfold o_soonest; rw [if_pos hok, mst_zsc hsc, pn_nI (show j < 2147483648 by omega), if_neg (by assumption)]; rfl)) trivial rfl
        | exact z_ret dX8_soonest_52 (hQ _ _ (fun k hk => by rw [zup_n (by omega)]; exact hsc k (by omega) (by omega) (by omega)) (by
          unfold o_soonest
          rw [if_pos hok, pn_nI (show j < 2147483648 by omega), if_pos (show coF j cell 61 0 (mst c).1 = -1 from by first | exact h_40 | exact Classical.not_not.mp h_40)]
          have h9 := mst_zsc hsc
          unfold mst at h9
          simp only [Prod.mk.injEq] at h9
          obtain ⟨a1, a2, a3, a4, a5, a6, a7, a8, a9⟩ := h9
          unfold mst err wE
          simp only [zup_n (show (52 : Nat) ≠ 55 by decide), zup_n (show (53 : Nat) ≠ 55 by decide), zup_n (show (51 : Nat) ≠ 55 by decide), zup_n (show (59 : Nat) ≠ 55 by decide), zup_n (show (60 : Nat) ≠ 55 by decide), zup_n (show (61 : Nat) ≠ 55 by decide), zup_n (show (62 : Nat) ≠ 55 by decide), zup_s, a1, a2, a3, a4, a5, a6, a7, a8, a9]
          rfl)) trivial rfl
      · refine z_aload_n (i := 0) dX8_soonest_43 rfl rfl ?_
        refine z_iconst (v := 2) dX8_soonest_44 (by decide) ?_
        refine z_Vi (As := [_]) dX8_soonest_45 (by rfl) v_X8_error l_X8_51 (by first | decide | assumption | omega) rfl rfl rfl (by omega) (by decide) (Nat.le_of_ble_eq_true rfl) ?_
        refine s_X8_error (by rfl) (by first | decide | omega) ?_
        refine z_goto 52 dX8_soonest_48 (by decide) ?_
        first
        | exact z_ret dX8_soonest_52 (hQ _ _ (fun k hk => hsc k (by omega) (by omega) (by omega)) (by unfold o_soonest; rw [if_pos hok, mst_zsc hsc, pn_nI (show j < 2147483648 by omega), if_neg (by assumption)]; rfl)) trivial rfl
        | exact z_ret dX8_soonest_52 (hQ _ _ (fun k hk => by rw [zup_n (by omega)]; exact hsc k (by omega) (by omega) (by omega)) (by
          unfold o_soonest
          rw [if_pos hok, pn_nI (show j < 2147483648 by omega), if_pos (show coF j cell 61 0 (mst c).1 = -1 from by first | exact h_40 | exact Classical.not_not.mp h_40)]
          have h9 := mst_zsc hsc
          unfold mst at h9
          simp only [Prod.mk.injEq] at h9
          obtain ⟨a1, a2, a3, a4, a5, a6, a7, a8, a9⟩ := h9
          unfold mst err wE
          simp only [zup_n (show (52 : Nat) ≠ 55 by decide), zup_n (show (53 : Nat) ≠ 55 by decide), zup_n (show (51 : Nat) ≠ 55 by decide), zup_n (show (59 : Nat) ≠ 55 by decide), zup_n (show (60 : Nat) ≠ 55 by decide), zup_n (show (61 : Nat) ≠ 55 by decide), zup_n (show (62 : Nat) ≠ 55 by decide), zup_s, a1, a2, a3, a4, a5, a6, a7, a8, a9]
          rfl)) trivial rfl
    · refine z_aload_n (i := 0) dX8_soonest_15 rfl rfl ?_
      refine z_iconst (v := 1) dX8_soonest_16 (by decide) ?_
      refine z_Vi (As := [_]) dX8_soonest_17 (by rfl) v_X8_error l_X8_51 (by first | decide | assumption | omega) rfl rfl rfl (by omega) (by decide) (Nat.le_of_ble_eq_true rfl) ?_
      refine s_X8_error (by rfl) (by first | decide | omega) ?_
      exact z_ret dX8_soonest_20 (hQ _ _ (by intro k hk; simp (disch := omega) only [zup_n]) (by unfold o_soonest; rw [if_neg (by show ¬ ((0 ≤ p ∧ p ≤ c 52 5 - 1) ∧ _); grind)]; rfl)) trivial rfl
theorem s_X8_comesWith {p k : Nat} {cell sure : Int32} (hv : vaF (c 52) n) (hp : p < n) (hk : k ≤ 60) (hd : 7 ≤ d) (hQ : ∀ c', zsc c c' → Qf (if cwF (c 52) p cell k sure = true then 1 else 0) c') : zCl l E ad mX8_comesWith d [.ref (ad 51), .int (nI p), .int cell, .int (nI k), .int sure] c Qf := by
  have hp6 : p < 6 := by have := hv.2.1; omega
  have hv2 : vaF (upd (c 52) (8 + 5 * p + 2) sure) n := vaF_up (by omega) (by omega) hv
  refine z_enter (own := RX8) [some (.ref (ad 51)), some (.int (nI p)), some (.int cell), some (.int (nI k)), some (.int sure), none] (by decide +kernel) rfl rfl rfl (Nat.le_of_ble_eq_true rfl) ?_
  refine z_aload_n (i := 0) dX8_comesWith_0 rfl rfl ?_
  refine z_Vv (As := []) dX8_comesWith_1 (by rfl) v_X8_layDown l_X8_187 (by first | decide | assumption | omega) rfl rfl rfl (by omega) (by decide) (Nat.le_of_ble_eq_true rfl) ?_
  refine s_X8_layDown (fun g hg => ?_)
  refine z_aload_n (i := 0) dX8_comesWith_4 rfl rfl ?_
  refine z_iload_n (i := 1) dX8_comesWith_5 rfl rfl ?_
  refine z_iconst (v := 2) dX8_comesWith_6 (by decide) ?_
  refine z_iload (i := 4) dX8_comesWith_7 rfl ?_
  refine z_Vv (As := [_, _, _]) dX8_comesWith_9 (by rfl) v_X8_lays1 l_X8_142 (by first | decide | assumption | omega) rfl rfl rfl (by omega) (by decide) (Nat.le_of_ble_eq_true rfl) ?_
  first | refine s_X8_lays10 (by omega) ?_ | refine s_X8_lays11 (by omega) ?_ | refine s_X8_lays12 (by omega) ?_ | refine s_X8_lays13 (by omega) ?_ | refine s_X8_lays14 (by omega) ?_
  refine z_aload_n (i := 0) dX8_comesWith_12 rfl rfl ?_
  refine z_iload_n (i := 1) dX8_comesWith_13 rfl rfl ?_
  refine z_iload_n (i := 2) dX8_comesWith_14 rfl rfl ?_
  refine z_iload_n (i := 3) dX8_comesWith_15 rfl rfl ?_
  refine z_Vi (As := [_, _, _]) dX8_comesWith_16 (by rfl) v_X8_comesBy l_X8_193 (by first | decide | assumption | omega) rfl rfl rfl (by omega) (by decide) (Nat.le_of_ble_eq_true rfl) ?_
  refine s_X8_comesBy (f := upd (c 52) (8 + 5 * p + 2) sure) (k := k) rfl hv2 hp hk (by omega) (fun m c' hc' => ?_)
  refine z_iconst (v := (-1)) dX8_comesWith_19 (by decide) ?_
  refine z_icmp_eq 27 dX8_comesWith_20 (by decide) (fun h_20 => ?_) (fun h_20 => ?_)
  · refine z_iconst (v := 0) dX8_comesWith_27 (by decide) ?_
    refine z_istore (i := 5) [_, _, _, _, _, _] dX8_comesWith_28 (by decide) rfl rfl ?_
    refine z_aload_n (i := 0) dX8_comesWith_30 rfl rfl ?_
    refine z_Vv (As := []) dX8_comesWith_31 (by rfl) v_X8_layBack l_X8_190 (by first | decide | assumption | omega) rfl rfl rfl (by omega) (by decide) (Nat.le_of_ble_eq_true rfl) ?_
    refine s_X8_layBack (fun g2 hg1 hg2 => ?_)
    have e2 : g2 = c 52 := zback (c1 := c) (fun k hk => by rw [hg1 k hk, hc'.2 54 (by decide) (by decide) (by decide)]; exact hg k hk) (fun k hk => by rw [hg2 k hk, hc'.1, goF_hi2 hk hv2, pk_un (by omega)])
    subst e2
    refine z_iload (i := 5) dX8_comesWith_34 rfl ?_
    exact z_ret dX8_comesWith_36 (by have := hQ _ (zsc_of2 hc' (fun k a b => by rw [zup_n a, zup_n b])); unfold cwF at this; grind) (by rfl) rfl
  · refine z_iconst (v := 1) dX8_comesWith_23 (by decide) ?_
    refine z_goto 28 dX8_comesWith_24 (by decide) ?_
    refine z_istore (i := 5) [_, _, _, _, _, _] dX8_comesWith_28 (by decide) rfl rfl ?_
    refine z_aload_n (i := 0) dX8_comesWith_30 rfl rfl ?_
    refine z_Vv (As := []) dX8_comesWith_31 (by rfl) v_X8_layBack l_X8_190 (by first | decide | assumption | omega) rfl rfl rfl (by omega) (by decide) (Nat.le_of_ble_eq_true rfl) ?_
    refine s_X8_layBack (fun g2 hg1 hg2 => ?_)
    have e2 : g2 = c 52 := zback (c1 := c) (fun k hk => by rw [hg1 k hk, hc'.2 54 (by decide) (by decide) (by decide)]; exact hg k hk) (fun k hk => by rw [hg2 k hk, hc'.1, goF_hi2 hk hv2, pk_un (by omega)])
    subst e2
    refine z_iload (i := 5) dX8_comesWith_34 rfl ?_
    exact z_ret dX8_comesWith_36 (by have := hQ _ (zsc_of2 hc' (fun k a b => by rw [zup_n a, zup_n b])); unfold cwF at this; grind) (by rfl) rfl
theorem s_X8_comesWithout {p k : Nat} {cell set : Int32} (hv : vaF (c 52) n) (hp : p < n) (hk : k ≤ 60) (hd : 7 ≤ d) (hQ : ∀ c', zsc c c' → Qf (if coutF (c 52) p cell k set = true then 1 else 0) c') : zCl l E ad mX8_comesWithout d [.ref (ad 51), .int (nI p), .int cell, .int (nI k), .int set] c Qf := by
  have hv2 : vaF (upd (c 52) 1 (c 52 1 &&& (set ^^^ (-1)))) n := vaF_up (by omega) (by omega) hv
  refine z_enter (own := RX8) [some (.ref (ad 51)), some (.int (nI p)), some (.int cell), some (.int (nI k)), some (.int set), none] (by decide +kernel) rfl rfl rfl (Nat.le_of_ble_eq_true rfl) ?_
  refine z_aload_n (i := 0) dX8_comesWithout_0 rfl rfl ?_
  refine z_Vv (As := []) dX8_comesWithout_1 (by rfl) v_X8_layDown l_X8_187 (by first | decide | assumption | omega) rfl rfl rfl (by omega) (by decide) (Nat.le_of_ble_eq_true rfl) ?_
  refine s_X8_layDown (fun g hg => ?_)
  refine z_aload_n (i := 0) dX8_comesWithout_4 rfl rfl ?_
  refine z_getf dX8_comesWithout_5 f_X8_7 (by first | decide | assumption | omega) rfl (by rfl) ?_
  refine z_iconst (v := 1) dX8_comesWithout_8 (by decide) ?_
  refine z_dup2 dX8_comesWithout_9 rfl rfl ?_
  refine z_iald dX8_comesWithout_10 (by first | decide | assumption | omega) rfl (by rfl) (by first | decide | omega) (by first | decide | omega) ?_
  refine z_iload (i := 4) dX8_comesWithout_11 rfl ?_
  refine z_iconst (v := (-1)) dX8_comesWithout_13 (by decide) ?_
  refine z_ixor dX8_comesWithout_14 ?_
  refine z_iand dX8_comesWithout_15 ?_
  refine z_iast dX8_comesWithout_16 (by first | decide | assumption | omega) (fun _ => rfl) (by rfl) (by first | decide | omega) (by first | decide | omega) ?_
  refine z_aload_n (i := 0) dX8_comesWithout_17 rfl rfl ?_
  refine z_iload_n (i := 1) dX8_comesWithout_18 rfl rfl ?_
  refine z_iload_n (i := 2) dX8_comesWithout_19 rfl rfl ?_
  refine z_iload_n (i := 3) dX8_comesWithout_20 rfl rfl ?_
  refine z_Vi (As := [_, _, _]) dX8_comesWithout_21 (by rfl) v_X8_comesBy l_X8_193 (by first | decide | assumption | omega) rfl rfl rfl (by omega) (by decide) (Nat.le_of_ble_eq_true rfl) ?_
  refine s_X8_comesBy (f := upd (c 52) 1 (c 52 1 &&& (set ^^^ (-1)))) (k := k) rfl hv2 hp hk (by omega) (fun m c' hc' => ?_)
  refine z_iconst (v := (-1)) dX8_comesWithout_24 (by decide) ?_
  refine z_icmp_eq 32 dX8_comesWithout_25 (by decide) (fun h_25 => ?_) (fun h_25 => ?_)
  · refine z_iconst (v := 0) dX8_comesWithout_32 (by decide) ?_
    refine z_istore (i := 5) [_, _, _, _, _, _] dX8_comesWithout_33 (by decide) rfl rfl ?_
    refine z_aload_n (i := 0) dX8_comesWithout_35 rfl rfl ?_
    refine z_Vv (As := []) dX8_comesWithout_36 (by rfl) v_X8_layBack l_X8_190 (by first | decide | assumption | omega) rfl rfl rfl (by omega) (by decide) (Nat.le_of_ble_eq_true rfl) ?_
    refine s_X8_layBack (fun g2 hg1 hg2 => ?_)
    have e2 : g2 = c 52 := zback (c1 := c) (fun k hk => by rw [hg1 k hk, hc'.2 54 (by decide) (by decide) (by decide)]; exact hg k hk) (fun k hk => by rw [hg2 k hk, hc'.1, goF_hi2 hk hv2, pk_un (by omega)])
    subst e2
    refine z_iload (i := 5) dX8_comesWithout_39 rfl ?_
    exact z_ret dX8_comesWithout_41 (by have := hQ _ (zsc_of2 hc' (fun k a b => by rw [zup_n a, zup_n b])); unfold coutF at this; grind) (by rfl) rfl
  · refine z_iconst (v := 1) dX8_comesWithout_28 (by decide) ?_
    refine z_goto 33 dX8_comesWithout_29 (by decide) ?_
    refine z_istore (i := 5) [_, _, _, _, _, _] dX8_comesWithout_33 (by decide) rfl rfl ?_
    refine z_aload_n (i := 0) dX8_comesWithout_35 rfl rfl ?_
    refine z_Vv (As := []) dX8_comesWithout_36 (by rfl) v_X8_layBack l_X8_190 (by first | decide | assumption | omega) rfl rfl rfl (by omega) (by decide) (Nat.le_of_ble_eq_true rfl) ?_
    refine s_X8_layBack (fun g2 hg1 hg2 => ?_)
    have e2 : g2 = c 52 := zback (c1 := c) (fun k hk => by rw [hg1 k hk, hc'.2 54 (by decide) (by decide) (by decide)]; exact hg k hk) (fun k hk => by rw [hg2 k hk, hc'.1, goF_hi2 hk hv2, pk_un (by omega)])
    subst e2
    refine z_iload (i := 5) dX8_comesWithout_39 rfl ?_
    exact z_ret dX8_comesWithout_41 (by have := hQ _ (zsc_of2 hc' (fun k a b => by rw [zup_n a, zup_n b])); unfold coutF at this; grind) (by rfl) rfl
theorem s_farTail {f0 : zN} {p k m : Nat} {x o : Int32} {x4 : Int32} {g m' : zN} {c' : zS} (hv2 : vaF f0 n) (hc' : zfm (zup (zup (zup c 54 g) 52 m') 52 f0) (goF m f0) c') (hg : ∀ k, k < 38 → g k = c 52 k) (h38 : ∀ k, 38 ≤ k → f0 k = c 52 k) (hd : 7 ≤ d) (hQ : ∀ c2, zsc c c2 → Qf x c2) : zW l E ad RX8 cX8_farWith 6 1 d Qf 55 [some (.ref (ad 51)), some (.int (nI p)), some (.int o), some (.int (nI k)), some (.int x4), none] [.int x] c' := by
  refine z_istore (i := 5) [_, _, _, _, _, _] dX8_farWith_55 (by decide) rfl rfl ?_
  refine z_aload_n (i := 0) dX8_farWith_57 rfl rfl ?_
  refine z_Vv (As := []) dX8_farWith_58 (by rfl) v_X8_layBack l_X8_190 (by first | decide | assumption | omega) rfl rfl rfl (by omega) (by decide) (Nat.le_of_ble_eq_true rfl) ?_
  refine s_X8_layBack (fun g2 hg1 hg2 => ?_)
  have e2 : g2 = c 52 := zback (c1 := c) (fun k hk => by rw [hg1 k hk, hc'.2 54 (by decide) (by decide) (by decide)]; exact hg k hk) (fun k hk => by rw [hg2 k hk, hc'.1, goF_hi2 hk hv2, h38 k hk])
  subst e2
  refine z_iload (i := 5) dX8_farWith_61 rfl ?_
  exact z_ret dX8_farWith_63 (hQ _ (zsc_of2 hc' (fun k a b => by rw [zup_n a, zup_n a, zup_n b]))) trivial rfl
theorem s_X8_farWith {p o k : Nat} (hv : vaF (c 52) n) (hp : p < n) (ho : o < n) (hk : k ≤ 60) (hd : 7 ≤ d) (hQ : ∀ c', zsc c c' → Qf (farF (c 52) p o k) c') : zCl l E ad mX8_farWith d [.ref (ad 51), .int (nI p), .int (nI o), .int (nI k)] c Qf := by
  have hp6 : p < 6 := by have := hv.2.1; omega
  have ho6 : o < 6 := by have := hv.2.1; omega
  have hv2 : vaF (upd (upd (c 52) (8 + 5 * p + 3) (c 52 (8 + 5 * o + 3))) (8 + 5 * p + 4) 0) n := vaF_up (by omega) (by omega) (vaF_up (by omega) (by omega) hv)
  refine z_enter (own := RX8) [some (.ref (ad 51)), some (.int (nI p)), some (.int (nI o)), some (.int (nI k)), none, none] (by decide +kernel) rfl rfl rfl (Nat.le_of_ble_eq_true rfl) ?_
  refine z_aload_n (i := 0) dX8_farWith_0 rfl rfl ?_
  refine z_Vv (As := []) dX8_farWith_1 (by rfl) v_X8_layDown l_X8_187 (by first | decide | assumption | omega) rfl rfl rfl (by omega) (by decide) (Nat.le_of_ble_eq_true rfl) ?_
  refine s_X8_layDown (fun g hg => ?_)
  refine z_aload_n (i := 0) dX8_farWith_4 rfl rfl ?_
  refine z_iload_n (i := 2) dX8_farWith_5 rfl rfl ?_
  refine z_iconst (v := 3) dX8_farWith_6 (by decide) ?_
  refine z_Vi (As := [_, _]) dX8_farWith_7 (by rfl) v_X8_its l_X8_111 (by first | decide | assumption | omega) rfl rfl rfl (by omega) (by decide) (Nat.le_of_ble_eq_true rfl) ?_
  first | refine s_X8_its0 (by omega) ?_ | refine s_X8_its1 (by omega) ?_ | refine s_X8_its2 (by omega) ?_ | refine s_X8_its3 (by omega) ?_ | refine s_X8_its4 (by omega) ?_
  refine z_istore (i := 4) [_, _, _, _, _, _] dX8_farWith_10 (by decide) rfl rfl ?_
  have e54 : zup c 54 g 52 = c 52 := rfl
  rw [e54]
  refine z_aload_n (i := 0) dX8_farWith_12 rfl rfl ?_
  refine z_iload_n (i := 1) dX8_farWith_13 rfl rfl ?_
  refine z_iconst (v := 3) dX8_farWith_14 (by decide) ?_
  refine z_iload (i := 4) dX8_farWith_15 rfl ?_
  refine z_Vv (As := [_, _, _]) dX8_farWith_17 (by rfl) v_X8_lays1 l_X8_142 (by first | decide | assumption | omega) rfl rfl rfl (by omega) (by decide) (Nat.le_of_ble_eq_true rfl) ?_
  first | refine s_X8_lays10 (by omega) ?_ | refine s_X8_lays11 (by omega) ?_ | refine s_X8_lays12 (by omega) ?_ | refine s_X8_lays13 (by omega) ?_ | refine s_X8_lays14 (by omega) ?_
  refine z_aload_n (i := 0) dX8_farWith_20 rfl rfl ?_
  refine z_iload_n (i := 1) dX8_farWith_21 rfl rfl ?_
  refine z_iconst (v := 4) dX8_farWith_22 (by decide) ?_
  refine z_iconst (v := 0) dX8_farWith_23 (by decide) ?_
  refine z_Vv (As := [_, _, _]) dX8_farWith_24 (by rfl) v_X8_lays1 l_X8_142 (by first | decide | assumption | omega) rfl rfl rfl (by omega) (by decide) (Nat.le_of_ble_eq_true rfl) ?_
  first | refine s_X8_lays10 (by omega) ?_ | refine s_X8_lays11 (by omega) ?_ | refine s_X8_lays12 (by omega) ?_ | refine s_X8_lays13 (by omega) ?_ | refine s_X8_lays14 (by omega) ?_
  refine z_aload_n (i := 0) dX8_farWith_27 rfl rfl ?_
  refine z_iload_n (i := 3) dX8_farWith_28 rfl rfl ?_
  refine z_Vv (As := [_]) dX8_farWith_29 (by rfl) v_X8_goes l_X8_175 (by first | decide | assumption | omega) rfl rfl rfl (by omega) (by decide) (Nat.le_of_ble_eq_true rfl) ?_
  refine s_X8_goes (f := upd (upd (c 52) (8 + 5 * p + 3) (c 52 (8 + 5 * o + 3))) (8 + 5 * p + 4) 0) rfl hv2 (by omega) (by omega) (fun c' hc' => ?_)
  refine z_aload_n (i := 0) dX8_farWith_32 rfl rfl ?_
  refine z_iload_n (i := 1) dX8_farWith_33 rfl rfl ?_
  refine z_iconst (v := 4) dX8_farWith_34 (by decide) ?_
  refine z_Vi (As := [_, _]) dX8_farWith_35 (by rfl) v_X8_its l_X8_111 (by first | decide | assumption | omega) rfl rfl rfl (by omega) (by decide) (Nat.le_of_ble_eq_true rfl) ?_
  first | refine s_X8_its0 (by omega) ?_ | refine s_X8_its1 (by omega) ?_ | refine s_X8_its2 (by omega) ?_ | refine s_X8_its3 (by omega) ?_ | refine s_X8_its4 (by omega) ?_
  rw [hc'.1]
  refine z_iconst (v := 1) dX8_farWith_38 (by decide) ?_
  refine z_icmp_ne 46 dX8_farWith_39 (by decide) (fun h_39 => ?_) (fun h_39 => ?_)
  · refine z_aload_n (i := 0) dX8_farWith_46 rfl rfl ?_
    refine z_iload_n (i := 1) dX8_farWith_47 rfl rfl ?_
    refine z_iconst (v := 3) dX8_farWith_48 (by decide) ?_
    refine z_Vi (As := [_, _]) dX8_farWith_49 (by rfl) v_X8_its l_X8_111 (by first | decide | assumption | omega) rfl rfl rfl (by omega) (by decide) (Nat.le_of_ble_eq_true rfl) ?_
    first | refine s_X8_its0 (by omega) ?_ | refine s_X8_its1 (by omega) ?_ | refine s_X8_its2 (by omega) ?_ | refine s_X8_its3 (by omega) ?_ | refine s_X8_its4 (by omega) ?_
    refine z_iload (i := 4) dX8_farWith_52 rfl ?_
    refine z_isub dX8_farWith_54 ?_
    first
    | (rw [hc'.1]
       refine s_farTail hv2 hc' hg (fun k hk => by rw [pk_un (by omega), pk_un (by omega)]) (by omega) (fun c2 h2 => ?_)
       have := hQ c2 h2
       unfold farF at this
       rw [if_neg (by assumption)] at this
       exact this)
    | (refine s_farTail hv2 hc' hg (fun k hk => by rw [pk_un (by omega), pk_un (by omega)]) (by omega) (fun c2 h2 => ?_)
       have := hQ c2 h2
       unfold farF at this
       rw [if_pos (by assumption)] at this
       exact this)
  · refine z_iconst (v := 0) dX8_farWith_42 (by decide) ?_
    refine z_goto 55 dX8_farWith_43 (by decide) ?_
    first
    | (rw [hc'.1]
       refine s_farTail hv2 hc' hg (fun k hk => by rw [pk_un (by omega), pk_un (by omega)]) (by omega) (fun c2 h2 => ?_)
       have := hQ c2 h2
       unfold farF at this
       rw [if_neg (by assumption)] at this
       exact this)
    | (refine s_farTail hv2 hc' hg (fun k hk => by rw [pk_un (by omega), pk_un (by omega)]) (by omega) (fun c2 h2 => ?_)
       have := hQ c2 h2
       unfold farF at this
       rw [if_pos (by assumption)] at this
       exact this)
end R4
