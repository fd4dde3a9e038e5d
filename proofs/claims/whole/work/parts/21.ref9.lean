/-! the reference's calls, nine: fits -/
section R9
variable {l : Launch} {E : zE} {ad : Nat → Nat} {c : zS} {Qf : Int32 → zS → Prop} {d n : Nat}
theorem s_X8_lacks {sh : Int32} (hd : 2 ≤ d) (hQ : Qf (if 0 ≤ sh ∧ sh ≤ 3 then (if c 60 (pn sh) = 0 then 2 else 0) else 1) c) : zCl l E ad mX8_lacks d [.ref (ad 51), .int sh] c Qf := by
  refine z_enter (own := RX8) [some (.ref (ad 51)), some (.int sh)] (by decide +kernel) rfl rfl rfl (Nat.le_of_ble_eq_true rfl) ?_
  by_cases h : 0 ≤ sh ∧ sh ≤ 3
  · obtain ⟨j, hj, rfl⟩ := zj_of (x := sh) (n := 4) h.1 (by show sh < (4 : Int32); grind) (by decide)
    rw [if_pos h, pn_nI (by omega)] at hQ
    refine z_iload_n (i := 1) dX8_lacks_0 rfl rfl ?_
    refine z_Sb (As := [_]) dX8_lacks_1 (by rfl) v_X8_isSheet l_X8_252 rfl (by omega) (by decide) (Nat.le_of_ble_eq_true rfl) ?_
    refine s_X8_isSheet (by omega) ?_
    refine z_if_ne 11 dX8_lacks_4 (by decide) (fun h_4 => ?_) (fun h_4 => ?_)
    rotate_left
    · exfalso; grind
    refine z_aload_n (i := 0) dX8_lacks_11 rfl rfl ?_
    refine z_getf dX8_lacks_12 f_X8_34 (by first | decide | assumption | omega) rfl (by rfl) ?_
    refine z_iload_n (i := 1) dX8_lacks_15 rfl rfl ?_
    refine z_iald (j := j) dX8_lacks_16 (by first | decide | assumption | omega) rfl (by rfl) (by first | decide | omega) (by first | decide | omega) ?_
    refine z_if_ne 24 dX8_lacks_17 (by decide) (fun h_17 => ?_) (fun h_17 => ?_)
    · refine z_iconst (v := 0) dX8_lacks_24 (by decide) ?_
      exact z_ret dX8_lacks_25 (by grind) trivial rfl
    · refine z_iconst (v := 2) dX8_lacks_20 (by decide) ?_
      refine z_goto 25 dX8_lacks_21 (by decide) ?_
      exact z_ret dX8_lacks_25 (by grind) trivial rfl
  · skip
    refine z_iload_n (i := 1) dX8_lacks_0 rfl rfl ?_
    refine z_Sb (As := [_]) dX8_lacks_1 (by rfl) v_X8_isSheet l_X8_252 rfl (by omega) (by decide) (Nat.le_of_ble_eq_true rfl) ?_
    refine s_X8_isSheet (by omega) ?_
    refine z_if_ne 11 dX8_lacks_4 (by decide) (fun h_4 => ?_) (fun h_4 => ?_)
    · exfalso; grind
    refine z_iconst (v := 1) dX8_lacks_7 (by decide) ?_
    refine z_goto 25 dX8_lacks_8 (by decide) ?_
    exact z_ret dX8_lacks_25 (by grind) trivial rfl
theorem s_X8_clearsSo {f num : zN} {sh p z : Nat} {sure : Int32} (hf : c 52 = f) (hnum : c 62 = num) (hz : c 61 sh = nI z) (hz2 : z ≤ 24) (hsh : sh < 4) (hv : vaF f n) (hp : p < n) (hd : 6 ≤ d) (hQ : ∀ c', zsc c c' → Qf (if csN (fun i => num (24 * sh + i)) p z 0 (upd f (8 + 5 * p + 2) sure) = true then 1 else 0) c') : zCl l E ad mX8_clearsSo d [.ref (ad 51), .int (nI sh), .int (nI p), .int sure] c Qf := by
  subst hf
  subst hnum
  have hp6 : p < 6 := by have := hv.2.1; omega
  have hv2 : vaF (upd (c 52) (8 + 5 * p + 2) sure) n := vaF_up (by omega) (by omega) hv
  refine z_enter (own := RX8) [some (.ref (ad 51)), some (.int (nI sh)), some (.int (nI p)), some (.int sure), none, none] (by decide +kernel) rfl rfl rfl (Nat.le_of_ble_eq_true rfl) ?_
  have tail : ∀ (g F : zN) (c1 : zS) (x i : Int32), (∀ k, k < 38 → g k = c 52 k) → zfm (zup (zup c 54 g) 52 (upd (c 52) (8 + 5 * p + 2) sure)) F c1 → (∀ k, 38 ≤ k → F k = c 52 k) → x = (if csN (fun i => c 62 (24 * sh + i)) p z 0 (upd (c 52) (8 + 5 * p + 2) sure) = true then 1 else 0) → zW l E ad RX8 cX8_clearsSo 6 3 d Qf 70 [some (.ref (ad 51)), some (.int (nI sh)), some (.int (nI p)), some (.int sure), some (.int x), some (.int i)] [] c1 := by
    intro g F c1 x i hg hc1 hF hx
    refine z_aload_n (i := 0) dX8_clearsSo_70 rfl rfl ?_
    refine z_Vv (As := []) dX8_clearsSo_71 (by rfl) v_X8_layBack l_X8_190 (by first | decide | assumption | omega) rfl rfl rfl (by omega) (by decide) (Nat.le_of_ble_eq_true rfl) ?_
    refine s_X8_layBack (fun g2 hg1 hg2 => ?_)
    have e2 : g2 = c 52 := zback (c1 := c) (fun k hk => by rw [hg1 k hk, hc1.2 54 (by decide) (by decide) (by decide)]; exact hg k hk) (fun k hk => by rw [hg2 k hk, hc1.1]; exact hF k hk)
    subst e2
    refine z_iload (i := 4) dX8_clearsSo_74 rfl ?_
    exact z_ret dX8_clearsSo_76 (by rw [hx]; exact hQ _ (zsc_of2 hc1 (fun k a b => by rw [zup_n a, zup_n b]))) (by rw [hx]; split <;> rfl) rfl
  have loop : ∀ (g : zN), (∀ k, k < 38 → g k = c 52 k) → ∀ (r i : Nat) (F : zN) (c1 : zS) (x : Int32), z - i < r → i ≤ z → vaF F n → zfm (zup (zup c 54 g) 52 (upd (c 52) (8 + 5 * p + 2) sure)) F c1 → (∀ k, 38 ≤ k → F k = c 52 k) → (if csN (fun i => c 62 (24 * sh + i)) p z 0 (upd (c 52) (8 + 5 * p + 2) sure) = true then (1 : Int32) else 0) = (if x = 0 then 0 else if csN (fun i => c 62 (24 * sh + i)) p (z - i) i F = true then 1 else 0) → x = 0 ∨ x = 1 → zW l E ad RX8 cX8_clearsSo 6 3 d Qf 17 [some (.ref (ad 51)), some (.int (nI sh)), some (.int (nI p)), some (.int sure), some (.int x), some (.int (nI i))] [] c1 := by
    intro g hg r
    induction r with
    | zero => intro i F c1 x h; omega
    | succ r ih =>
      intro i F c1 x hr hi hv1 hc1 hF e hx
      have e1 := hc1.1
      have e61 : c1 61 = c 61 := hc1.2 61 (by decide) (by decide) (by decide)
      have e62 : c1 62 = c 62 := hc1.2 62 (by decide) (by decide) (by decide)
      have hlt := nI_leI (a := z) (b := i) (by omega) (by omega)
      have cut58 : ∀ (y : Int32) (c2 : zS), i < z → x ≠ 0 → zfm c1 F c2 → y = (if cleF F p = c 62 (24 * sh + i) then 1 else 0) → zW l E ad RX8 cX8_clearsSo 6 3 d Qf 58 [some (.ref (ad 51)), some (.int (nI sh)), some (.int (nI p)), some (.int sure), some (.int x), some (.int (nI i))] [.int y] c2 := by
        intro y c2 hiz hx0 hc2 hy
        refine z_istore (i := 4) [_, _, _, _, _, _] dX8_clearsSo_58 (by decide) rfl rfl ?_
        refine z_aload_n (i := 0) dX8_clearsSo_60 rfl rfl ?_
        refine z_Vv (As := []) dX8_clearsSo_61 (by rfl) v_X8_anHour l_X8_150 (by first | decide | assumption | omega) rfl rfl rfl (by omega) (by decide) (Nat.le_of_ble_eq_true rfl) ?_
        refine s_X8_anHour hc2.1 hv1 (by omega) (fun c3 hc3 => ?_)
        refine z_iinc (i := 5) (v := 1) [_, _, _, _, _, _] dX8_clearsSo_64 rfl (by decide) (by decide) rfl rfl ?_
        refine z_goto 17 dX8_clearsSo_67 (by decide) ?_
        rw [nI_1]
        refine ih (i + 1) _ c3 y (by omega) (by omega) (vaF_hr hv1) (zfm_tr (zfm_tr hc1 hc2) hc3) (fun k hk => by rw [hrF_hi hv1 hk]; exact hF k hk) ?_ (by rw [hy]; split <;> simp)
        rw [e, if_neg hx0, show z - i = z - (i + 1) + 1 by omega]
        by_cases h9 : cleF F p = c 62 (24 * sh + i) <;> simp [csN, hy, h9]
      refine z_iload (i := 5) dX8_clearsSo_17 rfl ?_
      refine z_aload_n (i := 0) dX8_clearsSo_19 rfl rfl ?_
      refine z_getf dX8_clearsSo_20 f_X8_37 (by first | decide | assumption | omega) rfl (by rfl) ?_
      refine z_iload_n (i := 1) dX8_clearsSo_23 rfl rfl ?_
      refine z_iald (j := sh) dX8_clearsSo_24 (by first | decide | assumption | omega) rfl (by rfl) (by first | decide | omega) (by first | decide | omega) ?_
      refine z_icmp_ge 70 dX8_clearsSo_25 (by decide) (fun h_25 => ?_) (fun h_25 => ?_)
      · first
        | (have hiz : i = z := by rw [e61, hz] at h_25; have := hlt.mp h_25; omega
           subst hiz
           rw [Nat.sub_self] at e
           refine tail g F c1 x _ hg hc1 hF ?_
           rw [e]
           unfold csN
           grind)
        | (refine tail g F c1 x _ hg hc1 hF ?_
           rw [e]
           grind)
      · have hiz : i < z := by rw [e61, hz] at h_25; have := mt hlt.mpr h_25; omega
        refine z_iload (i := 4) dX8_clearsSo_28 rfl ?_
        refine z_if_eq 70 dX8_clearsSo_30 (by decide) (fun h_30 => ?_) (fun h_30 => ?_)
        · first
          | (have hiz : i = z := by rw [e61, hz] at h_25; have := hlt.mp h_25; omega
             subst hiz
             rw [Nat.sub_self] at e
             refine tail g F c1 x _ hg hc1 hF ?_
             rw [e]
             unfold csN
             grind)
          | (refine tail g F c1 x _ hg hc1 hF ?_
             rw [e]
             grind)
        · refine z_aload_n (i := 0) dX8_clearsSo_33 rfl rfl ?_
          refine z_iload_n (i := 2) dX8_clearsSo_34 rfl rfl ?_
          refine z_Vi (As := [_]) dX8_clearsSo_35 (by rfl) v_X8_clearOf l_X8_130 (by first | decide | assumption | omega) rfl rfl rfl (by omega) (by decide) (Nat.le_of_ble_eq_true rfl) ?_
          refine s_X8_clearOf e1 hv1 hp (by omega) (fun c2 hc2 => ?_)
          refine z_aload_n (i := 0) dX8_clearsSo_38 rfl rfl ?_
          refine z_getf dX8_clearsSo_39 f_X8_40 (by first | decide | assumption | omega) rfl (by rfl) ?_
          refine z_bipush (v := 24) dX8_clearsSo_42 (by decide) ?_
          refine z_iload_n (i := 1) dX8_clearsSo_44 rfl rfl ?_
          refine z_imul dX8_clearsSo_45 ?_
          refine z_iload (i := 5) dX8_clearsSo_46 rfl ?_
          refine z_iadd dX8_clearsSo_48 ?_
          refine z_iald (j := 24 * sh + i) dX8_clearsSo_49 (by first | decide | assumption | omega) rfl (by show nI 24 * nI sh + nI i = _; rw [pk_mul, nI_add]) (by first | decide | omega) (by first | decide | omega) ?_
          refine z_icmp_ne 57 dX8_clearsSo_50 (by decide) (fun h_50 => ?_) (fun h_50 => ?_)
          · refine z_iconst (v := 0) dX8_clearsSo_57 (by decide) ?_
            have f62 : c2 62 = c 62 := (hc2.2 62 (by decide) (by decide) (by decide)).trans e62
            exact cut58 _ _ hiz (by grind) hc2 (by rw [f62] at h_50; grind)
          · refine z_iconst (v := 1) dX8_clearsSo_53 (by decide) ?_
            refine z_goto 58 dX8_clearsSo_54 (by decide) ?_
            have f62 : c2 62 = c 62 := (hc2.2 62 (by decide) (by decide) (by decide)).trans e62
            exact cut58 _ _ hiz (by grind) hc2 (by rw [f62] at h_50; grind)
  refine z_aload_n (i := 0) dX8_clearsSo_0 rfl rfl ?_
  refine z_Vv (As := []) dX8_clearsSo_1 (by rfl) v_X8_layDown l_X8_187 (by first | decide | assumption | omega) rfl rfl rfl (by omega) (by decide) (Nat.le_of_ble_eq_true rfl) ?_
  refine s_X8_layDown (fun g hg => ?_)
  refine z_aload_n (i := 0) dX8_clearsSo_4 rfl rfl ?_
  refine z_iload_n (i := 2) dX8_clearsSo_5 rfl rfl ?_
  refine z_iconst (v := 2) dX8_clearsSo_6 (by decide) ?_
  refine z_iload_n (i := 3) dX8_clearsSo_7 rfl rfl ?_
  refine z_Vv (As := [_, _, _]) dX8_clearsSo_8 (by rfl) v_X8_lays1 l_X8_142 (by first | decide | assumption | omega) rfl rfl rfl (by omega) (by decide) (Nat.le_of_ble_eq_true rfl) ?_
  refine s_X8_lays12 (by omega) ?_
  rw [show zup c 54 g 52 = c 52 from rfl]
  refine z_iconst (v := 1) dX8_clearsSo_11 (by decide) ?_
  refine z_istore (i := 4) [_, _, _, _, _, _] dX8_clearsSo_12 (by decide) rfl rfl ?_
  refine z_iconst (v := 0) dX8_clearsSo_14 (by decide) ?_
  refine z_istore (i := 5) [_, _, _, _, _, _] dX8_clearsSo_15 (by decide) rfl rfl ?_
  exact loop g hg (z + 1) 0 _ _ 1 (by omega) (by omega) hv2 ⟨zup_s _ _ _, fun _ _ _ _ => rfl⟩ (fun k hk => pk_un (by omega)) (by rw [if_neg (show ¬ (1 : Int32) = 0 by decide)]; rfl) (Or.inr rfl)
end R9
