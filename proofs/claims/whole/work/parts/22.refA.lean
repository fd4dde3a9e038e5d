/-! the reference's calls, ten: fits, bodies -/
theorem fsF_s {P : Nat → Bool} {m i : Nat} : fsF P (m + 1) i = if P i = true then i else fsF P m (i + 1) := rfl
section RA
variable {l : Launch} {E : zE} {ad : Nat → Nat} {c : zS} {Qf : Int32 → zS → Prop} {d n : Nat}
theorem o8_fits {sh p w : Int32} (hv : vaF (c 52) n) (hz : ∀ k, k < 4 → ∃ z : Nat, z ≤ 24 ∧ c 61 k = nI z) (hd : 8 ≤ d) (hQ : ∀ r c', (∀ k, k < 51 → c' k = c k) → (r, mst c') = o_fits (mst c) sh p w → Qf r c') : zCl l E ad mX8_fits d [.ref (ad 51), .int sh, .int p, .int w] c Qf := by
  obtain ⟨hn, hn6, hw0, hw1⟩ := id hv
  refine z_enter (own := RX8) [some (.ref (ad 51)), some (.int sh), some (.int p), some (.int w), none, none, none, none, none] (by decide +kernel) rfl rfl rfl (Nat.le_of_ble_eq_true rfl) ?_
  have loop : ∀ (s j z : Nat), s < 4 → j < n → z ≤ 24 → c 61 s = nI z → ((isP (mst c) (nI j) ∧ 0 ≤ w ∧ w ≤ 1) ∧ 0 ≤ nI s ∧ nI s ≤ 3) → sh = nI s → p = nI j → ¬ c 60 s = 0 → ∀ (i : Nat) (c1 : zS) (x8 : Option Value) (cnt : Nat) (best : Int32), i ≤ 100 → zsc c c1 → cnt + cnF (fun i => csF (mst c) s j (nI i)) i = cnF (fun i => csF (mst c) s j (nI i)) 100 → best = (if fsF (fun i => csF (mst c) s j (nI i)) (100 - i) i = 100 then -1 else nI (fsF (fun i => csF (mst c) s j (nI i)) (100 - i) i)) → (fsF (fun i => csF (mst c) s j (nI i)) (100 - i) i ≤ 100) → zW l E ad RX8 cX8_fits 9 1 d Qf 50 [some (.ref (ad 51)), some (.int (nI s)), some (.int (nI j)), some (.int w), some (.int 0), some (.int (nI cnt)), some (.int best), some (.int (nI i - 1)), x8] [] c1 := by
    intro s j z hs hj hz2 hzs hok es ej hb i
    subst es
    subst ej
    have eps : pn (nI s) = s := pn_nI (by omega)
    have epj : pn (nI j) = j := pn_nI (by omega)
    have epz : pn (c 61 s) = z := by rw [hzs]; exact pn_nI (by omega)
    induction i with
    | zero =>
      intro c1 x8 cnt best hi hc1 hcnt hbest hle
      rw [Nat.sub_zero] at hbest hle
      have hcnt' : cnt = cnF (fun i => csF (mst c) s j (nI i)) 100 := hcnt
      have eb : (mst c).2.2.2.2.2.2.1 (pn (nI s)) = c 60 s := by rw [eps]; rfl
      refine z_iload (i := 7) dX8_fits_50 rfl ?_
      refine z_if_lt 100 dX8_fits_52 (by decide) (fun h_52 => ?_) (fun h_52 => ?_)
      rotate_left
      · exact absurd (show (nI 0 - 1 : Int32) < 0 by decide) h_52
      refine z_iload_n (i := 3) dX8_fits_100 rfl rfl ?_
      refine z_if_ne 109 dX8_fits_101 (by decide) (fun h_101 => ?_) (fun h_101 => ?_)
      · refine z_iload (i := 6) dX8_fits_109 rfl ?_
        refine z_iconst (v := (-1)) dX8_fits_111 (by decide) ?_
        refine z_icmp_ne 123 dX8_fits_112 (by decide) (fun h_112 => ?_) (fun h_112 => ?_)
        · refine z_iload (i := 6) dX8_fits_123 rfl ?_
          first
          | exact z_ret dX8_fits_125 (hQ _ _ (fun k hk => hc1 k (by omega) (by omega) (by omega)) (by
              unfold o_fits
              rw [if_pos hok, eps, epj, if_neg (show ¬ (mst c).2.2.2.2.2.2.1 s = 0 from hb), if_pos (by assumption), ← hcnt', mst_zsc hc1])) trivial rfl
          | exact z_ret dX8_fits_125 (hQ _ _ (fun k hk => by rw [zup_n (by omega)]; exact hc1 k (by omega) (by omega) (by omega)) (by
              unfold o_fits
              rw [if_pos hok, eps, epj, if_neg (show ¬ (mst c).2.2.2.2.2.2.1 s = 0 from hb), if_neg (by assumption), if_pos (by
                apply Classical.byContradiction
                intro h9
                rw [if_neg h9] at hbest
                have := nI_pos' (n := fsF (fun i => csF (mst c) s j (nI i)) 100 0) (by omega)
                rw [← hbest] at this
                have hm1 : best = -1 := by first | assumption | exact Classical.not_not.mp (by assumption)
                rw [hm1] at this
                exact absurd this (by decide))]
              exact err_eq (k := 2) hc1)) trivial rfl
          | exact z_ret dX8_fits_125 (hQ _ _ (fun k hk => hc1 k (by omega) (by omega) (by omega)) (by
              unfold o_fits
              rw [if_pos hok, eps, epj, if_neg (show ¬ (mst c).2.2.2.2.2.2.1 s = 0 from hb), if_neg (by assumption), if_neg (by intro h9; rw [if_pos h9] at hbest; contradiction), mst_zsc hc1, hbest, if_neg (by intro h9; rw [if_pos h9] at hbest; contradiction)])) trivial rfl
        · refine z_aload_n (i := 0) dX8_fits_115 rfl rfl ?_
          refine z_iconst (v := 2) dX8_fits_116 (by decide) ?_
          refine z_Vi (As := [_]) dX8_fits_117 (by rfl) v_X8_error l_X8_51 (by first | decide | assumption | omega) rfl rfl rfl (by omega) (by decide) (Nat.le_of_ble_eq_true rfl) ?_
          refine s_X8_error (by rfl) (by first | decide | omega) ?_
          refine z_goto 125 dX8_fits_120 (by decide) ?_
          first
          | exact z_ret dX8_fits_125 (hQ _ _ (fun k hk => hc1 k (by omega) (by omega) (by omega)) (by
              unfold o_fits
              rw [if_pos hok, eps, epj, if_neg (show ¬ (mst c).2.2.2.2.2.2.1 s = 0 from hb), if_pos (by assumption), ← hcnt', mst_zsc hc1])) trivial rfl
          | exact z_ret dX8_fits_125 (hQ _ _ (fun k hk => by rw [zup_n (by omega)]; exact hc1 k (by omega) (by omega) (by omega)) (by
              unfold o_fits
              rw [if_pos hok, eps, epj, if_neg (show ¬ (mst c).2.2.2.2.2.2.1 s = 0 from hb), if_neg (by assumption), if_pos (by
                apply Classical.byContradiction
                intro h9
                rw [if_neg h9] at hbest
                have := nI_pos' (n := fsF (fun i => csF (mst c) s j (nI i)) 100 0) (by omega)
                rw [← hbest] at this
                have hm1 : best = -1 := by first | assumption | exact Classical.not_not.mp (by assumption)
                rw [hm1] at this
                exact absurd this (by decide))]
              exact err_eq (k := 2) hc1)) trivial rfl
          | exact z_ret dX8_fits_125 (hQ _ _ (fun k hk => hc1 k (by omega) (by omega) (by omega)) (by
              unfold o_fits
              rw [if_pos hok, eps, epj, if_neg (show ¬ (mst c).2.2.2.2.2.2.1 s = 0 from hb), if_neg (by assumption), if_neg (by intro h9; rw [if_pos h9] at hbest; contradiction), mst_zsc hc1, hbest, if_neg (by intro h9; rw [if_pos h9] at hbest; contradiction)])) trivial rfl
      · refine z_iload (i := 5) dX8_fits_104 rfl ?_
        refine z_goto 125 dX8_fits_106 (by decide) ?_
        first
        | exact z_ret dX8_fits_125 (hQ _ _ (fun k hk => hc1 k (by omega) (by omega) (by omega)) (by
            unfold o_fits
            rw [if_pos hok, eps, epj, if_neg (show ¬ (mst c).2.2.2.2.2.2.1 s = 0 from hb), if_pos (by assumption), ← hcnt', mst_zsc hc1])) trivial rfl
        | exact z_ret dX8_fits_125 (hQ _ _ (fun k hk => by rw [zup_n (by omega)]; exact hc1 k (by omega) (by omega) (by omega)) (by
            unfold o_fits
            rw [if_pos hok, eps, epj, if_neg (show ¬ (mst c).2.2.2.2.2.2.1 s = 0 from hb), if_neg (by assumption), if_pos (by
              apply Classical.byContradiction
              intro h9
              rw [if_neg h9] at hbest
              have := nI_pos' (n := fsF (fun i => csF (mst c) s j (nI i)) 100 0) (by omega)
              rw [← hbest] at this
              have hm1 : best = -1 := by first | assumption | exact Classical.not_not.mp (by assumption)
              rw [hm1] at this
              exact absurd this (by decide))]
            exact err_eq (k := 2) hc1)) trivial rfl
        | exact z_ret dX8_fits_125 (hQ _ _ (fun k hk => hc1 k (by omega) (by omega) (by omega)) (by
            unfold o_fits
            rw [if_pos hok, eps, epj, if_neg (show ¬ (mst c).2.2.2.2.2.2.1 s = 0 from hb), if_neg (by assumption), if_neg (by intro h9; rw [if_pos h9] at hbest; contradiction), mst_zsc hc1, hbest, if_neg (by intro h9; rw [if_pos h9] at hbest; contradiction)])) trivial rfl
    | succ i ih =>
      intro c1 x8 cnt best hi hc1 hcnt hbest hle
      have e7 : (nI (i + 1) - 1 : Int32) = nI i := zi_m1 (by omega)
      have e7' : (nI i + -1 : Int32) = nI i - 1 := by grind
      rw [e7]
      have e1 := hc1 52 (by decide) (by decide) (by decide)
      have e62 := hc1 62 (by decide) (by decide) (by decide)
      have e61 := hc1 61 (by decide) (by decide) (by decide)
      have hcs : csF (mst c) s j (nI i) = csN (fun i => c 62 (24 * s + i)) j z 0 (upd (c 52) (8 + 5 * j + 2) (nI i)) := by
        unfold csF
        rw [← epz]
        rfl
      have hfs : fsF (fun i => csF (mst c) s j (nI i)) (100 - i) i = if csF (mst c) s j (nI i) = true then i else fsF (fun i => csF (mst c) s j (nI i)) (100 - (i + 1)) (i + 1) := by
        rw [show 100 - i = 100 - (i + 1) + 1 by omega]
        rfl
      have hcn : cnF (fun i => csF (mst c) s j (nI i)) (i + 1) = cnF (fun i => csF (mst c) s j (nI i)) i + (if csF (mst c) s j (nI i) = true then 1 else 0) := rfl
      have cut77 : ∀ (x : Nat) (y : Int32) (c2 : zS), zsc c c2 → y = nI x → x = (if csF (mst c) s j (nI i) = true then 1 else 0) → zW l E ad RX8 cX8_fits 9 1 d Qf 77 [some (.ref (ad 51)), some (.int (nI s)), some (.int (nI j)), some (.int w), some (.int 0), some (.int (nI cnt)), some (.int best), some (.int (nI i)), some (.int y)] [.int (nI x), .int (nI cnt)] c2 := by
        intro x y c2 hc2 hy hx
        refine z_iadd dX8_fits_77 ?_
        refine z_istore (i := 5) [_, _, _, _, _, _, _, _, _] dX8_fits_78 (by decide) rfl rfl ?_
        refine z_iload (i := 8) dX8_fits_80 rfl ?_
        refine z_if_eq 90 dX8_fits_82 (by decide) (fun h_82 => ?_) (fun h_82 => ?_)
        · refine z_iload (i := 6) dX8_fits_90 rfl ?_
          refine z_istore (i := 6) [_, _, _, _, _, _, _, _, _] dX8_fits_92 (by decide) rfl rfl ?_
          refine z_iinc (i := 7) (v := (-1)) [_, _, _, _, _, _, _, _, _] dX8_fits_94 rfl (by decide) (by decide) rfl rfl ?_
          refine z_goto 50 dX8_fits_97 (by decide) ?_
          rw [nI_add, e7']
          refine ih c2 _ (cnt + x) _ (by omega) hc2 (by omega) ?_ (by rw [hfs]; split <;> omega)
          rw [hfs]
          by_cases h9 : csF (mst c) s j (nI i) = true
          · rw [if_pos h9] at hx
            first
            | (exfalso; rw [hy, hx] at h_82; exact absurd h_82 (by decide))
            | rw [if_pos h9, if_neg (by omega)]
          · rw [if_neg h9] at hx
            first
            | (exfalso; rw [hy, hx] at h_82; exact absurd h_82 (by decide))
            | rw [if_neg h9]; exact hbest
        · refine z_iload (i := 7) dX8_fits_85 rfl ?_
          refine z_goto 92 dX8_fits_87 (by decide) ?_
          refine z_istore (i := 6) [_, _, _, _, _, _, _, _, _] dX8_fits_92 (by decide) rfl rfl ?_
          refine z_iinc (i := 7) (v := (-1)) [_, _, _, _, _, _, _, _, _] dX8_fits_94 rfl (by decide) (by decide) rfl rfl ?_
          refine z_goto 50 dX8_fits_97 (by decide) ?_
          rw [nI_add, e7']
          refine ih c2 _ (cnt + x) _ (by omega) hc2 (by omega) ?_ (by rw [hfs]; split <;> omega)
          rw [hfs]
          by_cases h9 : csF (mst c) s j (nI i) = true
          · rw [if_pos h9] at hx
            first
            | (exfalso; rw [hy, hx] at h_82; exact absurd h_82 (by decide))
            | rw [if_pos h9, if_neg (by omega)]
          · rw [if_neg h9] at hx
            first
            | (exfalso; rw [hy, hx] at h_82; exact absurd h_82 (by decide))
            | rw [if_neg h9]; exact hbest
      refine z_iload (i := 7) dX8_fits_50 rfl ?_
      refine z_if_lt 100 dX8_fits_52 (by decide) (fun h_52 => ?_) (fun h_52 => ?_)
      · exact absurd h_52 (by have := nI_pos' (n := i) (by omega); grind)
      refine z_aload_n (i := 0) dX8_fits_55 rfl rfl ?_
      refine z_iload_n (i := 1) dX8_fits_56 rfl rfl ?_
      refine z_iload_n (i := 2) dX8_fits_57 rfl rfl ?_
      refine z_iload (i := 7) dX8_fits_58 rfl ?_
      refine z_Vb (As := [_, _, _]) dX8_fits_60 (by rfl) v_X8_clearsSo l_X8_218 (by first | decide | assumption | omega) rfl rfl rfl (by omega) (by decide) (Nat.le_of_ble_eq_true rfl) ?_
      refine s_X8_clearsSo (f := c 52) (num := c 62) e1 e62 (by rw [e61]; exact hzs) hz2 hs hv hj (by omega) (fun c2 hc2 => ?_)
      refine z_istore (i := 8) [_, _, _, _, _, _, _, _, _] dX8_fits_63 (by decide) rfl rfl ?_
      refine z_iload (i := 5) dX8_fits_65 rfl ?_
      refine z_iload (i := 8) dX8_fits_67 rfl ?_
      refine z_if_eq 76 dX8_fits_69 (by decide) (fun h_69 => ?_) (fun h_69 => ?_)
      · refine z_iconst (v := 0) dX8_fits_76 (by decide) ?_
        first
        | exact cut77 0 _ _ (zsc_tr hc1 hc2) h_69 (by rw [hcs, if_neg (fun q => by rw [if_pos q] at h_69; exact absurd h_69 (by decide))])
        | exact cut77 1 _ _ (zsc_tr hc1 hc2) (if_pos (Classical.byContradiction fun q => h_69 (if_neg q))) (by rw [hcs, if_pos (Classical.byContradiction fun q => h_69 (if_neg q))])
      · refine z_iconst (v := 1) dX8_fits_72 (by decide) ?_
        refine z_goto 77 dX8_fits_73 (by decide) ?_
        first
        | exact cut77 0 _ _ (zsc_tr hc1 hc2) h_69 (by rw [hcs, if_neg (fun q => by rw [if_pos q] at h_69; exact absurd h_69 (by decide))])
        | exact cut77 1 _ _ (zsc_tr hc1 hc2) (if_pos (Classical.byContradiction fun q => h_69 (if_neg q))) (by rw [hcs, if_pos (Classical.byContradiction fun q => h_69 (if_neg q))])
  have cut26 : ∀ x : Int32, x = (if (isP (mst c) p ∧ 0 ≤ w ∧ w ≤ 1) ∧ 0 ≤ sh ∧ sh ≤ 3 then (if c 60 (pn sh) = 0 then 2 else 0) else 1) → zW l E ad RX8 cX8_fits 9 1 d Qf 26 [some (.ref (ad 51)), some (.int sh), some (.int p), some (.int w), none, none, none, none, none] [.int x] c := by
    intro x hx
    by_cases hok : (isP (mst c) p ∧ 0 ≤ w ∧ w ≤ 1) ∧ 0 ≤ sh ∧ sh ≤ 3
    · rw [if_pos hok] at hx
      by_cases hb : c 60 (pn sh) = 0
      · rw [if_pos hb] at hx
        subst hx
        refine z_istore (i := 4) [_, _, _, _, _, _, _, _, _] dX8_fits_26 (by decide) rfl rfl ?_
        refine z_iload (i := 4) dX8_fits_28 rfl ?_
        refine z_if_eq 40 dX8_fits_30 (by decide) (fun h_30 => ?_) (fun h_30 => ?_)
        · exact absurd h_30 (by decide)
        refine z_aload_n (i := 0) dX8_fits_33 rfl rfl ?_
        refine z_iload (i := 4) dX8_fits_34 rfl ?_
        refine z_Vi (As := [_]) dX8_fits_36 (by rfl) v_X8_error l_X8_51 (by first | decide | assumption | omega) rfl rfl rfl (by omega) (by decide) (Nat.le_of_ble_eq_true rfl) ?_
        refine s_X8_error (by rfl) (by first | decide | omega) ?_
        exact z_ret dX8_fits_39 (hQ _ _ (by intro k hk; simp (disch := omega) only [zup_n]) (by unfold o_fits; rw [if_pos hok, if_pos (show (mst c).2.2.2.2.2.2.1 (pn sh) = 0 from hb)]; rfl)) trivial rfl
      · rw [if_neg hb] at hx
        subst hx
        obtain ⟨j, hj, rfl⟩ := isP_of (f := c 52) hok.1.1 hn hn6
        obtain ⟨s, hs, rfl⟩ := zj_of (x := sh) (n := 4) (by grind) (by show sh < (4 : Int32); grind) (by decide)
        obtain ⟨z, hz2, hzs⟩ := hz s hs
        rw [pn_nI (by omega)] at hb
        refine z_istore (i := 4) [_, _, _, _, _, _, _, _, _] dX8_fits_26 (by decide) rfl rfl ?_
        refine z_iload (i := 4) dX8_fits_28 rfl ?_
        refine z_if_eq 40 dX8_fits_30 (by decide) (fun h_30 => ?_) (fun h_30 => ?_)
        rotate_left
        · exact absurd rfl h_30
        refine z_iconst (v := 0) dX8_fits_40 (by decide) ?_
        refine z_istore (i := 5) [_, _, _, _, _, _, _, _, _] dX8_fits_41 (by decide) rfl rfl ?_
        refine z_iconst (v := (-1)) dX8_fits_43 (by decide) ?_
        refine z_istore (i := 6) [_, _, _, _, _, _, _, _, _] dX8_fits_44 (by decide) rfl rfl ?_
        refine z_bipush (v := 99) dX8_fits_46 (by decide) ?_
        refine z_istore (i := 7) [_, _, _, _, _, _, _, _, _] dX8_fits_48 (by decide) rfl rfl ?_
        exact loop s j z hs hj hz2 hzs hok rfl rfl hb 100 c none 0 (-1) (by omega) zsc_rf (by omega) rfl (Nat.le_refl 100)
    · rw [if_neg hok] at hx
      subst hx
      refine z_istore (i := 4) [_, _, _, _, _, _, _, _, _] dX8_fits_26 (by decide) rfl rfl ?_
      refine z_iload (i := 4) dX8_fits_28 rfl ?_
      refine z_if_eq 40 dX8_fits_30 (by decide) (fun h_30 => ?_) (fun h_30 => ?_)
      · exact absurd h_30 (by decide)
      refine z_aload_n (i := 0) dX8_fits_33 rfl rfl ?_
      refine z_iload (i := 4) dX8_fits_34 rfl ?_
      refine z_Vi (As := [_]) dX8_fits_36 (by rfl) v_X8_error l_X8_51 (by first | decide | assumption | omega) rfl rfl rfl (by omega) (by decide) (Nat.le_of_ble_eq_true rfl) ?_
      refine s_X8_error (by rfl) (by first | decide | omega) ?_
      exact z_ret dX8_fits_39 (hQ _ _ (by intro k hk; simp (disch := omega) only [zup_n]) (by unfold o_fits; rw [if_neg hok]; rfl)) trivial rfl
  refine z_aload_n (i := 0) dX8_fits_0 rfl rfl ?_
  refine z_iload_n (i := 2) dX8_fits_1 rfl rfl ?_
  refine z_Vb (As := [_]) dX8_fits_2 (by rfl) v_X8_isPerson l_X8_157 (by first | decide | assumption | omega) rfl rfl rfl (by omega) (by decide) (Nat.le_of_ble_eq_true rfl) ?_
  refine s_X8_isPerson (by omega) ?_
  refine z_if_eq 25 dX8_fits_5 (by decide) (fun h_5 => ?_) (fun h_5 => ?_)
  · refine z_iconst (v := 1) dX8_fits_25 (by decide) ?_
    refine cut26 _ ?_
    show _ = (if ((0 ≤ p ∧ p ≤ c 52 5 - 1) ∧ 0 ≤ w ∧ w ≤ 1) ∧ 0 ≤ sh ∧ sh ≤ 3 then _ else _)
    grind
  · refine z_iload_n (i := 3) dX8_fits_8 rfl rfl ?_
    refine z_iconst (v := 0) dX8_fits_9 (by decide) ?_
    refine z_iconst (v := 1) dX8_fits_10 (by decide) ?_
    refine z_Sb (As := [_, _, _]) dX8_fits_11 (by rfl) v_X8_in l_X8_47 rfl (by omega) (by decide) (Nat.le_of_ble_eq_true rfl) ?_
    refine s_X8_in ?_
    refine z_if_eq 25 dX8_fits_14 (by decide) (fun h_14 => ?_) (fun h_14 => ?_)
    · refine z_iconst (v := 1) dX8_fits_25 (by decide) ?_
      refine cut26 _ ?_
      show _ = (if ((0 ≤ p ∧ p ≤ c 52 5 - 1) ∧ 0 ≤ w ∧ w ≤ 1) ∧ 0 ≤ sh ∧ sh ≤ 3 then _ else _)
      grind
    · refine z_aload_n (i := 0) dX8_fits_17 rfl rfl ?_
      refine z_iload_n (i := 1) dX8_fits_18 rfl rfl ?_
      refine z_Vi (As := [_]) dX8_fits_19 (by rfl) v_X8_lacks l_X8_215 (by first | decide | assumption | omega) rfl rfl rfl (by omega) (by decide) (Nat.le_of_ble_eq_true rfl) ?_
      refine s_X8_lacks (by omega) ?_
      refine z_goto 26 dX8_fits_22 (by decide) ?_
      refine cut26 _ ?_
      show _ = (if ((0 ≤ p ∧ p ≤ c 52 5 - 1) ∧ 0 ≤ w ∧ w ≤ 1) ∧ 0 ≤ sh ∧ sh ≤ 3 then _ else _)
      grind
theorem o8_body {i : Int32} (hs : ∃ k : Nat, k ≤ 30 ∧ c 51 12 = nI k) (hd : 3 ≤ d) (hQ : ∀ r c', (∀ k, k < 51 → c' k = c k) → (r, mst c') = o_body (mst c) i → Qf r c') : zCl l E ad mX8_body d [.ref (ad 51), .int i] c Qf := by
  obtain ⟨k, hk, e⟩ := hs
  refine z_enter (own := RX8) [some (.ref (ad 51)), some (.int i)] (by decide +kernel) rfl rfl rfl (Nat.le_of_ble_eq_true rfl) ?_
  by_cases h : 0 ≤ i ∧ i ≤ c 51 12 - 1
  · have hi : ∃ j : Nat, j < k ∧ i = nI j := by
      rw [e] at h
      rcases Nat.eq_zero_or_pos k with q | q
      · subst q
        have : (nI 0 - 1 : Int32) = -1 := rfl
        grind
      · rw [zi_m1 q] at h
        obtain ⟨j, hj, rfl⟩ := zj_of (x := i) (n := k) h.1 (by have := h.2; have h2 := nI_ltI (a := k - 1) (b := k) (by omega) (by omega); have h3 := h2.mpr (by omega); grind) (by omega)
        exact ⟨j, hj, rfl⟩
    obtain ⟨j, hj, rfl⟩ := hi
    have epj : pn (nI j) = j := pn_nI (by omega)
    refine z_iload_n (i := 1) dX8_body_0 rfl rfl ?_
    refine z_iconst (v := 0) dX8_body_1 (by decide) ?_
    refine z_aload_n (i := 0) dX8_body_2 rfl rfl ?_
    refine z_getf dX8_body_3 f_X8_221 (by first | decide | assumption | omega) rfl (by rfl) ?_
    refine z_iconst (v := 1) dX8_body_6 (by decide) ?_
    refine z_isub dX8_body_7 ?_
    refine z_Sb (As := [_, _, _]) dX8_body_8 (by rfl) v_X8_in l_X8_47 rfl (by omega) (by decide) (Nat.le_of_ble_eq_true rfl) ?_
    refine s_X8_in ?_
    refine z_if_eq 23 dX8_body_11 (by decide) (fun h_11 => ?_) (fun h_11 => ?_)
    · refine z_aload_n (i := 0) dX8_body_23 rfl rfl ?_
      refine z_iconst (v := 2) dX8_body_24 (by decide) ?_
      refine z_Vi (As := [_]) dX8_body_25 (by rfl) v_X8_error l_X8_51 (by first | decide | assumption | omega) rfl rfl rfl (by omega) (by decide) (Nat.le_of_ble_eq_true rfl) ?_
      refine s_X8_error (by rfl) (by first | decide | omega) ?_
      first
      | exact z_ret dX8_body_28 (hQ _ _ (by intro k hk; simp (disch := omega) only [zup_n]) (by unfold o_body; rw [if_pos (show 0 ≤ nI j ∧ nI j ≤ (mst c).2.2.2.2.1 - 1 from h), epj]; rfl)) trivial rfl
      | (exfalso; grind)
    · refine z_aload_n (i := 0) dX8_body_14 rfl rfl ?_
      refine z_getf dX8_body_15 f_X8_31 (by first | decide | assumption | omega) rfl (by rfl) ?_
      refine z_iload_n (i := 1) dX8_body_18 rfl rfl ?_
      refine z_iald (j := j) dX8_body_19 (by first | decide | assumption | omega) rfl (by rfl) (by first | decide | omega) (by first | decide | omega) ?_
      refine z_goto 28 dX8_body_20 (by decide) ?_
      first
      | exact z_ret dX8_body_28 (hQ _ _ (by intro k hk; simp (disch := omega) only [zup_n]) (by unfold o_body; rw [if_pos (show 0 ≤ nI j ∧ nI j ≤ (mst c).2.2.2.2.1 - 1 from h), epj]; rfl)) trivial rfl
      | (exfalso; grind)
  · skip
    refine z_iload_n (i := 1) dX8_body_0 rfl rfl ?_
    refine z_iconst (v := 0) dX8_body_1 (by decide) ?_
    refine z_aload_n (i := 0) dX8_body_2 rfl rfl ?_
    refine z_getf dX8_body_3 f_X8_221 (by first | decide | assumption | omega) rfl (by rfl) ?_
    refine z_iconst (v := 1) dX8_body_6 (by decide) ?_
    refine z_isub dX8_body_7 ?_
    refine z_Sb (As := [_, _, _]) dX8_body_8 (by rfl) v_X8_in l_X8_47 rfl (by omega) (by decide) (Nat.le_of_ble_eq_true rfl) ?_
    refine s_X8_in ?_
    refine z_if_eq 23 dX8_body_11 (by decide) (fun h_11 => ?_) (fun h_11 => ?_)
    · refine z_aload_n (i := 0) dX8_body_23 rfl rfl ?_
      refine z_iconst (v := 2) dX8_body_24 (by decide) ?_
      refine z_Vi (As := [_]) dX8_body_25 (by rfl) v_X8_error l_X8_51 (by first | decide | assumption | omega) rfl rfl rfl (by omega) (by decide) (Nat.le_of_ble_eq_true rfl) ?_
      refine s_X8_error (by rfl) (by first | decide | omega) ?_
      first
      | exact z_ret dX8_body_28 (hQ _ _ (by intro k hk; simp (disch := omega) only [zup_n]) (by unfold o_body; rw [if_neg (show ¬ (0 ≤ i ∧ i ≤ (mst c).2.2.2.2.1 - 1) from h)]; rfl)) trivial rfl
      | (exfalso; grind)
    · refine z_aload_n (i := 0) dX8_body_14 rfl rfl ?_
      refine z_getf dX8_body_15 f_X8_31 (by first | decide | assumption | omega) rfl (by rfl) ?_
      refine z_iload_n (i := 1) dX8_body_18 rfl rfl ?_
      refine z_iald (j := 0) dX8_body_19 (by first | decide | assumption | omega) rfl (by exfalso; grind) (by first | decide | omega) (by first | decide | omega) ?_
      refine z_goto 28 dX8_body_20 (by decide) ?_
      first
      | exact z_ret dX8_body_28 (hQ _ _ (by intro k hk; simp (disch := omega) only [zup_n]) (by unfold o_body; rw [if_neg (show ¬ (0 ≤ i ∧ i ≤ (mst c).2.2.2.2.1 - 1) from h)]; rfl)) trivial rfl
      | (exfalso; grind)
end RA
