/-! the reference's calls, six: with whom, fills, fits, draws -/
theorem whN_1 {f : zN} {p k : Nat} : ∀ o, o ≤ 6 → (whN f p k o).1 = -1 ∨ ∃ j : Nat, j < o ∧ (whN f p k o).1 = nI j
  | 0, _ => Or.inl rfl
  | o + 1, h => by
    unfold whN whS
    generalize (if o = p then (-1 : Int32) else farF f p o k) = X
    split
    · exact Or.inr ⟨o, by omega, rfl⟩
    · rcases whN_1 o (by omega) with q | ⟨j, hj, q⟩
      · exact Or.inl q
      · exact Or.inr ⟨j, by omega, q⟩
def tw3 (x : Int32) : Prop := x = 0 ∨ x &&& (x - 1) = 0 ∨ (x &&& (x - 1)) &&& ((x &&& (x - 1)) - 1) = 0
theorem tw3_tw : ∀ a, a < 15 → ∀ b, b < 15 → (twF a b = 0 ∨ twF a b &&& (twF a b - 1) = 0 ∨ (twF a b &&& (twF a b - 1)) &&& ((twF a b &&& (twF a b - 1)) - 1) = 0) := by decide +kernel
theorem fiN_tw {f : zN} {p k a : Nat} {cell best : Int32} (ha : a < 15) (h : best = -1 ∨ tw3 best) : ∀ b, b ≤ 15 → (fiN f p cell k a b best = -1 ∨ tw3 (fiN f p cell k a b best))
  | 0, _ => h
  | b + 1, hb => by
    unfold fiN fiS
    split
    · exact Or.inr (tw3_tw a ha b (by omega))
    · exact fiN_tw ha h b (by omega)
theorem fiO_tw {f : zN} {p k : Nat} {cell : Int32} : ∀ a, a ≤ 15 → (fiO f p cell k a = -1 ∨ tw3 (fiO f p cell k a))
  | 0, _ => Or.inl rfl
  | a + 1, ha => by
    unfold fiO
    exact fiN_tw (by omega) (fiO_tw a (by omega)) _ (by omega)
section R6
variable {l : Launch} {E : zE} {ad : Nat → Nat} {c : zS} {Qf : Int32 → zS → Prop} {d n : Nat}
theorem o8_withWhom {p k : Int32} (hv : vaF (c 52) n) (hd : 9 ≤ d) (hQ : ∀ r c', (∀ k, k < 51 → c' k = c k) → (r, mst c') = o_withWhom (mst c) p k → Qf r c') : zCl l E ad mX8_withWhom d [.ref (ad 51), .int p, .int k] c Qf := by
  obtain ⟨hn, hn6, hw0, hw1⟩ := id hv
  have hpn : pn (c 52 5) = n := by rw [hn]; exact pn_nI (by omega)
  refine z_enter (own := RX8) [some (.ref (ad 51)), some (.int p), some (.int k), none, none, none, none] (by decide +kernel) rfl rfl rfl (Nat.le_of_ble_eq_true rfl) ?_
  have loop : ∀ (j m : Nat), j < n → m ≤ 20 → (isP (mst c) (nI j) ∧ 0 ≤ nI m ∧ nI m ≤ 20) → p = nI j → k = nI m → ∀ (r o : Nat) (c1 : zS) (x6 : Option Value), n - o < r → o ≤ n → zsc c c1 → zW l E ad RX8 cX8_withWhom 7 1 d Qf 29 [some (.ref (ad 51)), some (.int (nI j)), some (.int (nI m)), some (.int (whN (c 52) j m o).1), some (.int (whN (c 52) j m o).2), some (.int (nI o)), x6] [] c1 := by
    intro j m hj hm hok ep ek r
    subst ep
    subst ek
    induction r with
    | zero => intro o c1 x6 h; omega
    | succ r ih =>
      intro o c1 x6 hr ho hc1
      have hlt := nI_leI (a := n) (b := o) (by omega) (by omega)
      have heq := nI_eq (a := o) (b := j) (by omega) (by omega)
      have e1 := hc1 52 (by decide) (by decide) (by decide)
      have cut58 : ∀ (x : Int32) (c2 : zS) (x6 : Option Value), zsc c c2 → o < n → x = (if o = j then -1 else farF (c 52) j o m) → zW l E ad RX8 cX8_withWhom 7 1 d Qf 58 [some (.ref (ad 51)), some (.int (nI j)), some (.int (nI m)), some (.int (whN (c 52) j m o).1), some (.int (whN (c 52) j m o).2), some (.int (nI o)), x6] [.int x] c2 := by
        intro x c2 x6 hc2 hon hx
        have hs : whN (c 52) j m (o + 1) = if (whN (c 52) j m o).2 < x then (nI o, x) else whN (c 52) j m o := by rw [hx]; rfl
        refine z_istore (i := 6) [_, _, _, _, _, _, _] dX8_withWhom_58 (by decide) rfl rfl ?_
        refine z_iload (i := 6) dX8_withWhom_60 rfl ?_
        refine z_iload (i := 4) dX8_withWhom_62 rfl ?_
        refine z_icmp_le 72 dX8_withWhom_64 (by decide) (fun h_64 => ?_) (fun h_64 => ?_)
        · refine z_iload_n (i := 3) dX8_withWhom_72 rfl rfl ?_
          refine z_istore_n (i := 3) [_, _, _, _, _, _, _] dX8_withWhom_73 rfl (by decide) rfl rfl ?_
          refine z_iload (i := 6) dX8_withWhom_74 rfl ?_
          refine z_iload (i := 4) dX8_withWhom_76 rfl ?_
          refine z_icmp_le 86 dX8_withWhom_78 (by decide) (fun h_78 => ?_) (fun h_78 => ?_)
          · refine z_iload (i := 4) dX8_withWhom_86 rfl ?_
            refine z_istore (i := 4) [_, _, _, _, _, _, _] dX8_withWhom_88 (by decide) rfl rfl ?_
            refine z_iinc (i := 5) (v := 1) [_, _, _, _, _, _, _] dX8_withWhom_90 rfl (by decide) (by decide) rfl rfl ?_
            refine z_goto 29 dX8_withWhom_93 (by decide) ?_
            first
            | (rw [nI_1]
               rw [if_pos (by grind)] at hs
               have := ih (o + 1) c2 (some (.int x)) (by omega) (by omega) hc2
               rw [hs] at this
               exact this)
            | (rw [nI_1]
               rw [if_neg (by grind)] at hs
               have := ih (o + 1) c2 (some (.int x)) (by omega) (by omega) hc2
               rw [hs] at this
               exact this)
            | (exfalso; grind)
          · refine z_iload (i := 6) dX8_withWhom_81 rfl ?_
            refine z_goto 88 dX8_withWhom_83 (by decide) ?_
            refine z_istore (i := 4) [_, _, _, _, _, _, _] dX8_withWhom_88 (by decide) rfl rfl ?_
            refine z_iinc (i := 5) (v := 1) [_, _, _, _, _, _, _] dX8_withWhom_90 rfl (by decide) (by decide) rfl rfl ?_
            refine z_goto 29 dX8_withWhom_93 (by decide) ?_
            first
            | (rw [nI_1]
               rw [if_pos (by grind)] at hs
               have := ih (o + 1) c2 (some (.int x)) (by omega) (by omega) hc2
               rw [hs] at this
               exact this)
            | (rw [nI_1]
               rw [if_neg (by grind)] at hs
               have := ih (o + 1) c2 (some (.int x)) (by omega) (by omega) hc2
               rw [hs] at this
               exact this)
            | (exfalso; grind)
        · refine z_iload (i := 5) dX8_withWhom_67 rfl ?_
          refine z_goto 73 dX8_withWhom_69 (by decide) ?_
          refine z_istore_n (i := 3) [_, _, _, _, _, _, _] dX8_withWhom_73 rfl (by decide) rfl rfl ?_
          refine z_iload (i := 6) dX8_withWhom_74 rfl ?_
          refine z_iload (i := 4) dX8_withWhom_76 rfl ?_
          refine z_icmp_le 86 dX8_withWhom_78 (by decide) (fun h_78 => ?_) (fun h_78 => ?_)
          · refine z_iload (i := 4) dX8_withWhom_86 rfl ?_
            refine z_istore (i := 4) [_, _, _, _, _, _, _] dX8_withWhom_88 (by decide) rfl rfl ?_
            refine z_iinc (i := 5) (v := 1) [_, _, _, _, _, _, _] dX8_withWhom_90 rfl (by decide) (by decide) rfl rfl ?_
            refine z_goto 29 dX8_withWhom_93 (by decide) ?_
            first
            | (rw [nI_1]
               rw [if_pos (by grind)] at hs
               have := ih (o + 1) c2 (some (.int x)) (by omega) (by omega) hc2
               rw [hs] at this
               exact this)
            | (rw [nI_1]
               rw [if_neg (by grind)] at hs
               have := ih (o + 1) c2 (some (.int x)) (by omega) (by omega) hc2
               rw [hs] at this
               exact this)
            | (exfalso; grind)
          · refine z_iload (i := 6) dX8_withWhom_81 rfl ?_
            refine z_goto 88 dX8_withWhom_83 (by decide) ?_
            refine z_istore (i := 4) [_, _, _, _, _, _, _] dX8_withWhom_88 (by decide) rfl rfl ?_
            refine z_iinc (i := 5) (v := 1) [_, _, _, _, _, _, _] dX8_withWhom_90 rfl (by decide) (by decide) rfl rfl ?_
            refine z_goto 29 dX8_withWhom_93 (by decide) ?_
            first
            | (rw [nI_1]
               rw [if_pos (by grind)] at hs
               have := ih (o + 1) c2 (some (.int x)) (by omega) (by omega) hc2
               rw [hs] at this
               exact this)
            | (rw [nI_1]
               rw [if_neg (by grind)] at hs
               have := ih (o + 1) c2 (some (.int x)) (by omega) (by omega) hc2
               rw [hs] at this
               exact this)
            | (exfalso; grind)
      refine z_iload (i := 5) dX8_withWhom_29 rfl ?_
      refine z_aload_n (i := 0) dX8_withWhom_31 rfl rfl ?_
      refine z_getf dX8_withWhom_32 f_X8_7 (by first | decide | assumption | omega) rfl (by rfl) ?_
      refine z_iconst (v := 5) dX8_withWhom_35 (by decide) ?_
      refine z_iald dX8_withWhom_36 (by first | decide | assumption | omega) rfl (by rfl) (by first | decide | omega) (by first | decide | omega) ?_
      refine z_icmp_ge 96 dX8_withWhom_37 (by decide) (fun h_37 => ?_) (fun h_37 => ?_)
      · have hon : o = n := by rw [e1, hn] at h_37; have := hlt.mp h_37; omega
        subst hon
        refine z_iload_n (i := 3) dX8_withWhom_96 rfl rfl ?_
        refine z_iconst (v := (-1)) dX8_withWhom_97 (by decide) ?_
        refine z_icmp_ne 109 dX8_withWhom_98 (by decide) (fun h_98 => ?_) (fun h_98 => ?_)
        · refine z_iload_n (i := 3) dX8_withWhom_109 rfl rfl ?_
          first
          | exact z_ret dX8_withWhom_110 (hQ _ _ (fun k hk => hc1 k (by omega) (by omega) (by omega)) (by
              unfold o_withWhom
              rw [if_pos hok, pn_nI (show j < 2147483648 by omega), pn_nI (show m < 2147483648 by omega), show (mst c).1 = c 52 from rfl, hpn, if_neg (by assumption), mst_zsc hc1])) trivial rfl
          | exact z_ret dX8_withWhom_110 (hQ _ _ (fun k hk => by rw [zup_n (by omega)]; exact hc1 k (by omega) (by omega) (by omega)) (by
              unfold o_withWhom
              rw [if_pos hok, pn_nI (show j < 2147483648 by omega), pn_nI (show m < 2147483648 by omega), show (mst c).1 = c 52 from rfl, hpn, if_pos (by assumption)]
              exact err_eq (k := 2) hc1)) trivial rfl
        · refine z_aload_n (i := 0) dX8_withWhom_101 rfl rfl ?_
          refine z_iconst (v := 2) dX8_withWhom_102 (by decide) ?_
          refine z_Vi (As := [_]) dX8_withWhom_103 (by rfl) v_X8_error l_X8_51 (by first | decide | assumption | omega) rfl rfl rfl (by omega) (by decide) (Nat.le_of_ble_eq_true rfl) ?_
          refine s_X8_error (by rfl) (by first | decide | omega) ?_
          refine z_goto 110 dX8_withWhom_106 (by decide) ?_
          first
          | exact z_ret dX8_withWhom_110 (hQ _ _ (fun k hk => hc1 k (by omega) (by omega) (by omega)) (by
              unfold o_withWhom
              rw [if_pos hok, pn_nI (show j < 2147483648 by omega), pn_nI (show m < 2147483648 by omega), show (mst c).1 = c 52 from rfl, hpn, if_neg (by assumption), mst_zsc hc1])) trivial rfl
          | exact z_ret dX8_withWhom_110 (hQ _ _ (fun k hk => by rw [zup_n (by omega)]; exact hc1 k (by omega) (by omega) (by omega)) (by
              unfold o_withWhom
              rw [if_pos hok, pn_nI (show j < 2147483648 by omega), pn_nI (show m < 2147483648 by omega), show (mst c).1 = c 52 from rfl, hpn, if_pos (by assumption)]
              exact err_eq (k := 2) hc1)) trivial rfl
      · have hon : o < n := by rw [e1, hn] at h_37; have := mt hlt.mpr h_37; omega
        refine z_iload (i := 5) dX8_withWhom_40 rfl ?_
        refine z_iload_n (i := 1) dX8_withWhom_42 rfl rfl ?_
        refine z_icmp_ne 50 dX8_withWhom_43 (by decide) (fun h_43 => ?_) (fun h_43 => ?_)
        · refine z_aload_n (i := 0) dX8_withWhom_50 rfl rfl ?_
          refine z_iload_n (i := 1) dX8_withWhom_51 rfl rfl ?_
          refine z_iload (i := 5) dX8_withWhom_52 rfl ?_
          refine z_iload_n (i := 2) dX8_withWhom_54 rfl rfl ?_
          refine z_Vi (As := [_, _, _]) dX8_withWhom_55 (by rfl) v_X8_farWith l_X8_209 (by first | decide | assumption | omega) rfl rfl rfl (by omega) (by decide) (Nat.le_of_ble_eq_true rfl) ?_
          refine t_farWith e1 hv hj hon (by omega) (by omega) (fun c' hc' => ?_)
          first
          | exact cut58 _ _ _ hc1 hon (by rw [if_pos (by grind)])
          | exact cut58 _ _ _ (zsc_tr hc1 hc') hon (by rw [if_neg (by grind)])
        · refine z_iconst (v := (-1)) dX8_withWhom_46 (by decide) ?_
          refine z_goto 58 dX8_withWhom_47 (by decide) ?_
          first
          | exact cut58 _ _ _ hc1 hon (by rw [if_pos (by grind)])
          | exact cut58 _ _ _ (zsc_tr hc1 hc') hon (by rw [if_neg (by grind)])
  refine z_aload_n (i := 0) dX8_withWhom_0 rfl rfl ?_
  refine z_iload_n (i := 1) dX8_withWhom_1 rfl rfl ?_
  refine z_Vb (As := [_]) dX8_withWhom_2 (by rfl) v_X8_isPerson l_X8_157 (by first | decide | assumption | omega) rfl rfl rfl (by omega) (by decide) (Nat.le_of_ble_eq_true rfl) ?_
  refine s_X8_isPerson (by omega) ?_
  refine z_if_eq 15 dX8_withWhom_5 (by decide) (fun h_5 => ?_) (fun h_5 => ?_)
  · refine z_aload_n (i := 0) dX8_withWhom_15 rfl rfl ?_
    refine z_iconst (v := 1) dX8_withWhom_16 (by decide) ?_
    refine z_Vi (As := [_]) dX8_withWhom_17 (by rfl) v_X8_error l_X8_51 (by first | decide | assumption | omega) rfl rfl rfl (by omega) (by decide) (Nat.le_of_ble_eq_true rfl) ?_
    refine s_X8_error (by rfl) (by first | decide | omega) ?_
    exact z_ret dX8_withWhom_20 (hQ _ _ (by intro k hk; simp (disch := omega) only [zup_n]) (by unfold o_withWhom; rw [if_neg (by show ¬ ((0 ≤ p ∧ p ≤ c 52 5 - 1) ∧ _); grind)]; rfl)) trivial rfl
  · refine z_iload_n (i := 2) dX8_withWhom_8 rfl rfl ?_
    refine z_Sb (As := [_]) dX8_withWhom_9 (by rfl) v_X8_isSoon l_X8_196 rfl (by omega) (by decide) (Nat.le_of_ble_eq_true rfl) ?_
    refine s_X8_isSoon (by omega) ?_
    refine z_if_ne 21 dX8_withWhom_12 (by decide) (fun h_12 => ?_) (fun h_12 => ?_)
    · have hok : isP (mst c) p ∧ 0 ≤ k ∧ k ≤ 20 := by show (0 ≤ p ∧ p ≤ c 52 5 - 1) ∧ _; grind
      obtain ⟨j, hj, rfl⟩ := isP_of (f := c 52) hok.1 hn hn6
      obtain ⟨m, hm, rfl⟩ := zj_of (x := k) (n := 21) (by grind) (by show k < (21 : Int32); grind) (by decide)
      refine z_iconst (v := (-1)) dX8_withWhom_21 (by decide) ?_
      refine z_istore_n (i := 3) [_, _, _, _, _, _, _] dX8_withWhom_22 rfl (by decide) rfl rfl ?_
      refine z_iconst (v := (-1)) dX8_withWhom_23 (by decide) ?_
      refine z_istore (i := 4) [_, _, _, _, _, _, _] dX8_withWhom_24 (by decide) rfl rfl ?_
      refine z_iconst (v := 0) dX8_withWhom_26 (by decide) ?_
      refine z_istore (i := 5) [_, _, _, _, _, _, _] dX8_withWhom_27 (by decide) rfl rfl ?_
      exact loop j m hj (by omega) hok rfl rfl (n + 1) 0 c none (by omega) (by omega) zsc_rf
    · refine z_aload_n (i := 0) dX8_withWhom_15 rfl rfl ?_
      refine z_iconst (v := 1) dX8_withWhom_16 (by decide) ?_
      refine z_Vi (As := [_]) dX8_withWhom_17 (by rfl) v_X8_error l_X8_51 (by first | decide | assumption | omega) rfl rfl rfl (by omega) (by decide) (Nat.le_of_ble_eq_true rfl) ?_
      refine s_X8_error (by rfl) (by first | decide | omega) ?_
      exact z_ret dX8_withWhom_20 (hQ _ _ (by intro k hk; simp (disch := omega) only [zup_n]) (by unfold o_withWhom; rw [if_neg (by show ¬ ((0 ≤ p ∧ p ≤ c 52 5 - 1) ∧ _); grind)]; rfl)) trivial rfl
theorem s_X8_manyIn {x : Int32} (h : tw3 x) (hQ : Qf (mnF x) c) : zCl l E ad mX8_manyIn d [.int x] c Qf := by
  refine z_enter (own := RX8) [some (.int x), none, none] (by decide +kernel) rfl rfl rfl (Nat.le_of_ble_eq_true rfl) ?_
  unfold mnF at hQ
  have l0 : ∀ (k y x0 : Int32), y = 0 → Qf k c → zW l E ad RX8 cX8_manyIn 3 1 d Qf 4 [some (.int x0), some (.int k), some (.int y)] [] c := by
    intro k y x0 hy hq
    refine z_iload_n (i := 2) dX8_manyIn_4 rfl rfl ?_
    refine z_if_eq 20 dX8_manyIn_5 (by decide) (fun h_5 => ?_) (fun h_5 => ?_)
    rotate_left
    · exact absurd hy h_5
    refine z_iload_n (i := 1) dX8_manyIn_20 rfl rfl ?_
    exact z_ret dX8_manyIn_21 hq trivial rfl
  have l1 : ∀ (k y x0 : Int32), y &&& (y - 1) = 0 → Qf (mnL 2 k y) c → zW l E ad RX8 cX8_manyIn 3 1 d Qf 4 [some (.int x0), some (.int k), some (.int y)] [] c := by
    intro k y x0 hy hq
    refine z_iload_n (i := 2) dX8_manyIn_4 rfl rfl ?_
    refine z_if_eq 20 dX8_manyIn_5 (by decide) (fun h_5 => ?_) (fun h_5 => ?_)
    · refine z_iload_n (i := 1) dX8_manyIn_20 rfl rfl ?_
      exact z_ret dX8_manyIn_21 (by simp only [mnL, h_5, if_true] at hq; exact hq) trivial rfl
    · refine z_iinc (i := 1) (v := 1) [_, _, _] dX8_manyIn_8 rfl (by decide) (by decide) rfl rfl ?_
      refine z_iload_n (i := 2) dX8_manyIn_11 rfl rfl ?_
      refine z_iload_n (i := 2) dX8_manyIn_12 rfl rfl ?_
      refine z_iconst (v := 1) dX8_manyIn_13 (by decide) ?_
      refine z_isub dX8_manyIn_14 ?_
      refine z_iand dX8_manyIn_15 ?_
      refine z_istore_n (i := 2) [_, _, _] dX8_manyIn_16 rfl (by decide) rfl rfl ?_
      refine z_goto 4 dX8_manyIn_17 (by decide) ?_
      refine l0 _ _ _ hy ?_
      simp only [mnL, hy, if_true] at hq
      rw [if_neg h_5] at hq
      exact hq
  have l2 : ∀ (k y x0 : Int32), (y &&& (y - 1)) &&& ((y &&& (y - 1)) - 1) = 0 → Qf (mnL 3 k y) c → zW l E ad RX8 cX8_manyIn 3 1 d Qf 4 [some (.int x0), some (.int k), some (.int y)] [] c := by
    intro k y x0 hy hq
    refine z_iload_n (i := 2) dX8_manyIn_4 rfl rfl ?_
    refine z_if_eq 20 dX8_manyIn_5 (by decide) (fun h_5 => ?_) (fun h_5 => ?_)
    · refine z_iload_n (i := 1) dX8_manyIn_20 rfl rfl ?_
      exact z_ret dX8_manyIn_21 (by unfold mnL at hq; rw [if_pos h_5] at hq; exact hq) trivial rfl
    · refine z_iinc (i := 1) (v := 1) [_, _, _] dX8_manyIn_8 rfl (by decide) (by decide) rfl rfl ?_
      refine z_iload_n (i := 2) dX8_manyIn_11 rfl rfl ?_
      refine z_iload_n (i := 2) dX8_manyIn_12 rfl rfl ?_
      refine z_iconst (v := 1) dX8_manyIn_13 (by decide) ?_
      refine z_isub dX8_manyIn_14 ?_
      refine z_iand dX8_manyIn_15 ?_
      refine z_istore_n (i := 2) [_, _, _] dX8_manyIn_16 rfl (by decide) rfl rfl ?_
      refine z_goto 4 dX8_manyIn_17 (by decide) ?_
      refine l1 _ _ _ hy ?_
      unfold mnL at hq
      rw [if_neg h_5] at hq
      exact hq
  have e43 : mnL 4 0 x = mnL 3 0 x := by
    rcases h with h | h | h <;> simp only [mnL, h] <;> grind
  rw [e43] at hQ
  refine z_iconst (v := 0) dX8_manyIn_0 (by decide) ?_
  refine z_istore_n (i := 1) [_, _, _] dX8_manyIn_1 rfl (by decide) rfl rfl ?_
  refine z_iload_n (i := 0) dX8_manyIn_2 rfl rfl ?_
  refine z_istore_n (i := 2) [_, _, _] dX8_manyIn_3 rfl (by decide) rfl rfl ?_
  rcases h with h | h | h
  · exact l0 _ _ _ h (by unfold mnL at hQ; rw [if_pos h] at hQ; exact hQ)
  · exact l1 _ _ _ h (by have e : mnL 3 0 x = mnL 2 0 x := (by simp only [mnL, h]; grind); rw [e] at hQ; exact hQ)
  · exact l2 _ _ _ h hQ
end R6
