/-! the reference's calls, one: travellers, hours, what is told -/
theorem isP_in {c : zS} {n j : Nat} (hn : c 52 5 = nI n) (hn6 : n ≤ 6) (hj : j < n) : 0 ≤ nI j ∧ nI j ≤ c 52 5 - 1 := by
  rw [hn, zi_m1 (by omega)]
  exact ⟨(nI_leI (a := 0) (by omega) (by omega)).mpr (by omega), (nI_leI (by omega) (by omega)).mpr (by omega)⟩
section R1
variable {l : Launch} {E : zE} {ad : Nat → Nat} {c : zS} {Qf : Int32 → zS → Prop} {d n : Nat}
theorem o8_person {km sure : Int32} (hv : vaF (c 52) n) (hd : 3 ≤ d) (hQ : ∀ r c', (∀ k, k < 51 → c' k = c k) → (r, mst c') = o_person (mst c) km sure → Qf r c') : zCl l E ad mX8_person d [.ref (ad 51), .int km, .int sure] c Qf := by
  obtain ⟨hn, hn6, -, -⟩ := hv
  refine z_enter (own := RX8) [some (.ref (ad 51)), some (.int km), some (.int sure), none] (by decide +kernel) rfl rfl rfl (Nat.le_of_ble_eq_true rfl) ?_
  refine z_iload_n (i := 1) dX8_person_0 rfl rfl ?_
  refine z_Sb (As := [_]) dX8_person_1 (by rfl) v_X8_isKind l_X8_154 rfl (by omega) (by decide) (Nat.le_of_ble_eq_true rfl) ?_
  refine s_X8_isKind (by omega) ?_
  refine z_if_eq 17 dX8_person_4 (by decide) (fun h_4 => ?_) (fun h_4 => ?_)
  · refine z_aload_n (i := 0) dX8_person_17 rfl rfl ?_
    refine z_iconst (v := 1) dX8_person_18 (by decide) ?_
    refine z_Vi (As := [_]) dX8_person_19 (by rfl) v_X8_error l_X8_51 (by first | decide | assumption | omega) rfl rfl rfl (by omega) (by decide) (Nat.le_of_ble_eq_true rfl) ?_
    refine s_X8_error (by rfl) (by first | decide | omega) ?_
    exact z_ret dX8_person_22 (hQ _ _ (by intro k hk; simp (disch := omega) only [zup_n]) (by unfold o_person; rw [if_neg (by grind)]; rfl)) trivial rfl
  · refine z_iload_n (i := 2) dX8_person_7 rfl rfl ?_
    refine z_iconst (v := 0) dX8_person_8 (by decide) ?_
    refine z_bipush (v := 99) dX8_person_9 (by decide) ?_
    refine z_Sb (As := [_, _, _]) dX8_person_11 (by rfl) v_X8_in l_X8_47 rfl (by omega) (by decide) (Nat.le_of_ble_eq_true rfl) ?_
    refine s_X8_in ?_
    refine z_if_ne 23 dX8_person_14 (by decide) (fun h_14 => ?_) (fun h_14 => ?_)
    · refine z_aload_n (i := 0) dX8_person_23 rfl rfl ?_
      refine z_getf dX8_person_24 f_X8_7 (by first | decide | assumption | omega) rfl (by rfl) ?_
      refine z_iconst (v := 5) dX8_person_27 (by decide) ?_
      refine z_iald dX8_person_28 (by first | decide | assumption | omega) rfl (by rfl) (by first | decide | omega) (by first | decide | omega) ?_
      refine z_bipush (v := 6) dX8_person_29 (by decide) ?_
      refine z_icmp_ne 40 dX8_person_31 (by decide) (fun h_31 => ?_) (fun h_31 => ?_)
      · refine z_aload_n (i := 0) dX8_person_40 rfl rfl ?_
        refine z_getf dX8_person_41 f_X8_7 (by first | decide | assumption | omega) rfl (by rfl) ?_
        refine z_iconst (v := 5) dX8_person_44 (by decide) ?_
        refine z_iald dX8_person_45 (by first | decide | assumption | omega) rfl (by rfl) (by first | decide | omega) (by first | decide | omega) ?_
        have hn5 : n < 6 := by
          have := nI_eq (a := n) (b := 6) (by omega) (by omega)
          rw [hn] at h_31
          have := mt this.mpr h_31
          omega
        rw [hn]
        refine z_istore_n (i := 3) [_, _, _, _] dX8_person_46 rfl (by decide) rfl rfl ?_
        refine z_aload_n (i := 0) dX8_person_47 rfl rfl ?_
        refine z_iload_n (i := 3) dX8_person_48 rfl rfl ?_
        refine z_iconst (v := 0) dX8_person_49 (by decide) ?_
        refine z_iload_n (i := 1) dX8_person_50 rfl rfl ?_
        refine z_bipush (v := 10) dX8_person_51 (by decide) ?_
        refine z_idiv dX8_person_53 (by first | decide | assumption) ?_
        refine z_Vv (As := [_, _, _]) dX8_person_54 (by rfl) v_X8_lays1 l_X8_142 (by first | decide | assumption | omega) rfl rfl rfl (by omega) (by decide) (Nat.le_of_ble_eq_true rfl) ?_
        first | refine s_X8_lays10 (by omega) ?_ | refine s_X8_lays11 (by omega) ?_ | refine s_X8_lays12 (by omega) ?_ | refine s_X8_lays13 (by omega) ?_ | refine s_X8_lays14 (by omega) ?_
        refine z_aload_n (i := 0) dX8_person_57 rfl rfl ?_
        refine z_iload_n (i := 3) dX8_person_58 rfl rfl ?_
        refine z_iconst (v := 1) dX8_person_59 (by decide) ?_
        refine z_iload_n (i := 1) dX8_person_60 rfl rfl ?_
        refine z_bipush (v := 10) dX8_person_61 (by decide) ?_
        refine z_irem dX8_person_63 (by first | decide | assumption) ?_
        refine z_Vv (As := [_, _, _]) dX8_person_64 (by rfl) v_X8_lays1 l_X8_142 (by first | decide | assumption | omega) rfl rfl rfl (by omega) (by decide) (Nat.le_of_ble_eq_true rfl) ?_
        first | refine s_X8_lays10 (by omega) ?_ | refine s_X8_lays11 (by omega) ?_ | refine s_X8_lays12 (by omega) ?_ | refine s_X8_lays13 (by omega) ?_ | refine s_X8_lays14 (by omega) ?_
        refine z_aload_n (i := 0) dX8_person_67 rfl rfl ?_
        refine z_iload_n (i := 3) dX8_person_68 rfl rfl ?_
        refine z_iconst (v := 2) dX8_person_69 (by decide) ?_
        refine z_iload_n (i := 2) dX8_person_70 rfl rfl ?_
        refine z_Vv (As := [_, _, _]) dX8_person_71 (by rfl) v_X8_lays1 l_X8_142 (by first | decide | assumption | omega) rfl rfl rfl (by omega) (by decide) (Nat.le_of_ble_eq_true rfl) ?_
        first | refine s_X8_lays10 (by omega) ?_ | refine s_X8_lays11 (by omega) ?_ | refine s_X8_lays12 (by omega) ?_ | refine s_X8_lays13 (by omega) ?_ | refine s_X8_lays14 (by omega) ?_
        refine z_aload_n (i := 0) dX8_person_74 rfl rfl ?_
        refine z_iload_n (i := 3) dX8_person_75 rfl rfl ?_
        refine z_iconst (v := 3) dX8_person_76 (by decide) ?_
        refine z_iconst (v := 0) dX8_person_77 (by decide) ?_
        refine z_Vv (As := [_, _, _]) dX8_person_78 (by rfl) v_X8_lays1 l_X8_142 (by first | decide | assumption | omega) rfl rfl rfl (by omega) (by decide) (Nat.le_of_ble_eq_true rfl) ?_
        first | refine s_X8_lays10 (by omega) ?_ | refine s_X8_lays11 (by omega) ?_ | refine s_X8_lays12 (by omega) ?_ | refine s_X8_lays13 (by omega) ?_ | refine s_X8_lays14 (by omega) ?_
        refine z_aload_n (i := 0) dX8_person_81 rfl rfl ?_
        refine z_iload_n (i := 3) dX8_person_82 rfl rfl ?_
        refine z_iconst (v := 4) dX8_person_83 (by decide) ?_
        refine z_iconst (v := 0) dX8_person_84 (by decide) ?_
        refine z_Vv (As := [_, _, _]) dX8_person_85 (by rfl) v_X8_lays1 l_X8_142 (by first | decide | assumption | omega) rfl rfl rfl (by omega) (by decide) (Nat.le_of_ble_eq_true rfl) ?_
        first | refine s_X8_lays10 (by omega) ?_ | refine s_X8_lays11 (by omega) ?_ | refine s_X8_lays12 (by omega) ?_ | refine s_X8_lays13 (by omega) ?_ | refine s_X8_lays14 (by omega) ?_
        refine z_aload_n (i := 0) dX8_person_88 rfl rfl ?_
        refine z_getf dX8_person_89 f_X8_7 (by first | decide | assumption | omega) rfl (by rfl) ?_
        refine z_iconst (v := 5) dX8_person_92 (by decide) ?_
        refine z_dup2 dX8_person_93 rfl rfl ?_
        refine z_iald dX8_person_94 (by first | decide | assumption | omega) rfl (by rfl) (by first | decide | omega) (by first | decide | omega) ?_
        refine z_iconst (v := 1) dX8_person_95 (by decide) ?_
        refine z_iadd dX8_person_96 ?_
        refine z_iast dX8_person_97 (by first | decide | assumption | omega) (fun _ => rfl) (by rfl) (by first | decide | omega) (by first | decide | omega) ?_
        refine z_iload_n (i := 3) dX8_person_98 rfl rfl ?_
        exact z_ret dX8_person_99 (hQ _ _ (by intro k hk; simp (disch := omega) only [zup_n]) (by unfold o_person; rw [if_pos (by grind), if_neg (by exact h_31)]; simp (disch := omega) only [mst, hn, pn_nI (show n < 2147483648 by omega), zup_s, zup_zup, pk_un]; rfl)) trivial rfl
      · refine z_aload_n (i := 0) dX8_person_34 rfl rfl ?_
        refine z_iconst (v := 4) dX8_person_35 (by decide) ?_
        refine z_Vi (As := [_]) dX8_person_36 (by rfl) v_X8_error l_X8_51 (by first | decide | assumption | omega) rfl rfl rfl (by omega) (by decide) (Nat.le_of_ble_eq_true rfl) ?_
        refine s_X8_error (by rfl) (by first | decide | omega) ?_
        exact z_ret dX8_person_39 (hQ _ _ (by intro k hk; simp (disch := omega) only [zup_n]) (by unfold o_person; rw [if_pos (by grind), if_pos (by exact h_31)]; rfl)) trivial rfl
    · refine z_aload_n (i := 0) dX8_person_17 rfl rfl ?_
      refine z_iconst (v := 1) dX8_person_18 (by decide) ?_
      refine z_Vi (As := [_]) dX8_person_19 (by rfl) v_X8_error l_X8_51 (by first | decide | assumption | omega) rfl rfl rfl (by omega) (by decide) (Nat.le_of_ble_eq_true rfl) ?_
      refine s_X8_error (by rfl) (by first | decide | omega) ?_
      exact z_ret dX8_person_22 (hQ _ _ (by intro k hk; simp (disch := omega) only [zup_n]) (by unfold o_person; rw [if_neg (by grind)]; rfl)) trivial rfl
theorem o8_personIs {p w : Int32} (hv : vaF (c 52) n) (hd : 5 ≤ d) (hQ : ∀ r c', (∀ k, k < 51 → c' k = c k) → (r, mst c') = o_personIs (mst c) p w → Qf r c') : zCl l E ad mX8_personIs d [.ref (ad 51), .int p, .int w] c Qf := by
  obtain ⟨hn, hn6, hw0, hw1⟩ := id hv
  refine z_enter (own := RX8) [some (.ref (ad 51)), some (.int p), some (.int w)] (by decide +kernel) rfl rfl rfl (Nat.le_of_ble_eq_true rfl) ?_
  refine z_aload_n (i := 0) dX8_personIs_0 rfl rfl ?_
  refine z_iload_n (i := 1) dX8_personIs_1 rfl rfl ?_
  refine z_Vb (As := [_]) dX8_personIs_2 (by rfl) v_X8_isPerson l_X8_157 (by first | decide | assumption | omega) rfl rfl rfl (by omega) (by decide) (Nat.le_of_ble_eq_true rfl) ?_
  refine s_X8_isPerson (by omega) ?_
  refine z_if_eq 18 dX8_personIs_5 (by decide) (fun h_5 => ?_) (fun h_5 => ?_)
  · refine z_aload_n (i := 0) dX8_personIs_18 rfl rfl ?_
    refine z_iconst (v := 1) dX8_personIs_19 (by decide) ?_
    refine z_Vi (As := [_]) dX8_personIs_20 (by rfl) v_X8_error l_X8_51 (by first | decide | assumption | omega) rfl rfl rfl (by omega) (by decide) (Nat.le_of_ble_eq_true rfl) ?_
    refine s_X8_error (by rfl) (by first | decide | omega) ?_
    exact z_ret dX8_personIs_23 (hQ _ _ (by intro k hk; simp (disch := omega) only [zup_n]) (by unfold o_personIs; rw [if_neg (by show ¬ ((0 ≤ p ∧ p ≤ c 52 5 - 1) ∧ _); grind)]; rfl)) trivial rfl
  · refine z_iload_n (i := 2) dX8_personIs_8 rfl rfl ?_
    refine z_iconst (v := 0) dX8_personIs_9 (by decide) ?_
    refine z_bipush (v := 7) dX8_personIs_10 (by decide) ?_
    refine z_Sb (As := [_, _, _]) dX8_personIs_12 (by rfl) v_X8_in l_X8_47 rfl (by omega) (by decide) (Nat.le_of_ble_eq_true rfl) ?_
    refine s_X8_in ?_
    refine z_if_ne 24 dX8_personIs_15 (by decide) (fun h_15 => ?_) (fun h_15 => ?_)
    · have hok : isP (mst c) p ∧ 0 ≤ w ∧ w ≤ 7 := by show (0 ≤ p ∧ p ≤ c 52 5 - 1) ∧ _; grind
      obtain ⟨j, hj, rfl⟩ := isP_of (f := c 52) hok.1 hn hn6
      have hpj : pn (nI j) = j := pn_nI (by omega)
      refine z_iload_n (i := 2) dX8_personIs_24 rfl rfl ?_
      by_cases h_25_5 : w = 5
      · refine z_table (v := 5) 52 dX8_personIs_25 h_25_5 (by decide) (by decide) rfl (by decide) ?_
        refine z_aload_n (i := 0) dX8_personIs_52 rfl rfl ?_
        refine z_iload_n (i := 1) dX8_personIs_53 rfl rfl ?_
        refine z_Vi (As := [_]) dX8_personIs_54 (by rfl) v_X8_clearOf l_X8_130 (by first | decide | assumption | omega) rfl rfl rfl (by omega) (by decide) (Nat.le_of_ble_eq_true rfl) ?_
        refine s_X8_clearOf rfl hv hj (by omega) (fun c' hc' => ?_)
        exact z_ret dX8_personIs_57 (hQ _ _ (fun k hk => hc'.2 k (by omega) (by omega) (by omega)) (by unfold o_personIs; rw [if_pos hok, if_pos h_25_5]; simp only [mst, hpj, hc'.1, hc'.2 53 (by decide) (by decide) (by decide), hc'.2 55 (by decide) (by decide) (by decide), hc'.2 51 (by decide) (by decide) (by decide), hc'.2 59 (by decide) (by decide) (by decide), hc'.2 60 (by decide) (by decide) (by decide), hc'.2 61 (by decide) (by decide) (by decide), hc'.2 62 (by decide) (by decide) (by decide)])) trivial rfl
      by_cases h_25_6 : w = 6
      · refine z_table (v := 6) 58 dX8_personIs_25 h_25_6 (by decide) (by decide) rfl (by decide) ?_
        refine z_aload_n (i := 0) dX8_personIs_58 rfl rfl ?_
        refine z_iload_n (i := 1) dX8_personIs_59 rfl rfl ?_
        refine z_Vi (As := [_]) dX8_personIs_60 (by rfl) v_X8_paceOf l_X8_160 (by first | decide | assumption | omega) rfl rfl rfl (by omega) (by decide) (Nat.le_of_ble_eq_true rfl) ?_
        refine s_X8_paceOf rfl hv hj (by omega) (fun c' hc' => ?_)
        exact z_ret dX8_personIs_63 (hQ _ _ (fun k hk => hc'.2 k (by omega) (by omega) (by omega)) (by unfold o_personIs; rw [if_pos hok, if_neg h_25_5, if_pos h_25_6]; simp only [mst, hpj, hc'.1, hc'.2 53 (by decide) (by decide) (by decide), hc'.2 55 (by decide) (by decide) (by decide), hc'.2 51 (by decide) (by decide) (by decide), hc'.2 59 (by decide) (by decide) (by decide), hc'.2 60 (by decide) (by decide) (by decide), hc'.2 61 (by decide) (by decide) (by decide), hc'.2 62 (by decide) (by decide) (by decide)])) trivial rfl
      by_cases h_25_7 : w = 7
      · refine z_table (v := 7) 64 dX8_personIs_25 h_25_7 (by decide) (by decide) rfl (by decide) ?_
        refine z_aload_n (i := 0) dX8_personIs_64 rfl rfl ?_
        refine z_iload_n (i := 1) dX8_personIs_65 rfl rfl ?_
        refine z_Vb (As := [_]) dX8_personIs_66 (by rfl) v_X8_doesFall l_X8_136 (by first | decide | assumption | omega) rfl rfl rfl (by omega) (by decide) (Nat.le_of_ble_eq_true rfl) ?_
        refine s_X8_doesFall (by omega) (by omega) ?_
        refine z_if_eq 76 dX8_personIs_69 (by decide) (fun h_69 => ?_) (fun h_69 => ?_)
        · refine z_iconst (v := 0) dX8_personIs_76 (by decide) ?_
          exact z_ret dX8_personIs_77 (hQ _ _ (by intro k hk; simp (disch := omega) only [zup_n]) (by unfold o_personIs; rw [if_pos hok, if_neg h_25_5, if_neg h_25_6, if_pos h_25_7, hpj]; simp only [mst]; grind)) trivial rfl
        · refine z_iconst (v := 1) dX8_personIs_72 (by decide) ?_
          refine z_goto 77 dX8_personIs_73 (by decide) ?_
          exact z_ret dX8_personIs_77 (hQ _ _ (by intro k hk; simp (disch := omega) only [zup_n]) (by unfold o_personIs; rw [if_pos hok, if_neg h_25_5, if_neg h_25_6, if_pos h_25_7, hpj]; simp only [mst]; grind)) trivial rfl
      refine z_tableD 78 dX8_personIs_25 (by have a5 := zt_ne (k := 5) (by decide) h_25_5; have a6 := zt_ne (k := 6) (by decide) h_25_6; have a7 := zt_ne (k := 7) (by decide) h_25_7; omega) (by decide) ?_
      refine z_aload_n (i := 0) dX8_personIs_78 rfl rfl ?_
      refine z_iload_n (i := 1) dX8_personIs_79 rfl rfl ?_
      refine z_iload_n (i := 2) dX8_personIs_80 rfl rfl ?_
      refine z_Vi (As := [_, _]) dX8_personIs_81 (by rfl) v_X8_its l_X8_111 (by first | decide | assumption | omega) rfl rfl rfl (by omega) (by decide) (Nat.le_of_ble_eq_true rfl) ?_
      obtain ⟨i, hi, rfl⟩ := zj_of (x := w) (n := 5) hok.2.1 (by show w < (5 : Int32); grind) (by decide)
      refine s_X8_its (zi_its j i) (by omega) ?_
      exact z_ret dX8_personIs_84 (hQ _ _ (by intro k hk; simp (disch := omega) only [zup_n]) (by unfold o_personIs; rw [if_pos hok, if_neg h_25_5, if_neg h_25_6, if_neg h_25_7, hpj, pn_nI (by omega)]; rfl)) trivial rfl
    · refine z_aload_n (i := 0) dX8_personIs_18 rfl rfl ?_
      refine z_iconst (v := 1) dX8_personIs_19 (by decide) ?_
      refine z_Vi (As := [_]) dX8_personIs_20 (by rfl) v_X8_error l_X8_51 (by first | decide | assumption | omega) rfl rfl rfl (by omega) (by decide) (Nat.le_of_ble_eq_true rfl) ?_
      refine s_X8_error (by rfl) (by first | decide | omega) ?_
      exact z_ret dX8_personIs_23 (hQ _ _ (by intro k hk; simp (disch := omega) only [zup_n]) (by unfold o_personIs; rw [if_neg (by show ¬ ((0 ≤ p ∧ p ≤ c 52 5 - 1) ∧ _); grind)]; rfl)) trivial rfl
theorem o8_become {p km : Int32} (hv : vaF (c 52) n) (hd : 3 ≤ d) (hQ : ∀ r c', (∀ k, k < 51 → c' k = c k) → (r, mst c') = o_become (mst c) p km → Qf r c') : zCl l E ad mX8_become d [.ref (ad 51), .int p, .int km] c Qf := by
  obtain ⟨hn, hn6, hw0, hw1⟩ := id hv
  refine z_enter (own := RX8) [some (.ref (ad 51)), some (.int p), some (.int km)] (by decide +kernel) rfl rfl rfl (Nat.le_of_ble_eq_true rfl) ?_
  refine z_aload_n (i := 0) dX8_become_0 rfl rfl ?_
  refine z_iload_n (i := 1) dX8_become_1 rfl rfl ?_
  refine z_Vb (As := [_]) dX8_become_2 (by rfl) v_X8_isPerson l_X8_157 (by first | decide | assumption | omega) rfl rfl rfl (by omega) (by decide) (Nat.le_of_ble_eq_true rfl) ?_
  refine s_X8_isPerson (by omega) ?_
  refine z_if_eq 15 dX8_become_5 (by decide) (fun h_5 => ?_) (fun h_5 => ?_)
  · refine z_aload_n (i := 0) dX8_become_15 rfl rfl ?_
    refine z_iconst (v := 1) dX8_become_16 (by decide) ?_
    refine z_Vi (As := [_]) dX8_become_17 (by rfl) v_X8_error l_X8_51 (by first | decide | assumption | omega) rfl rfl rfl (by omega) (by decide) (Nat.le_of_ble_eq_true rfl) ?_
    refine s_X8_error (by rfl) (by first | decide | omega) ?_
    exact z_ret dX8_become_20 (hQ _ _ (by intro k hk; simp (disch := omega) only [zup_n]) (by unfold o_become; rw [if_neg (by show ¬ ((0 ≤ p ∧ p ≤ c 52 5 - 1) ∧ _); grind)]; rfl)) trivial rfl
  · refine z_iload_n (i := 2) dX8_become_8 rfl rfl ?_
    refine z_Sb (As := [_]) dX8_become_9 (by rfl) v_X8_isKind l_X8_154 rfl (by omega) (by decide) (Nat.le_of_ble_eq_true rfl) ?_
    refine s_X8_isKind (by omega) ?_
    refine z_if_ne 21 dX8_become_12 (by decide) (fun h_12 => ?_) (fun h_12 => ?_)
    · have hok : isP (mst c) p ∧ 0 ≤ km ∧ km ≤ 69 := by show (0 ≤ p ∧ p ≤ c 52 5 - 1) ∧ _; grind
      obtain ⟨j, hj, rfl⟩ := isP_of (f := c 52) hok.1 hn hn6
      have hpj : pn (nI j) = j := pn_nI (by omega)
      refine z_aload_n (i := 0) dX8_become_21 rfl rfl ?_
      refine z_iload_n (i := 1) dX8_become_22 rfl rfl ?_
      refine z_iconst (v := 1) dX8_become_23 (by decide) ?_
      refine z_iload_n (i := 2) dX8_become_24 rfl rfl ?_
      refine z_bipush (v := 10) dX8_become_25 (by decide) ?_
      refine z_irem dX8_become_27 (by first | decide | assumption) ?_
      refine z_Vv (As := [_, _, _]) dX8_become_28 (by rfl) v_X8_lays1 l_X8_142 (by first | decide | assumption | omega) rfl rfl rfl (by omega) (by decide) (Nat.le_of_ble_eq_true rfl) ?_
      first | refine s_X8_lays10 (by omega) ?_ | refine s_X8_lays11 (by omega) ?_ | refine s_X8_lays12 (by omega) ?_ | refine s_X8_lays13 (by omega) ?_ | refine s_X8_lays14 (by omega) ?_
      refine z_aload_n (i := 0) dX8_become_31 rfl rfl ?_
      refine z_bipush (v := 8) dX8_become_32 (by decide) ?_
      refine z_iconst (v := 5) dX8_become_34 (by decide) ?_
      refine z_iload_n (i := 1) dX8_become_35 rfl rfl ?_
      refine z_imul dX8_become_36 ?_
      refine z_iadd dX8_become_37 ?_
      refine z_iconst (v := 0) dX8_become_38 (by decide) ?_
      refine z_iadd dX8_become_39 ?_
      refine z_iload_n (i := 2) dX8_become_40 rfl rfl ?_
      refine z_bipush (v := 10) dX8_become_41 (by decide) ?_
      refine z_idiv dX8_become_43 (by first | decide | assumption) ?_
      refine z_Vi (As := [_, _]) dX8_become_44 (by rfl) v_X8_change1 l_X8_163 (by first | decide | assumption | omega) rfl rfl rfl (by omega) (by decide) (Nat.le_of_ble_eq_true rfl) ?_
      refine s_X8_change1 (zi_its j 0) (by omega) ?_
      exact z_ret dX8_become_47 (hQ _ _ (by intro k hk; simp (disch := omega) only [zup_n]) (by unfold o_become; rw [if_pos hok]; simp only [mst, hpj, zup_s, zup_zup, pk_un (f := c 52) (show 8 + 5 * j + 0 ≠ 8 + 5 * j + 1 by omega)]; rfl)) trivial rfl
    · refine z_aload_n (i := 0) dX8_become_15 rfl rfl ?_
      refine z_iconst (v := 1) dX8_become_16 (by decide) ?_
      refine z_Vi (As := [_]) dX8_become_17 (by rfl) v_X8_error l_X8_51 (by first | decide | assumption | omega) rfl rfl rfl (by omega) (by decide) (Nat.le_of_ble_eq_true rfl) ?_
      refine s_X8_error (by rfl) (by first | decide | omega) ?_
      exact z_ret dX8_become_20 (hQ _ _ (by intro k hk; simp (disch := omega) only [zup_n]) (by unfold o_become; rw [if_neg (by show ¬ ((0 ≤ p ∧ p ≤ c 52 5 - 1) ∧ _); grind)]; rfl)) trivial rfl
theorem o8_answers {p sure : Int32} (hv : vaF (c 52) n) (hd : 3 ≤ d) (hQ : ∀ r c', (∀ k, k < 51 → c' k = c k) → (r, mst c') = o_answers (mst c) p sure → Qf r c') : zCl l E ad mX8_answers d [.ref (ad 51), .int p, .int sure] c Qf := by
  obtain ⟨hn, hn6, hw0, hw1⟩ := id hv
  refine z_enter (own := RX8) [some (.ref (ad 51)), some (.int p), some (.int sure)] (by decide +kernel) rfl rfl rfl (Nat.le_of_ble_eq_true rfl) ?_
  refine z_aload_n (i := 0) dX8_answers_0 rfl rfl ?_
  refine z_iload_n (i := 1) dX8_answers_1 rfl rfl ?_
  refine z_Vb (As := [_]) dX8_answers_2 (by rfl) v_X8_isPerson l_X8_157 (by first | decide | assumption | omega) rfl rfl rfl (by omega) (by decide) (Nat.le_of_ble_eq_true rfl) ?_
  refine s_X8_isPerson (by omega) ?_
  refine z_if_eq 34 dX8_answers_5 (by decide) (fun h_5 => ?_) (fun h_5 => ?_)
  · refine z_aload_n (i := 0) dX8_answers_34 rfl rfl ?_
    refine z_iconst (v := 1) dX8_answers_35 (by decide) ?_
    refine z_Vi (As := [_]) dX8_answers_36 (by rfl) v_X8_error l_X8_51 (by first | decide | assumption | omega) rfl rfl rfl (by omega) (by decide) (Nat.le_of_ble_eq_true rfl) ?_
    refine s_X8_error (by rfl) (by first | decide | omega) ?_
    first
    | exact z_ret dX8_answers_39 (hQ _ _ (by intro k hk; simp (disch := omega) only [zup_n]) (by unfold o_answers; rw [if_neg (by show ¬ ((0 ≤ p ∧ p ≤ c 52 5 - 1) ∧ _); grind)]; rfl)) trivial rfl
    | exact z_ret dX8_answers_39 (hQ _ _ (by intro k hk; simp (disch := omega) only [zup_n]) (by unfold o_answers; rw [if_pos hok, hpj]; rfl)) trivial rfl
  · refine z_iload_n (i := 2) dX8_answers_8 rfl rfl ?_
    refine z_iconst (v := 0) dX8_answers_9 (by decide) ?_
    refine z_bipush (v := 99) dX8_answers_10 (by decide) ?_
    refine z_Sb (As := [_, _, _]) dX8_answers_12 (by rfl) v_X8_in l_X8_47 rfl (by omega) (by decide) (Nat.le_of_ble_eq_true rfl) ?_
    refine s_X8_in ?_
    refine z_if_eq 34 dX8_answers_15 (by decide) (fun h_15 => ?_) (fun h_15 => ?_)
    · refine z_aload_n (i := 0) dX8_answers_34 rfl rfl ?_
      refine z_iconst (v := 1) dX8_answers_35 (by decide) ?_
      refine z_Vi (As := [_]) dX8_answers_36 (by rfl) v_X8_error l_X8_51 (by first | decide | assumption | omega) rfl rfl rfl (by omega) (by decide) (Nat.le_of_ble_eq_true rfl) ?_
      refine s_X8_error (by rfl) (by first | decide | omega) ?_
      first
      | exact z_ret dX8_answers_39 (hQ _ _ (by intro k hk; simp (disch := omega) only [zup_n]) (by unfold o_answers; rw [if_neg (by show ¬ ((0 ≤ p ∧ p ≤ c 52 5 - 1) ∧ _); grind)]; rfl)) trivial rfl
      | exact z_ret dX8_answers_39 (hQ _ _ (by intro k hk; simp (disch := omega) only [zup_n]) (by unfold o_answers; rw [if_pos hok, hpj]; rfl)) trivial rfl
    · have hok : isP (mst c) p ∧ 0 ≤ sure ∧ sure ≤ 99 := by show (0 ≤ p ∧ p ≤ c 52 5 - 1) ∧ _; grind
      obtain ⟨j, hj, rfl⟩ := isP_of (f := c 52) hok.1 hn hn6
      have hpj : pn (nI j) = j := pn_nI (by omega)
      refine z_aload_n (i := 0) dX8_answers_18 rfl rfl ?_
      refine z_bipush (v := 8) dX8_answers_19 (by decide) ?_
      refine z_iconst (v := 5) dX8_answers_21 (by decide) ?_
      refine z_iload_n (i := 1) dX8_answers_22 rfl rfl ?_
      refine z_imul dX8_answers_23 ?_
      refine z_iadd dX8_answers_24 ?_
      refine z_iconst (v := 2) dX8_answers_25 (by decide) ?_
      refine z_iadd dX8_answers_26 ?_
      refine z_iload_n (i := 2) dX8_answers_27 rfl rfl ?_
      refine z_Vi (As := [_, _]) dX8_answers_28 (by rfl) v_X8_change1 l_X8_163 (by first | decide | assumption | omega) rfl rfl rfl (by omega) (by decide) (Nat.le_of_ble_eq_true rfl) ?_
      refine s_X8_change1 (zi_its j 2) (by omega) ?_
      refine z_goto 39 dX8_answers_31 (by decide) ?_
      first
      | exact z_ret dX8_answers_39 (hQ _ _ (by intro k hk; simp (disch := omega) only [zup_n]) (by unfold o_answers; rw [if_neg (by show ¬ ((0 ≤ p ∧ p ≤ c 52 5 - 1) ∧ _); grind)]; rfl)) trivial rfl
      | exact z_ret dX8_answers_39 (hQ _ _ (by intro k hk; simp (disch := omega) only [zup_n]) (by unfold o_answers; rw [if_pos hok, hpj]; rfl)) trivial rfl
theorem o8_puts {p cell : Int32} (hv : vaF (c 52) n) (hd : 3 ≤ d) (hQ : ∀ r c', (∀ k, k < 51 → c' k = c k) → (r, mst c') = o_puts (mst c) p cell → Qf r c') : zCl l E ad mX8_puts d [.ref (ad 51), .int p, .int cell] c Qf := by
  obtain ⟨hn, hn6, hw0, hw1⟩ := id hv
  refine z_enter (own := RX8) [some (.ref (ad 51)), some (.int p), some (.int cell)] (by decide +kernel) rfl rfl rfl (Nat.le_of_ble_eq_true rfl) ?_
  refine z_aload_n (i := 0) dX8_puts_0 rfl rfl ?_
  refine z_iload_n (i := 1) dX8_puts_1 rfl rfl ?_
  refine z_Vb (As := [_]) dX8_puts_2 (by rfl) v_X8_isPerson l_X8_157 (by first | decide | assumption | omega) rfl rfl rfl (by omega) (by decide) (Nat.le_of_ble_eq_true rfl) ?_
  refine s_X8_isPerson (by omega) ?_
  refine z_if_eq 15 dX8_puts_5 (by decide) (fun h_5 => ?_) (fun h_5 => ?_)
  · refine z_aload_n (i := 0) dX8_puts_15 rfl rfl ?_
    refine z_iconst (v := 1) dX8_puts_16 (by decide) ?_
    refine z_Vi (As := [_]) dX8_puts_17 (by rfl) v_X8_error l_X8_51 (by first | decide | assumption | omega) rfl rfl rfl (by omega) (by decide) (Nat.le_of_ble_eq_true rfl) ?_
    refine s_X8_error (by rfl) (by first | decide | omega) ?_
    exact z_ret dX8_puts_20 (hQ _ _ (by intro k hk; simp (disch := omega) only [zup_n]) (by unfold o_puts; rw [if_neg (by show ¬ ((0 ≤ p ∧ p ≤ c 52 5 - 1) ∧ _); grind)]; rfl)) trivial rfl
  · refine z_iload_n (i := 2) dX8_puts_8 rfl rfl ?_
    refine z_Sb (As := [_]) dX8_puts_9 (by rfl) v_X8_isCell l_X8_169 rfl (by omega) (by decide) (Nat.le_of_ble_eq_true rfl) ?_
    refine s_X8_isCell (by omega) ?_
    refine z_if_ne 21 dX8_puts_12 (by decide) (fun h_12 => ?_) (fun h_12 => ?_)
    · have hok : isP (mst c) p ∧ 0 ≤ cell ∧ cell ≤ 15 := by show (0 ≤ p ∧ p ≤ c 52 5 - 1) ∧ _; grind
      obtain ⟨j, hj, rfl⟩ := isP_of (f := c 52) hok.1 hn hn6
      have hpj : pn (nI j) = j := pn_nI (by omega)
      refine z_aload_n (i := 0) dX8_puts_21 rfl rfl ?_
      refine z_iload_n (i := 1) dX8_puts_22 rfl rfl ?_
      refine z_iconst (v := 4) dX8_puts_23 (by decide) ?_
      refine z_iconst (v := 0) dX8_puts_24 (by decide) ?_
      refine z_Vv (As := [_, _, _]) dX8_puts_25 (by rfl) v_X8_lays1 l_X8_142 (by first | decide | assumption | omega) rfl rfl rfl (by omega) (by decide) (Nat.le_of_ble_eq_true rfl) ?_
      first | refine s_X8_lays10 (by omega) ?_ | refine s_X8_lays11 (by omega) ?_ | refine s_X8_lays12 (by omega) ?_ | refine s_X8_lays13 (by omega) ?_ | refine s_X8_lays14 (by omega) ?_
      refine z_aload_n (i := 0) dX8_puts_28 rfl rfl ?_
      refine z_bipush (v := 8) dX8_puts_29 (by decide) ?_
      refine z_iconst (v := 5) dX8_puts_31 (by decide) ?_
      refine z_iload_n (i := 1) dX8_puts_32 rfl rfl ?_
      refine z_imul dX8_puts_33 ?_
      refine z_iadd dX8_puts_34 ?_
      refine z_iconst (v := 3) dX8_puts_35 (by decide) ?_
      refine z_iadd dX8_puts_36 ?_
      refine z_iload_n (i := 2) dX8_puts_37 rfl rfl ?_
      refine z_Vi (As := [_, _]) dX8_puts_38 (by rfl) v_X8_change1 l_X8_163 (by first | decide | assumption | omega) rfl rfl rfl (by omega) (by decide) (Nat.le_of_ble_eq_true rfl) ?_
      refine s_X8_change1 (zi_its j 3) (by omega) ?_
      exact z_ret dX8_puts_41 (hQ _ _ (by intro k hk; simp (disch := omega) only [zup_n]) (by unfold o_puts; rw [if_pos hok]; simp only [mst, hpj, zup_s, zup_zup, pk_un (f := c 52) (show 8 + 5 * j + 3 ≠ 8 + 5 * j + 4 by omega)]; rfl)) trivial rfl
    · refine z_aload_n (i := 0) dX8_puts_15 rfl rfl ?_
      refine z_iconst (v := 1) dX8_puts_16 (by decide) ?_
      refine z_Vi (As := [_]) dX8_puts_17 (by rfl) v_X8_error l_X8_51 (by first | decide | assumption | omega) rfl rfl rfl (by omega) (by decide) (Nat.le_of_ble_eq_true rfl) ?_
      refine s_X8_error (by rfl) (by first | decide | omega) ?_
      exact z_ret dX8_puts_20 (hQ _ _ (by intro k hk; simp (disch := omega) only [zup_n]) (by unfold o_puts; rw [if_neg (by show ¬ ((0 ≤ p ∧ p ≤ c 52 5 - 1) ∧ _); grind)]; rfl)) trivial rfl
theorem o8_drop {cell is : Int32} (hd : 3 ≤ d) (hQ : ∀ r c', (∀ k, k < 51 → c' k = c k) → (r, mst c') = o_drop (mst c) cell is → Qf r c') : zCl l E ad mX8_drop d [.ref (ad 51), .int cell, .int is] c Qf := by
  refine z_enter (own := RX8) [some (.ref (ad 51)), some (.int cell), some (.int is), none] (by decide +kernel) rfl rfl rfl (Nat.le_of_ble_eq_true rfl) ?_
  refine z_iload_n (i := 1) dX8_drop_0 rfl rfl ?_
  refine z_iconst (v := 1) dX8_drop_1 (by decide) ?_
  refine z_bipush (v := 14) dX8_drop_2 (by decide) ?_
  refine z_Sb (As := [_, _, _]) dX8_drop_4 (by rfl) v_X8_in l_X8_47 rfl (by omega) (by decide) (Nat.le_of_ble_eq_true rfl) ?_
  refine s_X8_in ?_
  refine z_if_eq 19 dX8_drop_7 (by decide) (fun h_7 => ?_) (fun h_7 => ?_)
  · refine z_aload_n (i := 0) dX8_drop_19 rfl rfl ?_
    refine z_iconst (v := 1) dX8_drop_20 (by decide) ?_
    refine z_Vi (As := [_]) dX8_drop_21 (by rfl) v_X8_error l_X8_51 (by first | decide | assumption | omega) rfl rfl rfl (by omega) (by decide) (Nat.le_of_ble_eq_true rfl) ?_
    refine s_X8_error (by rfl) (by first | decide | omega) ?_
    exact z_ret dX8_drop_24 (hQ _ _ (by intro k hk; simp (disch := omega) only [zup_n]) (by unfold o_drop; rw [if_neg (by grind)]; rfl)) trivial rfl
  · refine z_iload_n (i := 2) dX8_drop_10 rfl rfl ?_
    refine z_iconst (v := 0) dX8_drop_11 (by decide) ?_
    refine z_iconst (v := 1) dX8_drop_12 (by decide) ?_
    refine z_Sb (As := [_, _, _]) dX8_drop_13 (by rfl) v_X8_in l_X8_47 rfl (by omega) (by decide) (Nat.le_of_ble_eq_true rfl) ?_
    refine s_X8_in ?_
    refine z_if_ne 25 dX8_drop_16 (by decide) (fun h_16 => ?_) (fun h_16 => ?_)
    · refine z_aload_n (i := 0) dX8_drop_25 rfl rfl ?_
      refine z_getf dX8_drop_26 f_X8_7 (by first | decide | assumption | omega) rfl (by rfl) ?_
      refine z_iconst (v := 1) dX8_drop_29 (by decide) ?_
      refine z_iald dX8_drop_30 (by first | decide | assumption | omega) rfl (by rfl) (by first | decide | omega) (by first | decide | omega) ?_
      refine z_iload_n (i := 1) dX8_drop_31 rfl rfl ?_
      refine z_ishr dX8_drop_32 ?_
      refine z_iconst (v := 1) dX8_drop_33 (by decide) ?_
      refine z_iand dX8_drop_34 ?_
      refine z_istore_n (i := 3) [_, _, _, _] dX8_drop_35 rfl (by decide) rfl rfl ?_
      refine z_aload_n (i := 0) dX8_drop_36 rfl rfl ?_
      refine z_getf dX8_drop_37 f_X8_7 (by first | decide | assumption | omega) rfl (by rfl) ?_
      refine z_iconst (v := 1) dX8_drop_40 (by decide) ?_
      refine z_aload_n (i := 0) dX8_drop_41 rfl rfl ?_
      refine z_getf dX8_drop_42 f_X8_7 (by first | decide | assumption | omega) rfl (by rfl) ?_
      refine z_iconst (v := 1) dX8_drop_45 (by decide) ?_
      refine z_iald dX8_drop_46 (by first | decide | assumption | omega) rfl (by rfl) (by first | decide | omega) (by first | decide | omega) ?_
      refine z_iconst (v := 1) dX8_drop_47 (by decide) ?_
      refine z_iload_n (i := 1) dX8_drop_48 rfl rfl ?_
      refine z_ishl dX8_drop_49 ?_
      refine z_iconst (v := (-1)) dX8_drop_50 (by decide) ?_
      refine z_ixor dX8_drop_51 ?_
      refine z_iand dX8_drop_52 ?_
      refine z_iload_n (i := 2) dX8_drop_53 rfl rfl ?_
      refine z_iload_n (i := 1) dX8_drop_54 rfl rfl ?_
      refine z_ishl dX8_drop_55 ?_
      refine z_ior dX8_drop_56 ?_
      refine z_iast dX8_drop_57 (by first | decide | assumption | omega) (fun _ => rfl) (by rfl) (by first | decide | omega) (by first | decide | omega) ?_
      refine z_iload_n (i := 3) dX8_drop_58 rfl rfl ?_
      exact z_ret dX8_drop_59 (hQ _ _ (by intro k hk; simp (disch := omega) only [zup_n]) (by unfold o_drop; rw [if_pos (by grind)]; rfl)) trivial rfl
    · refine z_aload_n (i := 0) dX8_drop_19 rfl rfl ?_
      refine z_iconst (v := 1) dX8_drop_20 (by decide) ?_
      refine z_Vi (As := [_]) dX8_drop_21 (by rfl) v_X8_error l_X8_51 (by first | decide | assumption | omega) rfl rfl rfl (by omega) (by decide) (Nat.le_of_ble_eq_true rfl) ?_
      refine s_X8_error (by rfl) (by first | decide | omega) ?_
      exact z_ret dX8_drop_24 (hQ _ _ (by intro k hk; simp (disch := omega) only [zup_n]) (by unfold o_drop; rw [if_neg (by grind)]; rfl)) trivial rfl
theorem o8_hour {v : Int32} (hd : 3 ≤ d) (hQ : ∀ r c', (∀ k, k < 51 → c' k = c k) → (r, mst c') = o_hour (mst c) v → Qf r c') : zCl l E ad mX8_hour d [.ref (ad 51), .int v] c Qf := by
  refine z_enter (own := RX8) [some (.ref (ad 51)), some (.int v)] (by decide +kernel) rfl rfl rfl (Nat.le_of_ble_eq_true rfl) ?_
  refine z_iload_n (i := 1) dX8_hour_0 rfl rfl ?_
  refine z_iconst (v := 0) dX8_hour_1 (by decide) ?_
  refine z_sipush (v := 9999) dX8_hour_2 (by decide) ?_
  refine z_Sb (As := [_, _, _]) dX8_hour_5 (by rfl) v_X8_in l_X8_47 rfl (by omega) (by decide) (Nat.le_of_ble_eq_true rfl) ?_
  refine s_X8_in ?_
  refine z_if_eq 20 dX8_hour_8 (by decide) (fun h_8 => ?_) (fun h_8 => ?_)
  · refine z_aload_n (i := 0) dX8_hour_20 rfl rfl ?_
    refine z_iconst (v := 1) dX8_hour_21 (by decide) ?_
    refine z_Vi (As := [_]) dX8_hour_22 (by rfl) v_X8_error l_X8_51 (by first | decide | assumption | omega) rfl rfl rfl (by omega) (by decide) (Nat.le_of_ble_eq_true rfl) ?_
    refine s_X8_error (by rfl) (by first | decide | omega) ?_
    first
    | exact z_ret dX8_hour_25 (hQ _ _ (by intro k hk; simp (disch := omega) only [zup_n]) (by unfold o_hour; rw [if_neg (by grind)]; rfl)) trivial rfl
    | exact z_ret dX8_hour_25 (hQ _ _ (by intro k hk; simp (disch := omega) only [zup_n]) (by unfold o_hour; rw [if_pos (by grind)]; rfl)) trivial rfl
  · refine z_aload_n (i := 0) dX8_hour_11 rfl rfl ?_
    refine z_iconst (v := 0) dX8_hour_12 (by decide) ?_
    refine z_iload_n (i := 1) dX8_hour_13 rfl rfl ?_
    refine z_Vi (As := [_, _]) dX8_hour_14 (by rfl) v_X8_change1 l_X8_163 (by first | decide | assumption | omega) rfl rfl rfl (by omega) (by decide) (Nat.le_of_ble_eq_true rfl) ?_
    refine s_X8_change1 (i := 0) rfl (by decide) ?_
    refine z_goto 25 dX8_hour_17 (by decide) ?_
    first
    | exact z_ret dX8_hour_25 (hQ _ _ (by intro k hk; simp (disch := omega) only [zup_n]) (by unfold o_hour; rw [if_neg (by grind)]; rfl)) trivial rfl
    | exact z_ret dX8_hour_25 (hQ _ _ (by intro k hk; simp (disch := omega) only [zup_n]) (by unfold o_hour; rw [if_pos (by grind)]; rfl)) trivial rfl
theorem o8_seed {v : Int32} (hd : 3 ≤ d) (hQ : ∀ r c', (∀ k, k < 51 → c' k = c k) → (r, mst c') = o_seed (mst c) v → Qf r c') : zCl l E ad mX8_seed d [.ref (ad 51), .int v] c Qf := by
  refine z_enter (own := RX8) [some (.ref (ad 51)), some (.int v)] (by decide +kernel) rfl rfl rfl (Nat.le_of_ble_eq_true rfl) ?_
  refine z_aload_n (i := 0) dX8_seed_0 rfl rfl ?_
  refine z_iconst (v := 2) dX8_seed_1 (by decide) ?_
  refine z_iload_n (i := 1) dX8_seed_2 rfl rfl ?_
  refine z_Vi (As := [_, _]) dX8_seed_3 (by rfl) v_X8_change1 l_X8_163 (by first | decide | assumption | omega) rfl rfl rfl (by omega) (by decide) (Nat.le_of_ble_eq_true rfl) ?_
  refine s_X8_change1 (i := 2) rfl (by decide) ?_
  exact z_ret dX8_seed_6 (hQ _ _ (by intro k hk; simp (disch := omega) only [zup_n]) rfl) trivial rfl
end R1
