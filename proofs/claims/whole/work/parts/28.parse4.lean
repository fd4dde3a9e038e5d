/-! the reader of TEXTS, the reference's units; the call text -/
section P4
variable {l : Launch} {E : zE} {ad : Nat → Nat} {tp : zN} {len u : Nat}
theorem s_X8_one {F : Nat} (H5 : prC l E ad tp len u F 5 mX8_one) (H0 : prC l E ad tp len u F 0 mX8_whole) : prC l E ad tp len u (F + 1) 5 mX8_one := by
  intro c o d q Qf hm hq ho hn hd hz h6 he hQ
  have hlen := he.2.2.2.1
  have hu2 := he.2.2.2.2
  generalize epr : prF (lkF tp len) u (F + 1) 5 o q = R at hQ
  unfold prF at epr
  rw [if_neg (show ¬ 5 < 5 by decide), if_pos rfl] at epr
  have hza : zps c (adv q) (zup c 51 (upd (c 51) 5 (c 51 5 + 1))) := zps_adv hz (by rw [hz.1, nI_1])
  have hzo : zps c (adv q) (zup c 51 (upd (upd (c 51) 6 (nI (o + 1))) 5 (nI (q.1 + 1)))) := by
    have := zps_adv (zps_self (zps_open (x := nI (o + 1)) hz)) (x := nI (q.1 + 1)) rfl
    rw [zup_s, zup_zup] at this
    exact zps_tr (zps_open hz) this
  have hlk : ∀ x : Int32, lkF tp len q.1 = x → ¬ x = -1 → q.1 < len := fun x h1 h2 => lk_lt (tp := tp) (by rw [h1]; exact h2)
  -- a NUMBER
  have nb : ∀ (k i : Nat) (v : Int32) (q1 : pS) (c1 : zS), i + k = 4 → q1.1 ≤ len → q1.2.1 < 60 → zps c q1 c1 → c1 51 6 = nI o → (∀ c', zps c (nbF (lkF tp len) k v q1) c' → c' 51 6 = nI o → Qf 1 c') → zW l E ad RX8 cX8_one 4 3 d Qf 46 [some (.ref (ad 51)), some (.int (lkF tp len q.1)), some (.int v), some (.int (nI i))] [] c1 := by
    have out : ∀ (v i : Int32) (q1 : pS) (c1 : zS), q1.2.1 < 60 → zps c q1 c1 → c1 51 6 = nI o → (∀ c', zps c (stp 0 v q1) c' → c' 51 6 = nI o → Qf 1 c') → zW l E ad RX8 cX8_one 4 3 d Qf 94 [some (.ref (ad 51)), some (.int (lkF tp len q.1)), some (.int v), some (.int i)] [] c1 := by
      intro v i q1 c1 hn1 hz1 h61 hq1
      refine z_aload_n (i := 0) dX8_one_94 rfl rfl ?_
      refine z_iconst (v := 0) dX8_one_95 (by decide) ?_
      refine z_iload_n (i := 2) dX8_one_96 rfl rfl ?_
      refine z_Vv (As := [_, _]) dX8_one_97 (by rfl) v_X8_step1 l_X8_75 (by first | decide | assumption | omega) rfl rfl rfl (by omega) (by decide) (Nat.le_of_ble_eq_true rfl) ?_
      refine s_X8_step1 (k := q1.2.1) hz1.2.1 hn1 ?_
      refine z_iconst (v := 1) dX8_one_100 (by decide) ?_
      exact z_ret dX8_one_101 (hq1 _ (zps_tr hz1 (zps_stp (zps_self hz1))) (by rw [zup_s, pk_un (by decide)]; exact h61)) (by rfl) rfl
    intro k
    induction k with
    | zero =>
      intro i v q1 c1 hi hq1 hn1 hz1 h61 hQ1
      have hi4 : i = 4 := by omega
      subst hi4
      refine z_iload_n (i := 3) dX8_one_46 rfl rfl ?_
      refine z_iconst (v := 4) dX8_one_47 (by decide) ?_
      refine z_icmp_ge 94 dX8_one_48 (by decide) (fun h_48 => ?_) (fun h_48 => ?_)
      rotate_left
      · exact absurd (by decide) h_48
      exact out v _ q1 c1 hn1 hz1 h61 hQ1
    | succ k ih =>
      intro i v q1 c1 hi hq1 hn1 hz1 h61 hQ1
      have hlt : (4 : Int32) ≤ nI i ↔ 4 ≤ i := nI_leI (a := 4) (b := i) (by omega) (by omega)
      have he1 := zpe_tr he hz1
      unfold nbF at hQ1
      have hza1 : zps c1 (adv q1) (zup c1 51 (upd (c1 51) 5 (c1 51 5 + 1))) := zps_adv (zps_self hz1) (by rw [hz1.1, nI_1])
      refine z_iload_n (i := 3) dX8_one_46 rfl rfl ?_
      refine z_iconst (v := 4) dX8_one_47 (by decide) ?_
      refine z_icmp_ge 94 dX8_one_48 (by decide) (fun h_48 => ?_) (fun h_48 => ?_)
      · exfalso; have := hlt.mp h_48; omega
      refine z_aload_n (i := 0) dX8_one_51 rfl rfl ?_
      refine z_Vi (As := []) dX8_one_52 (by rfl) v_X8_look l_X8_71 (by first | decide | assumption | omega) rfl rfl rfl (by omega) (by decide) (Nat.le_of_ble_eq_true rfl) ?_
      refine t_look (zps_self hz1) he1 hq1 ?_
      refine z_bipush (v := 48) dX8_one_55 (by decide) ?_
      refine z_bipush (v := 57) dX8_one_57 (by decide) ?_
      refine z_Sb (As := [_, _, _]) dX8_one_59 (by rfl) v_X8_in l_X8_47 rfl (by omega) (by decide) (Nat.le_of_ble_eq_true rfl) ?_
      refine s_X8_in ?_
      refine z_if_eq 94 dX8_one_62 (by decide) (fun h_62 => ?_) (fun h_62 => ?_)
      · rw [if_neg (bite.mp h_62)] at hQ1
        exact out v _ q1 c1 hn1 hz1 h61 hQ1
      · have hdg : 48 ≤ lkF tp len q1.1 ∧ lkF tp len q1.1 ≤ 57 := Classical.byContradiction (fun w => h_62 (bite.mpr w))
        rw [if_pos hdg] at hQ1
        have hp := lk_lt (tp := tp) (len := len) (i := q1.1) (fun e => by rw [e] at hdg; exact absurd hdg.1 (by decide))
        refine z_bipush (v := 10) dX8_one_65 (by decide) ?_
        refine z_iload_n (i := 2) dX8_one_67 rfl rfl ?_
        refine z_imul dX8_one_68 ?_
        refine z_aload_n (i := 0) dX8_one_69 rfl rfl ?_
        refine z_Vi (As := []) dX8_one_70 (by rfl) v_X8_look l_X8_71 (by first | decide | assumption | omega) rfl rfl rfl (by omega) (by decide) (Nat.le_of_ble_eq_true rfl) ?_
        refine t_look (zps_self hz1) he1 hq1 ?_
        refine z_iadd dX8_one_73 ?_
        refine z_bipush (v := 48) dX8_one_74 (by decide) ?_
        refine z_isub dX8_one_76 ?_
        refine z_istore_n (i := 2) [_, _, _, _] dX8_one_77 rfl (by decide) rfl rfl ?_
        refine z_aload_n (i := 0) dX8_one_78 rfl rfl ?_
        refine z_dup dX8_one_79 rfl ?_
        refine z_getf dX8_one_80 f_X8_57 (by first | decide | assumption | omega) rfl (by rfl) ?_
        refine z_iconst (v := 1) dX8_one_83 (by decide) ?_
        refine z_iadd dX8_one_84 ?_
        refine z_putfi dX8_one_85 f_X8_57 fp_X8_5 (by first | decide | assumption | omega) rfl (by exact Nat.le_of_ble_eq_true rfl) rfl ?_
        refine z_iinc (i := 3) (v := 1) [_, _, _, _] dX8_one_88 rfl (by decide) (by decide) rfl rfl ?_
        refine z_goto 46 dX8_one_91 (by decide) ?_
        rw [nI_1]
        refine ih (i + 1) _ (adv q1) _ (by omega) (by show q1.1 + 1 ≤ len; omega) hn1 (zps_tr hz1 hza1) (by rw [zup_s, pk_un (by decide)]; exact h61) hQ1
  refine z_enter (own := RX8) [some (.ref (ad 51)), none, none, none] (by decide +kernel) rfl rfl rfl (Nat.le_of_ble_eq_true rfl) ?_
  have cut142 : ¬ nmB u (lkF tp len q.1) → ¬ (48 ≤ lkF tp len q.1 ∧ lkF tp len q.1 ≤ 57) → ¬ lkF tp len q.1 = 33 → zW l E ad RX8 cX8_one 4 3 d Qf 142 [some (.ref (ad 51)), some (.int (lkF tp len q.1)), none, none] [] c := by
    intro n1 n2 n3
    rw [if_neg n1, if_neg n2, if_neg n3] at epr
    by_cases b40 : lkF tp len q.1 = 40
    · rw [if_pos b40] at epr
      have hp := hlk 40 b40 (by decide)
      by_cases o5 : o = 5
      · rw [if_pos o5] at epr
        rw [← epr] at hQ
        refine z_iload_n (i := 1) dX8_one_142 rfl rfl ?_
        refine z_bipush (v := 40) dX8_one_143 (by decide) ?_
        refine z_icmp_ne 171 dX8_one_145 (by decide) (fun h_145 => ?_) (fun h_145 => ?_)
        · exact absurd b40 h_145
        refine z_aload_n (i := 0) dX8_one_148 rfl rfl ?_
        refine z_Vb (As := []) dX8_one_149 (by rfl) v_X8_opens l_X8_98 (by first | decide | assumption | omega) rfl rfl rfl (by omega) (by decide) (Nat.le_of_ble_eq_true rfl) ?_
        refine s_X8_opens (o := o) h6 hz.1 ho (by omega) ?_
        rw [if_pos o5]
        refine z_if_eq 171 dX8_one_152 (by decide) (fun h_152 => ?_) (fun h_152 => ?_)
        rotate_left
        · exact absurd rfl h_152
        refine z_iconst (v := 0) dX8_one_171 (by decide) ?_
        exact z_ret (r := 0) dX8_one_172 (hQ c hz (fun w => absurd w Bool.false_ne_true)) (by rfl) rfl
      · rw [if_neg o5] at epr
        have i0 := pr_ok (tp := tp) (len := len) (u := u) F 0 (o + 1) (adv q) (by show q.1 + 1 ≤ len; omega) (by omega)
        generalize hA : prF (lkF tp len) u F 0 (o + 1) (adv q) = A at epr i0
        refine z_iload_n (i := 1) dX8_one_142 rfl rfl ?_
        refine z_bipush (v := 40) dX8_one_143 (by decide) ?_
        refine z_icmp_ne 171 dX8_one_145 (by decide) (fun h_145 => ?_) (fun h_145 => ?_)
        · exact absurd b40 h_145
        refine z_aload_n (i := 0) dX8_one_148 rfl rfl ?_
        refine z_Vb (As := []) dX8_one_149 (by rfl) v_X8_opens l_X8_98 (by first | decide | assumption | omega) rfl rfl rfl (by omega) (by decide) (Nat.le_of_ble_eq_true rfl) ?_
        refine s_X8_opens (o := o) h6 hz.1 ho (by omega) ?_
        rw [if_neg o5]
        refine z_if_eq 171 dX8_one_152 (by decide) (fun h_152 => ?_) (fun h_152 => ?_)
        · exact absurd h_152 (by decide)
        refine z_aload_n (i := 0) dX8_one_155 rfl rfl ?_
        refine z_Vb (As := []) dX8_one_156 (by rfl) v_X8_whole l_X8_101 (by first | decide | assumption | omega) rfl rfl rfl (by omega) (by decide) (Nat.le_of_ble_eq_true rfl) ?_
        refine H0 _ (o + 1) _ (adv q) _ (by show 8 * (60 - (q.1 + 1)) + _ ≤ _; omega) (by show q.1 + 1 ≤ len; omega) (by omega) (by show q.2.1 ≤ q.1 + 1; omega) (by omega) (zps_self hzo) (by rw [zup_s, pk_un (by decide), pk_us]) (zpe_tr he hzo) (fun c2 hz2 h62 => ?_)
        rw [hA] at hz2 h62
        rw [hA]
        refine z_if_eq 171 dX8_one_159 (by decide) (fun h_159 => ?_) (fun h_159 => ?_)
        · first
          | (have hA1 := bite.mp h_159
             rw [if_neg hA1] at epr
             rw [← epr, if_neg hA1] at hQ
             have hQ2 := hQ c2 (zps_tr hzo hz2) (fun w => absurd w hA1)
             clear hQ
             exact z_iconst (v := 0) dX8_one_171 (by decide) (z_ret dX8_one_172 (by first | exact hQ2 | (rw [if_neg (by assumption)]; exact hQ2)) (by rfl) rfl))
          | (have hA1 : A.1 = true := Classical.byContradiction (fun w => h_159 (bite.mpr w))
             rw [if_pos hA1, if_neg (by first | exact h_168 | exact h_166)] at epr
             rw [← epr] at hQ
             have hQ2 := hQ c2 (zps_tr hzo hz2) (fun w => absurd w Bool.false_ne_true)
             clear hQ
             exact z_iconst (v := 0) dX8_one_171 (by decide) (z_ret dX8_one_172 (by first | exact hQ2 | (rw [if_neg (by assumption)]; exact hQ2)) (by rfl) rfl))
        · refine z_aload_n (i := 0) dX8_one_162 rfl rfl ?_
          refine z_Vi (As := []) dX8_one_163 (by rfl) v_X8_look l_X8_71 (by first | decide | assumption | omega) rfl rfl rfl (by omega) (by decide) (Nat.le_of_ble_eq_true rfl) ?_
          refine t_look (zps_self hz2) (zpe_tr (zpe_tr he hzo) hz2) i0.2.1 ?_
          refine z_bipush (v := 41) dX8_one_166 (by decide) ?_
          refine z_icmp_eq 173 dX8_one_168 (by decide) (fun h_168 => ?_) (fun h_168 => ?_)
          · have hA1 : A.1 = true := Classical.byContradiction (fun w => h_159 (bite.mpr w))
            have h41 : lkF tp len A.2.1 = 41 := by first | exact h_168 | exact Classical.not_not.mp h_168
            rw [if_pos hA1, if_pos h41] at epr
            rw [← epr] at hQ
            refine z_aload_n (i := 0) dX8_one_173 rfl rfl ?_
            refine z_dup dX8_one_174 rfl ?_
            refine z_getf dX8_one_175 f_X8_57 (by first | decide | assumption | omega) rfl (by rfl) ?_
            refine z_iconst (v := 1) dX8_one_178 (by decide) ?_
            refine z_iadd dX8_one_179 ?_
            refine z_putfi dX8_one_180 f_X8_57 fp_X8_5 (by first | decide | assumption | omega) rfl (by exact Nat.le_of_ble_eq_true rfl) rfl ?_
            refine z_aload_n (i := 0) dX8_one_183 rfl rfl ?_
            refine z_dup dX8_one_184 rfl ?_
            refine z_getf dX8_one_185 f_X8_91 (by first | decide | assumption | omega) rfl (by rfl) ?_
            refine z_iconst (v := 1) dX8_one_188 (by decide) ?_
            refine z_isub dX8_one_189 ?_
            refine z_putfi dX8_one_190 f_X8_91 fp_X8_6 (by first | decide | assumption | omega) rfl (by exact Nat.le_of_ble_eq_true rfl) rfl ?_
            refine z_iconst (v := 1) dX8_one_193 (by decide) ?_
            refine z_ret (r := 1) dX8_one_194 (hQ _ ?_ (fun _ => ?_)) (by rfl) rfl
            · have := zps_open (x := zup c2 51 (upd (c2 51) 5 (c2 51 5 + 1)) 51 6 - 1) (zps_self (zps_adv (zps_self hz2) (x := c2 51 5 + 1) (by rw [hz2.1, nI_1])))
              exact zps_tr (zps_tr hzo hz2) (zps_tr (zps_adv (zps_self hz2) (by rw [hz2.1, nI_1])) this)
            · simp only [zup_s, pk_us, pk_un (show (6 : Nat) ≠ 5 by decide), h62 hA1]
              exact zi_m1 (by omega)
          · first
            | (have hA1 := bite.mp h_159
               rw [if_neg hA1] at epr
               rw [← epr, if_neg hA1] at hQ
               have hQ2 := hQ c2 (zps_tr hzo hz2) (fun w => absurd w hA1)
               clear hQ
               exact z_iconst (v := 0) dX8_one_171 (by decide) (z_ret dX8_one_172 (by first | exact hQ2 | (rw [if_neg (by assumption)]; exact hQ2)) (by rfl) rfl))
            | (have hA1 : A.1 = true := Classical.byContradiction (fun w => h_159 (bite.mpr w))
               rw [if_pos hA1, if_neg (by first | exact h_168 | exact h_166)] at epr
               rw [← epr] at hQ
               have hQ2 := hQ c2 (zps_tr hzo hz2) (fun w => absurd w Bool.false_ne_true)
               clear hQ
               exact z_iconst (v := 0) dX8_one_171 (by decide) (z_ret dX8_one_172 (by first | exact hQ2 | (rw [if_neg (by assumption)]; exact hQ2)) (by rfl) rfl))
    · rw [if_neg b40] at epr
      rw [← epr] at hQ
      refine z_iload_n (i := 1) dX8_one_142 rfl rfl ?_
      refine z_bipush (v := 40) dX8_one_143 (by decide) ?_
      refine z_icmp_ne 171 dX8_one_145 (by decide) (fun h_145 => ?_) (fun h_145 => ?_)
      rotate_left
      · exfalso; grind
      refine z_iconst (v := 0) dX8_one_171 (by decide) ?_
      exact z_ret (r := 0) dX8_one_172 (hQ c hz (fun w => absurd w Bool.false_ne_true)) (by rfl) rfl
  have cut102 : ¬ nmB u (lkF tp len q.1) → ¬ (48 ≤ lkF tp len q.1 ∧ lkF tp len q.1 ≤ 57) → zW l E ad RX8 cX8_one 4 3 d Qf 102 [some (.ref (ad 51)), some (.int (lkF tp len q.1)), none, none] [] c := by
    intro n1 n2
    by_cases b33 : lkF tp len q.1 = 33
    · rw [if_neg n1, if_neg n2, if_pos b33] at epr
      have hp := hlk 33 b33 (by decide)
      by_cases o5 : o = 5
      · rw [if_pos o5] at epr
        rw [← epr] at hQ
        refine z_iload_n (i := 1) dX8_one_102 rfl rfl ?_
        refine z_bipush (v := 33) dX8_one_103 (by decide) ?_
        refine z_icmp_ne 142 dX8_one_105 (by decide) (fun h_105 => ?_) (fun h_105 => ?_)
        · exact absurd b33 h_105
        refine z_aload_n (i := 0) dX8_one_108 rfl rfl ?_
        refine z_Vb (As := []) dX8_one_109 (by rfl) v_X8_opens l_X8_98 (by first | decide | assumption | omega) rfl rfl rfl (by omega) (by decide) (Nat.le_of_ble_eq_true rfl) ?_
        refine s_X8_opens (o := o) h6 hz.1 ho (by omega) ?_
        rw [if_pos o5]
        refine z_if_eq 122 dX8_one_112 (by decide) (fun h_112 => ?_) (fun h_112 => ?_)
        rotate_left
        · exact absurd rfl h_112
        refine z_iconst (v := 0) dX8_one_122 (by decide) ?_
        exact z_ret (r := 0) dX8_one_123 (hQ c hz (fun w => absurd w Bool.false_ne_true)) (by rfl) rfl
      · rw [if_neg o5] at epr
        have i0 := pr_ok (tp := tp) (len := len) (u := u) F 5 (o + 1) (adv q) (by show q.1 + 1 ≤ len; omega) (by omega)
        generalize hA : prF (lkF tp len) u F 5 (o + 1) (adv q) = A at epr i0
        have hg : A.2.2.1 < 60 := by unfold gO adv at i0; dsimp only at i0; omega
        refine z_iload_n (i := 1) dX8_one_102 rfl rfl ?_
        refine z_bipush (v := 33) dX8_one_103 (by decide) ?_
        refine z_icmp_ne 142 dX8_one_105 (by decide) (fun h_105 => ?_) (fun h_105 => ?_)
        · exact absurd b33 h_105
        refine z_aload_n (i := 0) dX8_one_108 rfl rfl ?_
        refine z_Vb (As := []) dX8_one_109 (by rfl) v_X8_opens l_X8_98 (by first | decide | assumption | omega) rfl rfl rfl (by omega) (by decide) (Nat.le_of_ble_eq_true rfl) ?_
        refine s_X8_opens (o := o) h6 hz.1 ho (by omega) ?_
        rw [if_neg o5]
        refine z_if_eq 122 dX8_one_112 (by decide) (fun h_112 => ?_) (fun h_112 => ?_)
        · exact absurd h_112 (by decide)
        refine z_aload_n (i := 0) dX8_one_115 rfl rfl ?_
        refine z_Vb (As := []) dX8_one_116 (by rfl) v_X8_one l_X8_88 (by first | decide | assumption | omega) rfl rfl rfl (by omega) (by decide) (Nat.le_of_ble_eq_true rfl) ?_
        refine H5 _ (o + 1) _ (adv q) _ (by show 8 * (60 - (q.1 + 1)) + _ ≤ _; omega) (by show q.1 + 1 ≤ len; omega) (by omega) (by show q.2.1 ≤ q.1 + 1; omega) (by omega) (zps_self hzo) (by rw [zup_s, pk_un (by decide), pk_us]) (zpe_tr he hzo) (fun c2 hz2 h62 => ?_)
        rw [hA] at hz2 h62
        rw [hA]
        refine z_if_ne 124 dX8_one_119 (by decide) (fun h_119 => ?_) (fun h_119 => ?_)
        · have hA1 : A.1 = true := Classical.byContradiction (fun w => h_119 (bite.mpr w))
          rw [if_pos hA1] at epr
          rw [← epr] at hQ
          have hz3 := zps_open (x := c2 51 6 - 1) (zps_self hz2)
          refine z_aload_n (i := 0) dX8_one_124 rfl rfl ?_
          refine z_dup dX8_one_125 rfl ?_
          refine z_getf dX8_one_126 f_X8_91 (by first | decide | assumption | omega) rfl (by rfl) ?_
          refine z_iconst (v := 1) dX8_one_129 (by decide) ?_
          refine z_isub dX8_one_130 ?_
          refine z_putfi dX8_one_131 f_X8_91 fp_X8_6 (by first | decide | assumption | omega) rfl (by exact Nat.le_of_ble_eq_true rfl) rfl ?_
          refine z_aload_n (i := 0) dX8_one_134 rfl rfl ?_
          refine z_iconst (v := 2) dX8_one_135 (by decide) ?_
          refine z_iconst (v := 0) dX8_one_136 (by decide) ?_
          refine z_Vv (As := [_, _]) dX8_one_137 (by rfl) v_X8_step1 l_X8_75 (by first | decide | assumption | omega) rfl rfl rfl (by omega) (by decide) (Nat.le_of_ble_eq_true rfl) ?_
          refine s_X8_step1 (k := A.2.2.1) hz3.2.1 hg ?_
          refine z_iconst (v := 1) dX8_one_140 (by decide) ?_
          refine z_ret (r := 1) dX8_one_141 (hQ _ (zps_tr (zps_tr hzo hz2) (zps_tr hz3 (zps_stp (zps_self hz3)))) (fun _ => ?_)) (by rfl) rfl
          simp only [zup_s, pk_us, pk_un (show (6 : Nat) ≠ 7 by decide), h62 hA1]
          exact zi_m1 (by omega)
        · refine z_iconst (v := 0) dX8_one_122 (by decide) ?_
          have hA1 := bite.mp h_119
          rw [if_neg hA1] at epr
          rw [← epr, if_neg hA1] at hQ
          exact z_ret dX8_one_123 (hQ c2 (zps_tr hzo hz2) (fun w => absurd w hA1)) (by rfl) rfl
    · skip
      refine z_iload_n (i := 1) dX8_one_102 rfl rfl ?_
      refine z_bipush (v := 33) dX8_one_103 (by decide) ?_
      refine z_icmp_ne 142 dX8_one_105 (by decide) (fun h_105 => ?_) (fun h_105 => ?_)
      rotate_left
      · exfalso; grind
      exact cut142 n1 n2 b33
  refine z_aload_n (i := 0) dX8_one_0 rfl rfl ?_
  refine z_Vi (As := []) dX8_one_1 (by rfl) v_X8_look l_X8_71 (by first | decide | assumption | omega) rfl rfl rfl (by omega) (by decide) (Nat.le_of_ble_eq_true rfl) ?_
  refine t_look hz he hq ?_
  refine z_istore_n (i := 1) [_, _, _, _] dX8_one_4 rfl (by decide) rfl rfl ?_
  refine z_aload_n (i := 0) dX8_one_5 rfl rfl ?_
  refine z_iload_n (i := 1) dX8_one_6 rfl rfl ?_
  refine z_Vb (As := [_]) dX8_one_7 (by rfl) v_X8_isName l_X8_94 (by first | decide | assumption | omega) rfl rfl rfl (by omega) (by decide) (Nat.le_of_ble_eq_true rfl) ?_
  refine s_X8_isName (u := u) he.2.2.1 hu2 ?_
  refine z_if_eq 31 dX8_one_10 (by decide) (fun h_10 => ?_) (fun h_10 => ?_)
  · have n1 := bite.mp h_10
    refine z_iload_n (i := 1) dX8_one_31 rfl rfl ?_
    refine z_bipush (v := 48) dX8_one_32 (by decide) ?_
    refine z_bipush (v := 57) dX8_one_34 (by decide) ?_
    refine z_Sb (As := [_, _, _]) dX8_one_36 (by rfl) v_X8_in l_X8_47 rfl (by omega) (by decide) (Nat.le_of_ble_eq_true rfl) ?_
    refine s_X8_in ?_
    refine z_if_eq 102 dX8_one_39 (by decide) (fun h_39 => ?_) (fun h_39 => ?_)
    · exact cut102 n1 (bite.mp h_39)
    · refine z_iconst (v := 0) dX8_one_42 (by decide) ?_
      refine z_istore_n (i := 2) [_, _, _, _] dX8_one_43 rfl (by decide) rfl rfl ?_
      refine z_iconst (v := 0) dX8_one_44 (by decide) ?_
      refine z_istore_n (i := 3) [_, _, _, _] dX8_one_45 rfl (by decide) rfl rfl ?_
      have n2 : 48 ≤ lkF tp len q.1 ∧ lkF tp len q.1 ≤ 57 := Classical.byContradiction (fun w => h_39 (bite.mpr w))
      have hp := lk_lt (tp := tp) (len := len) (i := q.1) (fun e => by rw [e] at n2; exact absurd n2.1 (by decide))
      rw [if_neg n1, if_pos n2] at epr
      rw [← epr] at hQ
      exact nb 4 0 0 q c (by omega) hq (by omega) hz h6 (fun c' h1 h2 => hQ c' h1 (fun _ => h2))
  · have n1 : nmB u (lkF tp len q.1) := Classical.byContradiction (fun w => h_10 (bite.mpr w))
    have hp := lk_lt (tp := tp) (len := len) (i := q.1) (fun e => by rw [e] at n1; revert n1; unfold nmB; split <;> decide)
    rw [if_pos n1] at epr
    rw [← epr] at hQ
    refine z_aload_n (i := 0) dX8_one_13 rfl rfl ?_
    refine z_dup dX8_one_14 rfl ?_
    refine z_getf dX8_one_15 f_X8_57 (by first | decide | assumption | omega) rfl (by rfl) ?_
    refine z_iconst (v := 1) dX8_one_18 (by decide) ?_
    refine z_iadd dX8_one_19 ?_
    refine z_putfi dX8_one_20 f_X8_57 fp_X8_5 (by first | decide | assumption | omega) rfl (by exact Nat.le_of_ble_eq_true rfl) rfl ?_
    refine z_aload_n (i := 0) dX8_one_23 rfl rfl ?_
    refine z_iconst (v := 1) dX8_one_24 (by decide) ?_
    refine z_iload_n (i := 1) dX8_one_25 rfl rfl ?_
    refine z_Vv (As := [_, _]) dX8_one_26 (by rfl) v_X8_step1 l_X8_75 (by first | decide | assumption | omega) rfl rfl rfl (by omega) (by decide) (Nat.le_of_ble_eq_true rfl) ?_
    refine s_X8_step1 (k := q.2.1) hza.2.1 (by omega) ?_
    refine z_iconst (v := 1) dX8_one_29 (by decide) ?_
    exact z_ret (r := 1) dX8_one_30 (hQ _ (zps_tr hza (zps_stp (zps_self hza))) (fun _ => by simp only [zup_s, pk_un (show (6 : Nat) ≠ 7 by decide), pk_un (show (6 : Nat) ≠ 5 by decide), h6])) (by rfl) rfl
end P4
