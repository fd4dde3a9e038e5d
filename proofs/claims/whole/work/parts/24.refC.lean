/-! the reference's calls, twelve: move -/
section RC
variable {l : Launch} {E : zE} {ad : Nat → Nat} {c : zS} {Qf : Int32 → zS → Prop} {d n : Nat}
theorem o8_move {k i o j n : Int32} (hz : ∀ k, k < 4 → ∃ z : Nat, z ≤ 24 ∧ c 61 k = nI z) (hd : 3 ≤ d) (hQ : ∀ r c', (∀ k, k < 51 → c' k = c k) → (r, mst c') = o_move (mst c) k i o j n → Qf r c') : zCl l E ad mX8_move d [.ref (ad 51), .int k, .int i, .int o, .int j, .int n] c Qf := by
  refine z_enter (own := RX8) [some (.ref (ad 51)), some (.int k), some (.int i), some (.int o), some (.int j), some (.int n), none] (by decide +kernel) rfl rfl rfl (Nat.le_of_ble_eq_true rfl) ?_
  have good : ∀ (s t a b m za zb : Nat), s < 4 → t < 4 → k = nI s → o = nI t → n = nI m → i = nI a → j = nI b → a + m ≤ za → b + m ≤ zb → za ≤ 24 → zb ≤ 24 → (∀ g : zN, (∀ y, g y = if 24 * t + b ≤ y ∧ y < 24 * t + b + m then c 62 (24 * s + a + (y - (24 * t + b))) else c 62 y) → ∀ h, Qf n (zup (zup c 63 h) 62 g)) → zW l E ad RX8 cX8_move 7 1 d Qf 112 [some (.ref (ad 51)), some (.int k), some (.int i), some (.int o), some (.int j), some (.int n), none] [] c := by
    intro s t a b m za zb hs ht es et en ei ej ham hbm hza hzb hq
    subst es et en ei ej
    have loopB : ∀ (r x : Nat) (g h : zN), m - x < r → x ≤ m → (∀ y, y < m → h y = c 62 (24 * s + a + y)) → (∀ y, g y = if 24 * t + b ≤ y ∧ y < 24 * t + b + x then c 62 (24 * s + a + (y - (24 * t + b))) else c 62 y) → zW l E ad RX8 cX8_move 7 1 d Qf 152 [some (.ref (ad 51)), some (.int (nI s)), some (.int (nI a)), some (.int (nI t)), some (.int (nI b)), some (.int (nI m)), some (.int (nI x))] [] (zup (zup c 63 h) 62 g) := by
      intro r
      induction r with
      | zero => intro x g h q; omega
      | succ r ih =>
        intro x g h hr hx hh hg
        have hlt := nI_leI (a := m) (b := x) (by omega) (by omega)
        refine z_iload (i := 6) dX8_move_152 rfl ?_
        refine z_iload (i := 5) dX8_move_154 rfl ?_
        refine z_icmp_ge 187 dX8_move_156 (by decide) (fun h_156 => ?_) (fun h_156 => ?_)
        · have hxm : x = m := by have := hlt.mp h_156; omega
          subst hxm
          refine z_iload (i := 5) dX8_move_187 rfl ?_
          exact z_ret dX8_move_189 (hq g hg h) trivial rfl
        · have hxm : x < m := by have := mt hlt.mpr h_156; omega
          refine z_aload_n (i := 0) dX8_move_159 rfl rfl ?_
          refine z_getf dX8_move_160 f_X8_40 (by first | decide | assumption | omega) rfl (by rfl) ?_
          refine z_bipush (v := 24) dX8_move_163 (by decide) ?_
          refine z_iload_n (i := 3) dX8_move_165 rfl rfl ?_
          refine z_imul dX8_move_166 ?_
          refine z_iload (i := 4) dX8_move_167 rfl ?_
          refine z_iadd dX8_move_169 ?_
          refine z_iload (i := 6) dX8_move_170 rfl ?_
          refine z_iadd dX8_move_172 ?_
          refine z_aload_n (i := 0) dX8_move_173 rfl rfl ?_
          refine z_getf dX8_move_174 f_X8_43 (by first | decide | assumption | omega) rfl (by rfl) ?_
          refine z_iload (i := 6) dX8_move_177 rfl ?_
          refine z_iald (j := x) dX8_move_179 (by first | decide | assumption | omega) rfl (by rfl) (by first | decide | omega) (by first | decide | omega) ?_
          refine z_iast (j := 24 * t + b + x) dX8_move_180 (by first | decide | assumption | omega) (fun _ => rfl) (by show nI 24 * nI t + nI b + nI x = _; rw [pk_mul, nI_add, nI_add]) (by first | decide | omega) (by first | decide | omega) ?_
          refine z_iinc (i := 6) (v := 1) [_, _, _, _, _, _, _] dX8_move_181 rfl (by decide) (by decide) rfl rfl ?_
          refine z_goto 152 dX8_move_184 (by decide) ?_
          rw [nI_1, zup_s, zup_zup]
          refine ih (x + 1) _ h (by omega) (by omega) hh (fun y => ?_)
          rw [show zup (zup c 63 h) 62 g 63 = h from rfl, hh x hxm]
          unfold upd
          rw [hg y]
          by_cases q : y = 24 * t + b + x
          · rw [if_pos q, if_pos (by omega), q, show 24 * t + b + x - (24 * t + b) = x by omega]
          · rw [if_neg q]
            split
            · rw [if_pos (by omega)]
            · rw [if_neg (by omega)]
    have loopA : ∀ (r x : Nat) (h : zN), m - x < r → x ≤ m → (∀ y, y < x → h y = c 62 (24 * s + a + y)) → zW l E ad RX8 cX8_move 7 1 d Qf 115 [some (.ref (ad 51)), some (.int (nI s)), some (.int (nI a)), some (.int (nI t)), some (.int (nI b)), some (.int (nI m)), some (.int (nI x))] [] (zup c 63 h) := by
      intro r
      induction r with
      | zero => intro x h q; omega
      | succ r ih =>
        intro x h hr hx hh
        have hlt := nI_leI (a := m) (b := x) (by omega) (by omega)
        refine z_iload (i := 6) dX8_move_115 rfl ?_
        refine z_iload (i := 5) dX8_move_117 rfl ?_
        refine z_icmp_ge 149 dX8_move_119 (by decide) (fun h_119 => ?_) (fun h_119 => ?_)
        · have hxm : x = m := by have := hlt.mp h_119; omega
          subst hxm
          refine z_iconst (v := 0) dX8_move_149 (by decide) ?_
          refine z_istore (i := 6) [_, _, _, _, _, _, _] dX8_move_150 (by decide) rfl rfl ?_
          rw [← zup_id (c := zup c 63 h) (k := 62)]
          exact loopB (x + 1) 0 _ h (by omega) (by omega) hh (fun y => by rw [if_neg (by omega)]; rfl)
        · have hxm : x < m := by have := mt hlt.mpr h_119; omega
          refine z_aload_n (i := 0) dX8_move_122 rfl rfl ?_
          refine z_getf dX8_move_123 f_X8_43 (by first | decide | assumption | omega) rfl (by rfl) ?_
          refine z_iload (i := 6) dX8_move_126 rfl ?_
          refine z_aload_n (i := 0) dX8_move_128 rfl rfl ?_
          refine z_getf dX8_move_129 f_X8_40 (by first | decide | assumption | omega) rfl (by rfl) ?_
          refine z_bipush (v := 24) dX8_move_132 (by decide) ?_
          refine z_iload_n (i := 1) dX8_move_134 rfl rfl ?_
          refine z_imul dX8_move_135 ?_
          refine z_iload_n (i := 2) dX8_move_136 rfl rfl ?_
          refine z_iadd dX8_move_137 ?_
          refine z_iload (i := 6) dX8_move_138 rfl ?_
          refine z_iadd dX8_move_140 ?_
          refine z_iald (j := 24 * s + a + x) dX8_move_141 (by first | decide | assumption | omega) rfl (by show nI 24 * nI s + nI a + nI x = _; rw [pk_mul, nI_add, nI_add]) (by first | decide | omega) (by first | decide | omega) ?_
          refine z_iast (j := x) dX8_move_142 (by first | decide | assumption | omega) (fun _ => rfl) (by rfl) (by first | decide | omega) (by first | decide | omega) ?_
          refine z_iinc (i := 6) (v := 1) [_, _, _, _, _, _, _] dX8_move_143 rfl (by decide) (by decide) rfl rfl ?_
          refine z_goto 115 dX8_move_146 (by decide) ?_
          rw [nI_1, zup_s, zup_zup]
          refine ih (x + 1) _ (by omega) (by omega) (fun y hy => ?_)
          unfold upd
          by_cases q : y = x
          · rw [if_pos q, q]
            rfl
          · rw [if_neg q]
            exact hh y (by omega)
    refine z_iconst (v := 0) dX8_move_112 (by decide) ?_
    refine z_istore (i := 6) [_, _, _, _, _, _, _] dX8_move_113 (by decide) rfl rfl ?_
    rw [← zup_id (c := c) (k := 63)]
    exact loopA (m + 1) 0 (c 63) (by omega) (by omega) (fun y hy => by omega)
  by_cases hok : (0 ≤ k ∧ k ≤ 3) ∧ 0 ≤ o ∧ o ≤ 3
  · obtain ⟨s, hs, rfl⟩ := zj_of (x := k) (n := 4) hok.1.1 (by show k < (4 : Int32); grind) (by decide)
    obtain ⟨t, ht, rfl⟩ := zj_of (x := o) (n := 4) hok.2.1 (by show o < (4 : Int32); grind) (by decide)
    have eps : pn (nI s) = s := pn_nI (by omega)
    have ept : pn (nI t) = t := pn_nI (by omega)
    obtain ⟨za, hza, eza⟩ := hz s hs
    obtain ⟨zb, hzb, ezb⟩ := hz t ht
    have h1 : ∀ P : Prop, P → (P ↔ True) := fun P h => ⟨fun _ => trivial, fun _ => h⟩
    have b60 : (mst c).2.2.2.2.2.2.1 = c 60 := rfl
    have b61 : (mst c).2.2.2.2.2.2.2.1 = c 61 := rfl
    unfold o_move at hQ
    rw [if_pos hok, eps, ept, b60, b61] at hQ
    refine z_iload_n (i := 1) dX8_move_0 rfl rfl ?_
    refine z_Sb (As := [_]) dX8_move_1 (by rfl) v_X8_isSheet l_X8_252 rfl (by omega) (by decide) (Nat.le_of_ble_eq_true rfl) ?_
    refine s_X8_isSheet (by omega) ?_
    refine z_if_eq 14 dX8_move_4 (by decide) (fun h_4 => ?_) (fun h_4 => ?_)
    · exfalso; grind
    refine z_iload_n (i := 3) dX8_move_7 rfl rfl ?_
    refine z_Sb (As := [_]) dX8_move_8 (by rfl) v_X8_isSheet l_X8_252 rfl (by omega) (by decide) (Nat.le_of_ble_eq_true rfl) ?_
    refine s_X8_isSheet (by omega) ?_
    refine z_if_ne 20 dX8_move_11 (by decide) (fun h_11 => ?_) (fun h_11 => ?_)
    rotate_left
    · exfalso; grind
    refine z_aload_n (i := 0) dX8_move_20 rfl rfl ?_
    refine z_getf dX8_move_21 f_X8_34 (by first | decide | assumption | omega) rfl (by rfl) ?_
    refine z_iload_n (i := 1) dX8_move_24 rfl rfl ?_
    refine z_iald (j := s) dX8_move_25 (by first | decide | assumption | omega) rfl (by rfl) (by first | decide | omega) (by first | decide | omega) ?_
    refine z_if_eq 38 dX8_move_26 (by decide) (fun h_26 => ?_) (fun h_26 => ?_)
    · refine z_aload_n (i := 0) dX8_move_38 rfl rfl ?_
      refine z_iconst (v := 2) dX8_move_39 (by decide) ?_
      refine z_Vi (As := [_]) dX8_move_40 (by rfl) v_X8_error l_X8_51 (by first | decide | assumption | omega) rfl rfl rfl (by omega) (by decide) (Nat.le_of_ble_eq_true rfl) ?_
      refine s_X8_error (by rfl) (by first | decide | omega) ?_
      exact z_ret dX8_move_43 (hQ _ _ (by intro k hk; simp (disch := omega) only [zup_n]) (by rw [if_pos (by first | exact Or.inl (by assumption) | exact Or.inr (Classical.not_not.mp (by assumption)) | exact Or.inr (by assumption))]; rfl)) trivial rfl
    · refine z_aload_n (i := 0) dX8_move_29 rfl rfl ?_
      refine z_getf dX8_move_30 f_X8_34 (by first | decide | assumption | omega) rfl (by rfl) ?_
      refine z_iload_n (i := 3) dX8_move_33 rfl rfl ?_
      refine z_iald (j := t) dX8_move_34 (by first | decide | assumption | omega) rfl (by rfl) (by first | decide | omega) (by first | decide | omega) ?_
      refine z_if_ne 44 dX8_move_35 (by decide) (fun h_35 => ?_) (fun h_35 => ?_)
      · refine z_aload_n (i := 0) dX8_move_44 rfl rfl ?_
        refine z_getf dX8_move_45 f_X8_34 (by first | decide | assumption | omega) rfl (by rfl) ?_
        refine z_iload_n (i := 1) dX8_move_48 rfl rfl ?_
        refine z_iald (j := s) dX8_move_49 (by first | decide | assumption | omega) rfl (by rfl) (by first | decide | omega) (by first | decide | omega) ?_
        refine z_aload_n (i := 0) dX8_move_50 rfl rfl ?_
        refine z_getf dX8_move_51 f_X8_34 (by first | decide | assumption | omega) rfl (by rfl) ?_
        refine z_iload_n (i := 3) dX8_move_54 rfl rfl ?_
        refine z_iald (j := t) dX8_move_55 (by first | decide | assumption | omega) rfl (by rfl) (by first | decide | omega) (by first | decide | omega) ?_
        refine z_icmp_eq 65 dX8_move_56 (by decide) (fun h_56 => ?_) (fun h_56 => ?_)
        · refine z_iload (i := 5) dX8_move_65 rfl ?_
          refine z_if_lt 106 dX8_move_67 (by decide) (fun h_67 => ?_) (fun h_67 => ?_)
          · refine z_aload_n (i := 0) dX8_move_106 rfl rfl ?_
            refine z_iconst (v := 1) dX8_move_107 (by decide) ?_
            refine z_Vi (As := [_]) dX8_move_108 (by rfl) v_X8_error l_X8_51 (by first | decide | assumption | omega) rfl rfl rfl (by omega) (by decide) (Nat.le_of_ble_eq_true rfl) ?_
            refine s_X8_error (by rfl) (by first | decide | omega) ?_
            exact z_ret dX8_move_111 (hQ _ _ (by intro k hk; simp (disch := omega) only [zup_n]) (by rw [if_neg (by grind), if_neg (by grind), if_neg (by grind)]; rfl)) trivial rfl
          · refine z_iload_n (i := 2) dX8_move_70 rfl rfl ?_
            refine z_if_lt 106 dX8_move_71 (by decide) (fun h_71 => ?_) (fun h_71 => ?_)
            · refine z_aload_n (i := 0) dX8_move_106 rfl rfl ?_
              refine z_iconst (v := 1) dX8_move_107 (by decide) ?_
              refine z_Vi (As := [_]) dX8_move_108 (by rfl) v_X8_error l_X8_51 (by first | decide | assumption | omega) rfl rfl rfl (by omega) (by decide) (Nat.le_of_ble_eq_true rfl) ?_
              refine s_X8_error (by rfl) (by first | decide | omega) ?_
              exact z_ret dX8_move_111 (hQ _ _ (by intro k hk; simp (disch := omega) only [zup_n]) (by rw [if_neg (by grind), if_neg (by grind), if_neg (by grind)]; rfl)) trivial rfl
            · refine z_iload (i := 4) dX8_move_74 rfl ?_
              refine z_if_lt 106 dX8_move_76 (by decide) (fun h_76 => ?_) (fun h_76 => ?_)
              · refine z_aload_n (i := 0) dX8_move_106 rfl rfl ?_
                refine z_iconst (v := 1) dX8_move_107 (by decide) ?_
                refine z_Vi (As := [_]) dX8_move_108 (by rfl) v_X8_error l_X8_51 (by first | decide | assumption | omega) rfl rfl rfl (by omega) (by decide) (Nat.le_of_ble_eq_true rfl) ?_
                refine s_X8_error (by rfl) (by first | decide | omega) ?_
                exact z_ret dX8_move_111 (hQ _ _ (by intro k hk; simp (disch := omega) only [zup_n]) (by rw [if_neg (by grind), if_neg (by grind), if_neg (by grind)]; rfl)) trivial rfl
              · refine z_iload_n (i := 2) dX8_move_79 rfl rfl ?_
                refine z_aload_n (i := 0) dX8_move_80 rfl rfl ?_
                refine z_getf dX8_move_81 f_X8_37 (by first | decide | assumption | omega) rfl (by rfl) ?_
                refine z_iload_n (i := 1) dX8_move_84 rfl rfl ?_
                refine z_iald (j := s) dX8_move_85 (by first | decide | assumption | omega) rfl (by rfl) (by first | decide | omega) (by first | decide | omega) ?_
                refine z_iload (i := 5) dX8_move_86 rfl ?_
                refine z_isub dX8_move_88 ?_
                refine z_icmp_gt 106 dX8_move_89 (by decide) (fun h_89 => ?_) (fun h_89 => ?_)
                · refine z_aload_n (i := 0) dX8_move_106 rfl rfl ?_
                  refine z_iconst (v := 1) dX8_move_107 (by decide) ?_
                  refine z_Vi (As := [_]) dX8_move_108 (by rfl) v_X8_error l_X8_51 (by first | decide | assumption | omega) rfl rfl rfl (by omega) (by decide) (Nat.le_of_ble_eq_true rfl) ?_
                  refine s_X8_error (by rfl) (by first | decide | omega) ?_
                  exact z_ret dX8_move_111 (hQ _ _ (by intro k hk; simp (disch := omega) only [zup_n]) (by rw [if_neg (by grind), if_neg (by grind), if_neg (by grind)]; rfl)) trivial rfl
                · refine z_iload (i := 4) dX8_move_92 rfl ?_
                  refine z_aload_n (i := 0) dX8_move_94 rfl rfl ?_
                  refine z_getf dX8_move_95 f_X8_37 (by first | decide | assumption | omega) rfl (by rfl) ?_
                  refine z_iload_n (i := 3) dX8_move_98 rfl rfl ?_
                  refine z_iald (j := t) dX8_move_99 (by first | decide | assumption | omega) rfl (by rfl) (by first | decide | omega) (by first | decide | omega) ?_
                  refine z_iload (i := 5) dX8_move_100 rfl ?_
                  refine z_isub dX8_move_102 ?_
                  refine z_icmp_le 112 dX8_move_103 (by decide) (fun h_103 => ?_) (fun h_103 => ?_)
                  · have hn0 : 0 ≤ n := by grind
                    have hi0 : 0 ≤ i := by grind
                    have hj0 : 0 ≤ j := by grind
                    have hq1 : i ≤ nI za - n := by rw [← eza]; grind
                    have hq2 : j ≤ nI zb - n := by rw [← ezb]; grind
                    obtain ⟨m, a, em, ea, ham⟩ := mv_nat hza hn0 hi0 hq1
                    obtain ⟨m', b, em', eb, hbm⟩ := mv_nat hzb hn0 hj0 hq2
                    have emm : m' = m := by
                      have h9 : pn (nI m') = pn (nI m) := by rw [← em', ← em]
                      rw [pn_nI (by omega), pn_nI (by omega)] at h9
                      exact h9
                    subst emm
                    refine good s t a b m' za zb hs ht rfl rfl em ea eb ham hbm hza hzb (fun g hg h => hQ _ _ (by intro k hk; simp (disch := omega) only [zup_n]) ?_)
                    rw [if_neg (by grind), if_neg (by grind), if_pos ⟨hn0, hi0, hj0, by rw [eza]; exact hq1, by rw [ezb]; exact hq2⟩, ea, eb, em, pn_nI (by omega), pn_nI (by omega), pn_nI (by omega)]
                    rw [show (mst c).2.2.2.2.2.2.2.2 = c 62 from rfl, ← (funext hg : g = fun x => if 24 * t + b ≤ x ∧ x < 24 * t + b + m' then c 62 (24 * s + a + (x - (24 * t + b))) else c 62 x)]
                    rfl
                  · refine z_aload_n (i := 0) dX8_move_106 rfl rfl ?_
                    refine z_iconst (v := 1) dX8_move_107 (by decide) ?_
                    refine z_Vi (As := [_]) dX8_move_108 (by rfl) v_X8_error l_X8_51 (by first | decide | assumption | omega) rfl rfl rfl (by omega) (by decide) (Nat.le_of_ble_eq_true rfl) ?_
                    refine s_X8_error (by rfl) (by first | decide | omega) ?_
                    exact z_ret dX8_move_111 (hQ _ _ (by intro k hk; simp (disch := omega) only [zup_n]) (by rw [if_neg (by grind), if_neg (by grind), if_neg (by grind)]; rfl)) trivial rfl
        · refine z_aload_n (i := 0) dX8_move_59 rfl rfl ?_
          refine z_iconst (v := 5) dX8_move_60 (by decide) ?_
          refine z_Vi (As := [_]) dX8_move_61 (by rfl) v_X8_error l_X8_51 (by first | decide | assumption | omega) rfl rfl rfl (by omega) (by decide) (Nat.le_of_ble_eq_true rfl) ?_
          refine s_X8_error (by rfl) (by first | decide | omega) ?_
          exact z_ret dX8_move_64 (hQ _ _ (by intro k hk; simp (disch := omega) only [zup_n]) (by rw [if_neg (by grind), if_pos (by assumption)]; rfl)) trivial rfl
      · refine z_aload_n (i := 0) dX8_move_38 rfl rfl ?_
        refine z_iconst (v := 2) dX8_move_39 (by decide) ?_
        refine z_Vi (As := [_]) dX8_move_40 (by rfl) v_X8_error l_X8_51 (by first | decide | assumption | omega) rfl rfl rfl (by omega) (by decide) (Nat.le_of_ble_eq_true rfl) ?_
        refine s_X8_error (by rfl) (by first | decide | omega) ?_
        exact z_ret dX8_move_43 (hQ _ _ (by intro k hk; simp (disch := omega) only [zup_n]) (by rw [if_pos (by first | exact Or.inl (by assumption) | exact Or.inr (Classical.not_not.mp (by assumption)) | exact Or.inr (by assumption))]; rfl)) trivial rfl
  · skip
    refine z_iload_n (i := 1) dX8_move_0 rfl rfl ?_
    refine z_Sb (As := [_]) dX8_move_1 (by rfl) v_X8_isSheet l_X8_252 rfl (by omega) (by decide) (Nat.le_of_ble_eq_true rfl) ?_
    refine s_X8_isSheet (by omega) ?_
    refine z_if_eq 14 dX8_move_4 (by decide) (fun h_4 => ?_) (fun h_4 => ?_)
    · refine z_aload_n (i := 0) dX8_move_14 rfl rfl ?_
      refine z_iconst (v := 1) dX8_move_15 (by decide) ?_
      refine z_Vi (As := [_]) dX8_move_16 (by rfl) v_X8_error l_X8_51 (by first | decide | assumption | omega) rfl rfl rfl (by omega) (by decide) (Nat.le_of_ble_eq_true rfl) ?_
      refine s_X8_error (by rfl) (by first | decide | omega) ?_
      exact z_ret dX8_move_19 (hQ _ _ (by intro k hk; simp (disch := omega) only [zup_n]) (by unfold o_move; rw [if_neg hok]; rfl)) trivial rfl
    · refine z_iload_n (i := 3) dX8_move_7 rfl rfl ?_
      refine z_Sb (As := [_]) dX8_move_8 (by rfl) v_X8_isSheet l_X8_252 rfl (by omega) (by decide) (Nat.le_of_ble_eq_true rfl) ?_
      refine s_X8_isSheet (by omega) ?_
      refine z_if_ne 20 dX8_move_11 (by decide) (fun h_11 => ?_) (fun h_11 => ?_)
      · exfalso; grind
      · refine z_aload_n (i := 0) dX8_move_14 rfl rfl ?_
        refine z_iconst (v := 1) dX8_move_15 (by decide) ?_
        refine z_Vi (As := [_]) dX8_move_16 (by rfl) v_X8_error l_X8_51 (by first | decide | assumption | omega) rfl rfl rfl (by omega) (by decide) (Nat.le_of_ble_eq_true rfl) ?_
        refine s_X8_error (by rfl) (by first | decide | omega) ?_
        exact z_ret dX8_move_19 (hQ _ _ (by intro k hk; simp (disch := omega) only [zup_n]) (by unfold o_move; rw [if_neg hok]; rfl)) trivial rfl
end RC
