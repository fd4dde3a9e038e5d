/-! the reference's calls, eleven: sheets -/
theorem mv_nat {z : Nat} {n i : Int32} (hz : z ≤ 24) (h1 : 0 ≤ n) (h2 : 0 ≤ i) (h3 : i ≤ nI z - n) : ∃ m a : Nat, n = nI m ∧ i = nI a ∧ a + m ≤ z := by
  have hz' := nI_toInt (n := z) (by omega)
  rw [Int32.le_iff_toInt_le] at h1 h2 h3
  have h0 : (0 : Int32).toInt = 0 := rfl
  have hn := n.toInt_lt
  have e : (nI z - n).toInt = z - n.toInt := by
    rw [Int32.toInt_sub, hz', Int.bmod_eq_of_le] <;> omega
  refine ⟨n.toInt.toNat, i.toInt.toNat, ?_, ?_, by omega⟩
  · rw [← Int32.toInt_inj, nI_toInt] <;> omega
  · rw [← Int32.toInt_inj, nI_toInt] <;> omega
theorem in_nat {z : Nat} {i : Int32} (hz : z ≤ 100) (h : 0 ≤ i ∧ i ≤ nI z - 1) : ∃ j : Nat, j < z ∧ i = nI j := by
  rcases Nat.eq_zero_or_pos z with q | q
  · subst q
    have : (nI 0 - 1 : Int32) = -1 := rfl
    grind
  · rw [zi_m1 q] at h
    obtain ⟨j, hj, rfl⟩ := zj_of (x := i) (n := z) h.1 (by have := h.2; have h2 := nI_ltI (a := z - 1) (b := z) (by omega) (by omega); have h3 := h2.mpr (by omega); grind) (by omega)
    exact ⟨j, hj, rfl⟩
section RB
variable {l : Launch} {E : zE} {ad : Nat → Nat} {c : zS} {Qf : Int32 → zS → Prop} {d n : Nat}
theorem o8_sheet {k b m : Int32} (hd : 3 ≤ d) (hQ : ∀ r c', (∀ k, k < 51 → c' k = c k) → (r, mst c') = o_sheet (mst c) k b m → Qf r c') : zCl l E ad mX8_sheet d [.ref (ad 51), .int k, .int b, .int m] c Qf := by
  refine z_enter (own := RX8) [some (.ref (ad 51)), some (.int k), some (.int b), some (.int m), none] (by decide +kernel) rfl rfl rfl (Nat.le_of_ble_eq_true rfl) ?_
  have cut86 : ∀ (s : Nat) (x : Int32), s < 4 → k = nI s → ((0 ≤ nI s ∧ nI s ≤ 3) ∧ (b = 0 ∨ b = 8 ∨ b = 16 ∨ b = 32)) → ¬ (¬ b = 0 ∧ m < 0) → ¬ (¬ b = 0 ∧ 24 < m) → x = (if b = 0 then 0 else m) → zW l E ad RX8 cX8_sheet 5 1 d Qf 86 [some (.ref (ad 51)), some (.int (nI s)), some (.int b), some (.int m), none] [.int x, .int (nI s), .ref (ad 61)] (zup c 60 (upd (c 60) s b)) := by
    intro s x hs es hok h1 h2 hx
    subst es
    have eps : pn (nI s) = s := pn_nI (by omega)
    have loop : ∀ (r i : Nat) (g : zN), 24 - i < r → i ≤ 24 → (∀ y, g y = if 24 * s ≤ y ∧ y < 24 * s + i then 0 else c 62 y) → zW l E ad RX8 cX8_sheet 5 1 d Qf 90 [some (.ref (ad 51)), some (.int (nI s)), some (.int b), some (.int m), some (.int (nI i))] [] (zup (zup (zup c 60 (upd (c 60) s b)) 61 (upd (c 61) s x)) 62 g) := by
      intro r
      induction r with
      | zero => intro i g h; omega
      | succ r ih =>
        intro i g hr hi hg
        have hlt : (24 : Int32) ≤ nI i ↔ 24 ≤ i := nI_leI (a := 24) (b := i) (by omega) (by omega)
        refine z_iload (i := 4) dX8_sheet_90 rfl ?_
        refine z_bipush (v := 24) dX8_sheet_92 (by decide) ?_
        refine z_icmp_ge 116 dX8_sheet_94 (by decide) (fun h_94 => ?_) (fun h_94 => ?_)
        · have hi24 : i = 24 := by have := hlt.mp h_94; omega
          subst hi24
          refine z_iconst (v := 1) dX8_sheet_116 (by decide) ?_
          exact z_ret dX8_sheet_117 (hQ _ _ (by intro k hk; simp (disch := omega) only [zup_n]) (by
            unfold o_sheet
            rw [if_pos hok, if_neg h1, if_neg h2, eps, ← hx, show g = (fun i => if 24 * s ≤ i ∧ i < 24 * s + 24 then 0 else c 62 i) from funext hg]
            rfl)) trivial rfl
        · have hi24 : i < 24 := by have := mt hlt.mpr h_94; omega
          refine z_aload_n (i := 0) dX8_sheet_97 rfl rfl ?_
          refine z_getf dX8_sheet_98 f_X8_40 (by first | decide | assumption | omega) rfl (by rfl) ?_
          refine z_bipush (v := 24) dX8_sheet_101 (by decide) ?_
          refine z_iload_n (i := 1) dX8_sheet_103 rfl rfl ?_
          refine z_imul dX8_sheet_104 ?_
          refine z_iload (i := 4) dX8_sheet_105 rfl ?_
          refine z_iadd dX8_sheet_107 ?_
          refine z_iconst (v := 0) dX8_sheet_108 (by decide) ?_
          refine z_iast (j := 24 * s + i) dX8_sheet_109 (by first | decide | assumption | omega) (fun _ => rfl) (by show nI 24 * nI s + nI i = _; rw [pk_mul, nI_add]) (by first | decide | omega) (by first | decide | omega) ?_
          refine z_iinc (i := 4) (v := 1) [_, _, _, _, _] dX8_sheet_110 rfl (by decide) (by decide) rfl rfl ?_
          refine z_goto 90 dX8_sheet_113 (by decide) ?_
          rw [nI_1]
          rw [zup_s, zup_zup]
          refine ih (i + 1) _ (by omega) (by omega) (fun y => ?_)
          unfold upd
          rw [hg y]
          grind
    refine z_iast (j := s) dX8_sheet_86 (by first | decide | assumption | omega) (fun _ => rfl) (by rfl) (by first | decide | omega) (by first | decide | omega) ?_
    refine z_iconst (v := 0) dX8_sheet_87 (by decide) ?_
    refine z_istore (i := 4) [_, _, _, _, _] dX8_sheet_88 (by decide) rfl rfl ?_
    exact loop 25 0 (c 62) (by omega) (by omega) (fun y => by rw [if_neg (by omega)])
  have cut35 : ((0 ≤ k ∧ k ≤ 3) ∧ (b = 0 ∨ b = 8 ∨ b = 16 ∨ b = 32)) → zW l E ad RX8 cX8_sheet 5 1 d Qf 35 [some (.ref (ad 51)), some (.int k), some (.int b), some (.int m), none] [] c := by
    intro hok
    obtain ⟨s, hs, rfl⟩ := zj_of (x := k) (n := 4) hok.1.1 (by show k < (4 : Int32); grind) (by decide)
    refine z_iload_n (i := 2) dX8_sheet_35 rfl rfl ?_
    refine z_if_eq 49 dX8_sheet_36 (by decide) (fun h_36 => ?_) (fun h_36 => ?_)
    · refine z_iload_n (i := 2) dX8_sheet_49 rfl rfl ?_
      refine z_if_eq 65 dX8_sheet_50 (by decide) (fun h_50 => ?_) (fun h_50 => ?_)
      · refine z_aload_n (i := 0) dX8_sheet_65 rfl rfl ?_
        refine z_getf dX8_sheet_66 f_X8_34 (by first | decide | assumption | omega) rfl (by rfl) ?_
        refine z_iload_n (i := 1) dX8_sheet_69 rfl rfl ?_
        refine z_iload_n (i := 2) dX8_sheet_70 rfl rfl ?_
        refine z_iast (j := s) dX8_sheet_71 (by first | decide | assumption | omega) (fun _ => rfl) (by rfl) (by first | decide | omega) (by first | decide | omega) ?_
        refine z_aload_n (i := 0) dX8_sheet_72 rfl rfl ?_
        refine z_getf dX8_sheet_73 f_X8_37 (by first | decide | assumption | omega) rfl (by rfl) ?_
        refine z_iload_n (i := 1) dX8_sheet_76 rfl rfl ?_
        refine z_iload_n (i := 2) dX8_sheet_77 rfl rfl ?_
        refine z_if_ne 85 dX8_sheet_78 (by decide) (fun h_78 => ?_) (fun h_78 => ?_)
        · refine z_iload_n (i := 3) dX8_sheet_85 rfl rfl ?_
          exact cut86 s _ hs rfl hok (by grind) (by grind) (by grind)
        · refine z_iconst (v := 0) dX8_sheet_81 (by decide) ?_
          refine z_goto 86 dX8_sheet_82 (by decide) ?_
          exact cut86 s _ hs rfl hok (by grind) (by grind) (by grind)
      · refine z_iload_n (i := 3) dX8_sheet_53 rfl rfl ?_
        refine z_bipush (v := 24) dX8_sheet_54 (by decide) ?_
        refine z_icmp_le 65 dX8_sheet_56 (by decide) (fun h_56 => ?_) (fun h_56 => ?_)
        · refine z_aload_n (i := 0) dX8_sheet_65 rfl rfl ?_
          refine z_getf dX8_sheet_66 f_X8_34 (by first | decide | assumption | omega) rfl (by rfl) ?_
          refine z_iload_n (i := 1) dX8_sheet_69 rfl rfl ?_
          refine z_iload_n (i := 2) dX8_sheet_70 rfl rfl ?_
          refine z_iast (j := s) dX8_sheet_71 (by first | decide | assumption | omega) (fun _ => rfl) (by rfl) (by first | decide | omega) (by first | decide | omega) ?_
          refine z_aload_n (i := 0) dX8_sheet_72 rfl rfl ?_
          refine z_getf dX8_sheet_73 f_X8_37 (by first | decide | assumption | omega) rfl (by rfl) ?_
          refine z_iload_n (i := 1) dX8_sheet_76 rfl rfl ?_
          refine z_iload_n (i := 2) dX8_sheet_77 rfl rfl ?_
          refine z_if_ne 85 dX8_sheet_78 (by decide) (fun h_78 => ?_) (fun h_78 => ?_)
          · refine z_iload_n (i := 3) dX8_sheet_85 rfl rfl ?_
            exact cut86 s _ hs rfl hok (by grind) (by grind) (by grind)
          · refine z_iconst (v := 0) dX8_sheet_81 (by decide) ?_
            refine z_goto 86 dX8_sheet_82 (by decide) ?_
            exact cut86 s _ hs rfl hok (by grind) (by grind) (by grind)
        · refine z_aload_n (i := 0) dX8_sheet_59 rfl rfl ?_
          refine z_iconst (v := 1) dX8_sheet_60 (by decide) ?_
          refine z_Vi (As := [_]) dX8_sheet_61 (by rfl) v_X8_error l_X8_51 (by first | decide | assumption | omega) rfl rfl rfl (by omega) (by decide) (Nat.le_of_ble_eq_true rfl) ?_
          refine s_X8_error (by rfl) (by first | decide | omega) ?_
          exact z_ret dX8_sheet_64 (hQ _ _ (by intro k hk; simp (disch := omega) only [zup_n]) (by unfold o_sheet; rw [if_pos hok, if_neg (by grind), if_pos (by grind)]; rfl)) trivial rfl
    · refine z_iload_n (i := 3) dX8_sheet_39 rfl rfl ?_
      refine z_if_ge 49 dX8_sheet_40 (by decide) (fun h_40 => ?_) (fun h_40 => ?_)
      · refine z_iload_n (i := 2) dX8_sheet_49 rfl rfl ?_
        refine z_if_eq 65 dX8_sheet_50 (by decide) (fun h_50 => ?_) (fun h_50 => ?_)
        · refine z_aload_n (i := 0) dX8_sheet_65 rfl rfl ?_
          refine z_getf dX8_sheet_66 f_X8_34 (by first | decide | assumption | omega) rfl (by rfl) ?_
          refine z_iload_n (i := 1) dX8_sheet_69 rfl rfl ?_
          refine z_iload_n (i := 2) dX8_sheet_70 rfl rfl ?_
          refine z_iast (j := s) dX8_sheet_71 (by first | decide | assumption | omega) (fun _ => rfl) (by rfl) (by first | decide | omega) (by first | decide | omega) ?_
          refine z_aload_n (i := 0) dX8_sheet_72 rfl rfl ?_
          refine z_getf dX8_sheet_73 f_X8_37 (by first | decide | assumption | omega) rfl (by rfl) ?_
          refine z_iload_n (i := 1) dX8_sheet_76 rfl rfl ?_
          refine z_iload_n (i := 2) dX8_sheet_77 rfl rfl ?_
          refine z_if_ne 85 dX8_sheet_78 (by decide) (fun h_78 => ?_) (fun h_78 => ?_)
          · refine z_iload_n (i := 3) dX8_sheet_85 rfl rfl ?_
            exact cut86 s _ hs rfl hok (by grind) (by grind) (by grind)
          · refine z_iconst (v := 0) dX8_sheet_81 (by decide) ?_
            refine z_goto 86 dX8_sheet_82 (by decide) ?_
            exact cut86 s _ hs rfl hok (by grind) (by grind) (by grind)
        · refine z_iload_n (i := 3) dX8_sheet_53 rfl rfl ?_
          refine z_bipush (v := 24) dX8_sheet_54 (by decide) ?_
          refine z_icmp_le 65 dX8_sheet_56 (by decide) (fun h_56 => ?_) (fun h_56 => ?_)
          · refine z_aload_n (i := 0) dX8_sheet_65 rfl rfl ?_
            refine z_getf dX8_sheet_66 f_X8_34 (by first | decide | assumption | omega) rfl (by rfl) ?_
            refine z_iload_n (i := 1) dX8_sheet_69 rfl rfl ?_
            refine z_iload_n (i := 2) dX8_sheet_70 rfl rfl ?_
            refine z_iast (j := s) dX8_sheet_71 (by first | decide | assumption | omega) (fun _ => rfl) (by rfl) (by first | decide | omega) (by first | decide | omega) ?_
            refine z_aload_n (i := 0) dX8_sheet_72 rfl rfl ?_
            refine z_getf dX8_sheet_73 f_X8_37 (by first | decide | assumption | omega) rfl (by rfl) ?_
            refine z_iload_n (i := 1) dX8_sheet_76 rfl rfl ?_
            refine z_iload_n (i := 2) dX8_sheet_77 rfl rfl ?_
            refine z_if_ne 85 dX8_sheet_78 (by decide) (fun h_78 => ?_) (fun h_78 => ?_)
            · refine z_iload_n (i := 3) dX8_sheet_85 rfl rfl ?_
              exact cut86 s _ hs rfl hok (by grind) (by grind) (by grind)
            · refine z_iconst (v := 0) dX8_sheet_81 (by decide) ?_
              refine z_goto 86 dX8_sheet_82 (by decide) ?_
              exact cut86 s _ hs rfl hok (by grind) (by grind) (by grind)
          · refine z_aload_n (i := 0) dX8_sheet_59 rfl rfl ?_
            refine z_iconst (v := 1) dX8_sheet_60 (by decide) ?_
            refine z_Vi (As := [_]) dX8_sheet_61 (by rfl) v_X8_error l_X8_51 (by first | decide | assumption | omega) rfl rfl rfl (by omega) (by decide) (Nat.le_of_ble_eq_true rfl) ?_
            refine s_X8_error (by rfl) (by first | decide | omega) ?_
            exact z_ret dX8_sheet_64 (hQ _ _ (by intro k hk; simp (disch := omega) only [zup_n]) (by unfold o_sheet; rw [if_pos hok, if_neg (by grind), if_pos (by grind)]; rfl)) trivial rfl
      · refine z_aload_n (i := 0) dX8_sheet_43 rfl rfl ?_
        refine z_iconst (v := 3) dX8_sheet_44 (by decide) ?_
        refine z_Vi (As := [_]) dX8_sheet_45 (by rfl) v_X8_error l_X8_51 (by first | decide | assumption | omega) rfl rfl rfl (by omega) (by decide) (Nat.le_of_ble_eq_true rfl) ?_
        refine s_X8_error (by rfl) (by first | decide | omega) ?_
        exact z_ret dX8_sheet_48 (hQ _ _ (by intro k hk; simp (disch := omega) only [zup_n]) (by unfold o_sheet; rw [if_pos hok, if_pos (by grind)]; rfl)) trivial rfl
  refine z_iload_n (i := 1) dX8_sheet_0 rfl rfl ?_
  refine z_Sb (As := [_]) dX8_sheet_1 (by rfl) v_X8_isSheet l_X8_252 rfl (by omega) (by decide) (Nat.le_of_ble_eq_true rfl) ?_
  refine s_X8_isSheet (by omega) ?_
  refine z_if_eq 29 dX8_sheet_4 (by decide) (fun h_4 => ?_) (fun h_4 => ?_)
  · refine z_aload_n (i := 0) dX8_sheet_29 rfl rfl ?_
    refine z_iconst (v := 1) dX8_sheet_30 (by decide) ?_
    refine z_Vi (As := [_]) dX8_sheet_31 (by rfl) v_X8_error l_X8_51 (by first | decide | assumption | omega) rfl rfl rfl (by omega) (by decide) (Nat.le_of_ble_eq_true rfl) ?_
    refine s_X8_error (by rfl) (by first | decide | omega) ?_
    exact z_ret dX8_sheet_34 (hQ _ _ (by intro k hk; simp (disch := omega) only [zup_n]) (by unfold o_sheet; rw [if_neg (by grind)]; rfl)) trivial rfl
  · refine z_iload_n (i := 2) dX8_sheet_7 rfl rfl ?_
    refine z_if_eq 35 dX8_sheet_8 (by decide) (fun h_8 => ?_) (fun h_8 => ?_)
    · exact cut35 (by grind)
    · refine z_iload_n (i := 2) dX8_sheet_11 rfl rfl ?_
      refine z_bipush (v := 8) dX8_sheet_12 (by decide) ?_
      refine z_icmp_eq 35 dX8_sheet_14 (by decide) (fun h_14 => ?_) (fun h_14 => ?_)
      · exact cut35 (by grind)
      · refine z_iload_n (i := 2) dX8_sheet_17 rfl rfl ?_
        refine z_bipush (v := 16) dX8_sheet_18 (by decide) ?_
        refine z_icmp_eq 35 dX8_sheet_20 (by decide) (fun h_20 => ?_) (fun h_20 => ?_)
        · exact cut35 (by grind)
        · refine z_iload_n (i := 2) dX8_sheet_23 rfl rfl ?_
          refine z_bipush (v := 32) dX8_sheet_24 (by decide) ?_
          refine z_icmp_eq 35 dX8_sheet_26 (by decide) (fun h_26 => ?_) (fun h_26 => ?_)
          · exact cut35 (by grind)
          · refine z_aload_n (i := 0) dX8_sheet_29 rfl rfl ?_
            refine z_iconst (v := 1) dX8_sheet_30 (by decide) ?_
            refine z_Vi (As := [_]) dX8_sheet_31 (by rfl) v_X8_error l_X8_51 (by first | decide | assumption | omega) rfl rfl rfl (by omega) (by decide) (Nat.le_of_ble_eq_true rfl) ?_
            refine s_X8_error (by rfl) (by first | decide | omega) ?_
            exact z_ret dX8_sheet_34 (hQ _ _ (by intro k hk; simp (disch := omega) only [zup_n]) (by unfold o_sheet; rw [if_neg (by grind)]; rfl)) trivial rfl
theorem o8_put {k i v : Int32} (hz : ∀ k, k < 4 → ∃ z : Nat, z ≤ 24 ∧ c 61 k = nI z) (hd : 3 ≤ d) (hQ : ∀ r c', (∀ k, k < 51 → c' k = c k) → (r, mst c') = o_put (mst c) k i v → Qf r c') : zCl l E ad mX8_put d [.ref (ad 51), .int k, .int i, .int v] c Qf := by
  refine z_enter (own := RX8) [some (.ref (ad 51)), some (.int k), some (.int i), some (.int v), none] (by decide +kernel) rfl rfl rfl (Nat.le_of_ble_eq_true rfl) ?_
  by_cases hok : 0 ≤ k ∧ k ≤ 3
  · obtain ⟨s, hs, rfl⟩ := zj_of (x := k) (n := 4) hok.1 (by show k < (4 : Int32); grind) (by decide)
    have eps : pn (nI s) = s := pn_nI (by omega)
    obtain ⟨z, hz2, hzs⟩ := hz s hs
    by_cases hb : c 60 s = 0
    · skip
      refine z_iload_n (i := 1) dX8_put_0 rfl rfl ?_
      refine z_Sb (As := [_]) dX8_put_1 (by rfl) v_X8_isSheet l_X8_252 rfl (by omega) (by decide) (Nat.le_of_ble_eq_true rfl) ?_
      refine s_X8_isSheet (by omega) ?_
      refine z_if_ne 13 dX8_put_4 (by decide) (fun h_4 => ?_) (fun h_4 => ?_)
      rotate_left
      · exfalso; grind
      refine z_aload_n (i := 0) dX8_put_13 rfl rfl ?_
      refine z_getf dX8_put_14 f_X8_34 (by first | decide | assumption | omega) rfl (by rfl) ?_
      refine z_iload_n (i := 1) dX8_put_17 rfl rfl ?_
      refine z_iald (j := s) dX8_put_18 (by first | decide | assumption | omega) rfl (by rfl) (by first | decide | omega) (by first | decide | omega) ?_
      refine z_if_ne 28 dX8_put_19 (by decide) (fun h_19 => ?_) (fun h_19 => ?_)
      · exact absurd hb h_19
      refine z_aload_n (i := 0) dX8_put_22 rfl rfl ?_
      refine z_iconst (v := 2) dX8_put_23 (by decide) ?_
      refine z_Vi (As := [_]) dX8_put_24 (by rfl) v_X8_error l_X8_51 (by first | decide | assumption | omega) rfl rfl rfl (by omega) (by decide) (Nat.le_of_ble_eq_true rfl) ?_
      refine s_X8_error (by rfl) (by first | decide | omega) ?_
      exact z_ret dX8_put_27 (hQ _ _ (by intro k hk; simp (disch := omega) only [zup_n]) (by unfold o_put; rw [if_pos hok, if_pos (by rw [eps]; exact hb)]; rfl)) trivial rfl
    · by_cases hi : 0 ≤ i ∧ i ≤ c 61 s - 1
      · have hi0 := hi
        rw [hzs] at hi0
        obtain ⟨j, hj, rfl⟩ := in_nat (by omega) hi0
        have epj : pn (nI j) = j := pn_nI (by omega)
        refine z_iload_n (i := 1) dX8_put_0 rfl rfl ?_
        refine z_Sb (As := [_]) dX8_put_1 (by rfl) v_X8_isSheet l_X8_252 rfl (by omega) (by decide) (Nat.le_of_ble_eq_true rfl) ?_
        refine s_X8_isSheet (by omega) ?_
        refine z_if_ne 13 dX8_put_4 (by decide) (fun h_4 => ?_) (fun h_4 => ?_)
        rotate_left
        · exfalso; grind
        refine z_aload_n (i := 0) dX8_put_13 rfl rfl ?_
        refine z_getf dX8_put_14 f_X8_34 (by first | decide | assumption | omega) rfl (by rfl) ?_
        refine z_iload_n (i := 1) dX8_put_17 rfl rfl ?_
        refine z_iald (j := s) dX8_put_18 (by first | decide | assumption | omega) rfl (by rfl) (by first | decide | omega) (by first | decide | omega) ?_
        refine z_if_ne 28 dX8_put_19 (by decide) (fun h_19 => ?_) (fun h_19 => ?_)
        rotate_left
        · exact absurd (by assumption) hb
        refine z_iload_n (i := 2) dX8_put_28 rfl rfl ?_
        refine z_iconst (v := 0) dX8_put_29 (by decide) ?_
        refine z_aload_n (i := 0) dX8_put_30 rfl rfl ?_
        refine z_getf dX8_put_31 f_X8_37 (by first | decide | assumption | omega) rfl (by rfl) ?_
        refine z_iload_n (i := 1) dX8_put_34 rfl rfl ?_
        refine z_iald (j := s) dX8_put_35 (by first | decide | assumption | omega) rfl (by rfl) (by first | decide | omega) (by first | decide | omega) ?_
        refine z_iconst (v := 1) dX8_put_36 (by decide) ?_
        refine z_isub dX8_put_37 ?_
        refine z_Sb (As := [_, _, _]) dX8_put_38 (by rfl) v_X8_in l_X8_47 rfl (by omega) (by decide) (Nat.le_of_ble_eq_true rfl) ?_
        refine s_X8_in ?_
        refine z_if_ne 50 dX8_put_41 (by decide) (fun h_41 => ?_) (fun h_41 => ?_)
        rotate_left
        · exfalso; grind
        refine z_bipush (v := 32) dX8_put_50 (by decide) ?_
        refine z_aload_n (i := 0) dX8_put_52 rfl rfl ?_
        refine z_getf dX8_put_53 f_X8_34 (by first | decide | assumption | omega) rfl (by rfl) ?_
        refine z_iload_n (i := 1) dX8_put_56 rfl rfl ?_
        refine z_iald (j := s) dX8_put_57 (by first | decide | assumption | omega) rfl (by rfl) (by first | decide | omega) (by first | decide | omega) ?_
        refine z_isub dX8_put_58 ?_
        refine z_istore (i := 4) [_, _, _, _, _] dX8_put_59 (by decide) rfl rfl ?_
        refine z_aload_n (i := 0) dX8_put_61 rfl rfl ?_
        refine z_getf dX8_put_62 f_X8_40 (by first | decide | assumption | omega) rfl (by rfl) ?_
        refine z_bipush (v := 24) dX8_put_65 (by decide) ?_
        refine z_iload_n (i := 1) dX8_put_67 rfl rfl ?_
        refine z_imul dX8_put_68 ?_
        refine z_iload_n (i := 2) dX8_put_69 rfl rfl ?_
        refine z_iadd dX8_put_70 ?_
        refine z_iload_n (i := 3) dX8_put_71 rfl rfl ?_
        refine z_iload (i := 4) dX8_put_72 rfl ?_
        refine z_ishl dX8_put_74 ?_
        refine z_iload (i := 4) dX8_put_75 rfl ?_
        refine z_ishr dX8_put_77 ?_
        refine z_iast (j := 24 * s + j) dX8_put_78 (by first | decide | assumption | omega) (fun _ => rfl) (by show nI 24 * nI s + nI j = _; rw [pk_mul, nI_add]) (by first | decide | omega) (by first | decide | omega) ?_
        refine z_iconst (v := 1) dX8_put_79 (by decide) ?_
        exact z_ret dX8_put_80 (hQ _ _ (by intro k hk; simp (disch := omega) only [zup_n]) (by unfold o_put; rw [if_pos hok, eps, epj, if_neg (show ¬ (mst c).2.2.2.2.2.2.1 s = 0 from hb), if_pos (show 0 ≤ nI j ∧ nI j ≤ (mst c).2.2.2.2.2.2.2.1 s - 1 from hi)]; rfl)) trivial rfl
      · skip
        refine z_iload_n (i := 1) dX8_put_0 rfl rfl ?_
        refine z_Sb (As := [_]) dX8_put_1 (by rfl) v_X8_isSheet l_X8_252 rfl (by omega) (by decide) (Nat.le_of_ble_eq_true rfl) ?_
        refine s_X8_isSheet (by omega) ?_
        refine z_if_ne 13 dX8_put_4 (by decide) (fun h_4 => ?_) (fun h_4 => ?_)
        rotate_left
        · exfalso; grind
        refine z_aload_n (i := 0) dX8_put_13 rfl rfl ?_
        refine z_getf dX8_put_14 f_X8_34 (by first | decide | assumption | omega) rfl (by rfl) ?_
        refine z_iload_n (i := 1) dX8_put_17 rfl rfl ?_
        refine z_iald (j := s) dX8_put_18 (by first | decide | assumption | omega) rfl (by rfl) (by first | decide | omega) (by first | decide | omega) ?_
        refine z_if_ne 28 dX8_put_19 (by decide) (fun h_19 => ?_) (fun h_19 => ?_)
        rotate_left
        · exact absurd (by assumption) hb
        refine z_iload_n (i := 2) dX8_put_28 rfl rfl ?_
        refine z_iconst (v := 0) dX8_put_29 (by decide) ?_
        refine z_aload_n (i := 0) dX8_put_30 rfl rfl ?_
        refine z_getf dX8_put_31 f_X8_37 (by first | decide | assumption | omega) rfl (by rfl) ?_
        refine z_iload_n (i := 1) dX8_put_34 rfl rfl ?_
        refine z_iald (j := s) dX8_put_35 (by first | decide | assumption | omega) rfl (by rfl) (by first | decide | omega) (by first | decide | omega) ?_
        refine z_iconst (v := 1) dX8_put_36 (by decide) ?_
        refine z_isub dX8_put_37 ?_
        refine z_Sb (As := [_, _, _]) dX8_put_38 (by rfl) v_X8_in l_X8_47 rfl (by omega) (by decide) (Nat.le_of_ble_eq_true rfl) ?_
        refine s_X8_in ?_
        refine z_if_ne 50 dX8_put_41 (by decide) (fun h_41 => ?_) (fun h_41 => ?_)
        · exfalso; grind
        refine z_aload_n (i := 0) dX8_put_44 rfl rfl ?_
        refine z_iconst (v := 1) dX8_put_45 (by decide) ?_
        refine z_Vi (As := [_]) dX8_put_46 (by rfl) v_X8_error l_X8_51 (by first | decide | assumption | omega) rfl rfl rfl (by omega) (by decide) (Nat.le_of_ble_eq_true rfl) ?_
        refine s_X8_error (by rfl) (by first | decide | omega) ?_
        exact z_ret dX8_put_49 (hQ _ _ (by intro k hk; simp (disch := omega) only [zup_n]) (by unfold o_put; rw [if_pos hok, eps, if_neg (show ¬ (mst c).2.2.2.2.2.2.1 s = 0 from hb), if_neg (show ¬ (0 ≤ i ∧ i ≤ (mst c).2.2.2.2.2.2.2.1 s - 1) from hi)]; rfl)) trivial rfl
  · skip
    refine z_iload_n (i := 1) dX8_put_0 rfl rfl ?_
    refine z_Sb (As := [_]) dX8_put_1 (by rfl) v_X8_isSheet l_X8_252 rfl (by omega) (by decide) (Nat.le_of_ble_eq_true rfl) ?_
    refine s_X8_isSheet (by omega) ?_
    refine z_if_ne 13 dX8_put_4 (by decide) (fun h_4 => ?_) (fun h_4 => ?_)
    · exfalso; grind
    refine z_aload_n (i := 0) dX8_put_7 rfl rfl ?_
    refine z_iconst (v := 1) dX8_put_8 (by decide) ?_
    refine z_Vi (As := [_]) dX8_put_9 (by rfl) v_X8_error l_X8_51 (by first | decide | assumption | omega) rfl rfl rfl (by omega) (by decide) (Nat.le_of_ble_eq_true rfl) ?_
    refine s_X8_error (by rfl) (by first | decide | omega) ?_
    exact z_ret dX8_put_12 (hQ _ _ (by intro k hk; simp (disch := omega) only [zup_n]) (by unfold o_put; rw [if_neg hok]; rfl)) trivial rfl
theorem o8_sures {k : Int32} (hv : vaF (c 52) n) (hz : ∀ k, k < 4 → ∃ z : Nat, z ≤ 24 ∧ c 61 k = nI z) (hd : 4 ≤ d) (hQ : ∀ r c', (∀ k, k < 51 → c' k = c k) → (r, mst c') = o_sures (mst c) k → Qf r c') : zCl l E ad mX8_sures d [.ref (ad 51), .int k] c Qf := by
  obtain ⟨hn, hn6, hw0, hw1⟩ := id hv
  have hpn : pn (c 52 5) = n := by rw [hn]; exact pn_nI (by omega)
  refine z_enter (own := RX8) [some (.ref (ad 51)), some (.int k), none, none] (by decide +kernel) rfl rfl rfl (Nat.le_of_ble_eq_true rfl) ?_
  by_cases hok : 0 ≤ k ∧ k ≤ 3
  · obtain ⟨s, hs, rfl⟩ := zj_of (x := k) (n := 4) hok.1 (by show k < (4 : Int32); grind) (by decide)
    have eps : pn (nI s) = s := pn_nI (by omega)
    obtain ⟨z, hz2, hzs⟩ := hz s hs
    have epz : pn (c 61 s) = z := by rw [hzs]; exact pn_nI (by omega)
    by_cases hb : c 60 s = 0
    · skip
      refine z_aload_n (i := 0) dX8_sures_0 rfl rfl ?_
      refine z_iload_n (i := 1) dX8_sures_1 rfl rfl ?_
      refine z_Vi (As := [_]) dX8_sures_2 (by rfl) v_X8_lacks l_X8_215 (by first | decide | assumption | omega) rfl rfl rfl (by omega) (by decide) (Nat.le_of_ble_eq_true rfl) ?_
      refine s_X8_lacks (by omega) ?_
      rw [if_pos hok, eps, if_pos hb]
      refine z_istore_n (i := 2) [_, _, _, _] dX8_sures_5 rfl (by decide) rfl rfl ?_
      refine z_iload_n (i := 2) dX8_sures_6 rfl rfl ?_
      refine z_if_eq 16 dX8_sures_7 (by decide) (fun h_7 => ?_) (fun h_7 => ?_)
      · exact absurd h_7 (by decide)
      refine z_aload_n (i := 0) dX8_sures_10 rfl rfl ?_
      refine z_iload_n (i := 2) dX8_sures_11 rfl rfl ?_
      refine z_Vi (As := [_]) dX8_sures_12 (by rfl) v_X8_error l_X8_51 (by first | decide | assumption | omega) rfl rfl rfl (by omega) (by decide) (Nat.le_of_ble_eq_true rfl) ?_
      refine s_X8_error (by rfl) (by first | decide | omega) ?_
      exact z_ret dX8_sures_15 (hQ _ _ (by intro k hk; simp (disch := omega) only [zup_n]) (by unfold o_sures; rw [if_pos hok, if_pos (by rw [eps]; exact hb)]; rfl)) trivial rfl
    · obtain ⟨R, hR⟩ : ∃ R, srN (fun i => c 62 (24 * s + i)) z n 25 0 (c 52) = R := ⟨_, rfl⟩
      have loop : ∀ (r i : Nat) (F : zN), z - i < r → i ≤ z → F 5 = nI n → srN (fun i => c 62 (24 * s + i)) z n (25 - i) i F = R → zW l E ad RX8 cX8_sures 4 1 d Qf 18 [some (.ref (ad 51)), some (.int (nI s)), some (.int 0), some (.int (nI i))] [] (zup c 52 F) := by
        intro r
        induction r with
        | zero => intro i F h; omega
        | succ r ih =>
          intro i F hr hi hF e
          have hlt := nI_leI (a := z) (b := i) (by omega) (by omega)
          have hip := isP_iff (f := F) (k := i) (n := n) hF hn6 (by omega)
          have e62 : zup c 52 F 62 = c 62 := zup_n (by decide)
          have e52 : zup c 52 F 52 = F := zup_s _ _ _
          rw [show 25 - i = 24 - i + 1 by omega] at e
          unfold srN at e
          refine z_iload_n (i := 3) dX8_sures_18 rfl rfl ?_
          refine z_aload_n (i := 0) dX8_sures_19 rfl rfl ?_
          refine z_getf dX8_sures_20 f_X8_37 (by first | decide | assumption | omega) rfl (by rfl) ?_
          refine z_iload_n (i := 1) dX8_sures_23 rfl rfl ?_
          refine z_iald (j := s) dX8_sures_24 (by first | decide | assumption | omega) rfl (by rfl) (by first | decide | omega) (by first | decide | omega) ?_
          refine z_icmp_ge 79 dX8_sures_25 (by decide) (fun h_25 => ?_) (fun h_25 => ?_)
          · refine z_iload_n (i := 3) dX8_sures_79 rfl rfl ?_
            first
            | (rw [if_neg (fun h9 => bite.mp h_53 (by rw [e62]; exact h9.2.2))] at e
               refine z_ret dX8_sures_80 (hQ _ _ (by intro k hk; simp (disch := omega) only [zup_n]) ?_) trivial rfl
               unfold o_sures
               rw [if_pos hok, eps, if_neg (show ¬ (mst c).2.2.2.2.2.2.1 s = 0 from hb), show (mst c).2.2.2.2.2.2.2.1 = c 61 from rfl, epz, show (mst c).1 = c 52 from rfl, hpn, show (fun i => (mst c).2.2.2.2.2.2.2.2 (24 * s + i)) = (fun i => c 62 (24 * s + i)) from rfl, hR, ← e]
               rfl)
            | (have hiz : i = z := by have h9 : c 61 s ≤ nI i := h_25; rw [hzs] at h9; have := hlt.mp h9; omega
               rw [if_neg (by omega)] at e
               refine z_ret dX8_sures_80 (hQ _ _ (by intro k hk; simp (disch := omega) only [zup_n]) ?_) trivial rfl
               unfold o_sures
               rw [if_pos hok, eps, if_neg (show ¬ (mst c).2.2.2.2.2.2.1 s = 0 from hb), show (mst c).2.2.2.2.2.2.2.1 = c 61 from rfl, epz, show (mst c).1 = c 52 from rfl, hpn, show (fun i => (mst c).2.2.2.2.2.2.2.2 (24 * s + i)) = (fun i => c 62 (24 * s + i)) from rfl, hR, ← e]
               rfl)
            | (rw [if_neg (by intro h9; have := hip.mpr h9.2.1; rw [zup_s] at h_33; grind)] at e
               refine z_ret dX8_sures_80 (hQ _ _ (by intro k hk; simp (disch := omega) only [zup_n]) ?_) trivial rfl
               unfold o_sures
               rw [if_pos hok, eps, if_neg (show ¬ (mst c).2.2.2.2.2.2.1 s = 0 from hb), show (mst c).2.2.2.2.2.2.2.1 = c 61 from rfl, epz, show (mst c).1 = c 52 from rfl, hpn, show (fun i => (mst c).2.2.2.2.2.2.2.2 (24 * s + i)) = (fun i => c 62 (24 * s + i)) from rfl, hR, ← e]
               rfl)
          · have hiz : i < z := by have h9 : ¬ c 61 s ≤ nI i := h_25; rw [hzs] at h9; have := mt hlt.mpr h9; omega
            refine z_aload_n (i := 0) dX8_sures_28 rfl rfl ?_
            refine z_iload_n (i := 3) dX8_sures_29 rfl rfl ?_
            refine z_Vb (As := [_]) dX8_sures_30 (by rfl) v_X8_isPerson l_X8_157 (by first | decide | assumption | omega) rfl rfl rfl (by omega) (by decide) (Nat.le_of_ble_eq_true rfl) ?_
            refine s_X8_isPerson (by omega) ?_
            refine z_if_eq 79 dX8_sures_33 (by decide) (fun h_33 => ?_) (fun h_33 => ?_)
            · refine z_iload_n (i := 3) dX8_sures_79 rfl rfl ?_
              first
              | (rw [if_neg (fun h9 => bite.mp h_53 (by rw [e62]; exact h9.2.2))] at e
                 refine z_ret dX8_sures_80 (hQ _ _ (by intro k hk; simp (disch := omega) only [zup_n]) ?_) trivial rfl
                 unfold o_sures
                 rw [if_pos hok, eps, if_neg (show ¬ (mst c).2.2.2.2.2.2.1 s = 0 from hb), show (mst c).2.2.2.2.2.2.2.1 = c 61 from rfl, epz, show (mst c).1 = c 52 from rfl, hpn, show (fun i => (mst c).2.2.2.2.2.2.2.2 (24 * s + i)) = (fun i => c 62 (24 * s + i)) from rfl, hR, ← e]
                 rfl)
              | (have hiz : i = z := by have h9 : c 61 s ≤ nI i := h_25; rw [hzs] at h9; have := hlt.mp h9; omega
                 rw [if_neg (by omega)] at e
                 refine z_ret dX8_sures_80 (hQ _ _ (by intro k hk; simp (disch := omega) only [zup_n]) ?_) trivial rfl
                 unfold o_sures
                 rw [if_pos hok, eps, if_neg (show ¬ (mst c).2.2.2.2.2.2.1 s = 0 from hb), show (mst c).2.2.2.2.2.2.2.1 = c 61 from rfl, epz, show (mst c).1 = c 52 from rfl, hpn, show (fun i => (mst c).2.2.2.2.2.2.2.2 (24 * s + i)) = (fun i => c 62 (24 * s + i)) from rfl, hR, ← e]
                 rfl)
              | (rw [if_neg (by intro h9; have := hip.mpr h9.2.1; rw [zup_s] at h_33; grind)] at e
                 refine z_ret dX8_sures_80 (hQ _ _ (by intro k hk; simp (disch := omega) only [zup_n]) ?_) trivial rfl
                 unfold o_sures
                 rw [if_pos hok, eps, if_neg (show ¬ (mst c).2.2.2.2.2.2.1 s = 0 from hb), show (mst c).2.2.2.2.2.2.2.1 = c 61 from rfl, epz, show (mst c).1 = c 52 from rfl, hpn, show (fun i => (mst c).2.2.2.2.2.2.2.2 (24 * s + i)) = (fun i => c 62 (24 * s + i)) from rfl, hR, ← e]
                 rfl)
            · have hin : i < n := hip.mp (by rw [zup_s] at h_33; grind)
              refine z_aload_n (i := 0) dX8_sures_36 rfl rfl ?_
              refine z_getf dX8_sures_37 f_X8_40 (by first | decide | assumption | omega) rfl (by rfl) ?_
              refine z_bipush (v := 24) dX8_sures_40 (by decide) ?_
              refine z_iload_n (i := 1) dX8_sures_42 rfl rfl ?_
              refine z_imul dX8_sures_43 ?_
              refine z_iload_n (i := 3) dX8_sures_44 rfl rfl ?_
              refine z_iadd dX8_sures_45 ?_
              refine z_iald (j := 24 * s + i) dX8_sures_46 (by first | decide | assumption | omega) rfl (by show nI 24 * nI s + nI i = _; rw [pk_mul, nI_add]) (by first | decide | omega) (by first | decide | omega) ?_
              refine z_iconst (v := 0) dX8_sures_47 (by decide) ?_
              refine z_bipush (v := 99) dX8_sures_48 (by decide) ?_
              refine z_Sb (As := [_, _, _]) dX8_sures_50 (by rfl) v_X8_in l_X8_47 rfl (by omega) (by decide) (Nat.le_of_ble_eq_true rfl) ?_
              refine s_X8_in ?_
              refine z_if_eq 79 dX8_sures_53 (by decide) (fun h_53 => ?_) (fun h_53 => ?_)
              · refine z_iload_n (i := 3) dX8_sures_79 rfl rfl ?_
                first
                | (rw [if_neg (fun h9 => bite.mp h_53 (by rw [e62]; exact h9.2.2))] at e
                   refine z_ret dX8_sures_80 (hQ _ _ (by intro k hk; simp (disch := omega) only [zup_n]) ?_) trivial rfl
                   unfold o_sures
                   rw [if_pos hok, eps, if_neg (show ¬ (mst c).2.2.2.2.2.2.1 s = 0 from hb), show (mst c).2.2.2.2.2.2.2.1 = c 61 from rfl, epz, show (mst c).1 = c 52 from rfl, hpn, show (fun i => (mst c).2.2.2.2.2.2.2.2 (24 * s + i)) = (fun i => c 62 (24 * s + i)) from rfl, hR, ← e]
                   rfl)
                | (have hiz : i = z := by have h9 : c 61 s ≤ nI i := h_25; rw [hzs] at h9; have := hlt.mp h9; omega
                   rw [if_neg (by omega)] at e
                   refine z_ret dX8_sures_80 (hQ _ _ (by intro k hk; simp (disch := omega) only [zup_n]) ?_) trivial rfl
                   unfold o_sures
                   rw [if_pos hok, eps, if_neg (show ¬ (mst c).2.2.2.2.2.2.1 s = 0 from hb), show (mst c).2.2.2.2.2.2.2.1 = c 61 from rfl, epz, show (mst c).1 = c 52 from rfl, hpn, show (fun i => (mst c).2.2.2.2.2.2.2.2 (24 * s + i)) = (fun i => c 62 (24 * s + i)) from rfl, hR, ← e]
                   rfl)
                | (rw [if_neg (by intro h9; have := hip.mpr h9.2.1; rw [zup_s] at h_33; grind)] at e
                   refine z_ret dX8_sures_80 (hQ _ _ (by intro k hk; simp (disch := omega) only [zup_n]) ?_) trivial rfl
                   unfold o_sures
                   rw [if_pos hok, eps, if_neg (show ¬ (mst c).2.2.2.2.2.2.1 s = 0 from hb), show (mst c).2.2.2.2.2.2.2.1 = c 61 from rfl, epz, show (mst c).1 = c 52 from rfl, hpn, show (fun i => (mst c).2.2.2.2.2.2.2.2 (24 * s + i)) = (fun i => c 62 (24 * s + i)) from rfl, hR, ← e]
                   rfl)
              · have h56 : 0 ≤ c 62 (24 * s + i) ∧ c 62 (24 * s + i) ≤ 99 := by rw [e62] at h_53; exact Classical.byContradiction (fun q => h_53 (bite.mpr q))
                refine z_aload_n (i := 0) dX8_sures_56 rfl rfl ?_
                refine z_iload_n (i := 3) dX8_sures_57 rfl rfl ?_
                refine z_iconst (v := 2) dX8_sures_58 (by decide) ?_
                refine z_aload_n (i := 0) dX8_sures_59 rfl rfl ?_
                refine z_getf dX8_sures_60 f_X8_40 (by first | decide | assumption | omega) rfl (by rfl) ?_
                refine z_bipush (v := 24) dX8_sures_63 (by decide) ?_
                refine z_iload_n (i := 1) dX8_sures_65 rfl rfl ?_
                refine z_imul dX8_sures_66 ?_
                refine z_iload_n (i := 3) dX8_sures_67 rfl rfl ?_
                refine z_iadd dX8_sures_68 ?_
                refine z_iald (j := 24 * s + i) dX8_sures_69 (by first | decide | assumption | omega) rfl (by show nI 24 * nI s + nI i = _; rw [pk_mul, nI_add]) (by first | decide | omega) (by first | decide | omega) ?_
                refine z_Vv (As := [_, _, _]) dX8_sures_70 (by rfl) v_X8_lays1 l_X8_142 (by first | decide | assumption | omega) rfl rfl rfl (by omega) (by decide) (Nat.le_of_ble_eq_true rfl) ?_
                refine s_X8_lays12 (by omega) ?_
                refine z_iinc (i := 3) (v := 1) [_, _, _, _] dX8_sures_73 rfl (by decide) (by decide) rfl rfl ?_
                refine z_goto 18 dX8_sures_76 (by decide) ?_
                rw [nI_1, zup_s, zup_zup]
                refine ih (i + 1) _ (by omega) (by omega) ((pk_un (by omega)).trans hF) ?_
                rw [show 25 - (i + 1) = 24 - i by omega, ← e, if_pos ⟨hiz, hin, h56⟩]
                rfl
      refine z_aload_n (i := 0) dX8_sures_0 rfl rfl ?_
      refine z_iload_n (i := 1) dX8_sures_1 rfl rfl ?_
      refine z_Vi (As := [_]) dX8_sures_2 (by rfl) v_X8_lacks l_X8_215 (by first | decide | assumption | omega) rfl rfl rfl (by omega) (by decide) (Nat.le_of_ble_eq_true rfl) ?_
      refine s_X8_lacks (by omega) ?_
      rw [if_pos hok, eps, if_neg hb]
      refine z_istore_n (i := 2) [_, _, _, _] dX8_sures_5 rfl (by decide) rfl rfl ?_
      refine z_iload_n (i := 2) dX8_sures_6 rfl rfl ?_
      refine z_if_eq 16 dX8_sures_7 (by decide) (fun h_7 => ?_) (fun h_7 => ?_)
      rotate_left
      · exact absurd rfl h_7
      refine z_iconst (v := 0) dX8_sures_16 (by decide) ?_
      refine z_istore_n (i := 3) [_, _, _, _] dX8_sures_17 rfl (by decide) rfl rfl ?_
      rw [← zup_id (c := c) (k := 52)]
      exact loop (z + 1) 0 (c 52) (by omega) (by omega) hn hR
  · skip
    refine z_aload_n (i := 0) dX8_sures_0 rfl rfl ?_
    refine z_iload_n (i := 1) dX8_sures_1 rfl rfl ?_
    refine z_Vi (As := [_]) dX8_sures_2 (by rfl) v_X8_lacks l_X8_215 (by first | decide | assumption | omega) rfl rfl rfl (by omega) (by decide) (Nat.le_of_ble_eq_true rfl) ?_
    refine s_X8_lacks (by omega) ?_
    rw [if_neg hok]
    refine z_istore_n (i := 2) [_, _, _, _] dX8_sures_5 rfl (by decide) rfl rfl ?_
    refine z_iload_n (i := 2) dX8_sures_6 rfl rfl ?_
    refine z_if_eq 16 dX8_sures_7 (by decide) (fun h_7 => ?_) (fun h_7 => ?_)
    · exact absurd h_7 (by decide)
    refine z_aload_n (i := 0) dX8_sures_10 rfl rfl ?_
    refine z_iload_n (i := 2) dX8_sures_11 rfl rfl ?_
    refine z_Vi (As := [_]) dX8_sures_12 (by rfl) v_X8_error l_X8_51 (by first | decide | assumption | omega) rfl rfl rfl (by omega) (by decide) (Nat.le_of_ble_eq_true rfl) ?_
    refine s_X8_error (by rfl) (by first | decide | omega) ?_
    exact z_ret dX8_sures_15 (hQ _ _ (by intro k hk; simp (disch := omega) only [zup_n]) (by unfold o_sures; rw [if_neg hok]; rfl)) trivial rfl
theorem o8_judge {k : Int32} (hv : vaF (c 52) n) (hz : ∀ k, k < 4 → ∃ z : Nat, z ≤ 24 ∧ c 61 k = nI z) (hd : 4 ≤ d) (hQ : ∀ r c', (∀ k, k < 51 → c' k = c k) → (r, mst c') = o_judge (mst c) k → Qf r c') : zCl l E ad mX8_judge d [.ref (ad 51), .int k] c Qf := by
  obtain ⟨hn, hn6, hw0, hw1⟩ := id hv
  have hpn : pn (c 52 5) = n := by rw [hn]; exact pn_nI (by omega)
  refine z_enter (own := RX8) [some (.ref (ad 51)), some (.int k), none, none] (by decide +kernel) rfl rfl rfl (Nat.le_of_ble_eq_true rfl) ?_
  by_cases hok : 0 ≤ k ∧ k ≤ 3
  · obtain ⟨s, hs, rfl⟩ := zj_of (x := k) (n := 4) hok.1 (by show k < (4 : Int32); grind) (by decide)
    have eps : pn (nI s) = s := pn_nI (by omega)
    obtain ⟨z, hz2, hzs⟩ := hz s hs
    have epz : pn (c 61 s) = z := by rw [hzs]; exact pn_nI (by omega)
    by_cases hb : c 60 s = 0
    · skip
      refine z_aload_n (i := 0) dX8_judge_0 rfl rfl ?_
      refine z_iload_n (i := 1) dX8_judge_1 rfl rfl ?_
      refine z_Vi (As := [_]) dX8_judge_2 (by rfl) v_X8_lacks l_X8_215 (by first | decide | assumption | omega) rfl rfl rfl (by omega) (by decide) (Nat.le_of_ble_eq_true rfl) ?_
      refine s_X8_lacks (by omega) ?_
      rw [if_pos hok, eps, if_pos hb]
      refine z_istore_n (i := 2) [_, _, _, _] dX8_judge_5 rfl (by decide) rfl rfl ?_
      refine z_iload_n (i := 2) dX8_judge_6 rfl rfl ?_
      refine z_if_eq 16 dX8_judge_7 (by decide) (fun h_7 => ?_) (fun h_7 => ?_)
      · exact absurd h_7 (by decide)
      refine z_aload_n (i := 0) dX8_judge_10 rfl rfl ?_
      refine z_iload_n (i := 2) dX8_judge_11 rfl rfl ?_
      refine z_Vi (As := [_]) dX8_judge_12 (by rfl) v_X8_error l_X8_51 (by first | decide | assumption | omega) rfl rfl rfl (by omega) (by decide) (Nat.le_of_ble_eq_true rfl) ?_
      refine s_X8_error (by rfl) (by first | decide | omega) ?_
      exact z_ret dX8_judge_15 (hQ _ _ (by intro k hk; simp (disch := omega) only [zup_n]) (by unfold o_judge; rw [if_pos hok, if_pos (by rw [eps]; exact hb)]; rfl)) trivial rfl
    · obtain ⟨R, hR⟩ : ∃ R, jgN (fun i => c 62 (24 * s + i)) (c 52) z n 25 0 = R := ⟨_, rfl⟩
      have loop : ∀ (r i : Nat), z - i < r → i ≤ z → jgN (fun i => c 62 (24 * s + i)) (c 52) z n (25 - i) i = R → zW l E ad RX8 cX8_judge 4 1 d Qf 18 [some (.ref (ad 51)), some (.int (nI s)), some (.int 0), some (.int (nI i))] [] c := by
        intro r
        induction r with
        | zero => intro i h; omega
        | succ r ih =>
          intro i hr hi e
          have hlt := nI_leI (a := z) (b := i) (by omega) (by omega)
          have hip := isP_iff (f := c 52) (k := i) (n := n) hn hn6 (by omega)
          rw [show 25 - i = 24 - i + 1 by omega] at e
          unfold jgN at e
          refine z_iload_n (i := 3) dX8_judge_18 rfl rfl ?_
          refine z_aload_n (i := 0) dX8_judge_19 rfl rfl ?_
          refine z_getf dX8_judge_20 f_X8_37 (by first | decide | assumption | omega) rfl (by rfl) ?_
          refine z_iload_n (i := 1) dX8_judge_23 rfl rfl ?_
          refine z_iald (j := s) dX8_judge_24 (by first | decide | assumption | omega) rfl (by rfl) (by first | decide | omega) (by first | decide | omega) ?_
          refine z_icmp_ge 62 dX8_judge_25 (by decide) (fun h_25 => ?_) (fun h_25 => ?_)
          · refine z_iload_n (i := 3) dX8_judge_62 rfl rfl ?_
            first
            | (rw [if_neg (by grind)] at e
               refine z_ret dX8_judge_63 (hQ _ _ (by intro k hk; simp (disch := omega) only [zup_n]) ?_) trivial rfl
               unfold o_judge
               rw [if_pos hok, eps, if_neg (show ¬ (mst c).2.2.2.2.2.2.1 s = 0 from hb), show (mst c).2.2.2.2.2.2.2.1 = c 61 from rfl, epz, show (mst c).1 = c 52 from rfl, hpn, show (fun i => (mst c).2.2.2.2.2.2.2.2 (24 * s + i)) = (fun i => c 62 (24 * s + i)) from rfl, hR, ← e])
            | (have hiz : i = z := by rw [hzs] at h_25; have := hlt.mp h_25; omega
               rw [if_neg (by omega)] at e
               refine z_ret dX8_judge_63 (hQ _ _ (by intro k hk; simp (disch := omega) only [zup_n]) ?_) trivial rfl
               unfold o_judge
               rw [if_pos hok, eps, if_neg (show ¬ (mst c).2.2.2.2.2.2.1 s = 0 from hb), show (mst c).2.2.2.2.2.2.2.1 = c 61 from rfl, epz, show (mst c).1 = c 52 from rfl, hpn, show (fun i => (mst c).2.2.2.2.2.2.2.2 (24 * s + i)) = (fun i => c 62 (24 * s + i)) from rfl, hR, ← e])
            | (rw [if_neg (by intro h9; have := hip.mpr h9.2.1; grind)] at e
               refine z_ret dX8_judge_63 (hQ _ _ (by intro k hk; simp (disch := omega) only [zup_n]) ?_) trivial rfl
               unfold o_judge
               rw [if_pos hok, eps, if_neg (show ¬ (mst c).2.2.2.2.2.2.1 s = 0 from hb), show (mst c).2.2.2.2.2.2.2.1 = c 61 from rfl, epz, show (mst c).1 = c 52 from rfl, hpn, show (fun i => (mst c).2.2.2.2.2.2.2.2 (24 * s + i)) = (fun i => c 62 (24 * s + i)) from rfl, hR, ← e])
          · have hiz : i < z := by rw [hzs] at h_25; have := mt hlt.mpr h_25; omega
            refine z_aload_n (i := 0) dX8_judge_28 rfl rfl ?_
            refine z_iload_n (i := 3) dX8_judge_29 rfl rfl ?_
            refine z_Vb (As := [_]) dX8_judge_30 (by rfl) v_X8_isPerson l_X8_157 (by first | decide | assumption | omega) rfl rfl rfl (by omega) (by decide) (Nat.le_of_ble_eq_true rfl) ?_
            refine s_X8_isPerson (by omega) ?_
            refine z_if_eq 62 dX8_judge_33 (by decide) (fun h_33 => ?_) (fun h_33 => ?_)
            · refine z_iload_n (i := 3) dX8_judge_62 rfl rfl ?_
              first
              | (rw [if_neg (by grind)] at e
                 refine z_ret dX8_judge_63 (hQ _ _ (by intro k hk; simp (disch := omega) only [zup_n]) ?_) trivial rfl
                 unfold o_judge
                 rw [if_pos hok, eps, if_neg (show ¬ (mst c).2.2.2.2.2.2.1 s = 0 from hb), show (mst c).2.2.2.2.2.2.2.1 = c 61 from rfl, epz, show (mst c).1 = c 52 from rfl, hpn, show (fun i => (mst c).2.2.2.2.2.2.2.2 (24 * s + i)) = (fun i => c 62 (24 * s + i)) from rfl, hR, ← e])
              | (have hiz : i = z := by rw [hzs] at h_25; have := hlt.mp h_25; omega
                 rw [if_neg (by omega)] at e
                 refine z_ret dX8_judge_63 (hQ _ _ (by intro k hk; simp (disch := omega) only [zup_n]) ?_) trivial rfl
                 unfold o_judge
                 rw [if_pos hok, eps, if_neg (show ¬ (mst c).2.2.2.2.2.2.1 s = 0 from hb), show (mst c).2.2.2.2.2.2.2.1 = c 61 from rfl, epz, show (mst c).1 = c 52 from rfl, hpn, show (fun i => (mst c).2.2.2.2.2.2.2.2 (24 * s + i)) = (fun i => c 62 (24 * s + i)) from rfl, hR, ← e])
              | (rw [if_neg (by intro h9; have := hip.mpr h9.2.1; grind)] at e
                 refine z_ret dX8_judge_63 (hQ _ _ (by intro k hk; simp (disch := omega) only [zup_n]) ?_) trivial rfl
                 unfold o_judge
                 rw [if_pos hok, eps, if_neg (show ¬ (mst c).2.2.2.2.2.2.1 s = 0 from hb), show (mst c).2.2.2.2.2.2.2.1 = c 61 from rfl, epz, show (mst c).1 = c 52 from rfl, hpn, show (fun i => (mst c).2.2.2.2.2.2.2.2 (24 * s + i)) = (fun i => c 62 (24 * s + i)) from rfl, hR, ← e])
            · have hin : i < n := hip.mp (by grind)
              refine z_aload_n (i := 0) dX8_judge_36 rfl rfl ?_
              refine z_iload_n (i := 3) dX8_judge_37 rfl rfl ?_
              refine z_iconst (v := 3) dX8_judge_38 (by decide) ?_
              refine z_Vi (As := [_, _]) dX8_judge_39 (by rfl) v_X8_its l_X8_111 (by first | decide | assumption | omega) rfl rfl rfl (by omega) (by decide) (Nat.le_of_ble_eq_true rfl) ?_
              refine s_X8_its3 (by omega) ?_
              refine z_aload_n (i := 0) dX8_judge_42 rfl rfl ?_
              refine z_getf dX8_judge_43 f_X8_40 (by first | decide | assumption | omega) rfl (by rfl) ?_
              refine z_bipush (v := 24) dX8_judge_46 (by decide) ?_
              refine z_iload_n (i := 1) dX8_judge_48 rfl rfl ?_
              refine z_imul dX8_judge_49 ?_
              refine z_iload_n (i := 3) dX8_judge_50 rfl rfl ?_
              refine z_iadd dX8_judge_51 ?_
              refine z_iald (j := 24 * s + i) dX8_judge_52 (by first | decide | assumption | omega) rfl (by show nI 24 * nI s + nI i = _; rw [pk_mul, nI_add]) (by first | decide | omega) (by first | decide | omega) ?_
              refine z_icmp_ne 62 dX8_judge_53 (by decide) (fun h_53 => ?_) (fun h_53 => ?_)
              · refine z_iload_n (i := 3) dX8_judge_62 rfl rfl ?_
                first
                | (rw [if_neg (by grind)] at e
                   refine z_ret dX8_judge_63 (hQ _ _ (by intro k hk; simp (disch := omega) only [zup_n]) ?_) trivial rfl
                   unfold o_judge
                   rw [if_pos hok, eps, if_neg (show ¬ (mst c).2.2.2.2.2.2.1 s = 0 from hb), show (mst c).2.2.2.2.2.2.2.1 = c 61 from rfl, epz, show (mst c).1 = c 52 from rfl, hpn, show (fun i => (mst c).2.2.2.2.2.2.2.2 (24 * s + i)) = (fun i => c 62 (24 * s + i)) from rfl, hR, ← e])
                | (have hiz : i = z := by rw [hzs] at h_25; have := hlt.mp h_25; omega
                   rw [if_neg (by omega)] at e
                   refine z_ret dX8_judge_63 (hQ _ _ (by intro k hk; simp (disch := omega) only [zup_n]) ?_) trivial rfl
                   unfold o_judge
                   rw [if_pos hok, eps, if_neg (show ¬ (mst c).2.2.2.2.2.2.1 s = 0 from hb), show (mst c).2.2.2.2.2.2.2.1 = c 61 from rfl, epz, show (mst c).1 = c 52 from rfl, hpn, show (fun i => (mst c).2.2.2.2.2.2.2.2 (24 * s + i)) = (fun i => c 62 (24 * s + i)) from rfl, hR, ← e])
                | (rw [if_neg (by intro h9; have := hip.mpr h9.2.1; grind)] at e
                   refine z_ret dX8_judge_63 (hQ _ _ (by intro k hk; simp (disch := omega) only [zup_n]) ?_) trivial rfl
                   unfold o_judge
                   rw [if_pos hok, eps, if_neg (show ¬ (mst c).2.2.2.2.2.2.1 s = 0 from hb), show (mst c).2.2.2.2.2.2.2.1 = c 61 from rfl, epz, show (mst c).1 = c 52 from rfl, hpn, show (fun i => (mst c).2.2.2.2.2.2.2.2 (24 * s + i)) = (fun i => c 62 (24 * s + i)) from rfl, hR, ← e])
              · refine z_iinc (i := 3) (v := 1) [_, _, _, _] dX8_judge_56 rfl (by decide) (by decide) rfl rfl ?_
                refine z_goto 18 dX8_judge_59 (by decide) ?_
                rw [nI_1]
                refine ih (i + 1) (by omega) (by omega) ?_
                rw [show 25 - (i + 1) = 24 - i by omega, ← e, if_pos (by grind)]
      refine z_aload_n (i := 0) dX8_judge_0 rfl rfl ?_
      refine z_iload_n (i := 1) dX8_judge_1 rfl rfl ?_
      refine z_Vi (As := [_]) dX8_judge_2 (by rfl) v_X8_lacks l_X8_215 (by first | decide | assumption | omega) rfl rfl rfl (by omega) (by decide) (Nat.le_of_ble_eq_true rfl) ?_
      refine s_X8_lacks (by omega) ?_
      rw [if_pos hok, eps, if_neg hb]
      refine z_istore_n (i := 2) [_, _, _, _] dX8_judge_5 rfl (by decide) rfl rfl ?_
      refine z_iload_n (i := 2) dX8_judge_6 rfl rfl ?_
      refine z_if_eq 16 dX8_judge_7 (by decide) (fun h_7 => ?_) (fun h_7 => ?_)
      rotate_left
      · exact absurd rfl h_7
      refine z_iconst (v := 0) dX8_judge_16 (by decide) ?_
      refine z_istore_n (i := 3) [_, _, _, _] dX8_judge_17 rfl (by decide) rfl rfl ?_
      exact loop (z + 1) 0 (by omega) (by omega) hR
  · skip
    refine z_aload_n (i := 0) dX8_judge_0 rfl rfl ?_
    refine z_iload_n (i := 1) dX8_judge_1 rfl rfl ?_
    refine z_Vi (As := [_]) dX8_judge_2 (by rfl) v_X8_lacks l_X8_215 (by first | decide | assumption | omega) rfl rfl rfl (by omega) (by decide) (Nat.le_of_ble_eq_true rfl) ?_
    refine s_X8_lacks (by omega) ?_
    rw [if_neg hok]
    refine z_istore_n (i := 2) [_, _, _, _] dX8_judge_5 rfl (by decide) rfl rfl ?_
    refine z_iload_n (i := 2) dX8_judge_6 rfl rfl ?_
    refine z_if_eq 16 dX8_judge_7 (by decide) (fun h_7 => ?_) (fun h_7 => ?_)
    · exact absurd h_7 (by decide)
    refine z_aload_n (i := 0) dX8_judge_10 rfl rfl ?_
    refine z_iload_n (i := 2) dX8_judge_11 rfl rfl ?_
    refine z_Vi (As := [_]) dX8_judge_12 (by rfl) v_X8_error l_X8_51 (by first | decide | assumption | omega) rfl rfl rfl (by omega) (by decide) (Nat.le_of_ble_eq_true rfl) ?_
    refine s_X8_error (by rfl) (by first | decide | omega) ?_
    exact z_ret dX8_judge_15 (hQ _ _ (by intro k hk; simp (disch := omega) only [zup_n]) (by unfold o_judge; rw [if_neg hok]; rfl)) trivial rfl
end RB
