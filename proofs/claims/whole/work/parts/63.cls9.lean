/-! the class's calls: fits, sheet, put, move -/
section X9
variable {l : Launch} {E : zE} {ad : Nat → Nat} {c : zS} {Qf : Int32 → zS → Prop} {d n : Nat} {σ : zT}
theorem x_fits {k p w : Int32} (hX : RX c σ) (hd : 12 ≤ d) (hQ : WX c Qf (o_fits σ k p w)) : zCl l E ad mX7_fits d [.ref (ad 0), .int k, .int p, .int w] c Qf := by
  obtain ⟨n, t, m, hS, hI⟩ := id hX.1
  have hn6 := hI.1.2.1
  have hLW := LW_of hS hI
  refine z_enter (own := RX7) [some (.ref (ad 0)), some (.int k), some (.int p), some (.int w), none, none, none] (by decide +kernel) rfl rfl rfl (Nat.le_of_ble_eq_true rfl) ?_
  by_cases hok : (isP σ p ∧ 0 ≤ w ∧ w ≤ 1) ∧ 0 ≤ k ∧ k ≤ 3
  · obtain ⟨i, hi, rfl⟩ := isP_of (f := σ.1) hok.1.1 hI.1.1 hn6
    obtain ⟨j, hj, rfl⟩ := zj_of (x := k) (n := 4) hok.2.1 (by have := hok.2.2; show k < (4 : Int32); grind) (by decide)
    have hpc : 0 ≤ nI i ∧ nI i ≤ σ.1 5 - 1 := hok.1.1
    obtain ⟨g1, g2, g3, s, hs, es, g4⟩ := hX.2.2.2.2.2.2 j hj
    have hrz := rows_z (E := E) (ad := ad) hj
    unfold o_fits at hQ
    rw [if_pos hok, pn_nI (by omega), pn_nI (by omega)] at hQ
    have hP : ∀ q, csF σ j i (nI q) = csN (c (46 + j)) i s 0 (upd σ.1 (8 + 5 * i + 2) (nI q)) := by
      intro q
      unfold csF
      rw [es, pn_nI (by omega)]
      exact csN_cg (fun x _ b => (g4 x (by omega)).symm)
    have hPf : (fun q => csF σ j i (nI q)) = (fun q => csN (c (46 + j)) i s 0 (upd σ.1 (8 + 5 * i + 2) (nI q))) := funext hP
    rw [hPf] at hQ
    generalize hPP : (fun q => csN (c (46 + j)) i s 0 (upd σ.1 (8 + 5 * i + 2) (nI q))) = P at hQ
    have hPq : ∀ q, csN (c (46 + j)) i s 0 (upd σ.1 (8 + 5 * i + 2) (nI q)) = P q := fun q => by rw [← hPP]
    have hcl := cnF_le P
    have hcs : ∀ q, cnF P (q + 1) = cnF P q + (if P q = true then 1 else 0) := fun _ => rfl
    have loop : ¬ σ.2.2.2.2.2.2.1 j = 0 → ∀ (r q : Nat) (first : Int32) (c1 : zS), 100 - q < r → q ≤ 100 → zth c c1 → ((first = -1 ∧ ∀ x, x < q → ¬ P x = true) ∨ ∃ y, y < q ∧ first = nI y ∧ P y = true ∧ ∀ x, x < y → ¬ P x = true) → zW l E ad RX7 cX7_fits 7 1 d Qf 56 [some (.ref (ad 0)), some (.int (nI j)), some (.int (nI i)), some (.int w), some (.int (nI (cnF P q))), some (.int first), some (.int (nI q))] [] c1 := by
      intro hb r
      rw [if_neg hb] at hQ
      induction r with
      | zero => intro q first c1 z; omega
      | succ r ih =>
        intro q first c1 hr hq hz inv
        have hlt := nI_leI (a := 100) (b := q) (by omega) (by omega)
        by_cases h100 : q < 100
        · have go111 : ∀ (first : Int32) (N : Nat) (c2 : zS), zth c c2 → N = cnF P (q + 1) → ((first = -1 ∧ ∀ x, x < q + 1 → ¬ P x = true) ∨ ∃ y, y < q + 1 ∧ first = nI y ∧ P y = true ∧ ∀ x, x < y → ¬ P x = true) → zW l E ad RX7 cX7_fits 7 1 d Qf 111 [some (.ref (ad 0)), some (.int (nI j)), some (.int (nI i)), some (.int w), some (.int (nI N)), some (.int first), some (.int (nI q))] [] c2 := by
            intro first N c2 hz2 hN inv2
            subst hN
            refine z_iinc (i := 6) (v := 1) [_, _, _, _, _, _, _] dX7_fits_111 rfl (by decide) (by decide) rfl rfl ?_
            refine z_goto 56 dX7_fits_114 (by decide) ?_
            rw [nI_1]
            exact ih (q + 1) first c2 (by omega) (by omega) hz2 inv2
          refine z_iload (i := 6) dX7_fits_56 rfl ?_
          refine z_bipush (v := 100) dX7_fits_58 (by decide) ?_
          refine z_icmp_ge 117 dX7_fits_60 (by decide) (fun h_60 => ?_) (fun h_60 => ?_)
          · exfalso; have := hlt.mp h_60; omega
          refine z_aload_n (i := 0) dX7_fits_63 rfl rfl ?_
          refine z_getf dX7_fits_64 f_X7_41 (by first | decide | assumption | omega) rfl (by rfl) ?_
          refine z_iload_n (i := 2) dX7_fits_67 rfl rfl ?_
          refine z_iload (i := 6) dX7_fits_68 rfl ?_
          refine z_aload_n (i := 0) dX7_fits_70 rfl rfl ?_
          refine z_getf dX7_fits_71 f_X7_55 (by first | decide | assumption | omega) rfl (by rfl) ?_
          refine z_getf dX7_fits_74 f_X7_222 (by first | decide | assumption | omega) rfl (by rfl) ?_
          refine z_iload_n (i := 1) dX7_fits_77 rfl rfl ?_
          refine z_aald (j := j) dX7_fits_78 (by rfl) (by first | decide | omega) (by first | decide | omega) ?_
          refine z_aload_n (i := 0) dX7_fits_79 rfl rfl ?_
          refine z_getf dX7_fits_80 f_X7_55 (by first | decide | assumption | omega) rfl (by rfl) ?_
          refine z_getf dX7_fits_83 f_X7_226 (by first | decide | assumption | omega) rfl (by rfl) ?_
          refine z_iload_n (i := 1) dX7_fits_86 rfl rfl ?_
          refine z_iald (j := j) dX7_fits_87 (by first | decide | assumption | omega) rfl (by rfl) (by first | decide | omega) (by first | decide | omega) ?_
          rw [hz 44 (by omega) (by decide) (by decide), g3, es]
          refine z_Vb (As := [_, _, _, _]) dX7_fits_88 (by rfl) v_X5_clearsAs l_X7_229 (by first | decide | assumption | omega) rfl rfl rfl (by omega) (by decide) (Nat.le_of_ble_eq_true rfl) ?_
          refine c_clearsAs (R := 46 + j) (zth_PR8 hS.1 hz) (zth_LW hLW hz) hI.1 hI.2.2.2.2.2.2.1 hi (by omega) (by omega) hs hrz (by omega) (fun c2 z2 => ?_)
          rw [hz (46 + j) (by omega) (by omega) (by omega), hPq q]
          refine z_if_eq 111 dX7_fits_91 (by decide) (fun h_91 => ?_) (fun h_91 => ?_)
          · first
            | (have hp0 := bite.mp (by first | exact h_91 | exact Classical.not_not.mp h_91)
               refine go111 _ _ c2 (zth_tr hz z2) (by rw [hcs, if_neg hp0]; rfl) ?_
               rcases inv with ⟨e, h⟩ | ⟨y, h1, h2, h3, h4⟩
               · exact Or.inl ⟨e, fun x hx => by rcases Nat.lt_or_eq_of_le (Nat.le_of_lt_succ hx) with z | z; exact h x z; rw [z]; exact hp0⟩
               · exact Or.inr ⟨y, by omega, h2, h3, h4⟩)
            | (rw [nI_1]
               refine go111 _ _ c2 (zth_tr hz z2) (by rw [hcs, if_pos hp1]) ?_
               rcases inv with ⟨e, h⟩ | ⟨y, h1, h2, h3, h4⟩
               · exact Or.inr ⟨q, by omega, rfl, hp1, h⟩
               · exfalso
                 rw [h2] at h_96
                 exact h_96 (nI_pos' (by omega)))
            | (rw [nI_1]
               refine go111 _ _ c2 (zth_tr hz z2) (by rw [hcs, if_pos hp1]) ?_
               rcases inv with ⟨e, h⟩ | ⟨y, h1, h2, h3, h4⟩
               · exfalso
                 rw [e] at h_96
                 exact absurd h_96 (by decide)
               · exact Or.inr ⟨y, by omega, h2, h3, h4⟩)
          · have hp1 : P q = true := Classical.byContradiction (fun z => h_91 (bite.mpr z))
            refine z_iload (i := 5) dX7_fits_94 rfl ?_
            refine z_if_ge 104 dX7_fits_96 (by decide) (fun h_96 => ?_) (fun h_96 => ?_)
            · refine z_iload (i := 5) dX7_fits_104 rfl ?_
              refine z_istore (i := 5) [_, _, _, _, _, _, _] dX7_fits_106 (by decide) rfl rfl ?_
              refine z_iinc (i := 4) (v := 1) [_, _, _, _, _, _, _] dX7_fits_108 rfl (by decide) (by decide) rfl rfl ?_
              first
              | (have hp0 := bite.mp (by first | exact h_91 | exact Classical.not_not.mp h_91)
                 refine go111 _ _ c2 (zth_tr hz z2) (by rw [hcs, if_neg hp0]; rfl) ?_
                 rcases inv with ⟨e, h⟩ | ⟨y, h1, h2, h3, h4⟩
                 · exact Or.inl ⟨e, fun x hx => by rcases Nat.lt_or_eq_of_le (Nat.le_of_lt_succ hx) with z | z; exact h x z; rw [z]; exact hp0⟩
                 · exact Or.inr ⟨y, by omega, h2, h3, h4⟩)
              | (rw [nI_1]
                 refine go111 _ _ c2 (zth_tr hz z2) (by rw [hcs, if_pos hp1]) ?_
                 rcases inv with ⟨e, h⟩ | ⟨y, h1, h2, h3, h4⟩
                 · exact Or.inr ⟨q, by omega, rfl, hp1, h⟩
                 · exfalso
                   rw [h2] at h_96
                   exact h_96 (nI_pos' (by omega)))
              | (rw [nI_1]
                 refine go111 _ _ c2 (zth_tr hz z2) (by rw [hcs, if_pos hp1]) ?_
                 rcases inv with ⟨e, h⟩ | ⟨y, h1, h2, h3, h4⟩
                 · exfalso
                   rw [e] at h_96
                   exact absurd h_96 (by decide)
                 · exact Or.inr ⟨y, by omega, h2, h3, h4⟩)
            · refine z_iload (i := 6) dX7_fits_99 rfl ?_
              refine z_goto 106 dX7_fits_101 (by decide) ?_
              refine z_istore (i := 5) [_, _, _, _, _, _, _] dX7_fits_106 (by decide) rfl rfl ?_
              refine z_iinc (i := 4) (v := 1) [_, _, _, _, _, _, _] dX7_fits_108 rfl (by decide) (by decide) rfl rfl ?_
              first
              | (have hp0 := bite.mp (by first | exact h_91 | exact Classical.not_not.mp h_91)
                 refine go111 _ _ c2 (zth_tr hz z2) (by rw [hcs, if_neg hp0]; rfl) ?_
                 rcases inv with ⟨e, h⟩ | ⟨y, h1, h2, h3, h4⟩
                 · exact Or.inl ⟨e, fun x hx => by rcases Nat.lt_or_eq_of_le (Nat.le_of_lt_succ hx) with z | z; exact h x z; rw [z]; exact hp0⟩
                 · exact Or.inr ⟨y, by omega, h2, h3, h4⟩)
              | (rw [nI_1]
                 refine go111 _ _ c2 (zth_tr hz z2) (by rw [hcs, if_pos hp1]) ?_
                 rcases inv with ⟨e, h⟩ | ⟨y, h1, h2, h3, h4⟩
                 · exact Or.inr ⟨q, by omega, rfl, hp1, h⟩
                 · exfalso
                   rw [h2] at h_96
                   exact h_96 (nI_pos' (by omega)))
              | (rw [nI_1]
                 refine go111 _ _ c2 (zth_tr hz z2) (by rw [hcs, if_pos hp1]) ?_
                 rcases inv with ⟨e, h⟩ | ⟨y, h1, h2, h3, h4⟩
                 · exfalso
                   rw [e] at h_96
                   exact absurd h_96 (by decide)
                 · exact Or.inr ⟨y, by omega, h2, h3, h4⟩)
        · have eq : q = 100 := by omega
          subst eq
          have hfs : (first = -1 ∧ fsF P 100 0 = 100) ∨ ∃ y, y < 100 ∧ first = nI y ∧ fsF P 100 0 = y := by
            rcases inv with ⟨e, h⟩ | ⟨y, h1, h2, h3, h4⟩
            · exact Or.inl ⟨e, fs_all (fun k _ b => h k (by omega))⟩
            · exact Or.inr ⟨y, h1, h2, fs_at h3 (by omega) (by omega) (fun k _ b => h4 k b)⟩
          refine z_iload (i := 6) dX7_fits_56 rfl ?_
          refine z_bipush (v := 100) dX7_fits_58 (by decide) ?_
          refine z_icmp_ge 117 dX7_fits_60 (by decide) (fun h_60 => ?_) (fun h_60 => ?_)
          rotate_left
          · exact absurd (by decide) h_60
          refine z_iload_n (i := 3) dX7_fits_117 rfl rfl ?_
          refine z_if_ne 124 dX7_fits_118 (by decide) (fun h_118 => ?_) (fun h_118 => ?_)
          · refine z_iload (i := 5) dX7_fits_124 rfl ?_
            refine z_if_ge 137 dX7_fits_126 (by decide) (fun h_126 => ?_) (fun h_126 => ?_)
            · refine z_iload (i := 5) dX7_fits_137 rfl ?_
              first
              | (rw [if_pos (by first | exact h_118 | exact Classical.not_not.mp h_118)] at hQ
                 exact z_ret dX7_fits_139 (WX_zth hX hQ hz) trivial rfl)
              | (have hno : first = -1 ∧ fsF P 100 0 = 100 := by
                   rcases hfs with z | ⟨y, h1, h2, h3⟩
                   · exact z
                   · exfalso; rw [h2] at h_126; exact h_126 (nI_pos' (by omega))
                 rw [if_neg (by first | exact h_118 | assumption), if_pos hno.2] at hQ
                 exact z_ret dX7_fits_139 (WX_therr hX hQ hz) trivial rfl)
              | (obtain ⟨y, h1, h2, h3⟩ := hfs.resolve_left (fun z => by rw [z.1] at h_126; exact absurd h_126 (by decide))
                 rw [if_neg (by first | exact h_118 | assumption), if_neg (by omega), h3] at hQ
                 rw [h2]
                 exact z_ret dX7_fits_139 (WX_zth hX hQ hz) trivial rfl)
            · refine z_aload_n (i := 0) dX7_fits_129 rfl rfl ?_
              refine z_iconst (v := 2) dX7_fits_130 (by decide) ?_
              refine z_Vi (As := [_]) dX7_fits_131 (by rfl) v_X7_refuse l_X7_73 (by first | decide | assumption | omega) rfl rfl rfl (by omega) (by decide) (Nat.le_of_ble_eq_true rfl) ?_
              refine s_refuse (by rfl) (by decide) ?_
              refine z_goto 139 dX7_fits_134 (by decide) ?_
              first
              | (rw [if_pos (by first | exact h_118 | exact Classical.not_not.mp h_118)] at hQ
                 exact z_ret dX7_fits_139 (WX_zth hX hQ hz) trivial rfl)
              | (have hno : first = -1 ∧ fsF P 100 0 = 100 := by
                   rcases hfs with z | ⟨y, h1, h2, h3⟩
                   · exact z
                   · exfalso; rw [h2] at h_126; exact h_126 (nI_pos' (by omega))
                 rw [if_neg (by first | exact h_118 | assumption), if_pos hno.2] at hQ
                 exact z_ret dX7_fits_139 (WX_therr hX hQ hz) trivial rfl)
              | (obtain ⟨y, h1, h2, h3⟩ := hfs.resolve_left (fun z => by rw [z.1] at h_126; exact absurd h_126 (by decide))
                 rw [if_neg (by first | exact h_118 | assumption), if_neg (by omega), h3] at hQ
                 rw [h2]
                 exact z_ret dX7_fits_139 (WX_zth hX hQ hz) trivial rfl)
          · refine z_iload (i := 4) dX7_fits_121 rfl ?_
            first
            | (rw [if_pos (by first | exact h_118 | exact Classical.not_not.mp h_118)] at hQ
               exact z_ret dX7_fits_123 (WX_zth hX hQ hz) trivial rfl)
            | (have hno : first = -1 ∧ fsF P 100 0 = 100 := by
                 rcases hfs with z | ⟨y, h1, h2, h3⟩
                 · exact z
                 · exfalso; rw [h2] at h_126; exact h_126 (nI_pos' (by omega))
               rw [if_neg (by first | exact h_118 | assumption), if_pos hno.2] at hQ
               exact z_ret dX7_fits_123 (WX_therr hX hQ hz) trivial rfl)
            | (obtain ⟨y, h1, h2, h3⟩ := hfs.resolve_left (fun z => by rw [z.1] at h_126; exact absurd h_126 (by decide))
               rw [if_neg (by first | exact h_118 | assumption), if_neg (by omega), h3] at hQ
               rw [h2]
               exact z_ret dX7_fits_123 (WX_zth hX hQ hz) trivial rfl)
    refine z_iload_n (i := 1) dX7_fits_0 rfl rfl ?_
    refine z_Sb (As := [_]) dX7_fits_1 (by rfl) v_X7_isSheet l_X7_216 rfl (by omega) (by decide) (Nat.le_of_ble_eq_true rfl) ?_
    refine s_isSheet (by omega) ?_
    refine z_if_eq 24 dX7_fits_4 (by decide) (fun h_4 => ?_) (fun h_4 => ?_)
    · exfalso; exact absurd hok.2 (bite.mp (by first | exact h_4 | exact Classical.not_not.mp h_4))
    refine z_aload_n (i := 0) dX7_fits_7 rfl rfl ?_
    refine z_iload_n (i := 2) dX7_fits_8 rfl rfl ?_
    refine z_Vb (As := [_]) dX7_fits_9 (by rfl) v_X7_isPerson l_X7_86 (by first | decide | assumption | omega) rfl rfl rfl (by omega) (by decide) (Nat.le_of_ble_eq_true rfl) ?_
    refine s_isPerson hX ?_
    refine z_if_eq 24 dX7_fits_12 (by decide) (fun h_12 => ?_) (fun h_12 => ?_)
    · exfalso; exact absurd hpc (bite.mp (by first | exact h_12 | exact Classical.not_not.mp h_12))
    refine z_iload_n (i := 3) dX7_fits_15 rfl rfl ?_
    refine z_iconst (v := 0) dX7_fits_16 (by decide) ?_
    refine z_iconst (v := 1) dX7_fits_17 (by decide) ?_
    refine z_Sb (As := [_, _, _]) dX7_fits_18 (by rfl) v_X7_isWithin l_X7_115 rfl (by omega) (by decide) (Nat.le_of_ble_eq_true rfl) ?_
    refine s_isWithin ?_
    refine z_if_ne 30 dX7_fits_21 (by decide) (fun h_21 => ?_) (fun h_21 => ?_)
    rotate_left
    · exfalso; exact absurd hok.1.2 (bite.mp (by first | exact h_21 | exact Classical.not_not.mp h_21))
    refine z_aload_n (i := 0) dX7_fits_30 rfl rfl ?_
    refine z_getf dX7_fits_31 f_X7_55 (by first | decide | assumption | omega) rfl (by rfl) ?_
    refine z_iload_n (i := 1) dX7_fits_34 rfl rfl ?_
    refine z_Vb (As := [_]) dX7_fits_35 (by rfl) v_X3_isMissing l_X7_219 (by first | decide | assumption | omega) rfl rfl rfl (by omega) (by decide) (Nat.le_of_ble_eq_true rfl) ?_
    refine s_isMissing hj ?_
    rw [g1]
    refine z_if_eq 47 dX7_fits_38 (by decide) (fun h_38 => ?_) (fun h_38 => ?_)
    · refine z_iconst (v := 0) dX7_fits_47 (by decide) ?_
      refine z_istore (i := 4) [_, _, _, _, _, _, _] dX7_fits_48 (by decide) rfl rfl ?_
      refine z_iconst (v := (-1)) dX7_fits_50 (by decide) ?_
      refine z_istore (i := 5) [_, _, _, _, _, _, _] dX7_fits_51 (by decide) rfl rfl ?_
      refine z_iconst (v := 0) dX7_fits_53 (by decide) ?_
      refine z_istore (i := 6) [_, _, _, _, _, _, _] dX7_fits_54 (by decide) rfl rfl ?_
      exact loop (bite.mp (by first | exact h_38 | exact Classical.not_not.mp h_38)) 101 0 (-1) c (by omega) (by omega) zth_rf (Or.inl ⟨rfl, fun x hx => absurd hx (Nat.not_lt_zero _)⟩)
    · refine z_aload_n (i := 0) dX7_fits_41 rfl rfl ?_
      refine z_iconst (v := 2) dX7_fits_42 (by decide) ?_
      refine z_Vi (As := [_]) dX7_fits_43 (by rfl) v_X7_refuse l_X7_73 (by first | decide | assumption | omega) rfl rfl rfl (by omega) (by decide) (Nat.le_of_ble_eq_true rfl) ?_
      refine s_refuse (by rfl) (by decide) ?_
      rw [if_pos (Classical.byContradiction (fun q => h_38 (bite.mpr q)))] at hQ
      exact z_ret dX7_fits_46 (WX_err hX hQ) trivial rfl
  · unfold o_fits at hQ
    rw [if_neg hok] at hQ
    refine z_iload_n (i := 1) dX7_fits_0 rfl rfl ?_
    refine z_Sb (As := [_]) dX7_fits_1 (by rfl) v_X7_isSheet l_X7_216 rfl (by omega) (by decide) (Nat.le_of_ble_eq_true rfl) ?_
    refine s_isSheet (by omega) ?_
    refine z_if_eq 24 dX7_fits_4 (by decide) (fun h_4 => ?_) (fun h_4 => ?_)
    · refine z_aload_n (i := 0) dX7_fits_24 rfl rfl ?_
      refine z_iconst (v := 1) dX7_fits_25 (by decide) ?_
      refine z_Vi (As := [_]) dX7_fits_26 (by rfl) v_X7_refuse l_X7_73 (by first | decide | assumption | omega) rfl rfl rfl (by omega) (by decide) (Nat.le_of_ble_eq_true rfl) ?_
      refine s_refuse (by rfl) (by decide) ?_
      exact z_ret dX7_fits_29 (WX_err hX hQ) trivial rfl
    · refine z_aload_n (i := 0) dX7_fits_7 rfl rfl ?_
      refine z_iload_n (i := 2) dX7_fits_8 rfl rfl ?_
      refine z_Vb (As := [_]) dX7_fits_9 (by rfl) v_X7_isPerson l_X7_86 (by first | decide | assumption | omega) rfl rfl rfl (by omega) (by decide) (Nat.le_of_ble_eq_true rfl) ?_
      refine s_isPerson hX ?_
      refine z_if_eq 24 dX7_fits_12 (by decide) (fun h_12 => ?_) (fun h_12 => ?_)
      · refine z_aload_n (i := 0) dX7_fits_24 rfl rfl ?_
        refine z_iconst (v := 1) dX7_fits_25 (by decide) ?_
        refine z_Vi (As := [_]) dX7_fits_26 (by rfl) v_X7_refuse l_X7_73 (by first | decide | assumption | omega) rfl rfl rfl (by omega) (by decide) (Nat.le_of_ble_eq_true rfl) ?_
        refine s_refuse (by rfl) (by decide) ?_
        exact z_ret dX7_fits_29 (WX_err hX hQ) trivial rfl
      · refine z_iload_n (i := 3) dX7_fits_15 rfl rfl ?_
        refine z_iconst (v := 0) dX7_fits_16 (by decide) ?_
        refine z_iconst (v := 1) dX7_fits_17 (by decide) ?_
        refine z_Sb (As := [_, _, _]) dX7_fits_18 (by rfl) v_X7_isWithin l_X7_115 rfl (by omega) (by decide) (Nat.le_of_ble_eq_true rfl) ?_
        refine s_isWithin ?_
        refine z_if_ne 30 dX7_fits_21 (by decide) (fun h_21 => ?_) (fun h_21 => ?_)
        · exfalso; exact hok ⟨⟨Classical.byContradiction (fun q => h_12 (bite.mpr q)), Classical.byContradiction (fun q => h_21 (bite.mpr q))⟩, Classical.byContradiction (fun q => h_4 (bite.mpr q))⟩
        refine z_aload_n (i := 0) dX7_fits_24 rfl rfl ?_
        refine z_iconst (v := 1) dX7_fits_25 (by decide) ?_
        refine z_Vi (As := [_]) dX7_fits_26 (by rfl) v_X7_refuse l_X7_73 (by first | decide | assumption | omega) rfl rfl rfl (by omega) (by decide) (Nat.le_of_ble_eq_true rfl) ?_
        refine s_refuse (by rfl) (by decide) ?_
        exact z_ret dX7_fits_29 (WX_err hX hQ) trivial rfl
theorem sh_lay {c c' : zS} {b z u : zN} {j s : Nat} {v : Int32} (h : SHx c b z u) (hj : j < 4) (hs : s ≤ 24) (hv : v = 0 ∨ v = 8 ∨ v = 16 ∨ v = 32) (h1 : c' 43 = upd (c 43) j v) (h2 : c' 44 = upd (c 44) j (nI s)) (h3 : ∀ i, i < s → c' (46 + j) i = 0) (h4 : ∀ k, k ≠ 43 → k ≠ 44 → k ≠ 46 + j → c' k = c k) : SHx c' (upd b j v) (upd z j (nI s)) (fun i => if 24 * j ≤ i ∧ i < 24 * j + 24 then 0 else u i) := by
  intro q hq
  by_cases e : q = j
  · subst e
    exact ⟨by rw [h1, pk_us, pk_us], by rw [pk_us]; exact hv, by rw [h2, pk_us, pk_us], s, hs, pk_us, fun i hi => by rw [h3 i hi]; exact (if_pos (by omega)).symm⟩
  · obtain ⟨a1, a2, a3, w, hw, ew, a4⟩ := h q hq
    refine ⟨by rw [h1, pk_un e, pk_un e]; exact a1, by rw [pk_un e]; exact a2, by rw [h2, pk_un e, pk_un e]; exact a3, w, hw, by rw [pk_un e]; exact ew, fun i hi => ?_⟩
    rw [h4 _ (by omega) (by omega) (by omega), a4 i hi]
    exact (if_neg (by omega)).symm
theorem x_sheet {k b s : Int32} (hX : RX c σ) (hd : 8 ≤ d) (hQ : WX c Qf (o_sheet σ k b s)) : zCl l E ad mX7_sheet d [.ref (ad 0), .int k, .int b, .int s] c Qf := by
  have hH := hX.2.2.2.2.2.2
  refine z_enter (own := RX7) [some (.ref (ad 0)), some (.int k), some (.int b), some (.int s)] (by decide +kernel) rfl rfl rfl (Nat.le_of_ble_eq_true rfl) ?_
  by_cases hok : (0 ≤ k ∧ k ≤ 3) ∧ (b = 0 ∨ b = 8 ∨ b = 16 ∨ b = 32)
  · obtain ⟨j, hj, rfl⟩ := zj_of (x := k) (n := 4) hok.1.1 (by have := hok.1.2; show k < (4 : Int32); grind) (by decide)
    unfold o_sheet at hQ
    rw [if_pos hok, pn_nI (by omega)] at hQ
    have cut35 : zW l E ad RX7 cX7_sheet 4 1 d Qf 35 [some (.ref (ad 0)), some (.int (nI j)), some (.int b), some (.int s)] [] c := by
      by_cases hb : b = 0
      · subst hb
        rw [if_neg (fun q => q.1 rfl), if_neg (fun q => q.1 rfl), if_pos rfl] at hQ
        refine z_iload_n (i := 2) dX7_sheet_35 rfl rfl ?_
        refine z_if_ne 51 dX7_sheet_36 (by decide) (fun h_36 => ?_) (fun h_36 => ?_)
        · exact absurd rfl h_36
        refine z_aload_n (i := 0) dX7_sheet_39 rfl rfl ?_
        refine z_getf dX7_sheet_40 f_X7_55 (by first | decide | assumption | omega) rfl (by rfl) ?_
        refine z_iload_n (i := 1) dX7_sheet_43 rfl rfl ?_
        refine z_iconst (v := 0) dX7_sheet_44 (by decide) ?_
        refine z_iconst (v := 0) dX7_sheet_45 (by decide) ?_
        refine z_Vv (As := [_, _, _]) dX7_sheet_46 (by rfl) v_X3_lays l_X7_247 (by first | decide | assumption | omega) rfl rfl rfl (by omega) (by decide) (Nat.le_of_ble_eq_true rfl) ?_
        refine s_lays (m := 0) hj (by decide) (fun c2 h1 h2 h3 h4 => ?_)
        refine z_iconst (v := 1) dX7_sheet_49 (by decide) ?_
        exact z_ret (r := 1) dX7_sheet_50 (hQ _ (fun q hq => h4 q (by omega) (by omega) (by omega)) (RX_sh hX (fun q a e => h4 q (by omega) (by omega) (by omega)) (sh_lay hH hj (by decide) (Or.inl rfl) h1 h2 h3 h4))) trivial rfl
      · by_cases hs : s < 0
        · rw [if_pos ⟨hb, hs⟩] at hQ
          refine z_iload_n (i := 2) dX7_sheet_35 rfl rfl ?_
          refine z_if_ne 51 dX7_sheet_36 (by decide) (fun h_36 => ?_) (fun h_36 => ?_)
          rotate_left
          · exact absurd (by first | exact h_36 | exact Classical.not_not.mp h_36) hb
          refine z_iload_n (i := 3) dX7_sheet_51 rfl rfl ?_
          refine z_if_ge 61 dX7_sheet_52 (by decide) (fun h_52 => ?_) (fun h_52 => ?_)
          · exfalso; grind
          refine z_aload_n (i := 0) dX7_sheet_55 rfl rfl ?_
          refine z_iconst (v := 3) dX7_sheet_56 (by decide) ?_
          refine z_Vi (As := [_]) dX7_sheet_57 (by rfl) v_X7_refuse l_X7_73 (by first | decide | assumption | omega) rfl rfl rfl (by omega) (by decide) (Nat.le_of_ble_eq_true rfl) ?_
          refine s_refuse (by rfl) (by decide) ?_
          exact z_ret dX7_sheet_60 (WX_err hX hQ) trivial rfl
        · rw [if_neg (fun q => hs q.2)] at hQ
          by_cases h24 : 24 < s
          · rw [if_pos ⟨hb, h24⟩] at hQ
            refine z_iload_n (i := 2) dX7_sheet_35 rfl rfl ?_
            refine z_if_ne 51 dX7_sheet_36 (by decide) (fun h_36 => ?_) (fun h_36 => ?_)
            rotate_left
            · exact absurd (by first | exact h_36 | exact Classical.not_not.mp h_36) hb
            refine z_iload_n (i := 3) dX7_sheet_51 rfl rfl ?_
            refine z_if_ge 61 dX7_sheet_52 (by decide) (fun h_52 => ?_) (fun h_52 => ?_)
            rotate_left
            · exfalso; grind
            refine z_iload_n (i := 3) dX7_sheet_61 rfl rfl ?_
            refine z_bipush (v := 24) dX7_sheet_62 (by decide) ?_
            refine z_icmp_le 73 dX7_sheet_64 (by decide) (fun h_64 => ?_) (fun h_64 => ?_)
            · exfalso; grind
            refine z_aload_n (i := 0) dX7_sheet_67 rfl rfl ?_
            refine z_iconst (v := 1) dX7_sheet_68 (by decide) ?_
            refine z_Vi (As := [_]) dX7_sheet_69 (by rfl) v_X7_refuse l_X7_73 (by first | decide | assumption | omega) rfl rfl rfl (by omega) (by decide) (Nat.le_of_ble_eq_true rfl) ?_
            refine s_refuse (by rfl) (by decide) ?_
            exact z_ret dX7_sheet_72 (WX_err hX hQ) trivial rfl
          · rw [if_neg (fun q => h24 q.2), if_neg hb] at hQ
            obtain ⟨w, hw, rfl⟩ := zj_of (x := s) (n := 25) (by grind) (by show s < (25 : Int32); grind) (by decide)
            refine z_iload_n (i := 2) dX7_sheet_35 rfl rfl ?_
            refine z_if_ne 51 dX7_sheet_36 (by decide) (fun h_36 => ?_) (fun h_36 => ?_)
            rotate_left
            · exact absurd (by first | exact h_36 | exact Classical.not_not.mp h_36) hb
            refine z_iload_n (i := 3) dX7_sheet_51 rfl rfl ?_
            refine z_if_ge 61 dX7_sheet_52 (by decide) (fun h_52 => ?_) (fun h_52 => ?_)
            rotate_left
            · exfalso; grind
            refine z_iload_n (i := 3) dX7_sheet_61 rfl rfl ?_
            refine z_bipush (v := 24) dX7_sheet_62 (by decide) ?_
            refine z_icmp_le 73 dX7_sheet_64 (by decide) (fun h_64 => ?_) (fun h_64 => ?_)
            rotate_left
            · exfalso; grind
            refine z_aload_n (i := 0) dX7_sheet_73 rfl rfl ?_
            refine z_getf dX7_sheet_74 f_X7_55 (by first | decide | assumption | omega) rfl (by rfl) ?_
            refine z_iload_n (i := 1) dX7_sheet_77 rfl rfl ?_
            refine z_iload_n (i := 2) dX7_sheet_78 rfl rfl ?_
            refine z_iload_n (i := 3) dX7_sheet_79 rfl rfl ?_
            refine z_Vv (As := [_, _, _]) dX7_sheet_80 (by rfl) v_X3_lays l_X7_247 (by first | decide | assumption | omega) rfl rfl rfl (by omega) (by decide) (Nat.le_of_ble_eq_true rfl) ?_
            refine s_lays (m := w) hj (by omega) (fun c2 h1 h2 h3 h4 => ?_)
            refine z_iconst (v := 1) dX7_sheet_83 (by decide) ?_
            exact z_ret (r := 1) dX7_sheet_84 (hQ _ (fun q hq => h4 q (by omega) (by omega) (by omega)) (RX_sh hX (fun q a e => h4 q (by omega) (by omega) (by omega)) (sh_lay hH hj (by omega) hok.2 h1 h2 h3 h4))) trivial rfl
    refine z_iload_n (i := 1) dX7_sheet_0 rfl rfl ?_
    refine z_Sb (As := [_]) dX7_sheet_1 (by rfl) v_X7_isSheet l_X7_216 rfl (by omega) (by decide) (Nat.le_of_ble_eq_true rfl) ?_
    refine s_isSheet (by omega) ?_
    refine z_if_eq 29 dX7_sheet_4 (by decide) (fun h_4 => ?_) (fun h_4 => ?_)
    · exfalso; exact absurd hok.1 (bite.mp (by first | exact h_4 | exact Classical.not_not.mp h_4))
    refine z_iload_n (i := 2) dX7_sheet_7 rfl rfl ?_
    refine z_if_eq 35 dX7_sheet_8 (by decide) (fun h_8 => ?_) (fun h_8 => ?_)
    · exact cut35
    · refine z_iload_n (i := 2) dX7_sheet_11 rfl rfl ?_
      refine z_bipush (v := 8) dX7_sheet_12 (by decide) ?_
      refine z_icmp_eq 35 dX7_sheet_14 (by decide) (fun h_14 => ?_) (fun h_14 => ?_)
      · exact cut35
      · refine z_iload_n (i := 2) dX7_sheet_17 rfl rfl ?_
        refine z_bipush (v := 16) dX7_sheet_18 (by decide) ?_
        refine z_icmp_eq 35 dX7_sheet_20 (by decide) (fun h_20 => ?_) (fun h_20 => ?_)
        · exact cut35
        · refine z_iload_n (i := 2) dX7_sheet_23 rfl rfl ?_
          refine z_bipush (v := 32) dX7_sheet_24 (by decide) ?_
          refine z_icmp_eq 35 dX7_sheet_26 (by decide) (fun h_26 => ?_) (fun h_26 => ?_)
          · exact cut35
          · refine z_aload_n (i := 0) dX7_sheet_29 rfl rfl ?_
            refine z_iconst (v := 1) dX7_sheet_30 (by decide) ?_
            refine z_Vi (As := [_]) dX7_sheet_31 (by rfl) v_X7_refuse l_X7_73 (by first | decide | assumption | omega) rfl rfl rfl (by omega) (by decide) (Nat.le_of_ble_eq_true rfl) ?_
            refine s_refuse (by rfl) (by decide) ?_
            exfalso; have := hok.2; grind
  · unfold o_sheet at hQ
    rw [if_neg hok] at hQ
    refine z_iload_n (i := 1) dX7_sheet_0 rfl rfl ?_
    refine z_Sb (As := [_]) dX7_sheet_1 (by rfl) v_X7_isSheet l_X7_216 rfl (by omega) (by decide) (Nat.le_of_ble_eq_true rfl) ?_
    refine s_isSheet (by omega) ?_
    refine z_if_eq 29 dX7_sheet_4 (by decide) (fun h_4 => ?_) (fun h_4 => ?_)
    · refine z_aload_n (i := 0) dX7_sheet_29 rfl rfl ?_
      refine z_iconst (v := 1) dX7_sheet_30 (by decide) ?_
      refine z_Vi (As := [_]) dX7_sheet_31 (by rfl) v_X7_refuse l_X7_73 (by first | decide | assumption | omega) rfl rfl rfl (by omega) (by decide) (Nat.le_of_ble_eq_true rfl) ?_
      refine s_refuse (by rfl) (by decide) ?_
      exact z_ret dX7_sheet_34 (WX_err hX hQ) trivial rfl
    · refine z_iload_n (i := 2) dX7_sheet_7 rfl rfl ?_
      refine z_if_eq 35 dX7_sheet_8 (by decide) (fun h_8 => ?_) (fun h_8 => ?_)
      · exfalso
        have h04 : 0 ≤ k ∧ k ≤ 3 := Classical.byContradiction (fun q => h_4 (bite.mpr q))
        exact hok ⟨h04, by grind⟩
      · refine z_iload_n (i := 2) dX7_sheet_11 rfl rfl ?_
        refine z_bipush (v := 8) dX7_sheet_12 (by decide) ?_
        refine z_icmp_eq 35 dX7_sheet_14 (by decide) (fun h_14 => ?_) (fun h_14 => ?_)
        · exfalso
          have h04 : 0 ≤ k ∧ k ≤ 3 := Classical.byContradiction (fun q => h_4 (bite.mpr q))
          exact hok ⟨h04, by grind⟩
        · refine z_iload_n (i := 2) dX7_sheet_17 rfl rfl ?_
          refine z_bipush (v := 16) dX7_sheet_18 (by decide) ?_
          refine z_icmp_eq 35 dX7_sheet_20 (by decide) (fun h_20 => ?_) (fun h_20 => ?_)
          · exfalso
            have h04 : 0 ≤ k ∧ k ≤ 3 := Classical.byContradiction (fun q => h_4 (bite.mpr q))
            exact hok ⟨h04, by grind⟩
          · refine z_iload_n (i := 2) dX7_sheet_23 rfl rfl ?_
            refine z_bipush (v := 32) dX7_sheet_24 (by decide) ?_
            refine z_icmp_eq 35 dX7_sheet_26 (by decide) (fun h_26 => ?_) (fun h_26 => ?_)
            · exfalso
              have h04 : 0 ≤ k ∧ k ≤ 3 := Classical.byContradiction (fun q => h_4 (bite.mpr q))
              exact hok ⟨h04, by grind⟩
            · refine z_aload_n (i := 0) dX7_sheet_29 rfl rfl ?_
              refine z_iconst (v := 1) dX7_sheet_30 (by decide) ?_
              refine z_Vi (As := [_]) dX7_sheet_31 (by rfl) v_X7_refuse l_X7_73 (by first | decide | assumption | omega) rfl rfl rfl (by omega) (by decide) (Nat.le_of_ble_eq_true rfl) ?_
              refine s_refuse (by rfl) (by decide) ?_
              exact z_ret dX7_sheet_34 (WX_err hX hQ) trivial rfl
theorem x_put {k i v : Int32} (hX : RX c σ) (hd : 8 ≤ d) (hQ : WX c Qf (o_put σ k i v)) : zCl l E ad mX7_put d [.ref (ad 0), .int k, .int i, .int v] c Qf := by
  have hH := hX.2.2.2.2.2.2
  refine z_enter (own := RX7) [some (.ref (ad 0)), some (.int k), some (.int i), some (.int v)] (by decide +kernel) rfl rfl rfl (Nat.le_of_ble_eq_true rfl) ?_
  by_cases hok : 0 ≤ k ∧ k ≤ 3
  · obtain ⟨j, hj, rfl⟩ := zj_of (x := k) (n := 4) hok.1 (by have := hok.2; show k < (4 : Int32); grind) (by decide)
    obtain ⟨g1, g2, g3, s, hs, es, g4⟩ := hH j hj
    have hrz := rows_z (E := E) (ad := ad) hj
    unfold o_put at hQ
    rw [if_pos hok, pn_nI (by omega), es] at hQ
    by_cases hi : 0 ≤ i ∧ i ≤ nI s - 1
    · obtain ⟨q, hq, rfl⟩ := lt_m60 (p := i) (n := s) (by omega) hi
      rw [if_pos hi, pn_nI (by omega)] at hQ
      have hlow : ¬ σ.2.2.2.2.2.2.1 j = 0 → (if c 43 j = 8 then v.toInt8.toInt32 else if c 43 j = 16 then v.toInt16.toInt32 else v) = (v <<< ((32 - σ.2.2.2.2.2.2.1 j) &&& 31)) >>> ((32 - σ.2.2.2.2.2.2.1 j) &&& 31) := by
        intro hb
        rw [g1]
        rcases g2 with e | e | e | e
        · exact absurd e hb
        · rw [e, if_pos rfl]; exact (shl_24 v).symm
        · rw [e, if_neg (by decide), if_pos rfl]; exact (shl_16 v).symm
        · rw [e, if_neg (by decide), if_neg (by decide)]; exact (shl_0 v).symm
      refine z_iload_n (i := 1) dX7_put_0 rfl rfl ?_
      refine z_Sb (As := [_]) dX7_put_1 (by rfl) v_X7_isSheet l_X7_216 rfl (by omega) (by decide) (Nat.le_of_ble_eq_true rfl) ?_
      refine s_isSheet (by omega) ?_
      refine z_if_ne 13 dX7_put_4 (by decide) (fun h_4 => ?_) (fun h_4 => ?_)
      rotate_left
      · exfalso; exact absurd hok (bite.mp (by first | exact h_4 | exact Classical.not_not.mp h_4))
      refine z_aload_n (i := 0) dX7_put_13 rfl rfl ?_
      refine z_getf dX7_put_14 f_X7_55 (by first | decide | assumption | omega) (by first | rfl | exact hrz _) (by rfl) ?_
      refine z_iload_n (i := 1) dX7_put_17 rfl rfl ?_
      refine z_Vb (As := [_]) dX7_put_18 (by rfl) v_X3_isMissing l_X7_219 (by first | decide | assumption | omega) (by first | rfl | exact hrz _) rfl rfl (by omega) (by decide) (Nat.le_of_ble_eq_true rfl) ?_
      refine s_isMissing hj ?_
      rw [g1]
      refine z_if_eq 30 dX7_put_21 (by decide) (fun h_21 => ?_) (fun h_21 => ?_)
      · have hb := bite.mp (by first | exact h_21 | exact Classical.not_not.mp h_21)
        rw [if_neg hb] at hQ
        refine z_iload_n (i := 2) dX7_put_30 rfl rfl ?_
        refine z_iconst (v := 0) dX7_put_31 (by decide) ?_
        refine z_aload_n (i := 0) dX7_put_32 rfl rfl ?_
        refine z_getf dX7_put_33 f_X7_55 (by first | decide | assumption | omega) (by first | rfl | exact hrz _) (by rfl) ?_
        refine z_getf dX7_put_36 f_X7_226 (by first | decide | assumption | omega) (by first | rfl | exact hrz _) (by rfl) ?_
        refine z_iload_n (i := 1) dX7_put_39 rfl rfl ?_
        refine z_iald (j := j) dX7_put_40 (by first | decide | assumption | omega) (by first | rfl | exact hrz _) (by rfl) (by first | decide | omega) (by first | decide | omega) ?_
        rw [g3, es]
        refine z_iconst (v := 1) dX7_put_41 (by decide) ?_
        refine z_isub dX7_put_42 ?_
        refine z_Sb (As := [_, _, _]) dX7_put_43 (by rfl) v_X7_isWithin l_X7_115 rfl (by omega) (by decide) (Nat.le_of_ble_eq_true rfl) ?_
        refine s_isWithin ?_
        refine z_if_ne 55 dX7_put_46 (by decide) (fun h_46 => ?_) (fun h_46 => ?_)
        rotate_left
        · exfalso; exact absurd hi (bite.mp (by first | exact h_46 | exact Classical.not_not.mp h_46))
        refine z_aload_n (i := 0) dX7_put_55 rfl rfl ?_
        refine z_getf dX7_put_56 f_X7_55 (by first | decide | assumption | omega) (by first | rfl | exact hrz _) (by rfl) ?_
        refine z_getf dX7_put_59 f_X7_222 (by first | decide | assumption | omega) (by first | rfl | exact hrz _) (by rfl) ?_
        refine z_iload_n (i := 1) dX7_put_62 rfl rfl ?_
        refine z_aald (j := j) dX7_put_63 (by rfl) (by first | decide | omega) (by first | decide | omega) ?_
        refine z_iload_n (i := 2) dX7_put_64 rfl rfl ?_
        refine z_aload_n (i := 0) dX7_put_65 rfl rfl ?_
        refine z_getf dX7_put_66 f_X7_55 (by first | decide | assumption | omega) (by first | rfl | exact hrz _) (by rfl) ?_
        refine z_iload_n (i := 1) dX7_put_69 rfl rfl ?_
        refine z_iload_n (i := 3) dX7_put_70 rfl rfl ?_
        refine z_Vi (As := [_, _]) dX7_put_71 (by rfl) v_X3_lowest l_X7_251 (by first | decide | assumption | omega) (by first | rfl | exact hrz _) rfl rfl (by omega) (by decide) (Nat.le_of_ble_eq_true rfl) ?_
        refine s_lowest hj ?_
        rw [hlow hb]
        refine z_iast (j := q) dX7_put_74 (by first | decide | assumption | omega) (fun _ => by first | rfl | exact hrz _) (by rfl) (by first | decide | omega) (by first | decide | omega) ?_
        refine z_iconst (v := 1) dX7_put_75 (by decide) ?_
        refine z_ret (r := 1) dX7_put_76 (hQ _ (fun q hq => zup_n (by omega)) (RX_sh hX (fun q a e => zup_n (by omega)) ?_)) trivial rfl
        intro p hp
        obtain ⟨a1, a2, a3, w, hw, ew, a4⟩ := hH p hp
        refine ⟨by rw [zup_n (by omega)]; exact a1, a2, by rw [zup_n (by omega)]; exact a3, w, hw, ew, fun r hr => ?_⟩
        by_cases e : p = j
        · subst e
          rw [zup_s]
          by_cases e2 : r = q
          · subst e2; rw [pk_us, pk_us]
          · rw [pk_un e2, pk_un (by omega)]; exact a4 r hr
        · rw [zup_n (by omega), pk_un (by omega)]; exact a4 r hr
      · refine z_aload_n (i := 0) dX7_put_24 rfl rfl ?_
        refine z_iconst (v := 2) dX7_put_25 (by decide) ?_
        refine z_Vi (As := [_]) dX7_put_26 (by rfl) v_X7_refuse l_X7_73 (by first | decide | assumption | omega) (by first | rfl | exact hrz _) rfl rfl (by omega) (by decide) (Nat.le_of_ble_eq_true rfl) ?_
        refine s_refuse (by rfl) (by decide) ?_
        rw [if_pos (Classical.byContradiction (fun q => h_21 (bite.mpr q)))] at hQ
        exact z_ret dX7_put_29 (WX_err hX hQ) trivial rfl
    · rw [if_neg hi] at hQ
      refine z_iload_n (i := 1) dX7_put_0 rfl rfl ?_
      refine z_Sb (As := [_]) dX7_put_1 (by rfl) v_X7_isSheet l_X7_216 rfl (by omega) (by decide) (Nat.le_of_ble_eq_true rfl) ?_
      refine s_isSheet (by omega) ?_
      refine z_if_ne 13 dX7_put_4 (by decide) (fun h_4 => ?_) (fun h_4 => ?_)
      rotate_left
      · exfalso; exact absurd hok (bite.mp (by first | exact h_4 | exact Classical.not_not.mp h_4))
      refine z_aload_n (i := 0) dX7_put_13 rfl rfl ?_
      refine z_getf dX7_put_14 f_X7_55 (by first | decide | assumption | omega) rfl (by rfl) ?_
      refine z_iload_n (i := 1) dX7_put_17 rfl rfl ?_
      refine z_Vb (As := [_]) dX7_put_18 (by rfl) v_X3_isMissing l_X7_219 (by first | decide | assumption | omega) rfl rfl rfl (by omega) (by decide) (Nat.le_of_ble_eq_true rfl) ?_
      refine s_isMissing hj ?_
      rw [g1]
      refine z_if_eq 30 dX7_put_21 (by decide) (fun h_21 => ?_) (fun h_21 => ?_)
      · rw [if_neg (bite.mp (by first | exact h_21 | exact Classical.not_not.mp h_21))] at hQ
        refine z_iload_n (i := 2) dX7_put_30 rfl rfl ?_
        refine z_iconst (v := 0) dX7_put_31 (by decide) ?_
        refine z_aload_n (i := 0) dX7_put_32 rfl rfl ?_
        refine z_getf dX7_put_33 f_X7_55 (by first | decide | assumption | omega) rfl (by rfl) ?_
        refine z_getf dX7_put_36 f_X7_226 (by first | decide | assumption | omega) rfl (by rfl) ?_
        refine z_iload_n (i := 1) dX7_put_39 rfl rfl ?_
        refine z_iald (j := j) dX7_put_40 (by first | decide | assumption | omega) rfl (by rfl) (by first | decide | omega) (by first | decide | omega) ?_
        rw [g3, es]
        refine z_iconst (v := 1) dX7_put_41 (by decide) ?_
        refine z_isub dX7_put_42 ?_
        refine z_Sb (As := [_, _, _]) dX7_put_43 (by rfl) v_X7_isWithin l_X7_115 rfl (by omega) (by decide) (Nat.le_of_ble_eq_true rfl) ?_
        refine s_isWithin ?_
        refine z_if_ne 55 dX7_put_46 (by decide) (fun h_46 => ?_) (fun h_46 => ?_)
        · exfalso; exact hi (Classical.byContradiction (fun q => h_46 (bite.mpr q)))
        refine z_aload_n (i := 0) dX7_put_49 rfl rfl ?_
        refine z_iconst (v := 1) dX7_put_50 (by decide) ?_
        refine z_Vi (As := [_]) dX7_put_51 (by rfl) v_X7_refuse l_X7_73 (by first | decide | assumption | omega) rfl rfl rfl (by omega) (by decide) (Nat.le_of_ble_eq_true rfl) ?_
        refine s_refuse (by rfl) (by decide) ?_
        exact z_ret dX7_put_54 (WX_err hX hQ) trivial rfl
      · refine z_aload_n (i := 0) dX7_put_24 rfl rfl ?_
        refine z_iconst (v := 2) dX7_put_25 (by decide) ?_
        refine z_Vi (As := [_]) dX7_put_26 (by rfl) v_X7_refuse l_X7_73 (by first | decide | assumption | omega) rfl rfl rfl (by omega) (by decide) (Nat.le_of_ble_eq_true rfl) ?_
        refine s_refuse (by rfl) (by decide) ?_
        rw [if_pos (Classical.byContradiction (fun q => h_21 (bite.mpr q)))] at hQ
        exact z_ret dX7_put_29 (WX_err hX hQ) trivial rfl
  · unfold o_put at hQ
    rw [if_neg hok] at hQ
    refine z_iload_n (i := 1) dX7_put_0 rfl rfl ?_
    refine z_Sb (As := [_]) dX7_put_1 (by rfl) v_X7_isSheet l_X7_216 rfl (by omega) (by decide) (Nat.le_of_ble_eq_true rfl) ?_
    refine s_isSheet (by omega) ?_
    refine z_if_ne 13 dX7_put_4 (by decide) (fun h_4 => ?_) (fun h_4 => ?_)
    · exfalso; exact hok (Classical.byContradiction (fun q => h_4 (bite.mpr q)))
    refine z_aload_n (i := 0) dX7_put_7 rfl rfl ?_
    refine z_iconst (v := 1) dX7_put_8 (by decide) ?_
    refine z_Vi (As := [_]) dX7_put_9 (by rfl) v_X7_refuse l_X7_73 (by first | decide | assumption | omega) rfl rfl rfl (by omega) (by decide) (Nat.le_of_ble_eq_true rfl) ?_
    refine s_refuse (by rfl) (by decide) ?_
    exact z_ret dX7_put_12 (WX_err hX hQ) trivial rfl
theorem hold_nI {i m : Int32} {s : Nat} (hs : s ≤ 24) (h : 0 ≤ m ∧ 0 ≤ i ∧ i ≤ nI s - m) : ∃ a b : Nat, i = nI a ∧ m = nI b ∧ a + b ≤ s := by
  obtain ⟨h1, h2, h3⟩ := h
  rw [Int32.le_iff_toInt_le] at h1 h2 h3
  have z : (0 : Int32).toInt = 0 := rfl
  rw [Int32.toInt_sub, nI_toInt (by omega)] at h3
  have m1 := Int32.toInt_lt m
  have i1 := Int32.toInt_lt i
  rw [Int.bmod_eq_of_le (by omega) (by omega)] at h3
  obtain ⟨a, ha, ea⟩ := nI_of (x := i) (by rw [Int32.lt_iff_toInt_lt]; omega)
  obtain ⟨b, hb, eb⟩ := nI_of (x := m) (by rw [Int32.lt_iff_toInt_lt]; omega)
  refine ⟨a, b, ea, eb, ?_⟩
  rw [ea, eb, nI_toInt (by omega), nI_toInt (by omega)] at h3
  omega
theorem x_move {k i o j m : Int32} (hX : RX c σ) (hd : 8 ≤ d) (hQ : WX c Qf (o_move σ k i o j m)) : zCl l E ad mX7_move d [.ref (ad 0), .int k, .int i, .int o, .int j, .int m] c Qf := by
  have hH := hX.2.2.2.2.2.2
  refine z_enter (own := RX7) [some (.ref (ad 0)), some (.int k), some (.int i), some (.int o), some (.int j), some (.int m)] (by decide +kernel) rfl rfl rfl (Nat.le_of_ble_eq_true rfl) ?_
  by_cases hok : (0 ≤ k ∧ k ≤ 3) ∧ 0 ≤ o ∧ o ≤ 3
  · obtain ⟨K, hK, rfl⟩ := zj_of (x := k) (n := 4) hok.1.1 (by have := hok.1.2; show k < (4 : Int32); grind) (by decide)
    obtain ⟨O, hO, rfl⟩ := zj_of (x := o) (n := 4) hok.2.1 (by have := hok.2.2; show o < (4 : Int32); grind) (by decide)
    obtain ⟨g1, g2, g3, s, hs, es, g4⟩ := hH K hK
    obtain ⟨o1, o2, o3, s2, hs2, es2, o4⟩ := hH O hO
    have hrk := rows_z (E := E) (ad := ad) hK
    have hro := rows_z (E := E) (ad := ad) hO
    unfold o_move at hQ
    rw [if_pos hok, pn_nI (by omega), pn_nI (by omega), es, es2] at hQ
    by_cases hb : σ.2.2.2.2.2.2.1 K = 0 ∨ σ.2.2.2.2.2.2.1 O = 0
    · rw [if_pos hb] at hQ
      refine z_iload_n (i := 1) dX7_move_0 rfl rfl ?_
      refine z_Sb (As := [_]) dX7_move_1 (by rfl) v_X7_isSheet l_X7_216 rfl (by omega) (by decide) (Nat.le_of_ble_eq_true rfl) ?_
      refine s_isSheet (by omega) ?_
      refine z_if_eq 14 dX7_move_4 (by decide) (fun h_4 => ?_) (fun h_4 => ?_)
      · exfalso; exact absurd hok.1 (bite.mp (by first | exact h_4 | exact Classical.not_not.mp h_4))
      refine z_iload_n (i := 3) dX7_move_7 rfl rfl ?_
      refine z_Sb (As := [_]) dX7_move_8 (by rfl) v_X7_isSheet l_X7_216 rfl (by omega) (by decide) (Nat.le_of_ble_eq_true rfl) ?_
      refine s_isSheet (by omega) ?_
      refine z_if_ne 20 dX7_move_11 (by decide) (fun h_11 => ?_) (fun h_11 => ?_)
      rotate_left
      · exfalso; exact absurd hok.2 (bite.mp (by first | exact h_11 | exact Classical.not_not.mp h_11))
      refine z_aload_n (i := 0) dX7_move_20 rfl rfl ?_
      refine z_getf dX7_move_21 f_X7_55 (by first | decide | assumption | omega) rfl (by rfl) ?_
      refine z_iload_n (i := 1) dX7_move_24 rfl rfl ?_
      refine z_Vb (As := [_]) dX7_move_25 (by rfl) v_X3_isMissing l_X7_219 (by first | decide | assumption | omega) rfl rfl rfl (by omega) (by decide) (Nat.le_of_ble_eq_true rfl) ?_
      refine s_isMissing hK ?_
      rw [g1]
      refine z_if_ne 42 dX7_move_28 (by decide) (fun h_28 => ?_) (fun h_28 => ?_)
      · refine z_aload_n (i := 0) dX7_move_42 rfl rfl ?_
        refine z_iconst (v := 2) dX7_move_43 (by decide) ?_
        refine z_Vi (As := [_]) dX7_move_44 (by rfl) v_X7_refuse l_X7_73 (by first | decide | assumption | omega) rfl rfl rfl (by omega) (by decide) (Nat.le_of_ble_eq_true rfl) ?_
        refine s_refuse (by rfl) (by decide) ?_
        exact z_ret dX7_move_47 (WX_err hX hQ) trivial rfl
      · refine z_aload_n (i := 0) dX7_move_31 rfl rfl ?_
        refine z_getf dX7_move_32 f_X7_55 (by first | decide | assumption | omega) rfl (by rfl) ?_
        refine z_iload_n (i := 3) dX7_move_35 rfl rfl ?_
        refine z_Vb (As := [_]) dX7_move_36 (by rfl) v_X3_isMissing l_X7_219 (by first | decide | assumption | omega) rfl rfl rfl (by omega) (by decide) (Nat.le_of_ble_eq_true rfl) ?_
        refine s_isMissing hO ?_
        rw [o1]
        refine z_if_eq 48 dX7_move_39 (by decide) (fun h_39 => ?_) (fun h_39 => ?_)
        · exfalso; exact bite.mp (by first | exact h_39 | exact Classical.not_not.mp h_39) (hb.resolve_left (bite.mp (by first | exact h_28 | exact Classical.not_not.mp h_28)))
        refine z_aload_n (i := 0) dX7_move_42 rfl rfl ?_
        refine z_iconst (v := 2) dX7_move_43 (by decide) ?_
        refine z_Vi (As := [_]) dX7_move_44 (by rfl) v_X7_refuse l_X7_73 (by first | decide | assumption | omega) rfl rfl rfl (by omega) (by decide) (Nat.le_of_ble_eq_true rfl) ?_
        refine s_refuse (by rfl) (by decide) ?_
        exact z_ret dX7_move_47 (WX_err hX hQ) trivial rfl
    · rw [if_neg hb] at hQ
      by_cases hu : σ.2.2.2.2.2.2.1 K = σ.2.2.2.2.2.2.1 O
      · rw [if_neg (fun q => q hu)] at hQ
        by_cases hf : 0 ≤ m ∧ 0 ≤ i ∧ 0 ≤ j ∧ i ≤ nI s - m ∧ j ≤ nI s2 - m
        · rw [if_pos hf] at hQ
          obtain ⟨a, b, ea, eb, hab⟩ := hold_nI hs (i := i) (m := m) ⟨hf.1, hf.2.1, hf.2.2.2.1⟩
          obtain ⟨a2, b2, ea2, eb2, hab2⟩ := hold_nI hs2 (i := j) (m := m) ⟨hf.1, hf.2.2.1, hf.2.2.2.2⟩
          have ebb : b2 = b := by
            rw [eb] at eb2
            exact ((nI_eq (by omega) (by omega)).mp eb2).symm
          subst ebb
          subst ea
          subst ea2
          subst eb
          rw [pn_nI (by omega), pn_nI (by omega), pn_nI (by omega)] at hQ
          have ca : (nI a).toNatClampNeg = a := pn_nI (by omega)
          have ca2 : (nI a2).toNatClampNeg = a2 := pn_nI (by omega)
          have cb : (nI b2).toNatClampNeg = b2 := pn_nI (by omega)
          have pa := nI_pos' (n := a) (by omega)
          have pa2 := nI_pos' (n := a2) (by omega)
          have pb := nI_pos' (n := b2) (by omega)
          refine z_iload_n (i := 1) dX7_move_0 rfl rfl ?_
          refine z_Sb (As := [_]) dX7_move_1 (by rfl) v_X7_isSheet l_X7_216 rfl (by omega) (by decide) (Nat.le_of_ble_eq_true rfl) ?_
          refine s_isSheet (by omega) ?_
          refine z_if_eq 14 dX7_move_4 (by decide) (fun h_4 => ?_) (fun h_4 => ?_)
          · exfalso; exact absurd hok.1 (bite.mp (by first | exact h_4 | exact Classical.not_not.mp h_4))
          refine z_iload_n (i := 3) dX7_move_7 rfl rfl ?_
          refine z_Sb (As := [_]) dX7_move_8 (by rfl) v_X7_isSheet l_X7_216 rfl (by omega) (by decide) (Nat.le_of_ble_eq_true rfl) ?_
          refine s_isSheet (by omega) ?_
          refine z_if_ne 20 dX7_move_11 (by decide) (fun h_11 => ?_) (fun h_11 => ?_)
          rotate_left
          · exfalso; exact absurd hok.2 (bite.mp (by first | exact h_11 | exact Classical.not_not.mp h_11))
          refine z_aload_n (i := 0) dX7_move_20 rfl rfl ?_
          refine z_getf dX7_move_21 f_X7_55 (by first | decide | assumption | omega) (by first | rfl | exact hrk _ | exact hro _) (by rfl) ?_
          refine z_iload_n (i := 1) dX7_move_24 rfl rfl ?_
          refine z_Vb (As := [_]) dX7_move_25 (by rfl) v_X3_isMissing l_X7_219 (by first | decide | assumption | omega) (by first | rfl | exact hrk _ | exact hro _) rfl rfl (by omega) (by decide) (Nat.le_of_ble_eq_true rfl) ?_
          refine s_isMissing hK ?_
          rw [g1]
          refine z_if_ne 42 dX7_move_28 (by decide) (fun h_28 => ?_) (fun h_28 => ?_)
          · exfalso; exact hb (Or.inl (Classical.byContradiction (fun q => h_28 (bite.mpr q))))
          refine z_aload_n (i := 0) dX7_move_31 rfl rfl ?_
          refine z_getf dX7_move_32 f_X7_55 (by first | decide | assumption | omega) (by first | rfl | exact hrk _ | exact hro _) (by rfl) ?_
          refine z_iload_n (i := 3) dX7_move_35 rfl rfl ?_
          refine z_Vb (As := [_]) dX7_move_36 (by rfl) v_X3_isMissing l_X7_219 (by first | decide | assumption | omega) (by first | rfl | exact hrk _ | exact hro _) rfl rfl (by omega) (by decide) (Nat.le_of_ble_eq_true rfl) ?_
          refine s_isMissing hO ?_
          rw [o1]
          refine z_if_eq 48 dX7_move_39 (by decide) (fun h_39 => ?_) (fun h_39 => ?_)
          rotate_left
          · exfalso; exact hb (Or.inr (Classical.byContradiction (fun q => h_39 (bite.mpr q))))
          refine z_aload_n (i := 0) dX7_move_48 rfl rfl ?_
          refine z_getf dX7_move_49 f_X7_55 (by first | decide | assumption | omega) (by first | rfl | exact hrk _ | exact hro _) (by rfl) ?_
          refine z_getf dX7_move_52 f_X7_254 (by first | decide | assumption | omega) (by first | rfl | exact hrk _ | exact hro _) (by rfl) ?_
          refine z_iload_n (i := 1) dX7_move_55 rfl rfl ?_
          refine z_iald (j := K) dX7_move_56 (by first | decide | assumption | omega) (by first | rfl | exact hrk _ | exact hro _) (by rfl) (by first | decide | omega) (by first | decide | omega) ?_
          refine z_aload_n (i := 0) dX7_move_57 rfl rfl ?_
          refine z_getf dX7_move_58 f_X7_55 (by first | decide | assumption | omega) (by first | rfl | exact hrk _ | exact hro _) (by rfl) ?_
          refine z_getf dX7_move_61 f_X7_254 (by first | decide | assumption | omega) (by first | rfl | exact hrk _ | exact hro _) (by rfl) ?_
          refine z_iload_n (i := 3) dX7_move_64 rfl rfl ?_
          refine z_iald (j := O) dX7_move_65 (by first | decide | assumption | omega) (by first | rfl | exact hrk _ | exact hro _) (by rfl) (by first | decide | omega) (by first | decide | omega) ?_
          rw [g1, o1]
          refine z_icmp_eq 75 dX7_move_66 (by decide) (fun h_66 => ?_) (fun h_66 => ?_)
          rotate_left
          · exact absurd hu h_66
          refine z_aload_n (i := 0) dX7_move_75 rfl rfl ?_
          refine z_getf dX7_move_76 f_X7_55 (by first | decide | assumption | omega) (by first | rfl | exact hrk _ | exact hro _) (by rfl) ?_
          refine z_iload_n (i := 1) dX7_move_79 rfl rfl ?_
          refine z_iload_n (i := 2) dX7_move_80 rfl rfl ?_
          refine z_iload (i := 5) dX7_move_81 rfl ?_
          refine z_Vb (As := [_, _, _]) dX7_move_83 (by rfl) v_X3_holds l_X7_257 (by first | decide | assumption | omega) (by first | rfl | exact hrk _ | exact hro _) rfl rfl (by omega) (by decide) (Nat.le_of_ble_eq_true rfl) ?_
          refine s_holds hK ?_
          rw [g3, es]
          refine z_if_eq 104 dX7_move_86 (by decide) (fun h_86 => ?_) (fun h_86 => ?_)
          · exfalso; have q9 : 0 ≤ nI b2 ∧ 0 ≤ nI a ∧ nI a ≤ nI s - nI b2 := ⟨hf.1, hf.2.1, hf.2.2.2.1⟩; exact absurd q9 (bite.mp (by first | exact h_86 | exact Classical.not_not.mp h_86))
          refine z_aload_n (i := 0) dX7_move_89 rfl rfl ?_
          refine z_getf dX7_move_90 f_X7_55 (by first | decide | assumption | omega) (by first | rfl | exact hrk _ | exact hro _) (by rfl) ?_
          refine z_iload_n (i := 3) dX7_move_93 rfl rfl ?_
          refine z_iload (i := 4) dX7_move_94 rfl ?_
          refine z_iload (i := 5) dX7_move_96 rfl ?_
          refine z_Vb (As := [_, _, _]) dX7_move_98 (by rfl) v_X3_holds l_X7_257 (by first | decide | assumption | omega) (by first | rfl | exact hrk _ | exact hro _) rfl rfl (by omega) (by decide) (Nat.le_of_ble_eq_true rfl) ?_
          refine s_holds hO ?_
          rw [o3, es2]
          refine z_if_ne 110 dX7_move_101 (by decide) (fun h_101 => ?_) (fun h_101 => ?_)
          rotate_left
          · exfalso; have q9 : 0 ≤ nI b2 ∧ 0 ≤ nI a2 ∧ nI a2 ≤ nI s2 - nI b2 := ⟨hf.1, hf.2.2.1, hf.2.2.2.2⟩; exact absurd q9 (bite.mp (by first | exact h_101 | exact Classical.not_not.mp h_101))
          refine z_aload_n (i := 0) dX7_move_110 rfl rfl ?_
          refine z_getf dX7_move_111 f_X7_55 (by first | decide | assumption | omega) (by first | rfl | exact hrk _ | exact hro _) (by rfl) ?_
          refine z_getf dX7_move_114 f_X7_222 (by first | decide | assumption | omega) (by first | rfl | exact hrk _ | exact hro _) (by rfl) ?_
          refine z_iload_n (i := 1) dX7_move_117 rfl rfl ?_
          refine z_aald (j := K) dX7_move_118 (by rfl) (by first | decide | omega) (by first | decide | omega) ?_
          refine z_iload_n (i := 2) dX7_move_119 rfl rfl ?_
          refine z_aload_n (i := 0) dX7_move_120 rfl rfl ?_
          refine z_getf dX7_move_121 f_X7_55 (by first | decide | assumption | omega) (by first | rfl | exact hrk _ | exact hro _) (by rfl) ?_
          refine z_getf dX7_move_124 f_X7_222 (by first | decide | assumption | omega) (by first | rfl | exact hrk _ | exact hro _) (by rfl) ?_
          refine z_iload_n (i := 3) dX7_move_127 rfl rfl ?_
          refine z_aald (j := O) dX7_move_128 (by rfl) (by first | decide | omega) (by first | decide | omega) ?_
          refine z_iload (i := 4) dX7_move_129 rfl ?_
          refine z_iload (i := 5) dX7_move_131 rfl ?_
          refine z_copy dX7_move_133 (by omega) (Nat.le_of_ble_eq_true rfl) l_X7_260 w_acN w_acS w_sysI (by first | decide | assumption | omega) (by first | decide | assumption | omega) (by first | rfl | exact hrk _ | exact hro _) (fun _ => by first | rfl | exact hrk _ | exact hro _) (by intro q; grind) (by intro q; grind) (by intro q; grind) (by rw [ca, cb]; omega) (by rw [ca2, cb]; omega) ?_
          refine z_iload (i := 5) dX7_move_136 rfl ?_
          refine z_ret dX7_move_138 (hQ _ (fun q hq => zup_n (by omega)) (RX_sh hX (fun q x e => zup_n (by omega)) ?_)) trivial rfl
          rw [ca, ca2, cb]
          intro p hp
          obtain ⟨a1, a2', a3, w, hw, ew, a4⟩ := hH p hp
          refine ⟨by rw [zup_n (by omega)]; exact a1, a2', by rw [zup_n (by omega)]; exact a3, w, hw, ew, fun r hr => ?_⟩
          by_cases e : p = O
          · subst e
            rw [zup_s]
            unfold va_cpy
            dsimp only
            by_cases e2 : a2 ≤ r ∧ r < a2 + b2
            · rw [if_pos (by omega), if_pos (by omega), g4 _ (by omega)]
              have ex : 24 * K + (a + (r - a2)) = 24 * K + a + (24 * p + r - (24 * p + a2)) := by omega
              rw [ex]
            · rw [if_neg (by omega), if_neg (by omega)]
              exact a4 r hr
          · dsimp only
            rw [zup_n (by omega), if_neg (by omega)]
            exact a4 r hr
        · rw [if_neg hf] at hQ
          refine z_iload_n (i := 1) dX7_move_0 rfl rfl ?_
          refine z_Sb (As := [_]) dX7_move_1 (by rfl) v_X7_isSheet l_X7_216 rfl (by omega) (by decide) (Nat.le_of_ble_eq_true rfl) ?_
          refine s_isSheet (by omega) ?_
          refine z_if_eq 14 dX7_move_4 (by decide) (fun h_4 => ?_) (fun h_4 => ?_)
          · exfalso; exact absurd hok.1 (bite.mp (by first | exact h_4 | exact Classical.not_not.mp h_4))
          refine z_iload_n (i := 3) dX7_move_7 rfl rfl ?_
          refine z_Sb (As := [_]) dX7_move_8 (by rfl) v_X7_isSheet l_X7_216 rfl (by omega) (by decide) (Nat.le_of_ble_eq_true rfl) ?_
          refine s_isSheet (by omega) ?_
          refine z_if_ne 20 dX7_move_11 (by decide) (fun h_11 => ?_) (fun h_11 => ?_)
          rotate_left
          · exfalso; exact absurd hok.2 (bite.mp (by first | exact h_11 | exact Classical.not_not.mp h_11))
          refine z_aload_n (i := 0) dX7_move_20 rfl rfl ?_
          refine z_getf dX7_move_21 f_X7_55 (by first | decide | assumption | omega) rfl (by rfl) ?_
          refine z_iload_n (i := 1) dX7_move_24 rfl rfl ?_
          refine z_Vb (As := [_]) dX7_move_25 (by rfl) v_X3_isMissing l_X7_219 (by first | decide | assumption | omega) rfl rfl rfl (by omega) (by decide) (Nat.le_of_ble_eq_true rfl) ?_
          refine s_isMissing hK ?_
          rw [g1]
          refine z_if_ne 42 dX7_move_28 (by decide) (fun h_28 => ?_) (fun h_28 => ?_)
          · exfalso; exact hb (Or.inl (Classical.byContradiction (fun q => h_28 (bite.mpr q))))
          refine z_aload_n (i := 0) dX7_move_31 rfl rfl ?_
          refine z_getf dX7_move_32 f_X7_55 (by first | decide | assumption | omega) rfl (by rfl) ?_
          refine z_iload_n (i := 3) dX7_move_35 rfl rfl ?_
          refine z_Vb (As := [_]) dX7_move_36 (by rfl) v_X3_isMissing l_X7_219 (by first | decide | assumption | omega) rfl rfl rfl (by omega) (by decide) (Nat.le_of_ble_eq_true rfl) ?_
          refine s_isMissing hO ?_
          rw [o1]
          refine z_if_eq 48 dX7_move_39 (by decide) (fun h_39 => ?_) (fun h_39 => ?_)
          rotate_left
          · exfalso; exact hb (Or.inr (Classical.byContradiction (fun q => h_39 (bite.mpr q))))
          refine z_aload_n (i := 0) dX7_move_48 rfl rfl ?_
          refine z_getf dX7_move_49 f_X7_55 (by first | decide | assumption | omega) rfl (by rfl) ?_
          refine z_getf dX7_move_52 f_X7_254 (by first | decide | assumption | omega) rfl (by rfl) ?_
          refine z_iload_n (i := 1) dX7_move_55 rfl rfl ?_
          refine z_iald (j := K) dX7_move_56 (by first | decide | assumption | omega) rfl (by rfl) (by first | decide | omega) (by first | decide | omega) ?_
          refine z_aload_n (i := 0) dX7_move_57 rfl rfl ?_
          refine z_getf dX7_move_58 f_X7_55 (by first | decide | assumption | omega) rfl (by rfl) ?_
          refine z_getf dX7_move_61 f_X7_254 (by first | decide | assumption | omega) rfl (by rfl) ?_
          refine z_iload_n (i := 3) dX7_move_64 rfl rfl ?_
          refine z_iald (j := O) dX7_move_65 (by first | decide | assumption | omega) rfl (by rfl) (by first | decide | omega) (by first | decide | omega) ?_
          rw [g1, o1]
          refine z_icmp_eq 75 dX7_move_66 (by decide) (fun h_66 => ?_) (fun h_66 => ?_)
          rotate_left
          · exact absurd hu h_66
          refine z_aload_n (i := 0) dX7_move_75 rfl rfl ?_
          refine z_getf dX7_move_76 f_X7_55 (by first | decide | assumption | omega) rfl (by rfl) ?_
          refine z_iload_n (i := 1) dX7_move_79 rfl rfl ?_
          refine z_iload_n (i := 2) dX7_move_80 rfl rfl ?_
          refine z_iload (i := 5) dX7_move_81 rfl ?_
          refine z_Vb (As := [_, _, _]) dX7_move_83 (by rfl) v_X3_holds l_X7_257 (by first | decide | assumption | omega) rfl rfl rfl (by omega) (by decide) (Nat.le_of_ble_eq_true rfl) ?_
          refine s_holds hK ?_
          rw [g3, es]
          refine z_if_eq 104 dX7_move_86 (by decide) (fun h_86 => ?_) (fun h_86 => ?_)
          · refine z_aload_n (i := 0) dX7_move_104 rfl rfl ?_
            refine z_iconst (v := 1) dX7_move_105 (by decide) ?_
            refine z_Vi (As := [_]) dX7_move_106 (by rfl) v_X7_refuse l_X7_73 (by first | decide | assumption | omega) rfl rfl rfl (by omega) (by decide) (Nat.le_of_ble_eq_true rfl) ?_
            refine s_refuse (by rfl) (by decide) ?_
            exact z_ret dX7_move_109 (WX_err hX hQ) trivial rfl
          · refine z_aload_n (i := 0) dX7_move_89 rfl rfl ?_
            refine z_getf dX7_move_90 f_X7_55 (by first | decide | assumption | omega) rfl (by rfl) ?_
            refine z_iload_n (i := 3) dX7_move_93 rfl rfl ?_
            refine z_iload (i := 4) dX7_move_94 rfl ?_
            refine z_iload (i := 5) dX7_move_96 rfl ?_
            refine z_Vb (As := [_, _, _]) dX7_move_98 (by rfl) v_X3_holds l_X7_257 (by first | decide | assumption | omega) rfl rfl rfl (by omega) (by decide) (Nat.le_of_ble_eq_true rfl) ?_
            refine s_holds hO ?_
            rw [o3, es2]
            refine z_if_ne 110 dX7_move_101 (by decide) (fun h_101 => ?_) (fun h_101 => ?_)
            · exfalso
              have q1 : 0 ≤ m ∧ 0 ≤ i ∧ i ≤ nI s - m := Classical.byContradiction (fun q => h_86 (bite.mpr q))
              have q2 : 0 ≤ m ∧ 0 ≤ j ∧ j ≤ nI s2 - m := Classical.byContradiction (fun q => h_101 (bite.mpr q))
              exact hf ⟨q1.1, q1.2.1, q2.2.1, q1.2.2, q2.2.2⟩
            refine z_aload_n (i := 0) dX7_move_104 rfl rfl ?_
            refine z_iconst (v := 1) dX7_move_105 (by decide) ?_
            refine z_Vi (As := [_]) dX7_move_106 (by rfl) v_X7_refuse l_X7_73 (by first | decide | assumption | omega) rfl rfl rfl (by omega) (by decide) (Nat.le_of_ble_eq_true rfl) ?_
            refine s_refuse (by rfl) (by decide) ?_
            exact z_ret dX7_move_109 (WX_err hX hQ) trivial rfl
      · rw [if_pos hu] at hQ
        refine z_iload_n (i := 1) dX7_move_0 rfl rfl ?_
        refine z_Sb (As := [_]) dX7_move_1 (by rfl) v_X7_isSheet l_X7_216 rfl (by omega) (by decide) (Nat.le_of_ble_eq_true rfl) ?_
        refine s_isSheet (by omega) ?_
        refine z_if_eq 14 dX7_move_4 (by decide) (fun h_4 => ?_) (fun h_4 => ?_)
        · exfalso; exact absurd hok.1 (bite.mp (by first | exact h_4 | exact Classical.not_not.mp h_4))
        refine z_iload_n (i := 3) dX7_move_7 rfl rfl ?_
        refine z_Sb (As := [_]) dX7_move_8 (by rfl) v_X7_isSheet l_X7_216 rfl (by omega) (by decide) (Nat.le_of_ble_eq_true rfl) ?_
        refine s_isSheet (by omega) ?_
        refine z_if_ne 20 dX7_move_11 (by decide) (fun h_11 => ?_) (fun h_11 => ?_)
        rotate_left
        · exfalso; exact absurd hok.2 (bite.mp (by first | exact h_11 | exact Classical.not_not.mp h_11))
        refine z_aload_n (i := 0) dX7_move_20 rfl rfl ?_
        refine z_getf dX7_move_21 f_X7_55 (by first | decide | assumption | omega) rfl (by rfl) ?_
        refine z_iload_n (i := 1) dX7_move_24 rfl rfl ?_
        refine z_Vb (As := [_]) dX7_move_25 (by rfl) v_X3_isMissing l_X7_219 (by first | decide | assumption | omega) rfl rfl rfl (by omega) (by decide) (Nat.le_of_ble_eq_true rfl) ?_
        refine s_isMissing hK ?_
        rw [g1]
        refine z_if_ne 42 dX7_move_28 (by decide) (fun h_28 => ?_) (fun h_28 => ?_)
        · exfalso; exact hb (Or.inl (Classical.byContradiction (fun q => h_28 (bite.mpr q))))
        refine z_aload_n (i := 0) dX7_move_31 rfl rfl ?_
        refine z_getf dX7_move_32 f_X7_55 (by first | decide | assumption | omega) rfl (by rfl) ?_
        refine z_iload_n (i := 3) dX7_move_35 rfl rfl ?_
        refine z_Vb (As := [_]) dX7_move_36 (by rfl) v_X3_isMissing l_X7_219 (by first | decide | assumption | omega) rfl rfl rfl (by omega) (by decide) (Nat.le_of_ble_eq_true rfl) ?_
        refine s_isMissing hO ?_
        rw [o1]
        refine z_if_eq 48 dX7_move_39 (by decide) (fun h_39 => ?_) (fun h_39 => ?_)
        rotate_left
        · exfalso; exact hb (Or.inr (Classical.byContradiction (fun q => h_39 (bite.mpr q))))
        refine z_aload_n (i := 0) dX7_move_48 rfl rfl ?_
        refine z_getf dX7_move_49 f_X7_55 (by first | decide | assumption | omega) rfl (by rfl) ?_
        refine z_getf dX7_move_52 f_X7_254 (by first | decide | assumption | omega) rfl (by rfl) ?_
        refine z_iload_n (i := 1) dX7_move_55 rfl rfl ?_
        refine z_iald (j := K) dX7_move_56 (by first | decide | assumption | omega) rfl (by rfl) (by first | decide | omega) (by first | decide | omega) ?_
        refine z_aload_n (i := 0) dX7_move_57 rfl rfl ?_
        refine z_getf dX7_move_58 f_X7_55 (by first | decide | assumption | omega) rfl (by rfl) ?_
        refine z_getf dX7_move_61 f_X7_254 (by first | decide | assumption | omega) rfl (by rfl) ?_
        refine z_iload_n (i := 3) dX7_move_64 rfl rfl ?_
        refine z_iald (j := O) dX7_move_65 (by first | decide | assumption | omega) rfl (by rfl) (by first | decide | omega) (by first | decide | omega) ?_
        rw [g1, o1]
        refine z_icmp_eq 75 dX7_move_66 (by decide) (fun h_66 => ?_) (fun h_66 => ?_)
        · exact absurd (by first | exact h_66 | exact Classical.not_not.mp h_66) hu
        refine z_aload_n (i := 0) dX7_move_69 rfl rfl ?_
        refine z_iconst (v := 5) dX7_move_70 (by decide) ?_
        refine z_Vi (As := [_]) dX7_move_71 (by rfl) v_X7_refuse l_X7_73 (by first | decide | assumption | omega) rfl rfl rfl (by omega) (by decide) (Nat.le_of_ble_eq_true rfl) ?_
        refine s_refuse (by rfl) (by decide) ?_
        exact z_ret dX7_move_74 (WX_err hX hQ) trivial rfl
  · unfold o_move at hQ
    rw [if_neg hok] at hQ
    refine z_iload_n (i := 1) dX7_move_0 rfl rfl ?_
    refine z_Sb (As := [_]) dX7_move_1 (by rfl) v_X7_isSheet l_X7_216 rfl (by omega) (by decide) (Nat.le_of_ble_eq_true rfl) ?_
    refine s_isSheet (by omega) ?_
    refine z_if_eq 14 dX7_move_4 (by decide) (fun h_4 => ?_) (fun h_4 => ?_)
    · refine z_aload_n (i := 0) dX7_move_14 rfl rfl ?_
      refine z_iconst (v := 1) dX7_move_15 (by decide) ?_
      refine z_Vi (As := [_]) dX7_move_16 (by rfl) v_X7_refuse l_X7_73 (by first | decide | assumption | omega) rfl rfl rfl (by omega) (by decide) (Nat.le_of_ble_eq_true rfl) ?_
      refine s_refuse (by rfl) (by decide) ?_
      exact z_ret dX7_move_19 (WX_err hX hQ) trivial rfl
    · refine z_iload_n (i := 3) dX7_move_7 rfl rfl ?_
      refine z_Sb (As := [_]) dX7_move_8 (by rfl) v_X7_isSheet l_X7_216 rfl (by omega) (by decide) (Nat.le_of_ble_eq_true rfl) ?_
      refine s_isSheet (by omega) ?_
      refine z_if_ne 20 dX7_move_11 (by decide) (fun h_11 => ?_) (fun h_11 => ?_)
      · exfalso; exact hok ⟨Classical.byContradiction (fun q => h_4 (bite.mpr q)), Classical.byContradiction (fun q => h_11 (bite.mpr q))⟩
      refine z_aload_n (i := 0) dX7_move_14 rfl rfl ?_
      refine z_iconst (v := 1) dX7_move_15 (by decide) ?_
      refine z_Vi (As := [_]) dX7_move_16 (by rfl) v_X7_refuse l_X7_73 (by first | decide | assumption | omega) rfl rfl rfl (by omega) (by decide) (Nat.le_of_ble_eq_true rfl) ?_
      refine s_refuse (by rfl) (by decide) ?_
      exact z_ret dX7_move_19 (WX_err hX hQ) trivial rfl
end X9
