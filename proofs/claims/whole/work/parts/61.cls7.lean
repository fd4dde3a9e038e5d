/-! the class's calls: least, fills, withWhom, odds -/
def u3F (a : Int32) (b : Int32) : Int32 := (a.toUInt32 >>> (b.toUInt32 &&& Int32.toUInt32 31)).toInt32
def b1F (x : Int32) : Int32 := x - (u3F x 1 &&& 1431655765)
def b2F (x : Int32) : Int32 := (x &&& 858993459) + (u3F x 2 &&& 858993459)
def b3F (x : Int32) : Int32 := x + u3F x 4 &&& 252645135
def b4F (x : Int32) : Int32 := x + u3F x 8
def b5F (x : Int32) : Int32 := x + u3F x 16
def bcF (x : Int32) : Int32 := b5F (b4F (b3F (b2F (b1F x)))) &&& 63
theorem bc_tw : ∀ a, a < 15 → ∀ b, b < 15 → bcF (twF a b) = mnF (twF a b) := by decide +kernel
theorem fi_ge {f : zN} {p n : Nat} {cell : Int32} : fiO f p cell n 15 = -1 ∨ ∃ x y, x < 15 ∧ y ≤ x ∧ fiO f p cell n 15 = twF x y := by
  rcases fiO_b (f := f) (p := p) (n := n) (cell := cell) 15 (Nat.le_refl _) with ⟨e, _⟩ | ⟨x, y, hxy, e, _, _⟩
  · exact Or.inl e
  · exact Or.inr ⟨x, y, hxy.1, hxy.2, e⟩
theorem tw_ge {x y : Nat} (hx : x < 15) (hy : y < 15) : 0 ≤ twF x y ∧ ¬ twF x y = -1 := by
  obtain ⟨e1, e2, e3⟩ := tw_nI x hx y hy
  have h0 := nI_pos' (n := tvN x y) (by omega)
  rw [e1]
  exact ⟨h0, fun q => by rw [q] at h0; exact absurd h0 (by decide)⟩
section X7
variable {l : Launch} {E : zE} {ad : Nat → Nat} {c : zS} {Qf : Int32 → zS → Prop} {d n : Nat} {σ : zT}
theorem s_bitCount {x : Int32} (hQ : Qf (bcF x) c) : zCl l E ad mJ6_bitCount_0f7a4 d [.int x] c Qf := by
  unfold bcF at hQ
  refine z_enter (own := RJ6) [some (.int x)] (by decide +kernel) rfl rfl rfl (Nat.le_of_ble_eq_true rfl) ?_
  have k5 : ∀ y : Int32, Qf (y &&& 63) c → zW l E ad RJ6 cJ6_bitCount_0f7a4 1 1 d Qf 48 [some (.int y)] [] c := by
    intro y q
    refine z_iload_n (i := 0) dJ6_bitCount_0f7a4_48 rfl rfl ?_
    refine z_bipush (v := 63) dJ6_bitCount_0f7a4_49 (by decide) ?_
    refine z_iand dJ6_bitCount_0f7a4_51 ?_
    exact z_ret dJ6_bitCount_0f7a4_52 q trivial rfl
  have k4 : ∀ y : Int32, Qf (b5F y &&& 63) c → zW l E ad RJ6 cJ6_bitCount_0f7a4 1 1 d Qf 41 [some (.int y)] [] c := by
    intro y q
    refine z_iload_n (i := 0) dJ6_bitCount_0f7a4_41 rfl rfl ?_
    refine z_iload_n (i := 0) dJ6_bitCount_0f7a4_42 rfl rfl ?_
    refine z_bipush (v := 16) dJ6_bitCount_0f7a4_43 (by decide) ?_
    refine z_iushr dJ6_bitCount_0f7a4_45 ?_
    refine z_iadd dJ6_bitCount_0f7a4_46 ?_
    refine z_istore_n (i := 0) [_] dJ6_bitCount_0f7a4_47 rfl (by decide) rfl rfl ?_
    exact k5 _ q
  have k3 : ∀ y : Int32, Qf (b5F (b4F y) &&& 63) c → zW l E ad RJ6 cJ6_bitCount_0f7a4 1 1 d Qf 34 [some (.int y)] [] c := by
    intro y q
    refine z_iload_n (i := 0) dJ6_bitCount_0f7a4_34 rfl rfl ?_
    refine z_iload_n (i := 0) dJ6_bitCount_0f7a4_35 rfl rfl ?_
    refine z_bipush (v := 8) dJ6_bitCount_0f7a4_36 (by decide) ?_
    refine z_iushr dJ6_bitCount_0f7a4_38 ?_
    refine z_iadd dJ6_bitCount_0f7a4_39 ?_
    refine z_istore_n (i := 0) [_] dJ6_bitCount_0f7a4_40 rfl (by decide) rfl rfl ?_
    exact k4 _ q
  have k2 : ∀ y : Int32, Qf (b5F (b4F (b3F y)) &&& 63) c → zW l E ad RJ6 cJ6_bitCount_0f7a4 1 1 d Qf 24 [some (.int y)] [] c := by
    intro y q
    refine z_iload_n (i := 0) dJ6_bitCount_0f7a4_24 rfl rfl ?_
    refine z_iload_n (i := 0) dJ6_bitCount_0f7a4_25 rfl rfl ?_
    refine z_iconst (v := 4) dJ6_bitCount_0f7a4_26 (by decide) ?_
    refine z_iushr dJ6_bitCount_0f7a4_27 ?_
    refine z_iadd dJ6_bitCount_0f7a4_28 ?_
    refine z_ldc_w dJ6_bitCount_0f7a4_29 k_J6_267 ?_
    refine z_iand dJ6_bitCount_0f7a4_32 ?_
    refine z_istore_n (i := 0) [_] dJ6_bitCount_0f7a4_33 rfl (by decide) rfl rfl ?_
    exact k3 _ q
  have k1 : ∀ y : Int32, Qf (b5F (b4F (b3F (b2F y))) &&& 63) c → zW l E ad RJ6 cJ6_bitCount_0f7a4 1 1 d Qf 10 [some (.int y)] [] c := by
    intro y q
    refine z_iload_n (i := 0) dJ6_bitCount_0f7a4_10 rfl rfl ?_
    refine z_ldc_w dJ6_bitCount_0f7a4_11 k_J6_266 ?_
    refine z_iand dJ6_bitCount_0f7a4_14 ?_
    refine z_iload_n (i := 0) dJ6_bitCount_0f7a4_15 rfl rfl ?_
    refine z_iconst (v := 2) dJ6_bitCount_0f7a4_16 (by decide) ?_
    refine z_iushr dJ6_bitCount_0f7a4_17 ?_
    refine z_ldc_w dJ6_bitCount_0f7a4_18 k_J6_266 ?_
    refine z_iand dJ6_bitCount_0f7a4_21 ?_
    refine z_iadd dJ6_bitCount_0f7a4_22 ?_
    refine z_istore_n (i := 0) [_] dJ6_bitCount_0f7a4_23 rfl (by decide) rfl rfl ?_
    exact k2 _ q
  refine z_iload_n (i := 0) dJ6_bitCount_0f7a4_0 rfl rfl ?_
  refine z_iload_n (i := 0) dJ6_bitCount_0f7a4_1 rfl rfl ?_
  refine z_iconst (v := 1) dJ6_bitCount_0f7a4_2 (by decide) ?_
  refine z_iushr dJ6_bitCount_0f7a4_3 ?_
  refine z_ldc_w dJ6_bitCount_0f7a4_4 k_J6_265 ?_
  refine z_iand dJ6_bitCount_0f7a4_7 ?_
  refine z_isub dJ6_bitCount_0f7a4_8 ?_
  refine z_istore_n (i := 0) [_] dJ6_bitCount_0f7a4_9 rfl (by decide) rfl rfl ?_
  exact k1 _ hQ
theorem x_least {p cell k : Int32} (hX : RX c σ) (hd : 12 ≤ d) (hQ : WX c Qf (o_least σ p cell k)) : zCl l E ad mX7_least d [.ref (ad 0), .int p, .int cell, .int k] c Qf := by
  obtain ⟨n, t, m, hS, hI⟩ := id hX.1
  have hn6 := hI.1.2.1
  have hLW := LW_of hS hI
  refine z_enter (own := RX7) [some (.ref (ad 0)), some (.int p), some (.int cell), some (.int k), none] (by decide +kernel) rfl rfl rfl (Nat.le_of_ble_eq_true rfl) ?_
  by_cases hok : isP σ p ∧ (0 ≤ cell ∧ cell ≤ 15) ∧ 0 ≤ k ∧ k ≤ 20
  · obtain ⟨i, hi, rfl⟩ := isP_of (f := σ.1) hok.1 hI.1.1 hn6
    obtain ⟨j, hj, rfl⟩ := zj_of (x := k) (n := 21) hok.2.2.1 (by have := hok.2.2.2; show k < (21 : Int32); grind) (by decide)
    have hpc : 0 ≤ nI i ∧ nI i ≤ σ.1 5 - 1 := hok.1
    unfold o_least at hQ
    rw [if_pos hok, pn_nI (by omega), pn_nI (by omega)] at hQ
    have loop : ∀ (r s : Nat) (c1 : zS), 100 - s < r → s ≤ 100 → zth c c1 → fsF (fun q => cwF σ.1 i cell j (nI q)) (100 - s) s = fsF (fun q => cwF σ.1 i cell j (nI q)) 100 0 → zW l E ad RX7 cX7_least 5 1 d Qf 31 [some (.ref (ad 0)), some (.int (nI i)), some (.int cell), some (.int (nI j)), some (.int (nI s))] [] c1 := by
      intro r
      induction r with
      | zero => intro s c1 q; omega
      | succ r ih =>
        intro s c1 hr hs hz e
        have hlt := nI_leI (a := 100) (b := s) (by omega) (by omega)
        by_cases h100 : s < 100
        · rw [show 100 - s = 100 - (s + 1) + 1 by omega, fsF_s] at e
          refine z_iload (i := 4) dX7_least_31 rfl ?_
          refine z_bipush (v := 100) dX7_least_33 (by decide) ?_
          refine z_icmp_ge 62 dX7_least_35 (by decide) (fun h_35 => ?_) (fun h_35 => ?_)
          · exfalso; have := hlt.mp h_35; omega
          refine z_aload_n (i := 0) dX7_least_38 rfl rfl ?_
          refine z_getf dX7_least_39 f_X7_41 (by first | decide | assumption | omega) rfl (by rfl) ?_
          refine z_iload_n (i := 1) dX7_least_42 rfl rfl ?_
          refine z_iload (i := 4) dX7_least_43 rfl ?_
          refine z_iload_n (i := 2) dX7_least_45 rfl rfl ?_
          refine z_iload_n (i := 3) dX7_least_46 rfl rfl ?_
          refine z_Vb (As := [_, _, _, _]) dX7_least_47 (by rfl) v_X5_comesWith l_X7_198 (by first | decide | assumption | omega) rfl rfl rfl (by omega) (by decide) (Nat.le_of_ble_eq_true rfl) ?_
          refine c_comesWith (zth_PR8 hS.1 hz) (zth_LW hLW hz) hI.1 hI.2.2.2.2.2.2.1 hi (by omega) (by omega) (fun c2 z2 => ?_)
          refine z_if_eq 56 dX7_least_50 (by decide) (fun h_50 => ?_) (fun h_50 => ?_)
          · refine z_iinc (i := 4) (v := 1) [_, _, _, _, _] dX7_least_56 rfl (by decide) (by decide) rfl rfl ?_
            refine z_goto 31 dX7_least_59 (by decide) ?_
            rw [nI_1]
            rw [if_neg (bite.mp (by first | exact h_50 | exact Classical.not_not.mp h_50))] at e
            exact ih (s + 1) c2 (by omega) (by omega) (zth_tr hz z2) e
          · refine z_iload (i := 4) dX7_least_53 rfl ?_
            rw [if_pos (Classical.byContradiction (fun q => h_50 (bite.mpr q)))] at e
            rw [← e, if_neg (by omega)] at hQ
            exact z_ret dX7_least_55 (WX_zth hX hQ (zth_tr hz z2)) trivial rfl
        · have es : s = 100 := by omega
          subst es
          rw [← e, show fsF (fun q => cwF σ.1 i cell j (nI q)) (100 - 100) 100 = 100 from rfl, if_pos rfl] at hQ
          refine z_iload (i := 4) dX7_least_31 rfl ?_
          refine z_bipush (v := 100) dX7_least_33 (by decide) ?_
          refine z_icmp_ge 62 dX7_least_35 (by decide) (fun h_35 => ?_) (fun h_35 => ?_)
          rotate_left
          · exact absurd (by decide) h_35
          refine z_aload_n (i := 0) dX7_least_62 rfl rfl ?_
          refine z_iconst (v := 2) dX7_least_63 (by decide) ?_
          refine z_Vi (As := [_]) dX7_least_64 (by rfl) v_X7_refuse l_X7_73 (by first | decide | assumption | omega) rfl rfl rfl (by omega) (by decide) (Nat.le_of_ble_eq_true rfl) ?_
          refine s_refuse (by rfl) (by decide) ?_
          exact z_ret dX7_least_67 (WX_therr hX hQ hz) trivial rfl
    refine z_aload_n (i := 0) dX7_least_0 rfl rfl ?_
    refine z_iload_n (i := 1) dX7_least_1 rfl rfl ?_
    refine z_Vb (As := [_]) dX7_least_2 (by rfl) v_X7_isPerson l_X7_86 (by first | decide | assumption | omega) rfl rfl rfl (by omega) (by decide) (Nat.le_of_ble_eq_true rfl) ?_
    refine s_isPerson hX ?_
    refine z_if_eq 22 dX7_least_5 (by decide) (fun h_5 => ?_) (fun h_5 => ?_)
    · exfalso; exact absurd hpc (bite.mp (by first | exact h_5 | exact Classical.not_not.mp h_5))
    refine z_iload_n (i := 2) dX7_least_8 rfl rfl ?_
    refine z_Sb (As := [_]) dX7_least_9 (by rfl) v_X7_isCell l_X7_123 rfl (by omega) (by decide) (Nat.le_of_ble_eq_true rfl) ?_
    refine s_isCell (by omega) ?_
    refine z_if_eq 22 dX7_least_12 (by decide) (fun h_12 => ?_) (fun h_12 => ?_)
    · exfalso; exact absurd hok.2.1 (bite.mp (by first | exact h_12 | exact Classical.not_not.mp h_12))
    refine z_iload_n (i := 3) dX7_least_15 rfl rfl ?_
    refine z_Sb (As := [_]) dX7_least_16 (by rfl) v_X7_isNear l_X7_195 rfl (by omega) (by decide) (Nat.le_of_ble_eq_true rfl) ?_
    refine s_isNear (by omega) ?_
    refine z_if_ne 28 dX7_least_19 (by decide) (fun h_19 => ?_) (fun h_19 => ?_)
    rotate_left
    · exfalso; exact absurd hok.2.2 (bite.mp (by first | exact h_19 | exact Classical.not_not.mp h_19))
    refine z_iconst (v := 0) dX7_least_28 (by decide) ?_
    refine z_istore (i := 4) [_, _, _, _, _] dX7_least_29 (by decide) rfl rfl ?_
    exact loop 101 0 c (by omega) (by omega) zth_rf rfl
  · unfold o_least at hQ
    rw [if_neg hok] at hQ
    refine z_aload_n (i := 0) dX7_least_0 rfl rfl ?_
    refine z_iload_n (i := 1) dX7_least_1 rfl rfl ?_
    refine z_Vb (As := [_]) dX7_least_2 (by rfl) v_X7_isPerson l_X7_86 (by first | decide | assumption | omega) rfl rfl rfl (by omega) (by decide) (Nat.le_of_ble_eq_true rfl) ?_
    refine s_isPerson hX ?_
    refine z_if_eq 22 dX7_least_5 (by decide) (fun h_5 => ?_) (fun h_5 => ?_)
    · refine z_aload_n (i := 0) dX7_least_22 rfl rfl ?_
      refine z_iconst (v := 1) dX7_least_23 (by decide) ?_
      refine z_Vi (As := [_]) dX7_least_24 (by rfl) v_X7_refuse l_X7_73 (by first | decide | assumption | omega) rfl rfl rfl (by omega) (by decide) (Nat.le_of_ble_eq_true rfl) ?_
      refine s_refuse (by rfl) (by decide) ?_
      exact z_ret dX7_least_27 (WX_err hX hQ) trivial rfl
    · refine z_iload_n (i := 2) dX7_least_8 rfl rfl ?_
      refine z_Sb (As := [_]) dX7_least_9 (by rfl) v_X7_isCell l_X7_123 rfl (by omega) (by decide) (Nat.le_of_ble_eq_true rfl) ?_
      refine s_isCell (by omega) ?_
      refine z_if_eq 22 dX7_least_12 (by decide) (fun h_12 => ?_) (fun h_12 => ?_)
      · refine z_aload_n (i := 0) dX7_least_22 rfl rfl ?_
        refine z_iconst (v := 1) dX7_least_23 (by decide) ?_
        refine z_Vi (As := [_]) dX7_least_24 (by rfl) v_X7_refuse l_X7_73 (by first | decide | assumption | omega) rfl rfl rfl (by omega) (by decide) (Nat.le_of_ble_eq_true rfl) ?_
        refine s_refuse (by rfl) (by decide) ?_
        exact z_ret dX7_least_27 (WX_err hX hQ) trivial rfl
      · refine z_iload_n (i := 3) dX7_least_15 rfl rfl ?_
        refine z_Sb (As := [_]) dX7_least_16 (by rfl) v_X7_isNear l_X7_195 rfl (by omega) (by decide) (Nat.le_of_ble_eq_true rfl) ?_
        refine s_isNear (by omega) ?_
        refine z_if_ne 28 dX7_least_19 (by decide) (fun h_19 => ?_) (fun h_19 => ?_)
        · exfalso; exact hok ⟨Classical.byContradiction (fun q => h_5 (bite.mpr q)), Classical.byContradiction (fun q => h_12 (bite.mpr q)), Classical.byContradiction (fun q => h_19 (bite.mpr q))⟩
        refine z_aload_n (i := 0) dX7_least_22 rfl rfl ?_
        refine z_iconst (v := 1) dX7_least_23 (by decide) ?_
        refine z_Vi (As := [_]) dX7_least_24 (by rfl) v_X7_refuse l_X7_73 (by first | decide | assumption | omega) rfl rfl rfl (by omega) (by decide) (Nat.le_of_ble_eq_true rfl) ?_
        refine s_refuse (by rfl) (by decide) ?_
        exact z_ret dX7_least_27 (WX_err hX hQ) trivial rfl
theorem x_fills {p cell k w : Int32} (hX : RX c σ) (hd : 12 ≤ d) (hQ : WX c Qf (o_fills σ p cell k w)) : zCl l E ad mX7_fills d [.ref (ad 0), .int p, .int cell, .int k, .int w] c Qf := by
  obtain ⟨n, t, m, hS, hI⟩ := id hX.1
  have hn6 := hI.1.2.1
  have hLW := LW_of hS hI
  refine z_enter (own := RX7) [some (.ref (ad 0)), some (.int p), some (.int cell), some (.int k), some (.int w), none] (by decide +kernel) rfl rfl rfl (Nat.le_of_ble_eq_true rfl) ?_
  by_cases hok : isP σ p ∧ (0 ≤ cell ∧ cell ≤ 15) ∧ (0 ≤ k ∧ k ≤ 20) ∧ 0 ≤ w ∧ w ≤ 1
  · obtain ⟨i, hi, rfl⟩ := isP_of (f := σ.1) hok.1 hI.1.1 hn6
    obtain ⟨j, hj, rfl⟩ := zj_of (x := k) (n := 21) hok.2.2.1.1 (by have := hok.2.2.1.2; show k < (21 : Int32); grind) (by decide)
    have hpc : 0 ≤ nI i ∧ nI i ≤ σ.1 5 - 1 := hok.1
    unfold o_fills at hQ
    rw [if_pos hok, pn_nI (by omega), pn_nI (by omega)] at hQ
    have hge := fi_ge (f := σ.1) (p := i) (cell := cell) (n := j)
    refine z_aload_n (i := 0) dX7_fills_0 rfl rfl ?_
    refine z_iload_n (i := 1) dX7_fills_1 rfl rfl ?_
    refine z_Vb (As := [_]) dX7_fills_2 (by rfl) v_X7_isPerson l_X7_86 (by first | decide | assumption | omega) rfl rfl rfl (by omega) (by decide) (Nat.le_of_ble_eq_true rfl) ?_
    refine s_isPerson hX ?_
    refine z_if_eq 32 dX7_fills_5 (by decide) (fun h_5 => ?_) (fun h_5 => ?_)
    · exfalso; exact absurd hpc (bite.mp (by first | exact h_5 | exact Classical.not_not.mp h_5))
    refine z_iload_n (i := 2) dX7_fills_8 rfl rfl ?_
    refine z_Sb (As := [_]) dX7_fills_9 (by rfl) v_X7_isCell l_X7_123 rfl (by omega) (by decide) (Nat.le_of_ble_eq_true rfl) ?_
    refine s_isCell (by omega) ?_
    refine z_if_eq 32 dX7_fills_12 (by decide) (fun h_12 => ?_) (fun h_12 => ?_)
    · exfalso; exact absurd hok.2.1 (bite.mp (by first | exact h_12 | exact Classical.not_not.mp h_12))
    refine z_iload_n (i := 3) dX7_fills_15 rfl rfl ?_
    refine z_Sb (As := [_]) dX7_fills_16 (by rfl) v_X7_isNear l_X7_195 rfl (by omega) (by decide) (Nat.le_of_ble_eq_true rfl) ?_
    refine s_isNear (by omega) ?_
    refine z_if_eq 32 dX7_fills_19 (by decide) (fun h_19 => ?_) (fun h_19 => ?_)
    · exfalso; exact absurd hok.2.2.1 (bite.mp (by first | exact h_19 | exact Classical.not_not.mp h_19))
    refine z_iload (i := 4) dX7_fills_22 rfl ?_
    refine z_iconst (v := 0) dX7_fills_24 (by decide) ?_
    refine z_iconst (v := 1) dX7_fills_25 (by decide) ?_
    refine z_Sb (As := [_, _, _]) dX7_fills_26 (by rfl) v_X7_isWithin l_X7_115 rfl (by omega) (by decide) (Nat.le_of_ble_eq_true rfl) ?_
    refine s_isWithin ?_
    refine z_if_ne 38 dX7_fills_29 (by decide) (fun h_29 => ?_) (fun h_29 => ?_)
    rotate_left
    · exfalso; exact absurd hok.2.2.2 (bite.mp (by first | exact h_29 | exact Classical.not_not.mp h_29))
    refine z_aload_n (i := 0) dX7_fills_38 rfl rfl ?_
    refine z_getf dX7_fills_39 f_X7_41 (by first | decide | assumption | omega) rfl (by rfl) ?_
    refine z_iload_n (i := 1) dX7_fills_42 rfl rfl ?_
    refine z_iload_n (i := 2) dX7_fills_43 rfl rfl ?_
    refine z_iload_n (i := 3) dX7_fills_44 rfl rfl ?_
    refine z_Vi (As := [_, _, _]) dX7_fills_45 (by rfl) v_X5_leastFilled l_X7_202 (by first | decide | assumption | omega) rfl rfl rfl (by omega) (by decide) (Nat.le_of_ble_eq_true rfl) ?_
    refine s_leastFilled hS.1 hLW hI.1 hI.2.2.2.2.2.2.1 hi (by omega) (by omega) (fun c2 z2 => ?_)
    generalize fiO σ.1 i cell j 15 = W at hQ hge
    refine z_istore (i := 5) [_, _, _, _, _, _] dX7_fills_48 (by decide) rfl rfl ?_
    refine z_iload (i := 5) dX7_fills_50 rfl ?_
    refine z_if_ge 61 dX7_fills_52 (by decide) (fun h_52 => ?_) (fun h_52 => ?_)
    · refine z_iload (i := 4) dX7_fills_61 rfl ?_
      refine z_if_ne 74 dX7_fills_63 (by decide) (fun h_63 => ?_) (fun h_63 => ?_)
      · refine z_iload (i := 5) dX7_fills_74 rfl ?_
        first
        | (have hW : W = -1 := by rcases hge with q | ⟨x, y, hx, hy, q⟩; exact q; exfalso; have := (tw_ge hx (show y < 15 by omega)).1; rw [← q] at this; exact h_52 this
           rw [if_pos hW] at hQ
           exact z_ret dX7_fills_76 (WX_therr hX hQ z2) trivial rfl)
        | (have hW : ¬ W = -1 := by intro q; rw [q] at h_52; exact absurd h_52 (by decide)
           obtain ⟨x, y, hx, hy, q⟩ := hge.resolve_left hW
           rw [if_neg hW, if_pos (by first | exact h_63 | exact Classical.not_not.mp h_63)] at hQ
           exact z_ret dX7_fills_76 (WX_zth hX (by rw [q, bc_tw x hx y (by omega), ← q]; exact hQ) z2) trivial rfl)
        | (have hW : ¬ W = -1 := by intro q; rw [q] at h_52; exact absurd h_52 (by decide)
           rw [if_neg hW, if_neg (by first | exact h_63 | assumption)] at hQ
           exact z_ret dX7_fills_76 (WX_zth hX hQ z2) trivial rfl)
      · refine z_iload (i := 5) dX7_fills_66 rfl ?_
        refine z_Si (As := [_]) dX7_fills_68 (by rfl) v_J6_bitCount_0f7a4 l_X7_205 rfl (by omega) (by decide) (Nat.le_of_ble_eq_true rfl) ?_
        refine s_bitCount ?_
        refine z_goto 76 dX7_fills_71 (by decide) ?_
        first
        | (have hW : W = -1 := by rcases hge with q | ⟨x, y, hx, hy, q⟩; exact q; exfalso; have := (tw_ge hx (show y < 15 by omega)).1; rw [← q] at this; exact h_52 this
           rw [if_pos hW] at hQ
           exact z_ret dX7_fills_76 (WX_therr hX hQ z2) trivial rfl)
        | (have hW : ¬ W = -1 := by intro q; rw [q] at h_52; exact absurd h_52 (by decide)
           obtain ⟨x, y, hx, hy, q⟩ := hge.resolve_left hW
           rw [if_neg hW, if_pos (by first | exact h_63 | exact Classical.not_not.mp h_63)] at hQ
           exact z_ret dX7_fills_76 (WX_zth hX (by rw [q, bc_tw x hx y (by omega), ← q]; exact hQ) z2) trivial rfl)
        | (have hW : ¬ W = -1 := by intro q; rw [q] at h_52; exact absurd h_52 (by decide)
           rw [if_neg hW, if_neg (by first | exact h_63 | assumption)] at hQ
           exact z_ret dX7_fills_76 (WX_zth hX hQ z2) trivial rfl)
    · refine z_aload_n (i := 0) dX7_fills_55 rfl rfl ?_
      refine z_iconst (v := 2) dX7_fills_56 (by decide) ?_
      refine z_Vi (As := [_]) dX7_fills_57 (by rfl) v_X7_refuse l_X7_73 (by first | decide | assumption | omega) rfl rfl rfl (by omega) (by decide) (Nat.le_of_ble_eq_true rfl) ?_
      refine s_refuse (by rfl) (by decide) ?_
      first
      | (have hW : W = -1 := by rcases hge with q | ⟨x, y, hx, hy, q⟩; exact q; exfalso; have := (tw_ge hx (show y < 15 by omega)).1; rw [← q] at this; exact h_52 this
         rw [if_pos hW] at hQ
         exact z_ret dX7_fills_60 (WX_therr hX hQ z2) trivial rfl)
      | (have hW : ¬ W = -1 := by intro q; rw [q] at h_52; exact absurd h_52 (by decide)
         obtain ⟨x, y, hx, hy, q⟩ := hge.resolve_left hW
         rw [if_neg hW, if_pos (by first | exact h_63 | exact Classical.not_not.mp h_63)] at hQ
         exact z_ret dX7_fills_60 (WX_zth hX (by rw [q, bc_tw x hx y (by omega), ← q]; exact hQ) z2) trivial rfl)
      | (have hW : ¬ W = -1 := by intro q; rw [q] at h_52; exact absurd h_52 (by decide)
         rw [if_neg hW, if_neg (by first | exact h_63 | assumption)] at hQ
         exact z_ret dX7_fills_60 (WX_zth hX hQ z2) trivial rfl)
  · unfold o_fills at hQ
    rw [if_neg hok] at hQ
    refine z_aload_n (i := 0) dX7_fills_0 rfl rfl ?_
    refine z_iload_n (i := 1) dX7_fills_1 rfl rfl ?_
    refine z_Vb (As := [_]) dX7_fills_2 (by rfl) v_X7_isPerson l_X7_86 (by first | decide | assumption | omega) rfl rfl rfl (by omega) (by decide) (Nat.le_of_ble_eq_true rfl) ?_
    refine s_isPerson hX ?_
    refine z_if_eq 32 dX7_fills_5 (by decide) (fun h_5 => ?_) (fun h_5 => ?_)
    · refine z_aload_n (i := 0) dX7_fills_32 rfl rfl ?_
      refine z_iconst (v := 1) dX7_fills_33 (by decide) ?_
      refine z_Vi (As := [_]) dX7_fills_34 (by rfl) v_X7_refuse l_X7_73 (by first | decide | assumption | omega) rfl rfl rfl (by omega) (by decide) (Nat.le_of_ble_eq_true rfl) ?_
      refine s_refuse (by rfl) (by decide) ?_
      exact z_ret dX7_fills_37 (WX_err hX hQ) trivial rfl
    · refine z_iload_n (i := 2) dX7_fills_8 rfl rfl ?_
      refine z_Sb (As := [_]) dX7_fills_9 (by rfl) v_X7_isCell l_X7_123 rfl (by omega) (by decide) (Nat.le_of_ble_eq_true rfl) ?_
      refine s_isCell (by omega) ?_
      refine z_if_eq 32 dX7_fills_12 (by decide) (fun h_12 => ?_) (fun h_12 => ?_)
      · refine z_aload_n (i := 0) dX7_fills_32 rfl rfl ?_
        refine z_iconst (v := 1) dX7_fills_33 (by decide) ?_
        refine z_Vi (As := [_]) dX7_fills_34 (by rfl) v_X7_refuse l_X7_73 (by first | decide | assumption | omega) rfl rfl rfl (by omega) (by decide) (Nat.le_of_ble_eq_true rfl) ?_
        refine s_refuse (by rfl) (by decide) ?_
        exact z_ret dX7_fills_37 (WX_err hX hQ) trivial rfl
      · refine z_iload_n (i := 3) dX7_fills_15 rfl rfl ?_
        refine z_Sb (As := [_]) dX7_fills_16 (by rfl) v_X7_isNear l_X7_195 rfl (by omega) (by decide) (Nat.le_of_ble_eq_true rfl) ?_
        refine s_isNear (by omega) ?_
        refine z_if_eq 32 dX7_fills_19 (by decide) (fun h_19 => ?_) (fun h_19 => ?_)
        · refine z_aload_n (i := 0) dX7_fills_32 rfl rfl ?_
          refine z_iconst (v := 1) dX7_fills_33 (by decide) ?_
          refine z_Vi (As := [_]) dX7_fills_34 (by rfl) v_X7_refuse l_X7_73 (by first | decide | assumption | omega) rfl rfl rfl (by omega) (by decide) (Nat.le_of_ble_eq_true rfl) ?_
          refine s_refuse (by rfl) (by decide) ?_
          exact z_ret dX7_fills_37 (WX_err hX hQ) trivial rfl
        · refine z_iload (i := 4) dX7_fills_22 rfl ?_
          refine z_iconst (v := 0) dX7_fills_24 (by decide) ?_
          refine z_iconst (v := 1) dX7_fills_25 (by decide) ?_
          refine z_Sb (As := [_, _, _]) dX7_fills_26 (by rfl) v_X7_isWithin l_X7_115 rfl (by omega) (by decide) (Nat.le_of_ble_eq_true rfl) ?_
          refine s_isWithin ?_
          refine z_if_ne 38 dX7_fills_29 (by decide) (fun h_29 => ?_) (fun h_29 => ?_)
          · exfalso; exact hok ⟨Classical.byContradiction (fun q => h_5 (bite.mpr q)), Classical.byContradiction (fun q => h_12 (bite.mpr q)), Classical.byContradiction (fun q => h_19 (bite.mpr q)), Classical.byContradiction (fun q => h_29 (bite.mpr q))⟩
          refine z_aload_n (i := 0) dX7_fills_32 rfl rfl ?_
          refine z_iconst (v := 1) dX7_fills_33 (by decide) ?_
          refine z_Vi (As := [_]) dX7_fills_34 (by rfl) v_X7_refuse l_X7_73 (by first | decide | assumption | omega) rfl rfl rfl (by omega) (by decide) (Nat.le_of_ble_eq_true rfl) ?_
          refine s_refuse (by rfl) (by decide) ?_
          exact z_ret dX7_fills_37 (WX_err hX hQ) trivial rfl
theorem x_withWhom {p k : Int32} (hX : RX c σ) (hd : 12 ≤ d) (hQ : WX c Qf (o_withWhom σ p k)) : zCl l E ad mX7_withWhom d [.ref (ad 0), .int p, .int k] c Qf := by
  obtain ⟨n, t, m, hS, hI⟩ := id hX.1
  have hn6 := hI.1.2.1
  have hLW := LW_of hS hI
  refine z_enter (own := RX7) [some (.ref (ad 0)), some (.int p), some (.int k), none, none, none, none] (by decide +kernel) rfl rfl rfl (Nat.le_of_ble_eq_true rfl) ?_
  by_cases hok : isP σ p ∧ 0 ≤ k ∧ k ≤ 20
  · obtain ⟨i, hi, rfl⟩ := isP_of (f := σ.1) hok.1 hI.1.1 hn6
    obtain ⟨j, hj, rfl⟩ := zj_of (x := k) (n := 21) hok.2.1 (by have := hok.2.2; show k < (21 : Int32); grind) (by decide)
    have hpc : 0 ≤ nI i ∧ nI i ≤ σ.1 5 - 1 := hok.1
    unfold o_withWhom at hQ
    rw [if_pos hok, pn_nI (by omega), pn_nI (by omega), show σ.1 5 = nI n from hI.1.1, pn_nI (by omega)] at hQ
    have loop : ∀ (r o : Nat) (c1 : zS) (x6 : Option Value), n - o < r → o ≤ n → zth c c1 → zW l E ad RX7 cX7_withWhom 7 1 d Qf 29 [some (.ref (ad 0)), some (.int (nI i)), some (.int (nI j)), some (.int (whN σ.1 i j o).1), some (.int (whN σ.1 i j o).2), some (.int (nI o)), x6] [] c1 := by
      intro r
      induction r with
      | zero => intro o c1 x6 q; omega
      | succ r ih =>
        intro o c1 x6 hr ho hz
        have hlt := nI_leI (a := n) (b := o) (by omega) (by omega)
        have heq := nI_eq (a := o) (b := i) (by omega) (by omega)
        have hP1 := zth_PR8 hS.1 hz
        by_cases hon : o < n
        · have cut65 : ∀ (x : Int32) (c2 : zS), zth c c2 → x = (if o = i then -1 else farF σ.1 i o j) → zW l E ad RX7 cX7_withWhom 7 1 d Qf 65 [some (.ref (ad 0)), some (.int (nI i)), some (.int (nI j)), some (.int (whN σ.1 i j o).1), some (.int (whN σ.1 i j o).2), some (.int (nI o)), x6] [.int x] c2 := by
            intro x c2 hz2 hx
            have hs : whN σ.1 i j (o + 1) = if (whN σ.1 i j o).2 < x then (nI o, x) else whN σ.1 i j o := by rw [hx]; rfl
            refine z_istore (i := 6) [_, _, _, _, _, _, _] dX7_withWhom_65 (by decide) rfl rfl ?_
            refine z_iload (i := 6) dX7_withWhom_67 rfl ?_
            refine z_iload (i := 4) dX7_withWhom_69 rfl ?_
            refine z_icmp_le 81 dX7_withWhom_71 (by decide) (fun h_71 => ?_) (fun h_71 => ?_)
            · refine z_iinc (i := 5) (v := 1) [_, _, _, _, _, _, _] dX7_withWhom_81 rfl (by decide) (by decide) rfl rfl ?_
              refine z_goto 29 dX7_withWhom_84 (by decide) ?_
              first
              | (rw [nI_1]
                 rw [if_pos (by grind)] at hs
                 have := ih (o + 1) c2 (some (.int x)) (by omega) (by omega) hz2
                 rw [hs] at this
                 exact this)
              | (rw [nI_1]
                 rw [if_neg (by grind)] at hs
                 have := ih (o + 1) c2 (some (.int x)) (by omega) (by omega) hz2
                 rw [hs] at this
                 exact this)
            · refine z_iload (i := 6) dX7_withWhom_74 rfl ?_
              refine z_istore (i := 4) [_, _, _, _, _, _, _] dX7_withWhom_76 (by decide) rfl rfl ?_
              refine z_iload (i := 5) dX7_withWhom_78 rfl ?_
              refine z_istore_n (i := 3) [_, _, _, _, _, _, _] dX7_withWhom_80 rfl (by decide) rfl rfl ?_
              refine z_iinc (i := 5) (v := 1) [_, _, _, _, _, _, _] dX7_withWhom_81 rfl (by decide) (by decide) rfl rfl ?_
              refine z_goto 29 dX7_withWhom_84 (by decide) ?_
              first
              | (rw [nI_1]
                 rw [if_pos (by grind)] at hs
                 have := ih (o + 1) c2 (some (.int x)) (by omega) (by omega) hz2
                 rw [hs] at this
                 exact this)
              | (rw [nI_1]
                 rw [if_neg (by grind)] at hs
                 have := ih (o + 1) c2 (some (.int x)) (by omega) (by omega) hz2
                 rw [hs] at this
                 exact this)
          refine z_iload (i := 5) dX7_withWhom_29 rfl ?_
          refine z_aload_n (i := 0) dX7_withWhom_31 rfl rfl ?_
          refine z_getf dX7_withWhom_32 f_X7_10 (by first | decide | assumption | omega) rfl (by rfl) ?_
          refine z_getf dX7_withWhom_35 f_X7_34 (by first | decide | assumption | omega) rfl (by rfl) ?_
          refine z_getf dX7_withWhom_38 f_X7_77 (by first | decide | assumption | omega) rfl (by rfl) ?_
          rw [hP1.1]
          refine z_icmp_ge 87 dX7_withWhom_41 (by decide) (fun h_41 => ?_) (fun h_41 => ?_)
          · exfalso; have := hlt.mp h_41; omega
          refine z_iload (i := 5) dX7_withWhom_44 rfl ?_
          refine z_iload_n (i := 1) dX7_withWhom_46 rfl rfl ?_
          refine z_icmp_ne 54 dX7_withWhom_47 (by decide) (fun h_47 => ?_) (fun h_47 => ?_)
          · refine z_aload_n (i := 0) dX7_withWhom_54 rfl rfl ?_
            refine z_getf dX7_withWhom_55 f_X7_41 (by first | decide | assumption | omega) rfl (by rfl) ?_
            refine z_iload_n (i := 1) dX7_withWhom_58 rfl rfl ?_
            refine z_iload (i := 5) dX7_withWhom_59 rfl ?_
            refine z_iload_n (i := 2) dX7_withWhom_61 rfl rfl ?_
            refine z_Vi (As := [_, _, _]) dX7_withWhom_62 (by rfl) v_X5_howFarWith l_X7_210 (by first | decide | assumption | omega) rfl rfl rfl (by omega) (by decide) (Nat.le_of_ble_eq_true rfl) ?_
            refine c_howFarWith hP1 (zth_LW hLW hz) hI.1 hI.2.2.2.2.2.2.1 (fun g hg h m => go_b m hg hi h) hi hon (by omega) (by omega) (fun c2 z2 => ?_)
            first
            | exact cut65 _ c1 hz (by rw [if_pos (heq.mp (by first | exact h_47 | exact Classical.not_not.mp h_47))])
            | exact cut65 _ c2 (zth_tr hz z2) (by rw [if_neg (fun q => h_47 (heq.mpr q))])
          · refine z_iconst (v := (-1)) dX7_withWhom_50 (by decide) ?_
            refine z_goto 65 dX7_withWhom_51 (by decide) ?_
            first
            | exact cut65 _ c1 hz (by rw [if_pos (heq.mp (by first | exact h_47 | exact Classical.not_not.mp h_47))])
            | exact cut65 _ c2 (zth_tr hz z2) (by rw [if_neg (fun q => h_47 (heq.mpr q))])
        · have eo : o = n := by omega
          subst eo
          have hw := whN_1 (f := σ.1) (p := i) (k := j) o hn6
          generalize (whN σ.1 i j o).1 = W at hQ hw ⊢
          refine z_iload (i := 5) dX7_withWhom_29 rfl ?_
          refine z_aload_n (i := 0) dX7_withWhom_31 rfl rfl ?_
          refine z_getf dX7_withWhom_32 f_X7_10 (by first | decide | assumption | omega) rfl (by rfl) ?_
          refine z_getf dX7_withWhom_35 f_X7_34 (by first | decide | assumption | omega) rfl (by rfl) ?_
          refine z_getf dX7_withWhom_38 f_X7_77 (by first | decide | assumption | omega) rfl (by rfl) ?_
          rw [hP1.1]
          refine z_icmp_ge 87 dX7_withWhom_41 (by decide) (fun h_41 => ?_) (fun h_41 => ?_)
          rotate_left
          · exfalso; exact h_41 (hlt.mpr (by omega))
          refine z_iload_n (i := 3) dX7_withWhom_87 rfl rfl ?_
          refine z_if_ge 99 dX7_withWhom_88 (by decide) (fun h_88 => ?_) (fun h_88 => ?_)
          · refine z_iload_n (i := 3) dX7_withWhom_99 rfl rfl ?_
            first
            | (have hW : W = -1 := by rcases hw with q | ⟨x, hx, q⟩; exact q; exfalso; have := nI_pos' (n := x) (by omega); rw [← q] at this; exact h_88 this
               rw [if_pos hW] at hQ
               exact z_ret dX7_withWhom_100 (WX_therr hX hQ hz) trivial rfl)
            | (have hW : ¬ W = -1 := by intro q; rw [q] at h_88; exact absurd h_88 (by decide)
               rw [if_neg hW] at hQ
               exact z_ret dX7_withWhom_100 (WX_zth hX hQ hz) trivial rfl)
          · refine z_aload_n (i := 0) dX7_withWhom_91 rfl rfl ?_
            refine z_iconst (v := 2) dX7_withWhom_92 (by decide) ?_
            refine z_Vi (As := [_]) dX7_withWhom_93 (by rfl) v_X7_refuse l_X7_73 (by first | decide | assumption | omega) rfl rfl rfl (by omega) (by decide) (Nat.le_of_ble_eq_true rfl) ?_
            refine s_refuse (by rfl) (by decide) ?_
            refine z_goto 100 dX7_withWhom_96 (by decide) ?_
            first
            | (have hW : W = -1 := by rcases hw with q | ⟨x, hx, q⟩; exact q; exfalso; have := nI_pos' (n := x) (by omega); rw [← q] at this; exact h_88 this
               rw [if_pos hW] at hQ
               exact z_ret dX7_withWhom_100 (WX_therr hX hQ hz) trivial rfl)
            | (have hW : ¬ W = -1 := by intro q; rw [q] at h_88; exact absurd h_88 (by decide)
               rw [if_neg hW] at hQ
               exact z_ret dX7_withWhom_100 (WX_zth hX hQ hz) trivial rfl)
    refine z_aload_n (i := 0) dX7_withWhom_0 rfl rfl ?_
    refine z_iload_n (i := 1) dX7_withWhom_1 rfl rfl ?_
    refine z_Vb (As := [_]) dX7_withWhom_2 (by rfl) v_X7_isPerson l_X7_86 (by first | decide | assumption | omega) rfl rfl rfl (by omega) (by decide) (Nat.le_of_ble_eq_true rfl) ?_
    refine s_isPerson hX ?_
    refine z_if_eq 15 dX7_withWhom_5 (by decide) (fun h_5 => ?_) (fun h_5 => ?_)
    · exfalso; exact absurd hpc (bite.mp (by first | exact h_5 | exact Classical.not_not.mp h_5))
    refine z_iload_n (i := 2) dX7_withWhom_8 rfl rfl ?_
    refine z_Sb (As := [_]) dX7_withWhom_9 (by rfl) v_X7_isNear l_X7_195 rfl (by omega) (by decide) (Nat.le_of_ble_eq_true rfl) ?_
    refine s_isNear (by omega) ?_
    refine z_if_ne 21 dX7_withWhom_12 (by decide) (fun h_12 => ?_) (fun h_12 => ?_)
    rotate_left
    · exfalso; exact absurd hok.2 (bite.mp (by first | exact h_12 | exact Classical.not_not.mp h_12))
    refine z_iconst (v := (-1)) dX7_withWhom_21 (by decide) ?_
    refine z_istore_n (i := 3) [_, _, _, _, _, _, _] dX7_withWhom_22 rfl (by decide) rfl rfl ?_
    refine z_iconst (v := (-1)) dX7_withWhom_23 (by decide) ?_
    refine z_istore (i := 4) [_, _, _, _, _, _, _] dX7_withWhom_24 (by decide) rfl rfl ?_
    refine z_iconst (v := 0) dX7_withWhom_26 (by decide) ?_
    refine z_istore (i := 5) [_, _, _, _, _, _, _] dX7_withWhom_27 (by decide) rfl rfl ?_
    exact loop (n + 1) 0 c none (by omega) (by omega) zth_rf
  · unfold o_withWhom at hQ
    rw [if_neg hok] at hQ
    refine z_aload_n (i := 0) dX7_withWhom_0 rfl rfl ?_
    refine z_iload_n (i := 1) dX7_withWhom_1 rfl rfl ?_
    refine z_Vb (As := [_]) dX7_withWhom_2 (by rfl) v_X7_isPerson l_X7_86 (by first | decide | assumption | omega) rfl rfl rfl (by omega) (by decide) (Nat.le_of_ble_eq_true rfl) ?_
    refine s_isPerson hX ?_
    refine z_if_eq 15 dX7_withWhom_5 (by decide) (fun h_5 => ?_) (fun h_5 => ?_)
    · refine z_aload_n (i := 0) dX7_withWhom_15 rfl rfl ?_
      refine z_iconst (v := 1) dX7_withWhom_16 (by decide) ?_
      refine z_Vi (As := [_]) dX7_withWhom_17 (by rfl) v_X7_refuse l_X7_73 (by first | decide | assumption | omega) rfl rfl rfl (by omega) (by decide) (Nat.le_of_ble_eq_true rfl) ?_
      refine s_refuse (by rfl) (by decide) ?_
      exact z_ret dX7_withWhom_20 (WX_err hX hQ) trivial rfl
    · refine z_iload_n (i := 2) dX7_withWhom_8 rfl rfl ?_
      refine z_Sb (As := [_]) dX7_withWhom_9 (by rfl) v_X7_isNear l_X7_195 rfl (by omega) (by decide) (Nat.le_of_ble_eq_true rfl) ?_
      refine s_isNear (by omega) ?_
      refine z_if_ne 21 dX7_withWhom_12 (by decide) (fun h_12 => ?_) (fun h_12 => ?_)
      · exfalso; exact hok ⟨Classical.byContradiction (fun q => h_5 (bite.mpr q)), Classical.byContradiction (fun q => h_12 (bite.mpr q))⟩
      refine z_aload_n (i := 0) dX7_withWhom_15 rfl rfl ?_
      refine z_iconst (v := 1) dX7_withWhom_16 (by decide) ?_
      refine z_Vi (As := [_]) dX7_withWhom_17 (by rfl) v_X7_refuse l_X7_73 (by first | decide | assumption | omega) rfl rfl rfl (by omega) (by decide) (Nat.le_of_ble_eq_true rfl) ?_
      refine s_refuse (by rfl) (by decide) ?_
      exact z_ret dX7_withWhom_20 (WX_err hX hQ) trivial rfl
theorem s_commonDivisor {a : Nat} (ha : a ≤ 100) (hQ : Qf (nI (Nat.gcd a 100)) c) : zCl l E ad mX7_commonDivisor d [.int (nI a), .int 100] c Qf := by
  refine z_enter (own := RX7) [some (.int (nI a)), some (.int 100), none, none, none, none] (by decide +kernel) rfl rfl rfl (Nat.le_of_ble_eq_true rfl) ?_
  have loop : ∀ (r i hi lo : Nat) (x5 : Option Value), 100 - i < r → i + lo ≤ 100 → 0 < hi → hi ≤ 100 → Nat.gcd lo hi = Nat.gcd a 100 → zW l E ad RX7 cX7_commonDivisor 6 1 d Qf 7 [some (.int (nI a)), some (.int 100), some (.int (nI hi)), some (.int (nI lo)), some (.int (nI i)), x5] [] c := by
    intro r
    induction r with
    | zero => intro i hi lo x5 q; omega
    | succ r ih =>
      intro i hi lo x5 hr hil h0 h1 e
      have hlt := nI_leI (a := 100) (b := i) (by omega) (by omega)
      have hl0 := nI_eq (a := lo) (b := 0) (by omega) (by omega)
      have hh0 := nI_eq (a := hi) (b := 0) (by omega) (by omega)
      by_cases hlo : lo = 0
      · subst hlo
        rw [Nat.gcd_zero_left] at e
        rw [← e] at hQ
        refine z_iload (i := 4) dX7_commonDivisor_7 rfl ?_
        refine z_bipush (v := 100) dX7_commonDivisor_9 (by decide) ?_
        refine z_icmp_ge 34 dX7_commonDivisor_11 (by decide) (fun h_11 => ?_) (fun h_11 => ?_)
        · refine z_iload_n (i := 2) dX7_commonDivisor_34 rfl rfl ?_
          refine z_if_ne 42 dX7_commonDivisor_35 (by decide) (fun h_35 => ?_) (fun h_35 => ?_)
          · refine z_iload_n (i := 2) dX7_commonDivisor_42 rfl rfl ?_
            first
            | (exfalso; have := hh0.mp (by first | exact h_35 | exact Classical.not_not.mp h_35); omega)
            | exact z_ret dX7_commonDivisor_43 hQ trivial rfl
          · refine z_iconst (v := 1) dX7_commonDivisor_38 (by decide) ?_
            refine z_goto 43 dX7_commonDivisor_39 (by decide) ?_
            first
            | (exfalso; have := hh0.mp (by first | exact h_35 | exact Classical.not_not.mp h_35); omega)
            | exact z_ret dX7_commonDivisor_43 hQ trivial rfl
        · refine z_iload_n (i := 3) dX7_commonDivisor_14 rfl rfl ?_
          refine z_if_eq 34 dX7_commonDivisor_15 (by decide) (fun h_15 => ?_) (fun h_15 => ?_)
          rotate_left
          · exact absurd rfl h_15
          refine z_iload_n (i := 2) dX7_commonDivisor_34 rfl rfl ?_
          refine z_if_ne 42 dX7_commonDivisor_35 (by decide) (fun h_35 => ?_) (fun h_35 => ?_)
          · refine z_iload_n (i := 2) dX7_commonDivisor_42 rfl rfl ?_
            first
            | (exfalso; have := hh0.mp (by first | exact h_35 | exact Classical.not_not.mp h_35); omega)
            | exact z_ret dX7_commonDivisor_43 hQ trivial rfl
          · refine z_iconst (v := 1) dX7_commonDivisor_38 (by decide) ?_
            refine z_goto 43 dX7_commonDivisor_39 (by decide) ?_
            first
            | (exfalso; have := hh0.mp (by first | exact h_35 | exact Classical.not_not.mp h_35); omega)
            | exact z_ret dX7_commonDivisor_43 hQ trivial rfl
      · have hmod := Nat.mod_lt hi (show 0 < lo by omega)
        refine z_iload (i := 4) dX7_commonDivisor_7 rfl ?_
        refine z_bipush (v := 100) dX7_commonDivisor_9 (by decide) ?_
        refine z_icmp_ge 34 dX7_commonDivisor_11 (by decide) (fun h_11 => ?_) (fun h_11 => ?_)
        · exfalso; have := hlt.mp h_11; omega
        refine z_iload_n (i := 3) dX7_commonDivisor_14 rfl rfl ?_
        refine z_if_eq 34 dX7_commonDivisor_15 (by decide) (fun h_15 => ?_) (fun h_15 => ?_)
        · exfalso; exact hlo (hl0.mp (by first | exact h_15 | exact Classical.not_not.mp h_15))
        refine z_iload_n (i := 2) dX7_commonDivisor_18 rfl rfl ?_
        refine z_iload_n (i := 3) dX7_commonDivisor_19 rfl rfl ?_
        refine z_irem dX7_commonDivisor_20 (by exact fun q => hlo (hl0.mp q)) ?_
        rw [pk_rem (by omega) (by omega) (by omega)]
        refine z_istore (i := 5) [_, _, _, _, _, _] dX7_commonDivisor_21 (by decide) rfl rfl ?_
        refine z_iload_n (i := 3) dX7_commonDivisor_23 rfl rfl ?_
        refine z_istore_n (i := 2) [_, _, _, _, _, _] dX7_commonDivisor_24 rfl (by decide) rfl rfl ?_
        refine z_iload (i := 5) dX7_commonDivisor_25 rfl ?_
        refine z_istore_n (i := 3) [_, _, _, _, _, _] dX7_commonDivisor_27 rfl (by decide) rfl rfl ?_
        refine z_iinc (i := 4) (v := 1) [_, _, _, _, _, _] dX7_commonDivisor_28 rfl (by decide) (by decide) rfl rfl ?_
        refine z_goto 7 dX7_commonDivisor_31 (by decide) ?_
        rw [nI_1]
        exact ih (i + 1) lo (hi % lo) _ (by omega) (by omega) (by omega) (by omega) (by rw [← e, ← Nat.gcd_rec])
  refine z_iload_n (i := 1) dX7_commonDivisor_0 rfl rfl ?_
  refine z_istore_n (i := 2) [_, _, _, _, _, _] dX7_commonDivisor_1 rfl (by decide) rfl rfl ?_
  refine z_iload_n (i := 0) dX7_commonDivisor_2 rfl rfl ?_
  refine z_istore_n (i := 3) [_, _, _, _, _, _] dX7_commonDivisor_3 rfl (by decide) rfl rfl ?_
  refine z_iconst (v := 0) dX7_commonDivisor_4 (by decide) ?_
  refine z_istore (i := 4) [_, _, _, _, _, _] dX7_commonDivisor_5 (by decide) rfl rfl ?_
  exact loop 101 0 100 a none (by omega) (by omega) (by omega) (by omega) rfl
theorem x_odds {p cell k w : Int32} (hX : RX c σ) (hd : 12 ≤ d) (hQ : WX c Qf (o_odds σ p cell k w)) : zCl l E ad mX7_odds d [.ref (ad 0), .int p, .int cell, .int k, .int w] c Qf := by
  obtain ⟨n, t, m, hS, hI⟩ := id hX.1
  have hn6 := hI.1.2.1
  have hLW := LW_of hS hI
  refine z_enter (own := RX7) [some (.ref (ad 0)), some (.int p), some (.int cell), some (.int k), some (.int w), none, none] (by decide +kernel) rfl rfl rfl (Nat.le_of_ble_eq_true rfl) ?_
  by_cases hok : isP σ p ∧ (0 ≤ cell ∧ cell ≤ 15) ∧ (0 ≤ k ∧ k ≤ 20) ∧ 0 ≤ w ∧ w ≤ 1
  · obtain ⟨i, hi, rfl⟩ := isP_of (f := σ.1) hok.1 hI.1.1 hn6
    obtain ⟨j, hj, rfl⟩ := zj_of (x := k) (n := 21) hok.2.2.1.1 (by have := hok.2.2.1.2; show k < (21 : Int32); grind) (by decide)
    have hpc : 0 ≤ nI i ∧ nI i ≤ σ.1 5 - 1 := hok.1
    unfold o_odds at hQ
    rw [if_pos hok, pn_nI (by omega), pn_nI (by omega)] at hQ
    have hcl := cnF_le (fun q => cwF σ.1 i cell j (nI q))
    have hcs : ∀ s, cnF (fun q => cwF σ.1 i cell j (nI q)) (s + 1) = cnF (fun q => cwF σ.1 i cell j (nI q)) s + (if cwF σ.1 i cell j (nI s) = true then 1 else 0) := fun _ => rfl
    generalize hC : cnF (fun q => cwF σ.1 i cell j (nI q)) = C at hQ hcl hcs
    have hg0 : 0 < Nat.gcd (C 100) 100 := Nat.gcd_pos_of_pos_right _ (by decide)
    have hg1 : Nat.gcd (C 100) 100 ≤ 100 := Nat.gcd_le_right _ (by decide)
    have hC1 := hcl 100
    have hgn : ¬ nI (Nat.gcd (C 100) 100) = 0 := nI_ne0 hg0 (by omega)
    have loop : ∀ (r s : Nat) (c1 : zS), 100 - s < r → s ≤ 100 → zth c c1 → zW l E ad RX7 cX7_odds 7 1 d Qf 44 [some (.ref (ad 0)), some (.int (nI i)), some (.int cell), some (.int (nI j)), some (.int w), some (.int (nI (C s))), some (.int (nI s))] [] c1 := by
      intro r
      induction r with
      | zero => intro s c1 q; omega
      | succ r ih =>
        intro s c1 hr hs hz
        have hlt := nI_leI (a := 100) (b := s) (by omega) (by omega)
        by_cases h100 : s < 100
        · have cut69 : ∀ (x : Nat) (c2 : zS), zth c c2 → x = C (s + 1) → zW l E ad RX7 cX7_odds 7 1 d Qf 69 [some (.ref (ad 0)), some (.int (nI i)), some (.int cell), some (.int (nI j)), some (.int w), some (.int (nI x)), some (.int (nI s))] [] c2 := by
            intro x c2 hz2 hx
            subst hx
            refine z_iinc (i := 6) (v := 1) [_, _, _, _, _, _, _] dX7_odds_69 rfl (by decide) (by decide) rfl rfl ?_
            refine z_goto 44 dX7_odds_72 (by decide) ?_
            rw [nI_1]
            exact ih (s + 1) c2 (by omega) (by omega) hz2
          refine z_iload (i := 6) dX7_odds_44 rfl ?_
          refine z_bipush (v := 100) dX7_odds_46 (by decide) ?_
          refine z_icmp_ge 75 dX7_odds_48 (by decide) (fun h_48 => ?_) (fun h_48 => ?_)
          · exfalso; have := hlt.mp h_48; omega
          refine z_aload_n (i := 0) dX7_odds_51 rfl rfl ?_
          refine z_getf dX7_odds_52 f_X7_41 (by first | decide | assumption | omega) rfl (by rfl) ?_
          refine z_iload_n (i := 1) dX7_odds_55 rfl rfl ?_
          refine z_iload (i := 6) dX7_odds_56 rfl ?_
          refine z_iload_n (i := 2) dX7_odds_58 rfl rfl ?_
          refine z_iload_n (i := 3) dX7_odds_59 rfl rfl ?_
          refine z_Vb (As := [_, _, _, _]) dX7_odds_60 (by rfl) v_X5_comesWith l_X7_198 (by first | decide | assumption | omega) rfl rfl rfl (by omega) (by decide) (Nat.le_of_ble_eq_true rfl) ?_
          refine c_comesWith (zth_PR8 hS.1 hz) (zth_LW hLW hz) hI.1 hI.2.2.2.2.2.2.1 hi (by omega) (by omega) (fun c2 z2 => ?_)
          refine z_if_eq 69 dX7_odds_63 (by decide) (fun h_63 => ?_) (fun h_63 => ?_)
          · first
            | exact cut69 _ c2 (zth_tr hz z2) (by rw [hcs, if_neg (bite.mp (by first | exact h_63 | exact Classical.not_not.mp h_63))]; rfl)
            | (rw [nI_1]
               exact cut69 _ c2 (zth_tr hz z2) (by rw [hcs, if_pos (Classical.byContradiction (fun q => h_63 (bite.mpr q)))]))
          · refine z_iinc (i := 5) (v := 1) [_, _, _, _, _, _, _] dX7_odds_66 rfl (by decide) (by decide) rfl rfl ?_
            first
            | exact cut69 _ c2 (zth_tr hz z2) (by rw [hcs, if_neg (bite.mp (by first | exact h_63 | exact Classical.not_not.mp h_63))]; rfl)
            | (rw [nI_1]
               exact cut69 _ c2 (zth_tr hz z2) (by rw [hcs, if_pos (Classical.byContradiction (fun q => h_63 (bite.mpr q)))]))
        · have es : s = 100 := by omega
          subst es
          refine z_iload (i := 6) dX7_odds_44 rfl ?_
          refine z_bipush (v := 100) dX7_odds_46 (by decide) ?_
          refine z_icmp_ge 75 dX7_odds_48 (by decide) (fun h_48 => ?_) (fun h_48 => ?_)
          rotate_left
          · exact absurd (by decide) h_48
          refine z_iload (i := 5) dX7_odds_75 rfl ?_
          refine z_bipush (v := 100) dX7_odds_77 (by decide) ?_
          refine z_Si (As := [_, _]) dX7_odds_79 (by rfl) v_X7_commonDivisor l_X7_213 rfl (by omega) (by decide) (Nat.le_of_ble_eq_true rfl) ?_
          refine s_commonDivisor hC1 ?_
          refine z_istore (i := 6) [_, _, _, _, _, _, _] dX7_odds_82 (by decide) rfl rfl ?_
          refine z_iload (i := 4) dX7_odds_84 rfl ?_
          refine z_if_ne 94 dX7_odds_86 (by decide) (fun h_86 => ?_) (fun h_86 => ?_)
          · refine z_bipush (v := 100) dX7_odds_94 (by decide) ?_
            refine z_iload (i := 6) dX7_odds_96 rfl ?_
            refine z_idiv dX7_odds_98 (by exact hgn) ?_
            first
            | (rw [if_pos (by first | exact h_86 | exact Classical.not_not.mp h_86)] at hQ
               rw [pk_div (by omega) hg0 (by omega)]
               exact z_ret dX7_odds_99 (WX_zth hX hQ hz) trivial rfl)
            | (rw [if_neg (by first | exact h_86 | assumption)] at hQ
               rw [show (100 : Int32) = nI 100 from rfl, pk_div (by omega) hg0 (by omega)]
               exact z_ret dX7_odds_99 (WX_zth hX hQ hz) trivial rfl)
          · refine z_iload (i := 5) dX7_odds_89 rfl ?_
            refine z_goto 96 dX7_odds_91 (by decide) ?_
            refine z_iload (i := 6) dX7_odds_96 rfl ?_
            refine z_idiv dX7_odds_98 (by exact hgn) ?_
            first
            | (rw [if_pos (by first | exact h_86 | exact Classical.not_not.mp h_86)] at hQ
               rw [pk_div (by omega) hg0 (by omega)]
               exact z_ret dX7_odds_99 (WX_zth hX hQ hz) trivial rfl)
            | (rw [if_neg (by first | exact h_86 | assumption)] at hQ
               rw [show (100 : Int32) = nI 100 from rfl, pk_div (by omega) hg0 (by omega)]
               exact z_ret dX7_odds_99 (WX_zth hX hQ hz) trivial rfl)
    refine z_aload_n (i := 0) dX7_odds_0 rfl rfl ?_
    refine z_iload_n (i := 1) dX7_odds_1 rfl rfl ?_
    refine z_Vb (As := [_]) dX7_odds_2 (by rfl) v_X7_isPerson l_X7_86 (by first | decide | assumption | omega) rfl rfl rfl (by omega) (by decide) (Nat.le_of_ble_eq_true rfl) ?_
    refine s_isPerson hX ?_
    refine z_if_eq 32 dX7_odds_5 (by decide) (fun h_5 => ?_) (fun h_5 => ?_)
    · exfalso; exact absurd hpc (bite.mp (by first | exact h_5 | exact Classical.not_not.mp h_5))
    refine z_iload_n (i := 2) dX7_odds_8 rfl rfl ?_
    refine z_Sb (As := [_]) dX7_odds_9 (by rfl) v_X7_isCell l_X7_123 rfl (by omega) (by decide) (Nat.le_of_ble_eq_true rfl) ?_
    refine s_isCell (by omega) ?_
    refine z_if_eq 32 dX7_odds_12 (by decide) (fun h_12 => ?_) (fun h_12 => ?_)
    · exfalso; exact absurd hok.2.1 (bite.mp (by first | exact h_12 | exact Classical.not_not.mp h_12))
    refine z_iload_n (i := 3) dX7_odds_15 rfl rfl ?_
    refine z_Sb (As := [_]) dX7_odds_16 (by rfl) v_X7_isNear l_X7_195 rfl (by omega) (by decide) (Nat.le_of_ble_eq_true rfl) ?_
    refine s_isNear (by omega) ?_
    refine z_if_eq 32 dX7_odds_19 (by decide) (fun h_19 => ?_) (fun h_19 => ?_)
    · exfalso; exact absurd hok.2.2.1 (bite.mp (by first | exact h_19 | exact Classical.not_not.mp h_19))
    refine z_iload (i := 4) dX7_odds_22 rfl ?_
    refine z_iconst (v := 0) dX7_odds_24 (by decide) ?_
    refine z_iconst (v := 1) dX7_odds_25 (by decide) ?_
    refine z_Sb (As := [_, _, _]) dX7_odds_26 (by rfl) v_X7_isWithin l_X7_115 rfl (by omega) (by decide) (Nat.le_of_ble_eq_true rfl) ?_
    refine s_isWithin ?_
    refine z_if_ne 38 dX7_odds_29 (by decide) (fun h_29 => ?_) (fun h_29 => ?_)
    rotate_left
    · exfalso; exact absurd hok.2.2.2 (bite.mp (by first | exact h_29 | exact Classical.not_not.mp h_29))
    refine z_iconst (v := 0) dX7_odds_38 (by decide) ?_
    refine z_istore (i := 5) [_, _, _, _, _, _, _] dX7_odds_39 (by decide) rfl rfl ?_
    refine z_iconst (v := 0) dX7_odds_41 (by decide) ?_
    refine z_istore (i := 6) [_, _, _, _, _, _, _] dX7_odds_42 (by decide) rfl rfl ?_
    have := loop 101 0 c (by omega) (by omega) zth_rf
    rw [show C 0 = 0 by rw [← hC]; rfl] at this
    exact this
  · unfold o_odds at hQ
    rw [if_neg hok] at hQ
    refine z_aload_n (i := 0) dX7_odds_0 rfl rfl ?_
    refine z_iload_n (i := 1) dX7_odds_1 rfl rfl ?_
    refine z_Vb (As := [_]) dX7_odds_2 (by rfl) v_X7_isPerson l_X7_86 (by first | decide | assumption | omega) rfl rfl rfl (by omega) (by decide) (Nat.le_of_ble_eq_true rfl) ?_
    refine s_isPerson hX ?_
    refine z_if_eq 32 dX7_odds_5 (by decide) (fun h_5 => ?_) (fun h_5 => ?_)
    · refine z_aload_n (i := 0) dX7_odds_32 rfl rfl ?_
      refine z_iconst (v := 1) dX7_odds_33 (by decide) ?_
      refine z_Vi (As := [_]) dX7_odds_34 (by rfl) v_X7_refuse l_X7_73 (by first | decide | assumption | omega) rfl rfl rfl (by omega) (by decide) (Nat.le_of_ble_eq_true rfl) ?_
      refine s_refuse (by rfl) (by decide) ?_
      exact z_ret dX7_odds_37 (WX_err hX hQ) trivial rfl
    · refine z_iload_n (i := 2) dX7_odds_8 rfl rfl ?_
      refine z_Sb (As := [_]) dX7_odds_9 (by rfl) v_X7_isCell l_X7_123 rfl (by omega) (by decide) (Nat.le_of_ble_eq_true rfl) ?_
      refine s_isCell (by omega) ?_
      refine z_if_eq 32 dX7_odds_12 (by decide) (fun h_12 => ?_) (fun h_12 => ?_)
      · refine z_aload_n (i := 0) dX7_odds_32 rfl rfl ?_
        refine z_iconst (v := 1) dX7_odds_33 (by decide) ?_
        refine z_Vi (As := [_]) dX7_odds_34 (by rfl) v_X7_refuse l_X7_73 (by first | decide | assumption | omega) rfl rfl rfl (by omega) (by decide) (Nat.le_of_ble_eq_true rfl) ?_
        refine s_refuse (by rfl) (by decide) ?_
        exact z_ret dX7_odds_37 (WX_err hX hQ) trivial rfl
      · refine z_iload_n (i := 3) dX7_odds_15 rfl rfl ?_
        refine z_Sb (As := [_]) dX7_odds_16 (by rfl) v_X7_isNear l_X7_195 rfl (by omega) (by decide) (Nat.le_of_ble_eq_true rfl) ?_
        refine s_isNear (by omega) ?_
        refine z_if_eq 32 dX7_odds_19 (by decide) (fun h_19 => ?_) (fun h_19 => ?_)
        · refine z_aload_n (i := 0) dX7_odds_32 rfl rfl ?_
          refine z_iconst (v := 1) dX7_odds_33 (by decide) ?_
          refine z_Vi (As := [_]) dX7_odds_34 (by rfl) v_X7_refuse l_X7_73 (by first | decide | assumption | omega) rfl rfl rfl (by omega) (by decide) (Nat.le_of_ble_eq_true rfl) ?_
          refine s_refuse (by rfl) (by decide) ?_
          exact z_ret dX7_odds_37 (WX_err hX hQ) trivial rfl
        · refine z_iload (i := 4) dX7_odds_22 rfl ?_
          refine z_iconst (v := 0) dX7_odds_24 (by decide) ?_
          refine z_iconst (v := 1) dX7_odds_25 (by decide) ?_
          refine z_Sb (As := [_, _, _]) dX7_odds_26 (by rfl) v_X7_isWithin l_X7_115 rfl (by omega) (by decide) (Nat.le_of_ble_eq_true rfl) ?_
          refine s_isWithin ?_
          refine z_if_ne 38 dX7_odds_29 (by decide) (fun h_29 => ?_) (fun h_29 => ?_)
          · exfalso; exact hok ⟨Classical.byContradiction (fun q => h_5 (bite.mpr q)), Classical.byContradiction (fun q => h_12 (bite.mpr q)), Classical.byContradiction (fun q => h_19 (bite.mpr q)), Classical.byContradiction (fun q => h_29 (bite.mpr q))⟩
          refine z_aload_n (i := 0) dX7_odds_32 rfl rfl ?_
          refine z_iconst (v := 1) dX7_odds_33 (by decide) ?_
          refine z_Vi (As := [_]) dX7_odds_34 (by rfl) v_X7_refuse l_X7_73 (by first | decide | assumption | omega) rfl rfl rfl (by omega) (by decide) (Nat.le_of_ble_eq_true rfl) ?_
          refine s_refuse (by rfl) (by decide) ?_
          exact z_ret dX7_odds_37 (WX_err hX hQ) trivial rfl
end X7
