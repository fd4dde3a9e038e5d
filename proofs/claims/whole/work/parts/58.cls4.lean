/-! the class's calls: texts, images -/
theorem SI_cp {f g : zN} {n t m : Nat} (h : SI f n t m) (e : ∀ k, k < 372 → g k = f k) : SI g n t m := by
  have ht := h.2.2.1
  have hm := h.2.2.2.2.1
  exact SI_cb h (fun k a b => e k (by omega)) (fun k a => e k (by omega)) (by rw [e 3 (by decide)]; exact h.2.1) ht (by rw [e 4 (by decide)]; exact h.2.2.2.1) hm (fun i hi => by rw [e _ (by omega)]; exact h.2.2.2.2.2.2.2.2.1 i hi)
theorem ST_cpx {c : zS} {T P L0 C0 L1 C1 A W n t m : Nat} {f g : zN} (h : ST c T P L0 C0 L1 C1 A W n t m f) (hI : SI f n t m) (e : ∀ k, k < 372 → g k = f k) : ST c T P L0 C0 L1 C1 A W n t m g := by
  have ht := hI.2.2.1
  have hm := hI.2.2.2.2.1
  obtain ⟨a1, a2, a3, a4, a5, a6, a7, a8⟩ := h
  exact ⟨PR_f a1 hI.1.2.1 (fun _ _ _ => rfl) (fun k a => e k (by omega)), LR_cb (by decide) a2 hI.1.2.2.1 (fun k a b => e k (by omega)) rfl rfl, LR_cb (by decide) a3 hI.1.2.2.2 (fun k a b => e k (by omega)) rfl rfl, a4, a5, by rw [e 2 (by decide)]; exact a6, fun i hi => by rw [e _ (by omega)]; exact a7 i hi, fun i hi => by rw [e _ (by omega)]; exact a8 i hi⟩
theorem hw_u {f : zN} {u : Nat} (h : f (38 + 125 * u) = 0) : wfT f u := ⟨0, by decide, h, fun w => absurd w (by decide)⟩
theorem hst_u {f : zN} {u : Nat} (h : f (38 + 125 * u) = 0) : stG f u := by
  unfold stG
  rw [h]
  intro k hk
  exact absurd hk (Nat.not_lt_zero _)
section X4
variable {l : Launch} {E : zE} {ad : Nat → Nat} {c : zS} {Qf : Int32 → zS → Prop} {d n : Nat} {σ : zT}
theorem x_feed {w : Int64} {k : Int32} (hX : RX c σ) (hd : 8 ≤ d) (hQ : WX c Qf (o_feed σ w k)) : zCl l E ad mX7_feed d [.ref (ad 0), .long w, .int k] c Qf := by
  obtain ⟨n, t, m, hS, hI⟩ := id hX.1
  have ht := hI.2.2.1
  have e3 : σ.1 3 = nI t := hI.2.1
  have e14 : c 1 4 = nI t := hS.2.2.2.1
  refine z_enter (own := RX7) [some (.ref (ad 0)), some (.long w), none, some (.int k)] (by decide +kernel) rfl rfl rfl (Nat.le_of_ble_eq_true rfl) ?_
  by_cases hok : 1 ≤ k ∧ k ≤ 8
  · obtain ⟨j, hj, rfl⟩ := zj_of (x := k) (n := 9) (by have := hok.1; grind) (by have := hok.2; show k < (9 : Int32); grind) (by decide)
    have hj1 : 1 ≤ j := (nI_leI (a := 1) (b := j) (by omega) (by omega)).mp hok.1
    have e60 : (60 : Int32) - nI j = nI (60 - j) := by
      have : nI (60 - j) + nI j = (60 : Int32) := by rw [nI_add]; show nI _ = nI 60; congr 1; omega
      rw [← this]
      generalize nI (60 - j) = y
      generalize nI j = z
      grind
    have l1 : nI t ≤ nI (60 - j) ↔ t ≤ 60 - j := nI_leI (by omega) (by omega)
    have l2 : nI (t + j) ≤ (60 : Int32) ↔ t + j ≤ 60 := nI_leI (a := t + j) (b := 60) (by omega) (by omega)
    unfold o_feed at hQ
    rw [if_pos hok, e3, nI_add, pn_nI (by omega)] at hQ
    refine z_iload_n (i := 3) dX7_feed_0 rfl rfl ?_
    refine z_iconst (v := 1) dX7_feed_1 (by decide) ?_
    refine z_bipush (v := 8) dX7_feed_2 (by decide) ?_
    refine z_Sb (As := [_, _, _]) dX7_feed_4 (by rfl) v_X7_isWithin l_X7_115 rfl (by omega) (by decide) (Nat.le_of_ble_eq_true rfl) ?_
    refine s_isWithin ?_
    refine z_if_ne 16 dX7_feed_7 (by decide) (fun h_7 => ?_) (fun h_7 => ?_)
    rotate_left
    · exfalso; exact absurd hok (bite.mp (by first | exact h_7 | exact Classical.not_not.mp h_7))
    refine z_aload_n (i := 0) dX7_feed_16 rfl rfl ?_
    refine z_getf dX7_feed_17 f_X7_10 (by first | decide | assumption | omega) rfl (by rfl) ?_
    refine z_getf dX7_feed_20 f_X7_133 (by first | decide | assumption | omega) rfl (by rfl) ?_
    refine z_bipush (v := 60) dX7_feed_23 (by decide) ?_
    refine z_iload_n (i := 3) dX7_feed_25 rfl rfl ?_
    refine z_isub dX7_feed_26 ?_
    rw [e14, e60]
    refine z_icmp_le 36 dX7_feed_27 (by decide) (fun h_27 => ?_) (fun h_27 => ?_)
    · have hfit : t + j ≤ 60 := by have := l1.mp h_27; omega
      rw [if_pos (l2.mpr hfit)] at hQ
      refine z_aload_n (i := 0) dX7_feed_36 rfl rfl ?_
      refine z_getf dX7_feed_37 f_X7_10 (by first | decide | assumption | omega) rfl (by rfl) ?_
      refine z_lload_n (i := 1) dX7_feed_40 rfl rfl ?_
      refine z_iload_n (i := 3) dX7_feed_41 rfl rfl ?_
      refine z_Vv (As := [_, _]) dX7_feed_42 (by rfl) v_X4_takesBytes l_X7_136 (by first | decide | assumption | omega) rfl rfl rfl (by omega) (by decide) (Nat.le_of_ble_eq_true rfl) ?_
      refine s_takesBytes (f := σ.1) (e14.trans e3.symm) e3 hS.2.2.2.2.2.2.1 (by omega) hfit (fun c' h4 hA hf hf1 => ?_)
      refine z_aload_n (i := 0) dX7_feed_45 rfl rfl ?_
      refine z_getf dX7_feed_46 f_X7_10 (by first | decide | assumption | omega) rfl (by rfl) ?_
      refine z_getf dX7_feed_49 f_X7_133 (by first | decide | assumption | omega) rfl (by rfl) ?_
      rw [h4]
      refine z_ret dX7_feed_52 (WX_now hX hQ ⟨hf 0 (by decide) (by decide), fun k a b e g => hf k (by omega) (by omega)⟩ ⟨n, t + j, m, ?_, ?_⟩) trivial rfl
      · refine ST_cb hS hI.1 (fun k hk => hf k (by omega) (by omega)) (fun k a b => fd_un e3 ht (by omega) (by omega) j hfit) (fun k hk => fd_un e3 ht (by omega) (by omega) j hfit) (by rw [h4]; exact fd_3 e3 j) (by rw [hf1 6 (by decide)]; exact hS.2.2.2.2.1) (by rw [hf1 7 (by decide), fd_un e3 ht (by decide) (by omega) j hfit]; exact hS.2.2.2.2.2.1) hA (fun i hi => ?_)
        rw [hf 15 (by decide) (by decide), fd_un e3 ht (by omega) (by omega) j hfit]
        exact hS.2.2.2.2.2.2.2 i hi
      · exact SI_cb hI (fun k a b => fd_un e3 ht (by omega) (by omega) j hfit) (fun k hk => fd_un e3 ht (by omega) (by omega) j hfit) (fd_3 e3 j) hfit (by rw [fd_un e3 ht (by decide) (by omega) j hfit]; exact hI.2.2.2.1) hI.2.2.2.2.1 (fd_by e3 hI.2.2.2.2.2.2.2.2.1 j (by omega) hfit)
    · refine z_aload_n (i := 0) dX7_feed_30 rfl rfl ?_
      refine z_iconst (v := 4) dX7_feed_31 (by decide) ?_
      refine z_Vi (As := [_]) dX7_feed_32 (by rfl) v_X7_refuse l_X7_73 (by first | decide | assumption | omega) rfl rfl rfl (by omega) (by decide) (Nat.le_of_ble_eq_true rfl) ?_
      refine s_refuse (by rfl) (by decide) ?_
      rw [if_neg (fun q => h_27 (l1.mpr (by have := l2.mp q; omega)))] at hQ
      exact z_ret dX7_feed_35 (WX_err hX hQ) trivial rfl
  · unfold o_feed at hQ
    rw [if_neg hok] at hQ
    refine z_iload_n (i := 3) dX7_feed_0 rfl rfl ?_
    refine z_iconst (v := 1) dX7_feed_1 (by decide) ?_
    refine z_bipush (v := 8) dX7_feed_2 (by decide) ?_
    refine z_Sb (As := [_, _, _]) dX7_feed_4 (by rfl) v_X7_isWithin l_X7_115 rfl (by omega) (by decide) (Nat.le_of_ble_eq_true rfl) ?_
    refine s_isWithin ?_
    refine z_if_ne 16 dX7_feed_7 (by decide) (fun h_7 => ?_) (fun h_7 => ?_)
    · exfalso; exact hok (Classical.byContradiction (fun q => h_7 (bite.mpr q)))
    refine z_aload_n (i := 0) dX7_feed_10 rfl rfl ?_
    refine z_iconst (v := 1) dX7_feed_11 (by decide) ?_
    refine z_Vi (As := [_]) dX7_feed_12 (by rfl) v_X7_refuse l_X7_73 (by first | decide | assumption | omega) rfl rfl rfl (by omega) (by decide) (Nat.le_of_ble_eq_true rfl) ?_
    refine s_refuse (by rfl) (by decide) ?_
    exact z_ret dX7_feed_15 (WX_err hX hQ) trivial rfl
theorem x_image (hX : RX c σ) (hd : 8 ≤ d) (hQ : WX c Qf (o_image σ)) : zCl l E ad mX7_image d [.ref (ad 0)] c Qf := by
  obtain ⟨⟨n, t, m, hS, hI⟩, b2, b3, b4, b5, b6, b7⟩ := id hX
  unfold o_image at hQ
  refine z_enter (own := RX7) [some (.ref (ad 0))] (by decide +kernel) rfl rfl rfl (Nat.le_of_ble_eq_true rfl) ?_
  refine z_aload_n (i := 0) dX7_image_0 rfl rfl ?_
  refine z_getf dX7_image_1 f_X7_16 (by first | decide | assumption | omega) rfl (by rfl) ?_
  refine z_aload_n (i := 0) dX7_image_4 rfl rfl ?_
  refine z_getf dX7_image_5 f_X7_10 (by first | decide | assumption | omega) rfl (by rfl) ?_
  refine z_Vv (As := [_]) dX7_image_8 (by rfl) v_X4_copies l_X7_275 (by first | decide | assumption | omega) rfl rfl rfl (by omega) (by decide) (Nat.le_of_ble_eq_true rfl) ?_
  refine s_stcopies16_1 hS hI.1 hI.2.2.2.2.2.2.1 hI.2.2.1 hI.2.2.2.2.1 b4.1 b4.2 (by omega) (fun c' hS' hf => ?_)
  refine z_aload_n (i := 0) dX7_image_11 rfl rfl ?_
  refine z_dup dX7_image_12 rfl ?_
  refine z_getf dX7_image_13 f_X7_62 (by first | decide | assumption | omega) rfl (by rfl) ?_
  refine z_iconst (v := 1) dX7_image_16 (by decide) ?_
  rw [hf 0 (by omega), b2]
  skip
  refine z_iadd dX7_image_17 ?_
  refine z_putfi dX7_image_18 f_X7_62 fp_X7_7 (by first | decide | assumption | omega) rfl (by exact Nat.le_of_ble_eq_true rfl) rfl ?_
  refine z_aload_n (i := 0) dX7_image_21 rfl rfl ?_
  refine z_getf dX7_image_22 f_X7_62 (by first | decide | assumption | omega) rfl (by rfl) ?_
  rw [zup_s, pk_us]
  refine z_ret dX7_image_25 (hQ _ (fun k hk => by rw [zup_n (by omega)]; exact hf k (by omega)) ?_) trivial rfl
  have e : ∀ k, k ≠ 0 → zup c' 0 (upd (c' 0) 7 (σ.2.2.2.1 + 1)) k = c' k := fun k hk => zup_n hk
  refine ⟨⟨n, t, m, ST_pr hS (PR_cg hS.1 (fun k x y => by rw [zup_n (by omega)]; exact hf k (by omega))) (fun k hk => by rw [zup_n (by omega)]; exact hf k (by omega)) (fun _ _ => rfl) rfl, hI⟩, by rw [zup_s, pk_us], fun _ => ⟨n, t, m, ?_, ?_⟩, ?_, by rw [e 50 (by decide), hf 50 (by omega)]; exact b5, by rw [e 40 (by decide), e 41 (by decide), hf 40 (by omega), hf 41 (by omega)]; exact b6, SHx_cg b7 (fun k a b => by rw [e k (by omega)]; exact hf k (by omega))⟩
  · exact ST_cpx (ST_kept hS' (fun k a b => e k (by omega))) hI (fun k hk => if_pos hk)
  · exact SI_cp hI (fun k hk => if_pos hk)
  · rw [e 17 (by decide), e 20 (by decide)]; exact ⟨hS'.2.1.1, hS'.2.2.1.1⟩
theorem x_restore (hX : RX c σ) (hd : 8 ≤ d) (hQ : WX c Qf (o_restore σ)) : zCl l E ad mX7_restore d [.ref (ad 0)] c Qf := by
  obtain ⟨⟨n0, t0, m0, hS0, hI0⟩, b2, b3, b4, b5, b6, b7⟩ := id hX
  unfold o_restore at hQ
  refine z_enter (own := RX7) [some (.ref (ad 0))] (by decide +kernel) rfl rfl rfl (Nat.le_of_ble_eq_true rfl) ?_
  by_cases h0 : σ.2.2.2.1 = 0
  · rw [if_pos h0] at hQ
    refine z_aload_n (i := 0) dX7_restore_0 rfl rfl ?_
    refine z_getf dX7_restore_1 f_X7_62 (by first | decide | assumption | omega) rfl (by rfl) ?_
    rw [b2]
    refine z_if_ne 13 dX7_restore_4 (by decide) (fun h_4 => ?_) (fun h_4 => ?_)
    · exact absurd h0 h_4
    refine z_aload_n (i := 0) dX7_restore_7 rfl rfl ?_
    refine z_iconst (v := 2) dX7_restore_8 (by decide) ?_
    refine z_Vi (As := [_]) dX7_restore_9 (by rfl) v_X7_refuse l_X7_73 (by first | decide | assumption | omega) rfl rfl rfl (by omega) (by decide) (Nat.le_of_ble_eq_true rfl) ?_
    refine s_refuse (by rfl) (by decide) ?_
    exact z_ret dX7_restore_12 (WX_err hX hQ) trivial rfl
  · rw [if_neg h0] at hQ
    obtain ⟨n, t, m, hS, hI⟩ := b3 h0
    refine z_aload_n (i := 0) dX7_restore_0 rfl rfl ?_
    refine z_getf dX7_restore_1 f_X7_62 (by first | decide | assumption | omega) rfl (by rfl) ?_
    rw [b2]
    refine z_if_ne 13 dX7_restore_4 (by decide) (fun h_4 => ?_) (fun h_4 => ?_)
    rotate_left
    · exact absurd (by first | exact h_4 | exact Classical.not_not.mp h_4) h0
    refine z_aload_n (i := 0) dX7_restore_13 rfl rfl ?_
    refine z_getf dX7_restore_14 f_X7_10 (by first | decide | assumption | omega) rfl (by rfl) ?_
    refine z_aload_n (i := 0) dX7_restore_17 rfl rfl ?_
    refine z_getf dX7_restore_18 f_X7_16 (by first | decide | assumption | omega) rfl (by rfl) ?_
    refine z_Vv (As := [_]) dX7_restore_21 (by rfl) v_X4_copies l_X7_275 (by first | decide | assumption | omega) rfl rfl rfl (by omega) (by decide) (Nat.le_of_ble_eq_true rfl) ?_
    refine s_stcopies1_16 hS hI.1 hI.2.2.2.2.2.2.1 hI.2.2.1 hI.2.2.2.2.1 hS0.2.1.1 hS0.2.2.1.1 (by omega) (fun c' hS' hf => ?_)
    refine z_aload_n (i := 0) dX7_restore_24 rfl rfl ?_
    refine z_getf dX7_restore_25 f_X7_10 (by first | decide | assumption | omega) rfl (by rfl) ?_
    refine z_getf dX7_restore_28 f_X7_34 (by first | decide | assumption | omega) rfl (by rfl) ?_
    refine z_getf dX7_restore_31 f_X7_168 (by first | decide | assumption | omega) rfl (by rfl) ?_
    rw [show c' 8 9 = σ.2.1 0 from hS'.1.2.2.1]
    refine z_ret dX7_restore_34 (WX_now hX hQ ⟨hf 0 (by omega), fun k a b e g => hf k (by omega)⟩ ⟨n, t, m, ST_cpx hS' hI (fun k hk => if_pos hk), SI_cp hI (fun k hk => if_pos hk)⟩) trivial rfl
theorem x_law {u a b h : Int32} (hX : RX c σ) (hd : 8 ≤ d) (hQ : WX c Qf (o_law σ u a b h)) : zCl l E ad mX7_law d [.ref (ad 0), .int u, .int a, .int b, .int h] c Qf := by
  obtain ⟨n, t, m, hS, hI⟩ := id hX.1
  refine z_enter (own := RX7) [some (.ref (ad 0)), some (.int u), some (.int a), some (.int b), some (.int h)] (by decide +kernel) rfl rfl rfl (Nat.le_of_ble_eq_true rfl) ?_
  by_cases hok : 0 ≤ u ∧ u ≤ 1
  · unfold o_law at hQ
    rw [if_pos hok] at hQ
    have hu : u = 0 ∨ u = 1 := by grind
    rcases hu with rfl | rfl
    · rw [if_pos rfl] at hQ
      refine z_iload_n (i := 1) dX7_law_0 rfl rfl ?_
      refine z_Sb (As := [_]) dX7_law_1 (by rfl) v_X7_isUse l_X7_140 rfl (by omega) (by decide) (Nat.le_of_ble_eq_true rfl) ?_
      refine s_isUse (by omega) ?_
      refine z_if_ne 13 dX7_law_4 (by decide) (fun h_4 => ?_) (fun h_4 => ?_)
      rotate_left
      · exfalso; exact absurd hok (bite.mp (by first | exact h_4 | exact Classical.not_not.mp h_4))
      refine z_aload_n (i := 0) dX7_law_13 rfl rfl ?_
      refine z_getf dX7_law_14 f_X7_10 (by first | decide | assumption | omega) rfl (by rfl) ?_
      refine z_iload_n (i := 1) dX7_law_17 rfl rfl ?_
      refine z_Vr (As := [_]) dX7_law_18 (by rfl) v_X4_lawOf l_X7_146 (by first | decide | assumption | omega) rfl rfl rfl (by omega) (by decide) (Nat.le_of_ble_eq_true rfl) ?_
      refine c_lawOf0 ?_
      rw [show (2 : Int32).toNatClampNeg = 2 from rfl]
      refine z_iload_n (i := 2) dX7_law_21 rfl rfl ?_
      refine z_iload_n (i := 3) dX7_law_22 rfl rfl ?_
      refine z_iload (i := 4) dX7_law_23 rfl ?_
      refine z_Vi (As := [_, _, _]) dX7_law_25 (by rfl) v_X0_gives l_X7_165 (by first | decide | assumption | omega) rfl rfl rfl (by omega) (by decide) (Nat.le_of_ble_eq_true rfl) ?_
      refine s_gives2 hS.2.1 hI.2.2.2.2.2.2.2.2.2.1 hI.1.2.2.1 (by omega) (fun g => ?_)
      refine z_ret dX7_law_28 (WX_zth hX ?_ (fun k a b e => zup_n b)) trivial rfl
      unfold lawF
      rw [if_pos rfl]
      exact hQ
    · rw [if_neg (show ¬ (1 : Int32) = 0 by decide)] at hQ
      refine z_iload_n (i := 1) dX7_law_0 rfl rfl ?_
      refine z_Sb (As := [_]) dX7_law_1 (by rfl) v_X7_isUse l_X7_140 rfl (by omega) (by decide) (Nat.le_of_ble_eq_true rfl) ?_
      refine s_isUse (by omega) ?_
      refine z_if_ne 13 dX7_law_4 (by decide) (fun h_4 => ?_) (fun h_4 => ?_)
      rotate_left
      · exfalso; exact absurd hok (bite.mp (by first | exact h_4 | exact Classical.not_not.mp h_4))
      refine z_aload_n (i := 0) dX7_law_13 rfl rfl ?_
      refine z_getf dX7_law_14 f_X7_10 (by first | decide | assumption | omega) rfl (by rfl) ?_
      refine z_iload_n (i := 1) dX7_law_17 rfl rfl ?_
      refine z_Vr (As := [_]) dX7_law_18 (by rfl) v_X4_lawOf l_X7_146 (by first | decide | assumption | omega) rfl rfl rfl (by omega) (by decide) (Nat.le_of_ble_eq_true rfl) ?_
      refine c_lawOf1 ?_
      rw [show (5 : Int32).toNatClampNeg = 5 from rfl]
      refine z_iload_n (i := 2) dX7_law_21 rfl rfl ?_
      refine z_iload_n (i := 3) dX7_law_22 rfl rfl ?_
      refine z_iload (i := 4) dX7_law_23 rfl ?_
      refine z_Vi (As := [_, _, _]) dX7_law_25 (by rfl) v_X0_gives l_X7_165 (by first | decide | assumption | omega) rfl rfl rfl (by omega) (by decide) (Nat.le_of_ble_eq_true rfl) ?_
      refine s_gives5 hS.2.2.1 hI.2.2.2.2.2.2.2.2.2.2 hI.1.2.2.2 (by omega) (fun g => ?_)
      refine z_ret dX7_law_28 (WX_zth hX ?_ (fun k a b e => zup_n e)) trivial rfl
      unfold lawF
      rw [if_neg (show ¬ (1 : Nat) = 0 by decide)]
      exact hQ
  · unfold o_law at hQ
    rw [if_neg hok] at hQ
    refine z_iload_n (i := 1) dX7_law_0 rfl rfl ?_
    refine z_Sb (As := [_]) dX7_law_1 (by rfl) v_X7_isUse l_X7_140 rfl (by omega) (by decide) (Nat.le_of_ble_eq_true rfl) ?_
    refine s_isUse (by omega) ?_
    refine z_if_ne 13 dX7_law_4 (by decide) (fun h_4 => ?_) (fun h_4 => ?_)
    · exfalso; exact hok (Classical.byContradiction (fun q => h_4 (bite.mpr q)))
    refine z_aload_n (i := 0) dX7_law_7 rfl rfl ?_
    refine z_iconst (v := 1) dX7_law_8 (by decide) ?_
    refine z_Vi (As := [_]) dX7_law_9 (by rfl) v_X7_refuse l_X7_73 (by first | decide | assumption | omega) rfl rfl rfl (by omega) (by decide) (Nat.le_of_ble_eq_true rfl) ?_
    refine s_refuse (by rfl) (by decide) ?_
    exact z_ret dX7_law_12 (WX_err hX hQ) trivial rfl
theorem x_untell {u : Int32} (hX : RX c σ) (hd : 8 ≤ d) (hQ : WX c Qf (o_untell σ u)) : zCl l E ad mX7_untell d [.ref (ad 0), .int u] c Qf := by
  obtain ⟨n, t, m, hS, hI⟩ := id hX.1
  have ht60 := hI.2.2.1
  obtain ⟨s1, s2, s3, s4, s5, s6, s7, s8⟩ := id hS
  obtain ⟨i1, i2, i3, i4, i5, i6, i7, i8, i9, i10, i11⟩ := id hI
  have hn6 := i1.2.1
  refine z_enter (own := RX7) [some (.ref (ad 0)), some (.int u), none, none] (by decide +kernel) rfl rfl rfl (Nat.le_of_ble_eq_true rfl) ?_
  by_cases hok : 0 ≤ u ∧ u ≤ 1
  · unfold o_untell at hQ
    rw [if_pos hok] at hQ
    have hu : u = 0 ∨ u = 1 := by grind
    rcases hu with rfl | rfl
    · have hQ : WX c Qf ((if 0 < σ.1 38 then 1 else 0), wS σ (upd σ.1 38 0)) := hQ
      have eL : c 2 3 = σ.1 38 := s2.2.1
      obtain ⟨z1, z2, ez, hz⟩ := i1.2.2.2
      have ep1 : pn (σ.1 163) = z1 := by rw [show σ.1 163 = nI z1 from ez]; exact pn_nI (by omega)
      have fin : ∃ n' t' m' : Nat, ST (zup c 2 (upd (c 2) 3 0)) 1 8 2 3 5 6 14 15 n' t' m' (upd σ.1 38 0) ∧ SI (upd σ.1 38 0) n' t' m' := by
        refine ⟨n, t, m, ⟨PR_f s1 hn6 (fun k a b => zup_n (by omega)) (fun k hk => pk_un (by omega)), ⟨by rw [zup_s, pk_un (by decide)]; exact s2.1, by rw [zup_s, pk_us]; exact pk_us.symm, fun i hi => ?_⟩, ⟨s3.1, by rw [zup_n (by decide), pk_un (by omega)]; exact s3.2.1, fun i hi => ?_⟩, s4, s5, by rw [pk_un (by omega)]; exact s6, fun i hi => by rw [zup_n (by decide), pk_un (by omega)]; exact s7 i hi, fun i hi => by rw [zup_n (by decide), pk_un (by omega)]; exact s8 i hi⟩, ?_⟩
        · exfalso
          rw [show upd σ.1 38 0 (38 + 125 * 0) = 0 from pk_us] at hi
          exact absurd hi (Nat.not_lt_zero _)
        · have hi : i < pn (upd σ.1 38 0 163) := hi
          rw [pk_un (by decide), ep1] at hi
          rw [zup_n (by decide), pk_un (by omega), pk_un (by omega)]
          exact s3.2.2 i (by show i < pn (σ.1 163); rw [ep1]; exact hi)
        · refine ⟨⟨by rw [pk_un (by decide)]; exact i1.1, hn6, hw_u pk_us, ?_⟩, by rw [pk_un (by decide)]; exact i2, i3, by rw [pk_un (by decide)]; exact i4, i5, fun i hi => by rw [pk_un (by omega)]; exact i6 i hi, fun i hi => by rw [pk_un (by omega)]; exact i7 i hi, by rw [pk_un (by decide)]; exact i8, fun i hi => by rw [pk_un (by omega)]; exact i9 i hi, hst_u pk_us, ?_⟩
          · refine ⟨z1, z2, by rw [pk_un (by decide)]; exact ez, fun h0 => ⟨?_, fun k hk h1 => ?_⟩⟩
            · rw [← (hz h0).1]
              exact dpR_cg (fun k hk => ⟨pk_un (by omega), pk_un (by omega)⟩)
            · rw [pk_un (by omega)] at h1
              rw [pk_un (by omega)]
              exact (hz h0).2 k hk h1
          · intro k hk
            have hk : k < pn (upd σ.1 38 0 163) := hk
            rw [pk_un (by decide), ep1] at hk
            rw [pk_un (by omega), pk_un (by omega)]
            exact i11 k (by show k < pn (σ.1 163); rw [ep1]; exact hk)
      refine z_iload_n (i := 1) dX7_untell_0 rfl rfl ?_
      refine z_Sb (As := [_]) dX7_untell_1 (by rfl) v_X7_isUse l_X7_140 rfl (by omega) (by decide) (Nat.le_of_ble_eq_true rfl) ?_
      refine s_isUse (by omega) ?_
      refine z_if_ne 13 dX7_untell_4 (by decide) (fun h_4 => ?_) (fun h_4 => ?_)
      rotate_left
      · exfalso; exact absurd hok (bite.mp (by first | exact h_4 | exact Classical.not_not.mp h_4))
      refine z_aload_n (i := 0) dX7_untell_13 rfl rfl ?_
      refine z_getf dX7_untell_14 f_X7_10 (by first | decide | assumption | omega) rfl (by rfl) ?_
      refine z_iload_n (i := 1) dX7_untell_17 rfl rfl ?_
      refine z_Vr (As := [_]) dX7_untell_18 (by rfl) v_X4_lawOf l_X7_146 (by first | decide | assumption | omega) rfl rfl rfl (by omega) (by decide) (Nat.le_of_ble_eq_true rfl) ?_
      refine c_lawOf0 ?_
      rw [show (2 : Int32).toNatClampNeg = 2 from rfl]
      refine z_astore_n (i := 2) [_, _, _, _] dX7_untell_21 rfl (by decide) rfl rfl ?_
      refine z_aload_n (i := 2) dX7_untell_22 rfl rfl ?_
      refine z_getf dX7_untell_23 f_X7_162 (by first | decide | assumption | omega) rfl (by rfl) ?_
      rw [eL]
      refine z_if_le 33 dX7_untell_26 (by decide) (fun h_26 => ?_) (fun h_26 => ?_)
      · refine z_iconst (v := 0) dX7_untell_33 (by decide) ?_
        refine z_istore_n (i := 3) [_, _, _, _] dX7_untell_34 rfl (by decide) rfl rfl ?_
        refine z_aload_n (i := 2) dX7_untell_35 rfl rfl ?_
        refine z_iconst (v := 0) dX7_untell_36 (by decide) ?_
        refine z_putfi dX7_untell_37 f_X7_162 fp_X0_3 (by first | decide | assumption | omega) rfl (by exact Nat.le_of_ble_eq_true rfl) rfl ?_
        refine z_iload_n (i := 3) dX7_untell_40 rfl rfl ?_
        refine z_ret dX7_untell_41 (WX_now hX (σ := σ) ?_ (zfr_u (by omega)) fin) trivial rfl
        first
        | (rw [if_neg (by grind)] at hQ; exact hQ)
        | (rw [if_pos (by grind)] at hQ; exact hQ)
      · refine z_iconst (v := 1) dX7_untell_29 (by decide) ?_
        refine z_goto 34 dX7_untell_30 (by decide) ?_
        refine z_istore_n (i := 3) [_, _, _, _] dX7_untell_34 rfl (by decide) rfl rfl ?_
        refine z_aload_n (i := 2) dX7_untell_35 rfl rfl ?_
        refine z_iconst (v := 0) dX7_untell_36 (by decide) ?_
        refine z_putfi dX7_untell_37 f_X7_162 fp_X0_3 (by first | decide | assumption | omega) rfl (by exact Nat.le_of_ble_eq_true rfl) rfl ?_
        refine z_iload_n (i := 3) dX7_untell_40 rfl rfl ?_
        refine z_ret dX7_untell_41 (WX_now hX (σ := σ) ?_ (zfr_u (by omega)) fin) trivial rfl
        first
        | (rw [if_neg (by grind)] at hQ; exact hQ)
        | (rw [if_pos (by grind)] at hQ; exact hQ)
    · have hQ : WX c Qf ((if 0 < σ.1 163 then 1 else 0), wS σ (upd σ.1 163 0)) := hQ
      have eL : c 5 3 = σ.1 163 := s3.2.1
      obtain ⟨z1, z2, ez, hz⟩ := i1.2.2.1
      have ep1 : pn (σ.1 38) = z1 := by rw [show σ.1 38 = nI z1 from ez]; exact pn_nI (by omega)
      have fin : ∃ n' t' m' : Nat, ST (zup c 5 (upd (c 5) 3 0)) 1 8 2 3 5 6 14 15 n' t' m' (upd σ.1 163 0) ∧ SI (upd σ.1 163 0) n' t' m' := by
        refine ⟨n, t, m, ⟨PR_f s1 hn6 (fun k a b => zup_n (by omega)) (fun k hk => pk_un (by omega)), ⟨s2.1, by rw [zup_n (by decide), pk_un (by omega)]; exact s2.2.1, fun i hi => ?_⟩, ⟨by rw [zup_s, pk_un (by decide)]; exact s3.1, by rw [zup_s, pk_us]; exact pk_us.symm, fun i hi => ?_⟩, s4, s5, by rw [pk_un (by omega)]; exact s6, fun i hi => by rw [zup_n (by decide), pk_un (by omega)]; exact s7 i hi, fun i hi => by rw [zup_n (by decide), pk_un (by omega)]; exact s8 i hi⟩, ?_⟩
        · have hi : i < pn (upd σ.1 163 0 38) := hi
          rw [pk_un (by decide), ep1] at hi
          rw [zup_n (by decide), pk_un (by omega), pk_un (by omega)]
          exact s2.2.2 i (by show i < pn (σ.1 38); rw [ep1]; exact hi)
        · exfalso
          rw [show upd σ.1 163 0 (38 + 125 * 1) = 0 from pk_us] at hi
          exact absurd hi (Nat.not_lt_zero _)
        · refine ⟨⟨by rw [pk_un (by decide)]; exact i1.1, hn6, ?_, hw_u pk_us⟩, by rw [pk_un (by decide)]; exact i2, i3, by rw [pk_un (by decide)]; exact i4, i5, fun i hi => by rw [pk_un (by omega)]; exact i6 i hi, fun i hi => by rw [pk_un (by omega)]; exact i7 i hi, by rw [pk_un (by decide)]; exact i8, fun i hi => by rw [pk_un (by omega)]; exact i9 i hi, ?_, hst_u pk_us⟩
          · refine ⟨z1, z2, by rw [pk_un (by decide)]; exact ez, fun h0 => ⟨?_, fun k hk h1 => ?_⟩⟩
            · rw [← (hz h0).1]
              exact dpR_cg (fun k hk => ⟨pk_un (by omega), pk_un (by omega)⟩)
            · rw [pk_un (by omega)] at h1
              rw [pk_un (by omega)]
              exact (hz h0).2 k hk h1
          · intro k hk
            have hk : k < pn (upd σ.1 163 0 38) := hk
            rw [pk_un (by decide), ep1] at hk
            rw [pk_un (by omega), pk_un (by omega)]
            exact i10 k (by show k < pn (σ.1 38); rw [ep1]; exact hk)
      refine z_iload_n (i := 1) dX7_untell_0 rfl rfl ?_
      refine z_Sb (As := [_]) dX7_untell_1 (by rfl) v_X7_isUse l_X7_140 rfl (by omega) (by decide) (Nat.le_of_ble_eq_true rfl) ?_
      refine s_isUse (by omega) ?_
      refine z_if_ne 13 dX7_untell_4 (by decide) (fun h_4 => ?_) (fun h_4 => ?_)
      rotate_left
      · exfalso; exact absurd hok (bite.mp (by first | exact h_4 | exact Classical.not_not.mp h_4))
      refine z_aload_n (i := 0) dX7_untell_13 rfl rfl ?_
      refine z_getf dX7_untell_14 f_X7_10 (by first | decide | assumption | omega) rfl (by rfl) ?_
      refine z_iload_n (i := 1) dX7_untell_17 rfl rfl ?_
      refine z_Vr (As := [_]) dX7_untell_18 (by rfl) v_X4_lawOf l_X7_146 (by first | decide | assumption | omega) rfl rfl rfl (by omega) (by decide) (Nat.le_of_ble_eq_true rfl) ?_
      refine c_lawOf1 ?_
      rw [show (5 : Int32).toNatClampNeg = 5 from rfl]
      refine z_astore_n (i := 2) [_, _, _, _] dX7_untell_21 rfl (by decide) rfl rfl ?_
      refine z_aload_n (i := 2) dX7_untell_22 rfl rfl ?_
      refine z_getf dX7_untell_23 f_X7_162 (by first | decide | assumption | omega) rfl (by rfl) ?_
      rw [eL]
      refine z_if_le 33 dX7_untell_26 (by decide) (fun h_26 => ?_) (fun h_26 => ?_)
      · refine z_iconst (v := 0) dX7_untell_33 (by decide) ?_
        refine z_istore_n (i := 3) [_, _, _, _] dX7_untell_34 rfl (by decide) rfl rfl ?_
        refine z_aload_n (i := 2) dX7_untell_35 rfl rfl ?_
        refine z_iconst (v := 0) dX7_untell_36 (by decide) ?_
        refine z_putfi dX7_untell_37 f_X7_162 fp_X0_3 (by first | decide | assumption | omega) rfl (by exact Nat.le_of_ble_eq_true rfl) rfl ?_
        refine z_iload_n (i := 3) dX7_untell_40 rfl rfl ?_
        refine z_ret dX7_untell_41 (WX_now hX (σ := σ) ?_ (zfr_u (by omega)) fin) trivial rfl
        first
        | (rw [if_neg (by grind)] at hQ; exact hQ)
        | (rw [if_pos (by grind)] at hQ; exact hQ)
      · refine z_iconst (v := 1) dX7_untell_29 (by decide) ?_
        refine z_goto 34 dX7_untell_30 (by decide) ?_
        refine z_istore_n (i := 3) [_, _, _, _] dX7_untell_34 rfl (by decide) rfl rfl ?_
        refine z_aload_n (i := 2) dX7_untell_35 rfl rfl ?_
        refine z_iconst (v := 0) dX7_untell_36 (by decide) ?_
        refine z_putfi dX7_untell_37 f_X7_162 fp_X0_3 (by first | decide | assumption | omega) rfl (by exact Nat.le_of_ble_eq_true rfl) rfl ?_
        refine z_iload_n (i := 3) dX7_untell_40 rfl rfl ?_
        refine z_ret dX7_untell_41 (WX_now hX (σ := σ) ?_ (zfr_u (by omega)) fin) trivial rfl
        first
        | (rw [if_neg (by grind)] at hQ; exact hQ)
        | (rw [if_pos (by grind)] at hQ; exact hQ)
  · unfold o_untell at hQ
    rw [if_neg hok] at hQ
    refine z_iload_n (i := 1) dX7_untell_0 rfl rfl ?_
    refine z_Sb (As := [_]) dX7_untell_1 (by rfl) v_X7_isUse l_X7_140 rfl (by omega) (by decide) (Nat.le_of_ble_eq_true rfl) ?_
    refine s_isUse (by omega) ?_
    refine z_if_ne 13 dX7_untell_4 (by decide) (fun h_4 => ?_) (fun h_4 => ?_)
    · exfalso; exact hok (Classical.byContradiction (fun q => h_4 (bite.mpr q)))
    refine z_aload_n (i := 0) dX7_untell_7 rfl rfl ?_
    refine z_iconst (v := 1) dX7_untell_8 (by decide) ?_
    refine z_Vi (As := [_]) dX7_untell_9 (by rfl) v_X7_refuse l_X7_73 (by first | decide | assumption | omega) rfl rfl rfl (by omega) (by decide) (Nat.le_of_ble_eq_true rfl) ?_
    refine s_refuse (by rfl) (by decide) ?_
    exact z_ret dX7_untell_12 (WX_err hX hQ) trivial rfl
end X4
