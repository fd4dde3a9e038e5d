/-! the class's calls: text, hours, loose -/
theorem LR_cu {c c' : zS} {L C u : Nat} {f g : zN} (h : LR c L C u f) (hw : wfT f u) (e : ∀ k, 38 + 125 * u ≤ k → k ≤ 38 + 125 * u + 120 → g k = f k) (eL : c' L = c L) (eC : c' C = c C) : LR c' L C u g := by
  obtain ⟨s, hs, es, -⟩ := hw
  have ep : pn (f (38 + 125 * u)) = s := by rw [es]; exact pn_nI (by omega)
  unfold LR at *
  rw [eL, eC, e _ (by omega) (by omega)]
  rw [ep] at h ⊢
  refine ⟨h.1, h.2.1, fun i hi => ?_⟩
  rw [e _ (by omega) (by omega), e _ (by omega) (by omega)]
  exact h.2.2 i hi
theorem stG_cu {u : Nat} {f g : zN} (h : stG f u) (hw : wfT f u) (e : ∀ k, 38 + 125 * u ≤ k → k ≤ 38 + 125 * u + 120 → g k = f k) : stG g u := by
  obtain ⟨s, hs, es, -⟩ := hw
  have ep : pn (f (38 + 125 * u)) = s := by rw [es]; exact pn_nI (by omega)
  unfold stG at *
  rw [e _ (by omega) (by omega)]
  rw [ep] at h ⊢
  intro k hk
  rw [e _ (by omega) (by omega), e _ (by omega) (by omega)]
  exact h k hk
theorem wfT_cu {u : Nat} {f g : zN} (hw : wfT f u) (e : ∀ k, 38 + 125 * u ≤ k → k ≤ 38 + 125 * u + 120 → g k = f k) : wfT g u := by
  obtain ⟨s, hs, es, hr⟩ := hw
  refine ⟨s, hs, by rw [e _ (by omega) (by omega)]; exact es, fun h0 => ⟨?_, fun k hk h1 => ?_⟩⟩
  · rw [← (hr h0).1]
    exact dpR_cg (fun k hk => ⟨e _ (by omega) (by omega), e _ (by omega) (by omega)⟩)
  · rw [e _ (by omega) (by omega)] at h1
    rw [e _ (by omega) (by omega)]
    exact (hr h0).2 k hk h1
theorem ts_in {f : zN} {u : Nat} {q : pS} {k : Nat} (hk : k < q.2.1) : tsF f u q (38 + 125 * u + 1 + 2 * k) = q.2.2 (2 * k) ∧ tsF f u q (38 + 125 * u + 2 + 2 * k) = q.2.2 (2 * k + 1) := by
  unfold tsF
  rw [if_pos (by omega), if_pos (by omega), show 38 + 125 * u + 1 + 2 * k - (39 + 125 * u) = 2 * k by omega, show 38 + 125 * u + 2 + 2 * k - (39 + 125 * u) = 2 * k + 1 by omega]
  exact ⟨rfl, rfl⟩
theorem ts_0 {f : zN} {u : Nat} {q : pS} : tsF f u q (38 + 125 * u) = nI q.2.1 := by
  unfold tsF
  rw [if_neg (by omega), pk_us]
theorem ts_3 {f : zN} {u : Nat} {q : pS} : tsF f u q 3 = 0 := by
  unfold tsF
  rw [if_neg (by omega), pk_un (by omega), pk_us]
theorem ts_un {f : zN} {u : Nat} {q : pS} {k : Nat} (h3 : k ≠ 3) (hk : k < 38 + 125 * u ∨ 38 + 125 * u + 2 * q.2.1 < k) : tsF f u q k = f k := by
  unfold tsF
  rw [if_neg (by omega), pk_un (by omega), pk_un (by omega)]
theorem tx_n {f : zN} {u : Nat} (h3 : pn (f 3) ≤ 60) : (txR f u).2.2.1 ≤ 60 ∧ (txR f u).2.1 ≤ pn (f 3) := by
  have i0 := pr_ok (tp := fun i => f (288 + i)) (len := pn (f 3)) (u := u) 500 0 0 (0, 0, fun _ => 0) (by show 0 ≤ _; omega) (by omega)
  change gO (pn (f 3)) (0, 0, fun _ => 0) (txR f u).2 at i0
  generalize (txR f u).2 = q at i0 ⊢
  unfold gO at i0
  dsimp only at i0
  omega
theorem SI_text {f : zN} {n t m u : Nat} (h : SI f n t m) (hu : u < 2) (hx : (txR f u).1 = true) : SI (tsF f u (txR f u).2) n 0 m := by
  obtain ⟨i1, i2, i3, i4, i5, i6, i7, i8, i9, i10, i11⟩ := h
  have hn6 := i1.2.1
  have e3 : pn (f 3) = t := by rw [i2]; exact pn_nI (by omega)
  have h3 : pn (f 3) ≤ 60 := by omega
  have hn := (tx_n (u := u) h3).1
  have w1 := tx_wf (n := 1) hu h3 hx (Or.inl (by decide))
  have st := tx_st (f := f) (u := u)
  have s1 : stG (tsF f u (txR f u).2) u := by
    unfold stG
    rw [ts_0, pn_nI (by omega)]
    intro k hk
    rw [(ts_in hk).1, (ts_in hk).2]
    exact st k hk
  generalize (txR f u).2 = q at *
  have other : ∀ v, v < 2 → v ≠ u → ∀ k, 38 + 125 * v ≤ k → k ≤ 38 + 125 * v + 120 → tsF f u q k = f k := fun v hv hne k a b => ts_un (by omega) (by omega)
  rcases (show u = 0 ∨ u = 1 by omega) with rfl | rfl
  · exact ⟨⟨by rw [ts_un (by decide) (by omega)]; exact i1.1, hn6, w1, wfT_cu i1.2.2.2 (other 1 (by decide) (by decide))⟩, ts_3, by decide, by rw [ts_un (by decide) (by omega)]; exact i4, i5, fun i hi => by rw [ts_un (by omega) (by omega)]; exact i6 i hi, fun i hi => by rw [ts_un (by omega) (by omega)]; exact i7 i hi, by rw [ts_un (by decide) (by omega)]; exact i8, fun i hi => absurd hi (Nat.not_lt_zero _), s1, stG_cu i11 i1.2.2.2 (other 1 (by decide) (by decide))⟩
  · exact ⟨⟨by rw [ts_un (by decide) (by omega)]; exact i1.1, hn6, wfT_cu i1.2.2.1 (other 0 (by decide) (by decide)), w1⟩, ts_3, by decide, by rw [ts_un (by decide) (by omega)]; exact i4, i5, fun i hi => by rw [ts_un (by omega) (by omega)]; exact i6 i hi, fun i hi => by rw [ts_un (by omega) (by omega)]; exact i7 i hi, by rw [ts_un (by decide) (by omega)]; exact i8, fun i hi => absurd hi (Nat.not_lt_zero _), stG_cu i10 i1.2.2.1 (other 0 (by decide) (by decide)), s1⟩
section X5
variable {l : Launch} {E : zE} {ad : Nat → Nat} {c : zS} {Qf : Int32 → zS → Prop} {d n : Nat} {σ : zT}
theorem x_text {u : Int32} (hX : RX c σ) (hd : 70 ≤ d) (hQ : WX c Qf (o_text σ u)) : zCl l E ad mX7_text d [.ref (ad 0), .int u] c Qf := by
  obtain ⟨n, t, m, hS, hI⟩ := id hX.1
  have hn6 := hI.1.2.1
  have e3 : pn (σ.1 3) = t := by rw [hI.2.1]; exact pn_nI (by have := hI.2.2.1; omega)
  have h3 : pn (σ.1 3) ≤ 60 := by rw [e3]; exact hI.2.2.1
  obtain ⟨s1, s2, s3, s4, s5, s6, s7, s8⟩ := id hS
  refine z_enter (own := RX7) [some (.ref (ad 0)), some (.int u), none] (by decide +kernel) rfl rfl rfl (Nat.le_of_ble_eq_true rfl) ?_
  by_cases hok : 0 ≤ u ∧ u ≤ 1
  · obtain ⟨j, hj, rfl⟩ := zj_of (x := u) (n := 2) hok.1 (by have := hok.2; show u < (2 : Int32); grind) (by decide)
    unfold o_text at hQ
    rw [if_pos hok, pn_nI (by omega)] at hQ
    have hR : prF (lkF (fun i => σ.1 (288 + i)) t) j 500 0 0 (0, 0, fun _ => 0) = txR σ.1 j := by rw [← e3]; rfl
    have hlim := tx_n (f := σ.1) (u := j) h3
    have hsi := SI_text (u := j) hI hj
    rw [e3] at hQ hlim
    generalize hA : txR σ.1 j = A at *
    have fin0 : ∀ c2 : zS, (∀ k, k ≠ 1 → k ≠ 31 → k ≠ 32 → c2 k = c k) → (∀ i, i ≠ 4 → c2 1 i = c 1 i) → c2 1 4 = 0 → ∃ n' t' m' : Nat, ST c2 1 8 2 3 5 6 14 15 n' t' m' (upd σ.1 3 0) ∧ SI (upd σ.1 3 0) n' t' m' := by
      intro c2 hf hf1 h4
      refine ⟨n, 0, m, ST_cb hS hI.1 (fun k hk => hf k (by omega) (by omega) (by omega)) (fun k a b => pk_un (by omega)) (fun k hk => pk_un (by omega)) h4 (by rw [hf1 6 (by decide)]; exact s5) (by rw [hf1 7 (by decide), pk_un (by decide)]; exact s6) (fun i hi => absurd hi (Nat.not_lt_zero _)) (fun i hi => by rw [hf 15 (by decide) (by decide) (by decide), pk_un (by omega)]; exact s8 i hi), ?_⟩
      exact SI_cb hI (fun k a b => pk_un (by omega)) (fun k hk => pk_un (by omega)) pk_us (by decide) (by rw [pk_un (by decide)]; exact hI.2.2.2.1) hI.2.2.2.2.1 (fun i hi => absurd hi (Nat.not_lt_zero _))
    have gop : ∀ (x : Int32) (c1 : zS), x = (if A.1 = true ∧ A.2.1 = t then -1 else nI A.2.1) → c1 31 2 = nI A.2.2.1 → (∀ k, k < A.2.2.1 → c1 32 k = enc j (A.2.2.2 (2 * k)) (A.2.2.2 (2 * k + 1))) → (∀ k, k ≠ 31 → k ≠ 32 → c1 k = c k) → zW l E ad RX7 cX7_text 3 1 d Qf 29 [some (.ref (ad 0)), some (.int (nI j)), some (.int x)] [] c1 := by
      intro x c1 hx h2 h32 hf
      have eS : ∀ k, k ≠ 1 → k ≠ 31 → k ≠ 32 → zup c1 1 (upd (c1 1) 4 0) k = c k := fun k a b e => by rw [zup_n a]; exact hf k b e
      have eS1 : ∀ i, i ≠ 4 → zup c1 1 (upd (c1 1) 4 0) 1 i = c 1 i := fun i a => by rw [zup_s, pk_un a, hf 1 (by decide) (by decide)]
      by_cases hg : A.1 = true ∧ A.2.1 = t
      · rw [if_pos hg] at hQ hx
        subst hx
        have hsi := hsi hg.1
        rcases (show j = 0 ∨ j = 1 by omega) with rfl | rfl
        · skip
          refine z_aload_n (i := 0) dX7_text_29 rfl rfl ?_
          refine z_getf dX7_text_30 f_X7_10 (by first | decide | assumption | omega) rfl (by rfl) ?_
          refine z_iconst (v := 0) dX7_text_33 (by decide) ?_
          refine z_putfi dX7_text_34 f_X7_133 fp_X4_4 (by first | decide | assumption | omega) rfl (by exact Nat.le_of_ble_eq_true rfl) rfl ?_
          refine z_iload_n (i := 2) dX7_text_37 rfl rfl ?_
          refine z_if_lt 46 dX7_text_38 (by decide) (fun h_38 => ?_) (fun h_38 => ?_)
          rotate_left
          · exfalso; revert h_38; decide
          refine z_aload_n (i := 0) dX7_text_46 rfl rfl ?_
          refine z_getf dX7_text_47 f_X7_10 (by first | decide | assumption | omega) rfl (by rfl) ?_
          refine z_iload_n (i := 1) dX7_text_50 rfl rfl ?_
          refine z_Vr (As := [_]) dX7_text_51 (by rfl) v_X4_lawOf l_X7_146 (by first | decide | assumption | omega) rfl rfl rfl (by omega) (by decide) (Nat.le_of_ble_eq_true rfl) ?_
          refine c_lawOf0 ?_
          rw [show (2 : Int32).toNatClampNeg = 2 from rfl]
          refine z_aload_n (i := 0) dX7_text_54 rfl rfl ?_
          refine z_getf dX7_text_55 f_X7_28 (by first | decide | assumption | omega) rfl (by rfl) ?_
          refine z_getf dX7_text_58 f_X7_150 (by first | decide | assumption | omega) rfl (by rfl) ?_
          refine z_aload_n (i := 0) dX7_text_61 rfl rfl ?_
          refine z_getf dX7_text_62 f_X7_28 (by first | decide | assumption | omega) rfl (by rfl) ?_
          refine z_getf dX7_text_65 f_X7_153 (by first | decide | assumption | omega) rfl (by rfl) ?_
          rw [show zup c1 1 (upd (c1 1) 4 0) 31 2 = nI A.2.2.1 from h2]
          refine z_Vv (As := [_, _]) dX7_text_68 (by rfl) v_X0_becomes l_X7_156 (by first | decide | assumption | omega) rfl rfl rfl (by omega) (by decide) (Nat.le_of_ble_eq_true rfl) ?_
          refine s_becomes2_32 hlim.1 (by omega) (fun c2 b1 b2 b3 b4 => ?_)
          refine z_iconst (v := 1) dX7_text_71 (by decide) ?_
          refine z_ret (r := 1) dX7_text_72 (WX_now hX hQ ⟨by rw [b4 0 (by decide) (by decide), eS 0 (by decide) (by decide) (by decide)], fun k a b e g => by rw [b4 k (by omega) (by omega), eS k (by omega) b e]⟩ ⟨n, 0, m, ⟨?_, ⟨?_, ?_, fun i hi => ?_⟩, ?_, ?_, ?_, ?_, fun i hi => absurd hi (Nat.not_lt_zero _), fun i hi => ?_⟩, hsi⟩) trivial rfl
          · exact PR_f s1 hn6 (fun k a b => by rw [b4 k (by omega) (by omega), eS k (by omega) (by omega) (by omega)]) (fun k hk => ts_un (by omega) (by omega))
          · rw [b2, eS 2 (by decide) (by decide) (by decide)]; exact s2.1
          · rw [b1, ts_0]
          · rw [ts_0, pn_nI (by omega)] at hi
            rw [b3 i hi, (ts_in hi).1, (ts_in hi).2, show zup c1 1 (upd (c1 1) 4 0) 32 = c1 32 from rfl]
            exact h32 i hi
          · exact LR_cu s3 hI.1.2.2.2 (fun k a b => ts_un (by omega) (by omega)) (by rw [b4 5 (by decide) (by decide), eS 5 (by decide) (by decide) (by decide)]) (by rw [b4 6 (by decide) (by decide), eS 6 (by decide) (by decide) (by decide)])
          · rw [b4 1 (by decide) (by decide), zup_s, pk_us]; rfl
          · rw [b4 1 (by decide) (by decide), eS1 6 (by decide)]; exact s5
          · rw [b4 1 (by decide) (by decide), eS1 7 (by decide), ts_un (by decide) (by omega)]; exact s6
          · rw [b4 15 (by decide) (by decide), eS 15 (by decide) (by decide) (by decide), ts_un (by omega) (by omega)]; exact s8 i hi
        · skip
          refine z_aload_n (i := 0) dX7_text_29 rfl rfl ?_
          refine z_getf dX7_text_30 f_X7_10 (by first | decide | assumption | omega) rfl (by rfl) ?_
          refine z_iconst (v := 0) dX7_text_33 (by decide) ?_
          refine z_putfi dX7_text_34 f_X7_133 fp_X4_4 (by first | decide | assumption | omega) rfl (by exact Nat.le_of_ble_eq_true rfl) rfl ?_
          refine z_iload_n (i := 2) dX7_text_37 rfl rfl ?_
          refine z_if_lt 46 dX7_text_38 (by decide) (fun h_38 => ?_) (fun h_38 => ?_)
          rotate_left
          · exfalso; revert h_38; decide
          refine z_aload_n (i := 0) dX7_text_46 rfl rfl ?_
          refine z_getf dX7_text_47 f_X7_10 (by first | decide | assumption | omega) rfl (by rfl) ?_
          refine z_iload_n (i := 1) dX7_text_50 rfl rfl ?_
          refine z_Vr (As := [_]) dX7_text_51 (by rfl) v_X4_lawOf l_X7_146 (by first | decide | assumption | omega) rfl rfl rfl (by omega) (by decide) (Nat.le_of_ble_eq_true rfl) ?_
          refine c_lawOf1 ?_
          rw [show (5 : Int32).toNatClampNeg = 5 from rfl]
          refine z_aload_n (i := 0) dX7_text_54 rfl rfl ?_
          refine z_getf dX7_text_55 f_X7_28 (by first | decide | assumption | omega) rfl (by rfl) ?_
          refine z_getf dX7_text_58 f_X7_150 (by first | decide | assumption | omega) rfl (by rfl) ?_
          refine z_aload_n (i := 0) dX7_text_61 rfl rfl ?_
          refine z_getf dX7_text_62 f_X7_28 (by first | decide | assumption | omega) rfl (by rfl) ?_
          refine z_getf dX7_text_65 f_X7_153 (by first | decide | assumption | omega) rfl (by rfl) ?_
          rw [show zup c1 1 (upd (c1 1) 4 0) 31 2 = nI A.2.2.1 from h2]
          refine z_Vv (As := [_, _]) dX7_text_68 (by rfl) v_X0_becomes l_X7_156 (by first | decide | assumption | omega) rfl rfl rfl (by omega) (by decide) (Nat.le_of_ble_eq_true rfl) ?_
          refine s_becomes5_32 hlim.1 (by omega) (fun c2 b1 b2 b3 b4 => ?_)
          refine z_iconst (v := 1) dX7_text_71 (by decide) ?_
          refine z_ret (r := 1) dX7_text_72 (WX_now hX hQ ⟨by rw [b4 0 (by decide) (by decide), eS 0 (by decide) (by decide) (by decide)], fun k a b e g => by rw [b4 k (by omega) (by omega), eS k (by omega) b e]⟩ ⟨n, 0, m, ⟨?_, ?_, ⟨?_, ?_, fun i hi => ?_⟩, ?_, ?_, ?_, fun i hi => absurd hi (Nat.not_lt_zero _), fun i hi => ?_⟩, hsi⟩) trivial rfl
          · exact PR_f s1 hn6 (fun k a b => by rw [b4 k (by omega) (by omega), eS k (by omega) (by omega) (by omega)]) (fun k hk => ts_un (by omega) (by omega))
          · exact LR_cu s2 hI.1.2.2.1 (fun k a b => ts_un (by omega) (by omega)) (by rw [b4 2 (by decide) (by decide), eS 2 (by decide) (by decide) (by decide)]) (by rw [b4 3 (by decide) (by decide), eS 3 (by decide) (by decide) (by decide)])
          · rw [b2, eS 5 (by decide) (by decide) (by decide)]; exact s3.1
          · rw [b1, ts_0]
          · rw [ts_0, pn_nI (by omega)] at hi
            rw [b3 i hi, (ts_in hi).1, (ts_in hi).2, show zup c1 1 (upd (c1 1) 4 0) 32 = c1 32 from rfl]
            exact h32 i hi
          · rw [b4 1 (by decide) (by decide), zup_s, pk_us]; rfl
          · rw [b4 1 (by decide) (by decide), eS1 6 (by decide)]; exact s5
          · rw [b4 1 (by decide) (by decide), eS1 7 (by decide), ts_un (by decide) (by omega)]; exact s6
          · rw [b4 15 (by decide) (by decide), eS 15 (by decide) (by decide) (by decide), ts_un (by omega) (by omega)]; exact s8 i hi
      · rw [if_neg hg] at hQ hx
        subst hx
        have hp := nI_pos' (n := A.2.1) (by omega)
        refine z_aload_n (i := 0) dX7_text_29 rfl rfl ?_
        refine z_getf dX7_text_30 f_X7_10 (by first | decide | assumption | omega) rfl (by rfl) ?_
        refine z_iconst (v := 0) dX7_text_33 (by decide) ?_
        refine z_putfi dX7_text_34 f_X7_133 fp_X4_4 (by first | decide | assumption | omega) rfl (by exact Nat.le_of_ble_eq_true rfl) rfl ?_
        refine z_iload_n (i := 2) dX7_text_37 rfl rfl ?_
        refine z_if_lt 46 dX7_text_38 (by decide) (fun h_38 => ?_) (fun h_38 => ?_)
        · exfalso; grind
        refine z_bipush (v := (-10)) dX7_text_41 (by decide) ?_
        refine z_iload_n (i := 2) dX7_text_43 rfl rfl ?_
        refine z_isub dX7_text_44 ?_
        refine z_ret dX7_text_45 (WX_now hX hQ ⟨eS 0 (by decide) (by decide) (by decide), fun k a b e g => eS k (by omega) b e⟩ (fin0 _ eS eS1 ?_)) trivial rfl
        rw [zup_s, pk_us]
    refine z_iload_n (i := 1) dX7_text_0 rfl rfl ?_
    refine z_Sb (As := [_]) dX7_text_1 (by rfl) v_X7_isUse l_X7_140 rfl (by omega) (by decide) (Nat.le_of_ble_eq_true rfl) ?_
    refine s_isUse (by omega) ?_
    refine z_if_ne 13 dX7_text_4 (by decide) (fun h_4 => ?_) (fun h_4 => ?_)
    rotate_left
    · exfalso; exact absurd hok (bite.mp (by first | exact h_4 | exact Classical.not_not.mp h_4))
    refine z_aload_n (i := 0) dX7_text_13 rfl rfl ?_
    refine z_getf dX7_text_14 f_X7_28 (by first | decide | assumption | omega) rfl (by rfl) ?_
    refine z_aload_n (i := 0) dX7_text_17 rfl rfl ?_
    refine z_getf dX7_text_18 f_X7_10 (by first | decide | assumption | omega) rfl (by rfl) ?_
    refine z_getf dX7_text_21 f_X7_133 (by first | decide | assumption | omega) rfl (by rfl) ?_
    rw [show c 1 4 = nI t from s4]
    refine z_iload_n (i := 1) dX7_text_24 rfl rfl ?_
    refine z_Vi (As := [_, _]) dX7_text_25 (by rfl) v_X2_faultOf l_X7_143 (by first | decide | assumption | omega) rfl rfl rfl (by omega) (by decide) (Nat.le_of_ble_eq_true rfl) ?_
    refine s_faultOf (tp := fun i => σ.1 (288 + i)) (len := t) (u := j) hj hI.2.2.1 s7 hI.2.2.2.2.2.2.2.2.1 (by omega) ?_
    rw [hR]
    intro c1 h2 h32 hf
    refine z_istore_n (i := 2) [_, _, _] dX7_text_28 rfl (by decide) rfl rfl ?_
    exact gop _ c1 rfl h2 h32 hf
  · unfold o_text at hQ
    rw [if_neg hok] at hQ
    refine z_iload_n (i := 1) dX7_text_0 rfl rfl ?_
    refine z_Sb (As := [_]) dX7_text_1 (by rfl) v_X7_isUse l_X7_140 rfl (by omega) (by decide) (Nat.le_of_ble_eq_true rfl) ?_
    refine s_isUse (by omega) ?_
    refine z_if_ne 13 dX7_text_4 (by decide) (fun h_4 => ?_) (fun h_4 => ?_)
    · exfalso; exact hok (Classical.byContradiction (fun q => h_4 (bite.mpr q)))
    refine z_aload_n (i := 0) dX7_text_7 rfl rfl ?_
    refine z_iconst (v := 1) dX7_text_8 (by decide) ?_
    refine z_Vi (As := [_]) dX7_text_9 (by rfl) v_X7_refuse l_X7_73 (by first | decide | assumption | omega) rfl rfl rfl (by omega) (by decide) (Nat.le_of_ble_eq_true rfl) ?_
    refine s_refuse (by rfl) (by decide) ?_
    exact z_ret dX7_text_12 (WX_err hX hQ) trivial rfl
end X5
