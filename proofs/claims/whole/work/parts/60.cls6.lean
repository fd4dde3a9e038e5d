/-! the class's calls: hours, loose, then, soonest -/
theorem hrN_un {f : zN} {k : Nat} (hk : ∀ i, i < 6 → k ≠ 8 + 5 * i + 3 ∧ k ≠ 8 + 5 * i + 4) : ∀ {p : Nat}, p ≤ 6 → hrN f p k = f k
  | 0, _ => rfl
  | p + 1, hp => by
    rw [show hrN f (p + 1) = if hrN f p (8 + 5 * p + 4) = 0 then wkF p (faF (hrN f p) p) (stF (hrN f p) p) (hrN f p) else hrN f p from rfl]
    split
    · rw [wk_un (hk p (by omega)).1 (hk p (by omega)).2]
      exact hrN_un hk (by omega)
    · exact hrN_un hk (by omega)
theorem hrF_un {f : zN} {n k : Nat} (hv : vaF f n) (h0 : k ≠ 0) (hk : ∀ i, i < 6 → k ≠ 8 + 5 * i + 3 ∧ k ≠ 8 + 5 * i + 4) : hrF f k = f k := by
  unfold hrF
  rw [hv.1, pn_nI (by have := hv.2.1; omega), pk_un h0]
  exact hrN_un hk hv.2.1
theorem hrF_0 {f : zN} {n : Nat} (hv : vaF f n) : hrF f 0 = f 0 + 1 := by
  unfold hrF
  rw [hv.1, pn_nI (by have := hv.2.1; omega), pk_us, hrN_un (fun i hi => by omega) hv.2.1]
theorem SI_hr {f : zN} {n t m h : Nat} (hI : SI f n t m) (h0 : f 0 = nI h) (hh : h + 1 ≤ 9999) : SI (hrF f) n t m ∧ hrF f 0 = nI (h + 1) := by
  obtain ⟨i1, i2, i3, i4, i5, i6, i7, i8, i9, i10, i11⟩ := hI
  have hn6 := i1.2.1
  have e0 : hrF f 0 = nI (h + 1) := by rw [hrF_0 i1, h0, nI_1]
  exact ⟨⟨vaF_hr i1, by rw [hrF_un i1 (by decide) (fun i hi => by omega)]; exact i2, i3, by rw [hrF_un i1 (by decide) (fun i hi => by omega)]; exact i4, i5, fun i hi => by rw [show hrF f (8 + 5 * i) = f (8 + 5 * i) from hrF_k (w := 0) i1 hi (by decide)]; exact i6 i hi, fun i hi => hr_b i1 hi (i7 i hi), ⟨h + 1, hh, e0⟩, fun i hi => by rw [hrF_un i1 (by omega) (fun j hj => by omega)]; exact i9 i hi, stG_cg (by decide) i10 (fun k hk => hrF_un i1 (by omega) (fun j hj => by omega)), stG_cg (by decide) i11 (fun k hk => hrF_un i1 (by omega) (fun j hj => by omega))⟩, e0⟩
theorem suF_un {f : zN} {n k : Nat} (hv : vaF f n) (h2 : k ≠ 2) (hk : ∀ i, i < 6 → k ≠ 8 + 5 * i + 2) : suF f k = f k := by
  have hn6 := hv.2.1
  unfold suF
  split
  · next h0 =>
    have hn0 : 0 < n := by rw [hv.1] at h0; exact (pn_0 (by omega)).mp h0
    obtain ⟨j, hj, e⟩ := reF_nI f hn0 (by omega)
    dsimp only
    rw [hv.1, e, pn_nI (by omega), pk_un (hk j (by omega))]
    unfold dzF
    rw [pk_un h2, pk_un h2]
  · rfl
theorem drF_un {f : zN} {k : Nat} (h1 : k ≠ 1) (h2 : k ≠ 2) : drF f k = f k := by
  unfold drF dzF
  split
  · rw [pk_un h1, pk_un h2, pk_un h2]
  · rw [pk_un h2, pk_un h2]
theorem SI_sd {f : zN} {n t m : Nat} (hI : SI f n t m) : SI (drF (suF f)) n t m ∧ drF (suF f) 0 = f 0 := by
  obtain ⟨i1, i2, i3, i4, i5, i6, i7, i8, i9, i10, i11⟩ := hI
  have hn6 := i1.2.1
  have un : ∀ k, k ≠ 1 → k ≠ 2 → (∀ i, i < 6 → k ≠ 8 + 5 * i + 2) → drF (suF f) k = f k := fun k a b e => by rw [drF_un a b, suF_un i1 b e]
  exact ⟨⟨vaF_dr (vaF_su i1), by rw [un 3 (by decide) (by decide) (fun i hi => by omega)]; exact i2, i3, by rw [un 4 (by decide) (by decide) (fun i hi => by omega)]; exact i4, i5, fun i hi => by rw [un _ (by omega) (by omega) (fun j hj => by omega)]; exact i6 i hi, fun i hi => by rw [un _ (by omega) (by omega) (fun j hj => by omega)]; exact i7 i hi, by rw [un 0 (by decide) (by decide) (fun i hi => by omega)]; exact i8, fun i hi => by rw [un _ (by omega) (by omega) (fun j hj => by omega)]; exact i9 i hi, stG_cg (by decide) i10 (fun k hk => un k (by omega) (by omega) (fun j hj => by omega)), stG_cg (by decide) i11 (fun k hk => un k (by omega) (by omega) (fun j hj => by omega))⟩, un 0 (by decide) (by decide) (fun i hi => by omega)⟩
theorem LW_of {c : zS} {f : zN} {n t m : Nat} (hS : ST c 1 8 2 3 5 6 14 15 n t m f) (hI : SI f n t m) : LW c f := ⟨hS.2.1, hS.2.2.1, hI.2.2.2.2.2.2.2.2.2.1, hI.2.2.2.2.2.2.2.2.2.2⟩
theorem lim_h {h j : Nat} (hj : j ≤ 60) (hh : h ≤ 9999) : (nI h + nI j ≤ 9999 ↔ h + j ≤ 9999) ∧ (nI h ≤ 9999 - nI j ↔ h + j ≤ 9999) := by
  have e : (9999 : Int32) - nI j = nI (9999 - j) := by
    have : nI (9999 - j) + nI j = (9999 : Int32) := by rw [nI_add]; show nI _ = nI 9999; congr 1; omega
    rw [← this]
    generalize nI (9999 - j) = y
    generalize nI j = z
    grind
  refine ⟨?_, ?_⟩
  · rw [nI_add]
    exact nI_leI (a := h + j) (b := 9999) (by omega) (by omega)
  · rw [e, nI_leI (by omega) (by omega)]
    omega
section X6
variable {l : Launch} {E : zE} {ad : Nat → Nat} {c : zS} {Qf : Int32 → zS → Prop} {d n : Nat} {σ : zT}
theorem x_hours {k : Int32} (hX : RX c σ) (hd : 12 ≤ d) (hQ : WX c Qf (o_hours σ k)) : zCl l E ad mX7_hours d [.ref (ad 0), .int k] c Qf := by
  obtain ⟨n, t, m, hS, hI⟩ := id hX.1
  have hn6 := hI.1.2.1
  obtain ⟨h, hh, eh⟩ := hI.2.2.2.2.2.2.2.1
  refine z_enter (own := RX7) [some (.ref (ad 0)), some (.int k), none, none] (by decide +kernel) rfl rfl rfl (Nat.le_of_ble_eq_true rfl) ?_
  by_cases hok : 1 ≤ k ∧ k ≤ 60
  · obtain ⟨j, hj, rfl⟩ := zj_of (x := k) (n := 61) (by have := hok.1; grind) (by have := hok.2; show k < (61 : Int32); grind) (by decide)
    have hl := lim_h (h := h) (j := j) (by omega) hh
    unfold o_hours at hQ
    rw [if_pos hok, eh, pn_nI (by omega)] at hQ
    have loop : h + j ≤ 9999 → ∀ (r i : Nat) (c1 : zS), j - i < r → i ≤ j → ST c1 1 8 2 3 5 6 14 15 n t m (goF i σ.1) → SI (goF i σ.1) n t m → goF i σ.1 0 = nI (h + i) → (∀ k, k ≠ 8 → k ≠ 12 → k ≠ 13 → k ≠ 4 → k ≠ 7 → c1 k = c k) → zW l E ad RX7 cX7_hours 4 1 d Qf 44 [some (.ref (ad 0)), some (.int (nI j)), some (.ref (ad 8)), some (.int (nI i))] [] c1 := by
      intro hfit r
      rw [if_pos (hl.1.mpr hfit)] at hQ
      induction r with
      | zero => intro i c1 q; omega
      | succ r ih =>
        intro i c1 hr hi hS1 hI1 e0 hf
        have hlt := nI_leI (a := j) (b := i) (by omega) (by omega)
        have hpn : pn (goF i σ.1 5) = n := by rw [hI1.1.1]; exact pn_nI (by omega)
        refine z_iload_n (i := 3) dX7_hours_44 rfl rfl ?_
        refine z_iload_n (i := 1) dX7_hours_45 rfl rfl ?_
        refine z_icmp_ge 60 dX7_hours_46 (by decide) (fun h_46 => ?_) (fun h_46 => ?_)
        · refine z_aload_n (i := 2) dX7_hours_60 rfl rfl ?_
          refine z_Vi (As := []) dX7_hours_61 (by rfl) v_X1_through l_X7_175 (by first | decide | assumption | omega) rfl rfl rfl (by omega) (by decide) (Nat.le_of_ble_eq_true rfl) ?_
          refine s_through hS1.1 hn6 ?_
          have hij : i = j := by have := hlt.mp h_46; omega
          subst hij
          refine z_ret dX7_hours_64 (WX_now hX (σ := σ) (g := goF i σ.1) ?_ ⟨hf 0 (by decide) (by decide) (by decide) (by decide) (by decide), fun k a b e g => hf k (by omega) (by omega) (by omega) (by omega) (by omega)⟩ ⟨n, t, m, hS1, hI1⟩) trivial rfl
          unfold thF at hQ
          rw [hpn] at hQ
          exact hQ
        · refine z_aload_n (i := 2) dX7_hours_49 rfl rfl ?_
          refine z_iconst (v := (-1)) dX7_hours_50 (by decide) ?_
          refine z_Vv (As := [_]) dX7_hours_51 (by rfl) v_X1_anHourGoes l_X7_171 (by first | decide | assumption | omega) rfl rfl rfl (by omega) (by decide) (Nat.le_of_ble_eq_true rfl) ?_
          refine s_hour8 (p := 0) (all := true) hS1.1 (LW_of hS1 hI1) hI1.1 (Or.inl ⟨rfl, rfl⟩) (by omega) (fun c2 hP2 hf2 => ?_)
          rw [hrB_t hpn, ← goF_s] at hP2
          refine z_iinc (i := 3) (v := 1) [_, _, _, _] dX7_hours_54 rfl (by decide) (by decide) rfl rfl ?_
          refine z_goto 44 dX7_hours_57 (by decide) ?_
          rw [nI_1]
          have hij : i < j := by have := mt hlt.mpr h_46; omega
          have hnx := SI_hr hI1 e0 (by omega)
          rw [← goF_s] at hnx
          refine ih (i + 1) c2 (by omega) (by omega) (ST_pr hS1 hP2 (fun k hk => hf2 k (by omega) (by omega) (by omega) (by omega) (by omega)) (fun k hk => by rw [goF_s]; exact hrF_un hI1.1 (by omega) (fun q hq => by omega)) (by rw [goF_s]; exact hrF_un hI1.1 (by omega) (fun q hq => by omega))) hnx.1 hnx.2 (fun k a b e g w => by rw [hf2 k a b e g w]; exact hf k a b e g w)
    refine z_iload_n (i := 1) dX7_hours_0 rfl rfl ?_
    refine z_iconst (v := 1) dX7_hours_1 (by decide) ?_
    refine z_bipush (v := 60) dX7_hours_2 (by decide) ?_
    refine z_Sb (As := [_, _, _]) dX7_hours_4 (by rfl) v_X7_isWithin l_X7_115 rfl (by omega) (by decide) (Nat.le_of_ble_eq_true rfl) ?_
    refine s_isWithin ?_
    refine z_if_ne 16 dX7_hours_7 (by decide) (fun h_7 => ?_) (fun h_7 => ?_)
    rotate_left
    · exfalso; exact absurd hok (bite.mp (by first | exact h_7 | exact Classical.not_not.mp h_7))
    refine z_aload_n (i := 0) dX7_hours_16 rfl rfl ?_
    refine z_getf dX7_hours_17 f_X7_10 (by first | decide | assumption | omega) rfl (by rfl) ?_
    refine z_getf dX7_hours_20 f_X7_34 (by first | decide | assumption | omega) rfl (by rfl) ?_
    refine z_astore_n (i := 2) [_, _, _, _] dX7_hours_23 rfl (by decide) rfl rfl ?_
    refine z_aload_n (i := 2) dX7_hours_24 rfl rfl ?_
    refine z_getf dX7_hours_25 f_X7_168 (by first | decide | assumption | omega) rfl (by rfl) ?_
    refine z_sipush (v := 9999) dX7_hours_28 (by decide) ?_
    refine z_iload_n (i := 1) dX7_hours_31 rfl rfl ?_
    refine z_isub dX7_hours_32 ?_
    rw [show c 8 9 = nI h by rw [← eh]; exact hS.1.2.2.1]
    refine z_icmp_le 42 dX7_hours_33 (by decide) (fun h_33 => ?_) (fun h_33 => ?_)
    · refine z_iconst (v := 0) dX7_hours_42 (by decide) ?_
      refine z_istore_n (i := 3) [_, _, _, _] dX7_hours_43 rfl (by decide) rfl rfl ?_
      exact loop (hl.2.mp h_33) (j + 1) 0 c (by omega) (by omega) hS hI eh (fun _ _ _ _ _ _ => rfl)
    · refine z_aload_n (i := 0) dX7_hours_36 rfl rfl ?_
      refine z_iconst (v := 3) dX7_hours_37 (by decide) ?_
      refine z_Vi (As := [_]) dX7_hours_38 (by rfl) v_X7_refuse l_X7_73 (by first | decide | assumption | omega) rfl rfl rfl (by omega) (by decide) (Nat.le_of_ble_eq_true rfl) ?_
      refine s_refuse (by rfl) (by decide) ?_
      rw [if_neg (fun q => h_33 (hl.2.mpr (hl.1.mp q)))] at hQ
      exact z_ret dX7_hours_41 (WX_err hX hQ) trivial rfl
  · unfold o_hours at hQ
    rw [if_neg hok] at hQ
    refine z_iload_n (i := 1) dX7_hours_0 rfl rfl ?_
    refine z_iconst (v := 1) dX7_hours_1 (by decide) ?_
    refine z_bipush (v := 60) dX7_hours_2 (by decide) ?_
    refine z_Sb (As := [_, _, _]) dX7_hours_4 (by rfl) v_X7_isWithin l_X7_115 rfl (by omega) (by decide) (Nat.le_of_ble_eq_true rfl) ?_
    refine s_isWithin ?_
    refine z_if_ne 16 dX7_hours_7 (by decide) (fun h_7 => ?_) (fun h_7 => ?_)
    · exfalso; exact hok (Classical.byContradiction (fun q => h_7 (bite.mpr q)))
    refine z_aload_n (i := 0) dX7_hours_10 rfl rfl ?_
    refine z_iconst (v := 1) dX7_hours_11 (by decide) ?_
    refine z_Vi (As := [_]) dX7_hours_12 (by rfl) v_X7_refuse l_X7_73 (by first | decide | assumption | omega) rfl rfl rfl (by omega) (by decide) (Nat.le_of_ble_eq_true rfl) ?_
    refine s_refuse (by rfl) (by decide) ?_
    exact z_ret dX7_hours_15 (WX_err hX hQ) trivial rfl
theorem x_loose {k : Int32} (hX : RX c σ) (hd : 12 ≤ d) (hQ : WX c Qf (o_loose σ k)) : zCl l E ad mX7_loose d [.ref (ad 0), .int k] c Qf := by
  obtain ⟨n, t, m, hS, hI⟩ := id hX.1
  have hn6 := hI.1.2.1
  obtain ⟨h, hh, eh⟩ := hI.2.2.2.2.2.2.2.1
  refine z_enter (own := RX7) [some (.ref (ad 0)), some (.int k), none, none] (by decide +kernel) rfl rfl rfl (Nat.le_of_ble_eq_true rfl) ?_
  by_cases hok : 1 ≤ k ∧ k ≤ 30
  · obtain ⟨j, hj, rfl⟩ := zj_of (x := k) (n := 31) (by have := hok.1; grind) (by have := hok.2; show k < (31 : Int32); grind) (by decide)
    have hl := lim_h (h := h) (j := j) (by omega) hh
    unfold o_loose at hQ
    rw [if_pos hok, eh, pn_nI (by omega)] at hQ
    have loop : h + j ≤ 9999 → ∀ (r i : Nat) (c1 : zS), j - i < r → i ≤ j → ST c1 1 8 2 3 5 6 14 15 n t m (loF i σ.1) → SI (loF i σ.1) n t m → loF i σ.1 0 = nI (h + i) → zdr c c1 → zW l E ad RX7 cX7_loose 4 1 d Qf 44 [some (.ref (ad 0)), some (.int (nI j)), some (.ref (ad 8)), some (.int (nI i))] [] c1 := by
      intro hfit r
      rw [if_pos (hl.1.mpr hfit)] at hQ
      induction r with
      | zero => intro i c1 q; omega
      | succ r ih =>
        intro i c1 hr hi hS1 hI1 e0 hf
        have hlt := nI_leI (a := j) (b := i) (by omega) (by omega)
        have hpn : pn (loF i σ.1 5) = n := by rw [hI1.1.1]; exact pn_nI (by omega)
        refine z_iload_n (i := 3) dX7_loose_44 rfl rfl ?_
        refine z_iload_n (i := 1) dX7_loose_45 rfl rfl ?_
        refine z_icmp_ge 62 dX7_loose_46 (by decide) (fun h_46 => ?_) (fun h_46 => ?_)
        · refine z_aload_n (i := 2) dX7_loose_62 rfl rfl ?_
          refine z_Vi (As := []) dX7_loose_63 (by rfl) v_X1_through l_X7_175 (by first | decide | assumption | omega) rfl rfl rfl (by omega) (by decide) (Nat.le_of_ble_eq_true rfl) ?_
          refine s_through hS1.1 hn6 ?_
          have hij : i = j := by have := hlt.mp h_46; omega
          subst hij
          refine z_ret dX7_loose_66 (WX_now hX (σ := σ) (g := loF i σ.1) ?_ ⟨hf.1 0 (by decide) (by decide) (by decide) (by omega), fun k a b e g => hf.1 k (by omega) (by omega) (by omega) (by omega)⟩ ⟨n, t, m, hS1, hI1⟩) trivial rfl
          unfold thF at hQ
          rw [hpn] at hQ
          exact hQ
        · refine z_aload_n (i := 0) dX7_loose_49 rfl rfl ?_
          refine z_getf dX7_loose_50 f_X7_10 (by first | decide | assumption | omega) rfl (by rfl) ?_
          refine z_Vv (As := []) dX7_loose_53 (by rfl) v_X4_drawsAnHour l_X7_179 (by first | decide | assumption | omega) rfl rfl rfl (by omega) (by decide) (Nat.le_of_ble_eq_true rfl) ?_
          refine c_drawsAnHour hS1.1 (LW_of hS1 hI1) hI1.1 hS1.2.2.2.2.2.1 (by omega) (fun c2 hP2 hL2 hz2 hf2 => ?_)
          rw [← loF_s] at hP2 hL2 hz2
          refine z_iinc (i := 3) (v := 1) [_, _, _, _] dX7_loose_56 rfl (by decide) (by decide) rfl rfl ?_
          refine z_goto 44 dX7_loose_59 (by decide) ?_
          rw [nI_1]
          have hij : i < j := by have := mt hlt.mpr h_46; omega
          have hsd := SI_sd hI1
          have hnx := SI_hr hsd.1 (hsd.2.trans e0) (by omega)
          rw [← loF_s] at hnx
          have un : ∀ k, 38 ≤ k → loF (i + 1) σ.1 k = loF i σ.1 k := fun k hk => by rw [loF_s, hrF_un hsd.1.1 (by omega) (fun q hq => by omega), drF_un (by omega) (by omega), suF_un hI1.1 (by omega) (fun q hq => by omega)]
          refine ih (i + 1) c2 (by omega) (by omega) ⟨hP2, hL2.1, hL2.2.1, ?_, ?_, hz2, fun q hq => ?_, fun q hq => ?_⟩ hnx.1 hnx.2 (zdr_tr hf hf2)
          · rw [hf2.2 4 (by decide)]; exact hS1.2.2.2.1
          · rw [hf2.2 6 (by decide)]; exact hS1.2.2.2.2.1
          · rw [hf2.1 14 (by decide) (by decide) (by decide) (by omega), un _ (by omega)]; exact hS1.2.2.2.2.2.2.1 q hq
          · rw [hf2.1 15 (by decide) (by decide) (by decide) (by omega), un _ (by omega)]; exact hS1.2.2.2.2.2.2.2 q hq
    refine z_iload_n (i := 1) dX7_loose_0 rfl rfl ?_
    refine z_iconst (v := 1) dX7_loose_1 (by decide) ?_
    refine z_bipush (v := 30) dX7_loose_2 (by decide) ?_
    refine z_Sb (As := [_, _, _]) dX7_loose_4 (by rfl) v_X7_isWithin l_X7_115 rfl (by omega) (by decide) (Nat.le_of_ble_eq_true rfl) ?_
    refine s_isWithin ?_
    refine z_if_ne 16 dX7_loose_7 (by decide) (fun h_7 => ?_) (fun h_7 => ?_)
    rotate_left
    · exfalso; exact absurd hok (bite.mp (by first | exact h_7 | exact Classical.not_not.mp h_7))
    refine z_aload_n (i := 0) dX7_loose_16 rfl rfl ?_
    refine z_getf dX7_loose_17 f_X7_10 (by first | decide | assumption | omega) rfl (by rfl) ?_
    refine z_getf dX7_loose_20 f_X7_34 (by first | decide | assumption | omega) rfl (by rfl) ?_
    refine z_astore_n (i := 2) [_, _, _, _] dX7_loose_23 rfl (by decide) rfl rfl ?_
    refine z_aload_n (i := 2) dX7_loose_24 rfl rfl ?_
    refine z_getf dX7_loose_25 f_X7_168 (by first | decide | assumption | omega) rfl (by rfl) ?_
    refine z_sipush (v := 9999) dX7_loose_28 (by decide) ?_
    refine z_iload_n (i := 1) dX7_loose_31 rfl rfl ?_
    refine z_isub dX7_loose_32 ?_
    rw [show c 8 9 = nI h by rw [← eh]; exact hS.1.2.2.1]
    refine z_icmp_le 42 dX7_loose_33 (by decide) (fun h_33 => ?_) (fun h_33 => ?_)
    · refine z_iconst (v := 0) dX7_loose_42 (by decide) ?_
      refine z_istore_n (i := 3) [_, _, _, _] dX7_loose_43 rfl (by decide) rfl rfl ?_
      exact loop (hl.2.mp h_33) (j + 1) 0 c (by omega) (by omega) hS hI eh zdr_rf
    · refine z_aload_n (i := 0) dX7_loose_36 rfl rfl ?_
      refine z_iconst (v := 3) dX7_loose_37 (by decide) ?_
      refine z_Vi (As := [_]) dX7_loose_38 (by rfl) v_X7_refuse l_X7_73 (by first | decide | assumption | omega) rfl rfl rfl (by omega) (by decide) (Nat.le_of_ble_eq_true rfl) ?_
      refine s_refuse (by rfl) (by decide) ?_
      rw [if_neg (fun q => h_33 (hl.2.mpr (hl.1.mp q)))] at hQ
      exact z_ret dX7_loose_41 (WX_err hX hQ) trivial rfl
  · unfold o_loose at hQ
    rw [if_neg hok] at hQ
    refine z_iload_n (i := 1) dX7_loose_0 rfl rfl ?_
    refine z_iconst (v := 1) dX7_loose_1 (by decide) ?_
    refine z_bipush (v := 30) dX7_loose_2 (by decide) ?_
    refine z_Sb (As := [_, _, _]) dX7_loose_4 (by rfl) v_X7_isWithin l_X7_115 rfl (by omega) (by decide) (Nat.le_of_ble_eq_true rfl) ?_
    refine s_isWithin ?_
    refine z_if_ne 16 dX7_loose_7 (by decide) (fun h_7 => ?_) (fun h_7 => ?_)
    · exfalso; exact hok (Classical.byContradiction (fun q => h_7 (bite.mpr q)))
    refine z_aload_n (i := 0) dX7_loose_10 rfl rfl ?_
    refine z_iconst (v := 1) dX7_loose_11 (by decide) ?_
    refine z_Vi (As := [_]) dX7_loose_12 (by rfl) v_X7_refuse l_X7_73 (by first | decide | assumption | omega) rfl rfl rfl (by omega) (by decide) (Nat.le_of_ble_eq_true rfl) ?_
    refine s_refuse (by rfl) (by decide) ?_
    exact z_ret dX7_loose_15 (WX_err hX hQ) trivial rfl
theorem x_then {p k w : Int32} (hX : RX c σ) (hd : 12 ≤ d) (hQ : WX c Qf (o_then σ p k w)) : zCl l E ad mX7_then d [.ref (ad 0), .int p, .int k, .int w] c Qf := by
  obtain ⟨n, t, m, hS, hI⟩ := id hX.1
  have hn6 := hI.1.2.1
  refine z_enter (own := RX7) [some (.ref (ad 0)), some (.int p), some (.int k), some (.int w), none] (by decide +kernel) rfl rfl rfl (Nat.le_of_ble_eq_true rfl) ?_
  by_cases hok : isP σ p ∧ (0 ≤ k ∧ k ≤ 60) ∧ 0 ≤ w ∧ w ≤ 1
  · obtain ⟨i, hi, rfl⟩ := isP_of (f := σ.1) hok.1 hI.1.1 hn6
    obtain ⟨j, hj, rfl⟩ := zj_of (x := k) (n := 61) hok.2.1.1 (by have := hok.2.1.2; show k < (61 : Int32); grind) (by decide)
    have hpc : 0 ≤ nI i ∧ nI i ≤ σ.1 5 - 1 := hok.1
    unfold o_then at hQ
    rw [if_pos hok, pn_nI (by omega), pn_nI (by omega)] at hQ
    have hb := go_b (p := i) j hI.1 hi (hI.2.2.2.2.2.2.1 i hi)
    have hw : w = 0 ∨ w = 1 := by have := hok.2.2; grind
    refine z_aload_n (i := 0) dX7_then_0 rfl rfl ?_
    refine z_iload_n (i := 1) dX7_then_1 rfl rfl ?_
    refine z_Vb (As := [_]) dX7_then_2 (by rfl) v_X7_isPerson l_X7_86 (by first | decide | assumption | omega) rfl rfl rfl (by omega) (by decide) (Nat.le_of_ble_eq_true rfl) ?_
    refine s_isPerson hX ?_
    refine z_if_eq 27 dX7_then_5 (by decide) (fun h_5 => ?_) (fun h_5 => ?_)
    · exfalso; exact absurd hpc (bite.mp (by first | exact h_5 | exact Classical.not_not.mp h_5))
    refine z_iload_n (i := 2) dX7_then_8 rfl rfl ?_
    refine z_iconst (v := 0) dX7_then_9 (by decide) ?_
    refine z_bipush (v := 60) dX7_then_10 (by decide) ?_
    refine z_Sb (As := [_, _, _]) dX7_then_12 (by rfl) v_X7_isWithin l_X7_115 rfl (by omega) (by decide) (Nat.le_of_ble_eq_true rfl) ?_
    refine s_isWithin ?_
    refine z_if_eq 27 dX7_then_15 (by decide) (fun h_15 => ?_) (fun h_15 => ?_)
    · exfalso; exact absurd hok.2.1 (bite.mp (by first | exact h_15 | exact Classical.not_not.mp h_15))
    refine z_iload_n (i := 3) dX7_then_18 rfl rfl ?_
    refine z_iconst (v := 0) dX7_then_19 (by decide) ?_
    refine z_iconst (v := 1) dX7_then_20 (by decide) ?_
    refine z_Sb (As := [_, _, _]) dX7_then_21 (by rfl) v_X7_isWithin l_X7_115 rfl (by omega) (by decide) (Nat.le_of_ble_eq_true rfl) ?_
    refine s_isWithin ?_
    refine z_if_ne 33 dX7_then_24 (by decide) (fun h_24 => ?_) (fun h_24 => ?_)
    rotate_left
    · exfalso; exact absurd hok.2.2 (bite.mp (by first | exact h_24 | exact Classical.not_not.mp h_24))
    refine z_aload_n (i := 0) dX7_then_33 rfl rfl ?_
    refine z_getf dX7_then_34 f_X7_41 (by first | decide | assumption | omega) rfl (by rfl) ?_
    refine z_Vv (As := []) dX7_then_37 (by rfl) v_X5_starts l_X7_185 (by first | decide | assumption | omega) rfl rfl rfl (by omega) (by decide) (Nat.le_of_ble_eq_true rfl) ?_
    refine s_starts hS.1 hn6 hI.2.2.2.2.2.2.1 (by omega) (fun c1 hP1 z1 => ?_)
    refine z_aload_n (i := 0) dX7_then_40 rfl rfl ?_
    refine z_getf dX7_then_41 f_X7_41 (by first | decide | assumption | omega) rfl (by rfl) ?_
    refine z_iload_n (i := 1) dX7_then_44 rfl rfl ?_
    refine z_iload_n (i := 2) dX7_then_45 rfl rfl ?_
    refine z_Vv (As := [_, _]) dX7_then_46 (by rfl) v_X5_goesOn l_X7_188 (by first | decide | assumption | omega) rfl rfl rfl (by omega) (by decide) (Nat.le_of_ble_eq_true rfl) ?_
    refine c_goesOn (TW_of hP1 hI.1 (zth_LW (LW_of hS hI) z1) hi) (by omega) (by omega) (fun c2 hT z2 => ?_)
    have hat := TW_at hT
    refine z_aload_n (i := 0) dX7_then_49 rfl rfl ?_
    refine z_getf dX7_then_50 f_X7_41 (by first | decide | assumption | omega) rfl (by rfl) ?_
    refine z_getf dX7_then_53 f_X7_191 (by first | decide | assumption | omega) rfl (by rfl) ?_
    refine z_astore (i := 4) [_, _, _, _, _] dX7_then_56 (by decide) rfl rfl ?_
    refine z_iload_n (i := 3) dX7_then_58 rfl rfl ?_
    refine z_if_ne 70 dX7_then_59 (by decide) (fun h_59 => ?_) (fun h_59 => ?_)
    · refine z_aload (i := 4) dX7_then_70 rfl ?_
      refine z_getf dX7_then_72 f_X7_101 (by first | decide | assumption | omega) rfl (by rfl) ?_
      refine z_iload_n (i := 1) dX7_then_75 rfl rfl ?_
      refine z_zald (j := i) dX7_then_76 (by first | decide | assumption | omega) rfl (by rfl) (by first | decide | omega) (by first | decide | omega) ?_
      refine z_if_eq 84 dX7_then_77 (by decide) (fun h_77 => ?_) (fun h_77 => ?_)
      · refine z_iconst (v := 0) dX7_then_84 (by decide) ?_
        have hw1 : w = 1 := hw.resolve_left h_59
        subst hw1
        have hQ : WX c Qf (goF j σ.1 (8 + 5 * i + 4), σ) := hQ
        first
        | (have e0 : goF j σ.1 (8 + 5 * i + 4) = 0 := by rw [← hat.2]; first | exact h_77 | exact Classical.not_not.mp h_77
           rw [e0] at hQ
           exact z_ret (r := 0) dX7_then_85 (WX_zth hX hQ (zth_tr z1 z2)) trivial rfl)
        | (have e0 : goF j σ.1 (8 + 5 * i + 4) = 1 := hb.resolve_left (by rw [← hat.2]; exact h_77)
           rw [e0] at hQ
           exact z_ret (r := 1) dX7_then_85 (WX_zth hX hQ (zth_tr z1 z2)) trivial rfl)
      · refine z_iconst (v := 1) dX7_then_80 (by decide) ?_
        refine z_goto 85 dX7_then_81 (by decide) ?_
        have hw1 : w = 1 := hw.resolve_left h_59
        subst hw1
        have hQ : WX c Qf (goF j σ.1 (8 + 5 * i + 4), σ) := hQ
        first
        | (have e0 : goF j σ.1 (8 + 5 * i + 4) = 0 := by rw [← hat.2]; first | exact h_77 | exact Classical.not_not.mp h_77
           rw [e0] at hQ
           exact z_ret (r := 0) dX7_then_85 (WX_zth hX hQ (zth_tr z1 z2)) trivial rfl)
        | (have e0 : goF j σ.1 (8 + 5 * i + 4) = 1 := hb.resolve_left (by rw [← hat.2]; exact h_77)
           rw [e0] at hQ
           exact z_ret (r := 1) dX7_then_85 (WX_zth hX hQ (zth_tr z1 z2)) trivial rfl)
    · refine z_aload (i := 4) dX7_then_62 rfl ?_
      refine z_getf dX7_then_64 f_X7_98 (by first | decide | assumption | omega) rfl (by rfl) ?_
      refine z_iload_n (i := 1) dX7_then_67 rfl rfl ?_
      refine z_iald (j := i) dX7_then_68 (by first | decide | assumption | omega) rfl (by rfl) (by first | decide | omega) (by first | decide | omega) ?_
      have hw0 : w = 0 := by first | exact h_59 | exact Classical.not_not.mp h_59
      subst hw0
      exact z_ret dX7_then_69 (WX_zth hX (by rw [hat.1]; exact hQ) (zth_tr z1 z2)) trivial rfl
  · unfold o_then at hQ
    rw [if_neg hok] at hQ
    refine z_aload_n (i := 0) dX7_then_0 rfl rfl ?_
    refine z_iload_n (i := 1) dX7_then_1 rfl rfl ?_
    refine z_Vb (As := [_]) dX7_then_2 (by rfl) v_X7_isPerson l_X7_86 (by first | decide | assumption | omega) rfl rfl rfl (by omega) (by decide) (Nat.le_of_ble_eq_true rfl) ?_
    refine s_isPerson hX ?_
    refine z_if_eq 27 dX7_then_5 (by decide) (fun h_5 => ?_) (fun h_5 => ?_)
    · refine z_aload_n (i := 0) dX7_then_27 rfl rfl ?_
      refine z_iconst (v := 1) dX7_then_28 (by decide) ?_
      refine z_Vi (As := [_]) dX7_then_29 (by rfl) v_X7_refuse l_X7_73 (by first | decide | assumption | omega) rfl rfl rfl (by omega) (by decide) (Nat.le_of_ble_eq_true rfl) ?_
      refine s_refuse (by rfl) (by decide) ?_
      exact z_ret dX7_then_32 (WX_err hX hQ) trivial rfl
    · refine z_iload_n (i := 2) dX7_then_8 rfl rfl ?_
      refine z_iconst (v := 0) dX7_then_9 (by decide) ?_
      refine z_bipush (v := 60) dX7_then_10 (by decide) ?_
      refine z_Sb (As := [_, _, _]) dX7_then_12 (by rfl) v_X7_isWithin l_X7_115 rfl (by omega) (by decide) (Nat.le_of_ble_eq_true rfl) ?_
      refine s_isWithin ?_
      refine z_if_eq 27 dX7_then_15 (by decide) (fun h_15 => ?_) (fun h_15 => ?_)
      · refine z_aload_n (i := 0) dX7_then_27 rfl rfl ?_
        refine z_iconst (v := 1) dX7_then_28 (by decide) ?_
        refine z_Vi (As := [_]) dX7_then_29 (by rfl) v_X7_refuse l_X7_73 (by first | decide | assumption | omega) rfl rfl rfl (by omega) (by decide) (Nat.le_of_ble_eq_true rfl) ?_
        refine s_refuse (by rfl) (by decide) ?_
        exact z_ret dX7_then_32 (WX_err hX hQ) trivial rfl
      · refine z_iload_n (i := 3) dX7_then_18 rfl rfl ?_
        refine z_iconst (v := 0) dX7_then_19 (by decide) ?_
        refine z_iconst (v := 1) dX7_then_20 (by decide) ?_
        refine z_Sb (As := [_, _, _]) dX7_then_21 (by rfl) v_X7_isWithin l_X7_115 rfl (by omega) (by decide) (Nat.le_of_ble_eq_true rfl) ?_
        refine s_isWithin ?_
        refine z_if_ne 33 dX7_then_24 (by decide) (fun h_24 => ?_) (fun h_24 => ?_)
        · exfalso; exact hok ⟨Classical.byContradiction (fun q => h_5 (bite.mpr q)), Classical.byContradiction (fun q => h_15 (bite.mpr q)), Classical.byContradiction (fun q => h_24 (bite.mpr q))⟩
        refine z_aload_n (i := 0) dX7_then_27 rfl rfl ?_
        refine z_iconst (v := 1) dX7_then_28 (by decide) ?_
        refine z_Vi (As := [_]) dX7_then_29 (by rfl) v_X7_refuse l_X7_73 (by first | decide | assumption | omega) rfl rfl rfl (by omega) (by decide) (Nat.le_of_ble_eq_true rfl) ?_
        refine s_refuse (by rfl) (by decide) ?_
        exact z_ret dX7_then_32 (WX_err hX hQ) trivial rfl
theorem x_soonest {p cell : Int32} (hX : RX c σ) (hd : 12 ≤ d) (hQ : WX c Qf (o_soonest σ p cell)) : zCl l E ad mX7_soonest d [.ref (ad 0), .int p, .int cell] c Qf := by
  obtain ⟨n, t, m, hS, hI⟩ := id hX.1
  have hn6 := hI.1.2.1
  refine z_enter (own := RX7) [some (.ref (ad 0)), some (.int p), some (.int cell), none] (by decide +kernel) rfl rfl rfl (Nat.le_of_ble_eq_true rfl) ?_
  by_cases hok : isP σ p ∧ 0 ≤ cell ∧ cell ≤ 15
  · obtain ⟨i, hi, rfl⟩ := isP_of (f := σ.1) hok.1 hI.1.1 hn6
    have hpc : 0 ≤ nI i ∧ nI i ≤ σ.1 5 - 1 := hok.1
    unfold o_soonest at hQ
    rw [if_pos hok, pn_nI (by omega)] at hQ
    have hco := co_ge (p := i) (cell := cell) (m := 61) (i := 0) (f := σ.1) (by omega)
    refine z_aload_n (i := 0) dX7_soonest_0 rfl rfl ?_
    refine z_iload_n (i := 1) dX7_soonest_1 rfl rfl ?_
    refine z_Vb (As := [_]) dX7_soonest_2 (by rfl) v_X7_isPerson l_X7_86 (by first | decide | assumption | omega) rfl rfl rfl (by omega) (by decide) (Nat.le_of_ble_eq_true rfl) ?_
    refine s_isPerson hX ?_
    refine z_if_eq 15 dX7_soonest_5 (by decide) (fun h_5 => ?_) (fun h_5 => ?_)
    · exfalso; exact absurd hpc (bite.mp (by first | exact h_5 | exact Classical.not_not.mp h_5))
    refine z_iload_n (i := 2) dX7_soonest_8 rfl rfl ?_
    refine z_Sb (As := [_]) dX7_soonest_9 (by rfl) v_X7_isCell l_X7_123 rfl (by omega) (by decide) (Nat.le_of_ble_eq_true rfl) ?_
    refine s_isCell (by omega) ?_
    refine z_if_ne 21 dX7_soonest_12 (by decide) (fun h_12 => ?_) (fun h_12 => ?_)
    rotate_left
    · exfalso; exact absurd hok.2 (bite.mp (by first | exact h_12 | exact Classical.not_not.mp h_12))
    refine z_aload_n (i := 0) dX7_soonest_21 rfl rfl ?_
    refine z_getf dX7_soonest_22 f_X7_41 (by first | decide | assumption | omega) rfl (by rfl) ?_
    refine z_Vv (As := []) dX7_soonest_25 (by rfl) v_X5_starts l_X7_185 (by first | decide | assumption | omega) rfl rfl rfl (by omega) (by decide) (Nat.le_of_ble_eq_true rfl) ?_
    refine s_starts hS.1 hn6 hI.2.2.2.2.2.2.1 (by omega) (fun c1 hP1 z1 => ?_)
    refine z_aload_n (i := 0) dX7_soonest_28 rfl rfl ?_
    refine z_getf dX7_soonest_29 f_X7_41 (by first | decide | assumption | omega) rfl (by rfl) ?_
    refine z_iload_n (i := 1) dX7_soonest_32 rfl rfl ?_
    refine z_iload_n (i := 2) dX7_soonest_33 rfl rfl ?_
    refine z_bipush (v := 60) dX7_soonest_34 (by decide) ?_
    refine z_Vi (As := [_, _, _]) dX7_soonest_36 (by rfl) v_X5_hoursTo l_X7_192 (by first | decide | assumption | omega) rfl rfl rfl (by omega) (by decide) (Nat.le_of_ble_eq_true rfl) ?_
    refine s_hoursTo (m := 60) (TW_of hP1 hI.1 (zth_LW (LW_of hS hI) z1) hi) (by omega) (by omega) (fun c2 z2 => ?_)
    have z3 := zth_tr z1 z2
    refine z_istore_n (i := 3) [_, _, _, _] dX7_soonest_39 rfl (by decide) rfl rfl ?_
    refine z_iload_n (i := 3) dX7_soonest_40 rfl rfl ?_
    refine z_if_ge 52 dX7_soonest_41 (by decide) (fun h_41 => ?_) (fun h_41 => ?_)
    · refine z_iload_n (i := 3) dX7_soonest_52 rfl rfl ?_
      first
      | (have hno : ¬ coF i cell 61 0 σ.1 = -1 := by rcases hco with w | w; (rw [show 60 + 1 = 61 from rfl, w] at h_41; exact absurd h_41 (by decide)); exact w.2
         rw [if_neg hno] at hQ
         exact z_ret dX7_soonest_53 (WX_zth hX hQ z3) trivial rfl)
      | (have hno : coF i cell 61 0 σ.1 = -1 := by rcases hco with w | w; exact w; exact absurd w.1 h_41
         rw [if_pos hno] at hQ
         exact z_ret dX7_soonest_53 (WX_therr hX hQ z3) trivial rfl)
    · refine z_aload_n (i := 0) dX7_soonest_44 rfl rfl ?_
      refine z_iconst (v := 2) dX7_soonest_45 (by decide) ?_
      refine z_Vi (As := [_]) dX7_soonest_46 (by rfl) v_X7_refuse l_X7_73 (by first | decide | assumption | omega) rfl rfl rfl (by omega) (by decide) (Nat.le_of_ble_eq_true rfl) ?_
      refine s_refuse (by rfl) (by decide) ?_
      refine z_goto 53 dX7_soonest_49 (by decide) ?_
      first
      | (have hno : ¬ coF i cell 61 0 σ.1 = -1 := by rcases hco with w | w; (rw [show 60 + 1 = 61 from rfl, w] at h_41; exact absurd h_41 (by decide)); exact w.2
         rw [if_neg hno] at hQ
         exact z_ret dX7_soonest_53 (WX_zth hX hQ z3) trivial rfl)
      | (have hno : coF i cell 61 0 σ.1 = -1 := by rcases hco with w | w; exact w; exact absurd w.1 h_41
         rw [if_pos hno] at hQ
         exact z_ret dX7_soonest_53 (WX_therr hX hQ z3) trivial rfl)
  · unfold o_soonest at hQ
    rw [if_neg hok] at hQ
    refine z_aload_n (i := 0) dX7_soonest_0 rfl rfl ?_
    refine z_iload_n (i := 1) dX7_soonest_1 rfl rfl ?_
    refine z_Vb (As := [_]) dX7_soonest_2 (by rfl) v_X7_isPerson l_X7_86 (by first | decide | assumption | omega) rfl rfl rfl (by omega) (by decide) (Nat.le_of_ble_eq_true rfl) ?_
    refine s_isPerson hX ?_
    refine z_if_eq 15 dX7_soonest_5 (by decide) (fun h_5 => ?_) (fun h_5 => ?_)
    · refine z_aload_n (i := 0) dX7_soonest_15 rfl rfl ?_
      refine z_iconst (v := 1) dX7_soonest_16 (by decide) ?_
      refine z_Vi (As := [_]) dX7_soonest_17 (by rfl) v_X7_refuse l_X7_73 (by first | decide | assumption | omega) rfl rfl rfl (by omega) (by decide) (Nat.le_of_ble_eq_true rfl) ?_
      refine s_refuse (by rfl) (by decide) ?_
      exact z_ret dX7_soonest_20 (WX_err hX hQ) trivial rfl
    · refine z_iload_n (i := 2) dX7_soonest_8 rfl rfl ?_
      refine z_Sb (As := [_]) dX7_soonest_9 (by rfl) v_X7_isCell l_X7_123 rfl (by omega) (by decide) (Nat.le_of_ble_eq_true rfl) ?_
      refine s_isCell (by omega) ?_
      refine z_if_ne 21 dX7_soonest_12 (by decide) (fun h_12 => ?_) (fun h_12 => ?_)
      · exfalso; exact hok ⟨Classical.byContradiction (fun q => h_5 (bite.mpr q)), Classical.byContradiction (fun q => h_12 (bite.mpr q))⟩
      refine z_aload_n (i := 0) dX7_soonest_15 rfl rfl ?_
      refine z_iconst (v := 1) dX7_soonest_16 (by decide) ?_
      refine z_Vi (As := [_]) dX7_soonest_17 (by rfl) v_X7_refuse l_X7_73 (by first | decide | assumption | omega) rfl rfl rfl (by omega) (by decide) (Nat.le_of_ble_eq_true rfl) ?_
      refine s_refuse (by rfl) (by decide) ?_
      exact z_ret dX7_soonest_20 (WX_err hX hQ) trivial rfl
end X6
