/-! the class's calls: fits, voice, sheets -/
theorem vok_sa {k x : Int32} {kk : Nat} {t : vT} (h : vok t) : vok (saF k kk x t).2 := by
  unfold saF
  split
  · exact vok_vb (vok_vb h)
  · split
    · exact vok_vb (vok_vb (vok_vb h))
    · split
      · exact vok_vb h
      · exact vok_vb h
theorem vok_se0 {k x : Int32} {K : Nat} {t : vT} (h : vok t) : vok (se0 k K x t).2 := vok_sa (vok_vb h)
theorem vok_se {k m x : Int32} {K kk : Nat} {t : vT} (h : vok t) : vok (seV k m K kk x t).2 := by
  unfold seV
  split
  · exact vok_se0 (vok_vb h)
  · split
    · exact vok_se0 (vok_vb (vok_vb h))
    · split
      · exact vok_se0 (vok_vb h)
      · exact vok_se0 h
theorem vok_wa {k m x : Int32} {K kk : Nat} {t : vT} (h : vok t) : vok (waV k m K kk x t).2 := by
  unfold waV
  split
  · exact vok_se (vok_vb (vok_vb h))
  · split
    · exact vok_se (vok_vb (vok_vb h))
    · exact vok_se (vok_vb h)
theorem vok_pa {k m x : Int32} {K kk : Nat} {t : vT} (h : vok t) : vok (paV k m K kk x t).2 := by
  unfold paV pa1
  split
  · split
    · exact vok_vb (vok_vb h)
    · exact vok_se (vok_vb (vok_vb h))
  · exact vok_vb h
theorem vok_vo {k m v x : Int32} {K : Nat} {t : vT} (h : vok t) : vok (voV k m K v x t).2 := by
  unfold voV
  split
  · exact vok_sa h
  · split
    · exact vok_se h
    · split
      · exact vok_wa h
      · exact vok_pa h
theorem RX_v {c c' : zS} {σ : zT} {t : vT} (h : RX c σ) (e : ∀ k, k < 51 → k ≠ 40 → k ≠ 41 → c' k = c k) (h1 : c' 40 1 = t.1) (h2 : c' 41 = t.2) (ht : vok t) : RX c' (wV σ t) := by
  obtain ⟨⟨n, t', m, a, b⟩, r2, r3, r4, r5, r6, r7⟩ := h
  refine ⟨⟨n, t', m, ST_pr a (PR_cg a.1 (fun k x y => e k (by omega) (by omega) (by omega))) (fun k hk => e k (by omega) (by omega) (by omega)) (fun _ _ => rfl) rfl, b⟩, by rw [e 0 (by decide) (by decide) (by decide)]; exact r2, fun w => ?_, by rw [e 17 (by decide) (by decide) (by decide), e 20 (by decide) (by decide) (by decide)]; exact r4, by rw [e 50 (by decide) (by decide) (by decide)]; exact r5, ⟨h1, h2, ht⟩, SHx_cg r7 (fun k a b => e k (by omega) (by omega) (by omega))⟩
  obtain ⟨n, t, m, a, b⟩ := r3 w
  exact ⟨n, t, m, ST_kept a (fun k x y => e k (by omega) (by omega) (by omega)), b⟩
theorem RX_sh {c c' : zS} {σ : zT} {b z u : zN} (h : RX c σ) (e : ∀ k, k < 51 → (k < 43 ∨ 49 < k) → c' k = c k) (hs : SHx c' b z u) : RX c' (wSh σ b z u) := by
  obtain ⟨⟨n, t', m, a, b'⟩, r2, r3, r4, r5, r6, r7⟩ := h
  refine ⟨⟨n, t', m, ST_pr a (PR_cg a.1 (fun k x y => e k (by omega) (by omega))) (fun k hk => e k (by omega) (by omega)) (fun _ _ => rfl) rfl, b'⟩, by rw [e 0 (by decide) (by decide)]; exact r2, fun w => ?_, by rw [e 17 (by decide) (by decide), e 20 (by decide) (by decide)]; exact r4, by rw [e 50 (by decide) (by decide)]; exact r5, by rw [e 40 (by decide) (by decide), e 41 (by decide) (by decide)]; exact r6, hs⟩
  obtain ⟨n, t, m, a, b⟩ := r3 w
  exact ⟨n, t, m, ST_kept a (fun k x y => e k (by omega) (by omega)), b⟩
theorem shl_g {X : BitVec 32} {s w : Nat} (h : s + w = 32) (hw : 0 < w) : (X <<< s).sshiftRight s = (X.signExtend w).signExtend 32 := by
  have e1 : ∀ i, i < w → (X <<< s).getLsbD (s + i) = X.getLsbD i := by
    intro i hi
    rw [BitVec.getLsbD_shiftLeft, decide_eq_true (show s + i < 32 by omega), decide_eq_false (show ¬ s + i < s by omega), Nat.add_sub_cancel_left]
    simp
  have e2 : ∀ i, i < w → (X.signExtend w).getLsbD i = X.getLsbD i := by
    intro i hi
    rw [BitVec.getLsbD_signExtend, decide_eq_true hi, if_pos (show i < 32 by omega)]
    simp
  apply BitVec.eq_of_getLsbD_eq
  intro i hi
  rw [BitVec.getLsbD_sshiftRight, BitVec.getLsbD_signExtend, decide_eq_false (show ¬ 32 ≤ i by omega), decide_eq_true hi]
  by_cases hiw : i < w
  · rw [if_pos (show s + i < 32 by omega), if_pos hiw, e1 i hiw, e2 i hiw]
    simp
  · rw [if_neg (show ¬ s + i < 32 by omega), if_neg hiw, BitVec.msb_eq_getLsbD_last, BitVec.msb_eq_getLsbD_last, e2 (w - 1) (by omega), show 32 - 1 = s + (w - 1) by omega, e1 (w - 1) (by omega)]
    simp
theorem shl_24 (v : Int32) : (v <<< ((32 - 8 : Int32) &&& 31)) >>> ((32 - 8 : Int32) &&& 31) = v.toInt8.toInt32 := by
  have L : ((v <<< ((32 - 8 : Int32) &&& 31)) >>> ((32 - 8 : Int32) &&& 31)).toBitVec = (v.toBitVec <<< 24).sshiftRight 24 := rfl
  have R : (v.toInt8.toInt32).toBitVec = (v.toBitVec.signExtend 8).signExtend 32 := rfl
  rw [← Int32.toBitVec_inj, L, R]
  exact shl_g (by decide) (by decide)
theorem shl_16 (v : Int32) : (v <<< ((32 - 16 : Int32) &&& 31)) >>> ((32 - 16 : Int32) &&& 31) = v.toInt16.toInt32 := by
  have L : ((v <<< ((32 - 16 : Int32) &&& 31)) >>> ((32 - 16 : Int32) &&& 31)).toBitVec = (v.toBitVec <<< 16).sshiftRight 16 := rfl
  have R : (v.toInt16.toInt32).toBitVec = (v.toBitVec.signExtend 16).signExtend 32 := rfl
  rw [← Int32.toBitVec_inj, L, R]
  exact shl_g (by decide) (by decide)
theorem shl_0 (v : Int32) : (v <<< ((32 - 32 : Int32) &&& 31)) >>> ((32 - 32 : Int32) &&& 31) = v := by
  have L : ((v <<< ((32 - 32 : Int32) &&& 31)) >>> ((32 - 32 : Int32) &&& 31)).toBitVec = (v.toBitVec <<< 0).sshiftRight 0 := rfl
  rw [← Int32.toBitVec_inj, L, BitVec.sshiftRight_zero, BitVec.shiftLeft_zero]
theorem jg_hm {f num e r : zN} {z n : Nat} (hz : z ≤ 24) (he : ∀ i, i < n → e i = f (8 + 5 * i + 3)) (hr : ∀ i, i < z → r i = num i) : ∀ {m i : Nat}, jgN num f z n m i = hmF e r z n m i
  | 0, i => rfl
  | m + 1, i => by
    rw [show jgN num f z n (m + 1) i = if i < z ∧ i < n ∧ f (8 + 5 * i + 3) = num i then jgN num f z n m (i + 1) else i from rfl, show hmF e r z n (m + 1) i = if i < z ∧ i < n ∧ r i = e i then hmF e r z n m (i + 1) else i from rfl]
    by_cases w : i < z ∧ i < n ∧ f (8 + 5 * i + 3) = num i
    · rw [if_pos w, if_pos ⟨w.1, w.2.1, by rw [hr i w.1, he i w.2.1]; exact w.2.2.symm⟩]
      exact jg_hm hz he hr
    · rw [if_neg w, if_neg (fun q => w ⟨q.1, q.2.1, by rw [← he i q.2.1, ← hr i q.1]; exact q.2.2.symm⟩)]
theorem csN_cg {a b : zN} {p : Nat} : ∀ {m i : Nat} {f : zN}, (∀ k, i ≤ k → k < i + m → a k = b k) → csN a p m i f = csN b p m i f
  | 0, i, f, _ => rfl
  | m + 1, i, f, h => by
    rw [show csN a p (m + 1) i f = if cleF f p = a i then csN a p m (i + 1) (hrF f) else false from rfl, show csN b p (m + 1) i f = if cleF f p = b i then csN b p m (i + 1) (hrF f) else false from rfl, h i (by omega) (by omega), csN_cg (fun k x y => h k (by omega) (by omega))]
theorem fs_all {P : Nat → Bool} : ∀ {m i : Nat}, (∀ k, i ≤ k → k < i + m → ¬ P k = true) → fsF P m i = i + m
  | 0, i, _ => rfl
  | m + 1, i, h => by
    rw [fsF_s, if_neg (h i (by omega) (by omega)), fs_all (fun k a b => h k (by omega) (by omega))]
    omega
theorem fs_at {P : Nat → Bool} {j : Nat} (hj : P j = true) : ∀ {m i : Nat}, i ≤ j → j < i + m → (∀ k, i ≤ k → k < j → ¬ P k = true) → fsF P m i = j
  | 0, i, h1, h2, _ => by omega
  | m + 1, i, h1, h2, h => by
    rw [fsF_s]
    by_cases e : i = j
    · subst e; rw [if_pos hj]
    · rw [if_neg (h i (by omega) (by omega))]
      exact fs_at hj (by omega) (by omega) (fun k a b => h k (by omega) b)
section X8
variable {l : Launch} {E : zE} {ad : Nat → Nat} {c : zS} {Qf : Int32 → zS → Prop} {d n : Nat} {σ : zT}
theorem x_voice {p v x : Int32} (hX : RX c σ) (hd : 24 ≤ d) (hQ : WX c Qf (o_voice σ p v x)) : zCl l E ad mX7_voice d [.ref (ad 0), .int p, .int v, .int x] c Qf := by
  obtain ⟨n, t, m, hS, hI⟩ := id hX.1
  have hn6 := hI.1.2.1
  refine z_enter (own := RX7) [some (.ref (ad 0)), some (.int p), some (.int v), some (.int x), none] (by decide +kernel) rfl rfl rfl (Nat.le_of_ble_eq_true rfl) ?_
  by_cases hok : isP σ p ∧ 0 ≤ v ∧ v ≤ 3
  · obtain ⟨i, hi, rfl⟩ := isP_of (f := σ.1) hok.1 hI.1.1 hn6
    obtain ⟨j, hj, rfl⟩ := zj_of (x := v) (n := 4) hok.2.1 (by have := hok.2.2; show v < (4 : Int32); grind) (by decide)
    have hpc : 0 ≤ nI i ∧ nI i ≤ σ.1 5 - 1 := hok.1
    obtain ⟨K, hK, eK⟩ := hI.2.2.2.2.2.1 i hi
    have hR := hS.1.2.2.2 i hi
    obtain ⟨e40, e41, hvt⟩ := id hX.2.2.2.2.2.1
    unfold o_voice at hQ
    rw [if_pos hok, pn_nI (by omega), eK, pn_nI (by omega), ← e41] at hQ
    have hvk : vok (voV (nI i) (σ.1 (8 + 5 * i + 1)) K (nI j) x (0, c 41)).2 := vok_vo ⟨0, by omega, rfl⟩
    generalize hV : voV (nI i) (σ.1 (8 + 5 * i + 1)) K (nI j) x (0, c 41) = V at hQ hvk
    have a3 : nI j = 3 ↔ j = 3 := nI_eq (a := j) (b := 3) (by omega) (by omega)
    refine z_aload_n (i := 0) dX7_voice_0 rfl rfl ?_
    refine z_iload_n (i := 1) dX7_voice_1 rfl rfl ?_
    refine z_Vb (As := [_]) dX7_voice_2 (by rfl) v_X7_isPerson l_X7_86 (by first | decide | assumption | omega) rfl rfl rfl (by omega) (by decide) (Nat.le_of_ble_eq_true rfl) ?_
    refine s_isPerson hX ?_
    refine z_if_eq 17 dX7_voice_5 (by decide) (fun h_5 => ?_) (fun h_5 => ?_)
    · exfalso; exact absurd hpc (bite.mp (by first | exact h_5 | exact Classical.not_not.mp h_5))
    refine z_iload_n (i := 2) dX7_voice_8 rfl rfl ?_
    refine z_iconst (v := 0) dX7_voice_9 (by decide) ?_
    refine z_iconst (v := 3) dX7_voice_10 (by decide) ?_
    refine z_Sb (As := [_, _, _]) dX7_voice_11 (by rfl) v_X7_isWithin l_X7_115 rfl (by omega) (by decide) (Nat.le_of_ble_eq_true rfl) ?_
    refine s_isWithin ?_
    refine z_if_ne 23 dX7_voice_14 (by decide) (fun h_14 => ?_) (fun h_14 => ?_)
    rotate_left
    · exfalso; exact absurd hok.2 (bite.mp (by first | exact h_14 | exact Classical.not_not.mp h_14))
    refine z_aload_n (i := 0) dX7_voice_23 rfl rfl ?_
    refine z_getf dX7_voice_24 f_X7_48 (by first | decide | assumption | omega) rfl (by rfl) ?_
    refine z_aload_n (i := 0) dX7_voice_27 rfl rfl ?_
    refine z_getf dX7_voice_28 f_X7_10 (by first | decide | assumption | omega) rfl (by rfl) ?_
    refine z_getf dX7_voice_31 f_X7_34 (by first | decide | assumption | omega) rfl (by rfl) ?_
    refine z_getf dX7_voice_34 f_X7_89 (by first | decide | assumption | omega) rfl (by rfl) ?_
    refine z_iload_n (i := 1) dX7_voice_37 rfl rfl ?_
    refine z_iald (j := i) dX7_voice_38 (by first | decide | assumption | omega) rfl (by rfl) (by first | decide | omega) (by first | decide | omega) ?_
    rw [hR.1, eK]
    refine z_iload_n (i := 1) dX7_voice_39 rfl rfl ?_
    refine z_aload_n (i := 0) dX7_voice_40 rfl rfl ?_
    refine z_getf dX7_voice_41 f_X7_10 (by first | decide | assumption | omega) rfl (by rfl) ?_
    refine z_getf dX7_voice_44 f_X7_34 (by first | decide | assumption | omega) rfl (by rfl) ?_
    refine z_getf dX7_voice_47 f_X7_92 (by first | decide | assumption | omega) rfl (by rfl) ?_
    refine z_iload_n (i := 1) dX7_voice_50 rfl rfl ?_
    refine z_iald (j := i) dX7_voice_51 (by first | decide | assumption | omega) rfl (by rfl) (by first | decide | omega) (by first | decide | omega) ?_
    rw [hR.2.1]
    refine z_iload_n (i := 2) dX7_voice_52 rfl rfl ?_
    refine z_iload_n (i := 3) dX7_voice_53 rfl rfl ?_
    refine z_Vi (As := [_, _, _, _, _]) dX7_voice_54 (by rfl) v_X6_speaks l_X7_233 (by first | decide | assumption | omega) rfl rfl rfl (by omega) (by decide) (Nat.le_of_ble_eq_true rfl) ?_
    refine s_speaks hK (by omega) (by omega) ?_
    rw [hV]
    intro c2 h1 h2 hf h40
    have hX2 : RX c2 (wV σ V.2) := RX_v hX (fun k a b e => hf k b e) h1 h2 hvk
    unfold voP paP at h40
    refine z_istore (i := 4) [_, _, _, _, _] dX7_voice_57 (by decide) rfl rfl ?_
    refine z_aload_n (i := 0) dX7_voice_59 rfl rfl ?_
    refine z_getf dX7_voice_60 f_X7_48 (by first | decide | assumption | omega) rfl (by rfl) ?_
    refine z_getf dX7_voice_63 f_X7_237 (by first | decide | assumption | omega) rfl (by rfl) ?_
    rw [h40]
    refine z_if_eq 78 dX7_voice_66 (by decide) (fun h_66 => ?_) (fun h_66 => ?_)
    · refine z_iload (i := 4) dX7_voice_78 rfl ?_
      first
      | (have hno : ¬ (nI j = 3 ∧ σ.1 (8 + 5 * i + 1) - nI i = 0) := by
           intro q
           rw [if_pos q.1, if_pos q.2] at h_66
           exact absurd h_66 (by decide)
         rw [if_neg hno] at hQ
         exact z_ret dX7_voice_80 (hQ _ (fun k hk => hf k (by omega) (by omega)) hX2) trivial rfl)
      | (have hno : nI j = 3 ∧ σ.1 (8 + 5 * i + 1) - nI i = 0 := by
           by_cases q : nI j = 3
           · rw [if_pos q] at h_66
             by_cases q2 : σ.1 (8 + 5 * i + 1) - nI i = 0
             · exact ⟨q, q2⟩
             · rw [if_neg q2] at h_66; exact absurd rfl h_66
           · rw [if_neg q] at h_66; exact absurd rfl h_66
         rw [if_pos hno] at hQ
         exact z_ret dX7_voice_80 (hQ _ (fun k hk => by rw [zup_n (by omega)]; exact hf k (by omega) (by omega)) (RX_err hX2)) trivial rfl)
    · refine z_aload_n (i := 0) dX7_voice_69 rfl rfl ?_
      refine z_bipush (v := 6) dX7_voice_70 (by decide) ?_
      refine z_Vi (As := [_]) dX7_voice_72 (by rfl) v_X7_refuse l_X7_73 (by first | decide | assumption | omega) rfl rfl rfl (by omega) (by decide) (Nat.le_of_ble_eq_true rfl) ?_
      refine s_refuse (by rfl) (by decide) ?_
      refine z_goto 80 dX7_voice_75 (by decide) ?_
      first
      | (have hno : ¬ (nI j = 3 ∧ σ.1 (8 + 5 * i + 1) - nI i = 0) := by
           intro q
           rw [if_pos q.1, if_pos q.2] at h_66
           exact absurd h_66 (by decide)
         rw [if_neg hno] at hQ
         exact z_ret dX7_voice_80 (hQ _ (fun k hk => hf k (by omega) (by omega)) hX2) trivial rfl)
      | (have hno : nI j = 3 ∧ σ.1 (8 + 5 * i + 1) - nI i = 0 := by
           by_cases q : nI j = 3
           · rw [if_pos q] at h_66
             by_cases q2 : σ.1 (8 + 5 * i + 1) - nI i = 0
             · exact ⟨q, q2⟩
             · rw [if_neg q2] at h_66; exact absurd rfl h_66
           · rw [if_neg q] at h_66; exact absurd rfl h_66
         rw [if_pos hno] at hQ
         exact z_ret dX7_voice_80 (hQ _ (fun k hk => by rw [zup_n (by omega)]; exact hf k (by omega) (by omega)) (RX_err hX2)) trivial rfl)
  · unfold o_voice at hQ
    rw [if_neg hok] at hQ
    refine z_aload_n (i := 0) dX7_voice_0 rfl rfl ?_
    refine z_iload_n (i := 1) dX7_voice_1 rfl rfl ?_
    refine z_Vb (As := [_]) dX7_voice_2 (by rfl) v_X7_isPerson l_X7_86 (by first | decide | assumption | omega) rfl rfl rfl (by omega) (by decide) (Nat.le_of_ble_eq_true rfl) ?_
    refine s_isPerson hX ?_
    refine z_if_eq 17 dX7_voice_5 (by decide) (fun h_5 => ?_) (fun h_5 => ?_)
    · refine z_aload_n (i := 0) dX7_voice_17 rfl rfl ?_
      refine z_iconst (v := 1) dX7_voice_18 (by decide) ?_
      refine z_Vi (As := [_]) dX7_voice_19 (by rfl) v_X7_refuse l_X7_73 (by first | decide | assumption | omega) rfl rfl rfl (by omega) (by decide) (Nat.le_of_ble_eq_true rfl) ?_
      refine s_refuse (by rfl) (by decide) ?_
      exact z_ret dX7_voice_22 (WX_err hX hQ) trivial rfl
    · refine z_iload_n (i := 2) dX7_voice_8 rfl rfl ?_
      refine z_iconst (v := 0) dX7_voice_9 (by decide) ?_
      refine z_iconst (v := 3) dX7_voice_10 (by decide) ?_
      refine z_Sb (As := [_, _, _]) dX7_voice_11 (by rfl) v_X7_isWithin l_X7_115 rfl (by omega) (by decide) (Nat.le_of_ble_eq_true rfl) ?_
      refine s_isWithin ?_
      refine z_if_ne 23 dX7_voice_14 (by decide) (fun h_14 => ?_) (fun h_14 => ?_)
      · exfalso; exact hok ⟨Classical.byContradiction (fun q => h_5 (bite.mpr q)), Classical.byContradiction (fun q => h_14 (bite.mpr q))⟩
      refine z_aload_n (i := 0) dX7_voice_17 rfl rfl ?_
      refine z_iconst (v := 1) dX7_voice_18 (by decide) ?_
      refine z_Vi (As := [_]) dX7_voice_19 (by rfl) v_X7_refuse l_X7_73 (by first | decide | assumption | omega) rfl rfl rfl (by omega) (by decide) (Nat.le_of_ble_eq_true rfl) ?_
      refine s_refuse (by rfl) (by decide) ?_
      exact z_ret dX7_voice_22 (WX_err hX hQ) trivial rfl
theorem x_judge {k : Int32} (hX : RX c σ) (hd : 8 ≤ d) (hQ : WX c Qf (o_judge σ k)) : zCl l E ad mX7_judge d [.ref (ad 0), .int k] c Qf := by
  obtain ⟨n, t, m, hS, hI⟩ := id hX.1
  have hn6 := hI.1.2.1
  refine z_enter (own := RX7) [some (.ref (ad 0)), some (.int k)] (by decide +kernel) rfl rfl rfl (Nat.le_of_ble_eq_true rfl) ?_
  by_cases hok : 0 ≤ k ∧ k ≤ 3
  · obtain ⟨j, hj, rfl⟩ := zj_of (x := k) (n := 4) hok.1 (by have := hok.2; show k < (4 : Int32); grind) (by decide)
    obtain ⟨g1, g2, g3, s, hs, es, g4⟩ := hX.2.2.2.2.2.2 j hj
    have hrz := rows_z (E := E) (ad := ad) hj
    unfold o_judge at hQ
    rw [if_pos hok, pn_nI (by omega), es, pn_nI (by omega), show σ.1 5 = nI n from hI.1.1, pn_nI (by omega), jg_hm (e := c 12) (r := c (46 + j)) hs (fun i hi => (hS.1.2.2.2 i hi).2.2.2.1) g4] at hQ
    refine z_iload_n (i := 1) dX7_judge_0 rfl rfl ?_
    refine z_Sb (As := [_]) dX7_judge_1 (by rfl) v_X7_isSheet l_X7_216 rfl (by omega) (by decide) (Nat.le_of_ble_eq_true rfl) ?_
    refine s_isSheet (by omega) ?_
    refine z_if_ne 13 dX7_judge_4 (by decide) (fun h_4 => ?_) (fun h_4 => ?_)
    rotate_left
    · exfalso; exact absurd hok (bite.mp (by first | exact h_4 | exact Classical.not_not.mp h_4))
    refine z_aload_n (i := 0) dX7_judge_13 rfl rfl ?_
    refine z_getf dX7_judge_14 f_X7_55 (by first | decide | assumption | omega) rfl (by rfl) ?_
    refine z_iload_n (i := 1) dX7_judge_17 rfl rfl ?_
    refine z_Vb (As := [_]) dX7_judge_18 (by rfl) v_X3_isMissing l_X7_219 (by first | decide | assumption | omega) rfl rfl rfl (by omega) (by decide) (Nat.le_of_ble_eq_true rfl) ?_
    refine s_isMissing hj ?_
    rw [g1]
    refine z_if_eq 30 dX7_judge_21 (by decide) (fun h_21 => ?_) (fun h_21 => ?_)
    · rw [if_neg (bite.mp (by first | exact h_21 | exact Classical.not_not.mp h_21))] at hQ
      refine z_aload_n (i := 0) dX7_judge_30 rfl rfl ?_
      refine z_getf dX7_judge_31 f_X7_10 (by first | decide | assumption | omega) rfl (by rfl) ?_
      refine z_getf dX7_judge_34 f_X7_34 (by first | decide | assumption | omega) rfl (by rfl) ?_
      refine z_aload_n (i := 0) dX7_judge_37 rfl rfl ?_
      refine z_getf dX7_judge_38 f_X7_10 (by first | decide | assumption | omega) rfl (by rfl) ?_
      refine z_getf dX7_judge_41 f_X7_34 (by first | decide | assumption | omega) rfl (by rfl) ?_
      refine z_getf dX7_judge_44 f_X7_98 (by first | decide | assumption | omega) rfl (by rfl) ?_
      refine z_aload_n (i := 0) dX7_judge_47 rfl rfl ?_
      refine z_getf dX7_judge_48 f_X7_55 (by first | decide | assumption | omega) rfl (by rfl) ?_
      refine z_getf dX7_judge_51 f_X7_222 (by first | decide | assumption | omega) rfl (by rfl) ?_
      refine z_iload_n (i := 1) dX7_judge_54 rfl rfl ?_
      refine z_aald (j := j) dX7_judge_55 (by rfl) (by first | decide | omega) (by first | decide | omega) ?_
      refine z_aload_n (i := 0) dX7_judge_56 rfl rfl ?_
      refine z_getf dX7_judge_57 f_X7_55 (by first | decide | assumption | omega) rfl (by rfl) ?_
      refine z_getf dX7_judge_60 f_X7_226 (by first | decide | assumption | omega) rfl (by rfl) ?_
      refine z_iload_n (i := 1) dX7_judge_63 rfl rfl ?_
      refine z_iald (j := j) dX7_judge_64 (by first | decide | assumption | omega) rfl (by rfl) (by first | decide | omega) (by first | decide | omega) ?_
      rw [g3, es]
      refine z_Vi (As := [_, _, _]) dX7_judge_65 (by rfl) v_X1_howManyAre l_X7_271 (by first | decide | assumption | omega) rfl rfl rfl (by omega) (by decide) (Nat.le_of_ble_eq_true rfl) ?_
      refine s_howMany (e := 12) (R := 46 + j) (by decide) (by omega) (fun _ => rfl) hrz hS.1.1 hn6 hs ?_
      exact z_ret dX7_judge_68 (WX_rf hX hQ) trivial rfl
    · refine z_aload_n (i := 0) dX7_judge_24 rfl rfl ?_
      refine z_iconst (v := 2) dX7_judge_25 (by decide) ?_
      refine z_Vi (As := [_]) dX7_judge_26 (by rfl) v_X7_refuse l_X7_73 (by first | decide | assumption | omega) rfl rfl rfl (by omega) (by decide) (Nat.le_of_ble_eq_true rfl) ?_
      refine s_refuse (by rfl) (by decide) ?_
      rw [if_pos (Classical.byContradiction (fun q => h_21 (bite.mpr q)))] at hQ
      exact z_ret dX7_judge_29 (WX_err hX hQ) trivial rfl
  · unfold o_judge at hQ
    rw [if_neg hok] at hQ
    refine z_iload_n (i := 1) dX7_judge_0 rfl rfl ?_
    refine z_Sb (As := [_]) dX7_judge_1 (by rfl) v_X7_isSheet l_X7_216 rfl (by omega) (by decide) (Nat.le_of_ble_eq_true rfl) ?_
    refine s_isSheet (by omega) ?_
    refine z_if_ne 13 dX7_judge_4 (by decide) (fun h_4 => ?_) (fun h_4 => ?_)
    · exfalso; exact hok (Classical.byContradiction (fun q => h_4 (bite.mpr q)))
    refine z_aload_n (i := 0) dX7_judge_7 rfl rfl ?_
    refine z_iconst (v := 1) dX7_judge_8 (by decide) ?_
    refine z_Vi (As := [_]) dX7_judge_9 (by rfl) v_X7_refuse l_X7_73 (by first | decide | assumption | omega) rfl rfl rfl (by omega) (by decide) (Nat.le_of_ble_eq_true rfl) ?_
    refine s_refuse (by rfl) (by decide) ?_
    exact z_ret dX7_judge_12 (WX_err hX hQ) trivial rfl
theorem x_sures {k : Int32} (hX : RX c σ) (hd : 8 ≤ d) (hQ : WX c Qf (o_sures σ k)) : zCl l E ad mX7_sures d [.ref (ad 0), .int k] c Qf := by
  obtain ⟨n, t, m, hS, hI⟩ := id hX.1
  have hn6 := hI.1.2.1
  refine z_enter (own := RX7) [some (.ref (ad 0)), some (.int k), none, none, none] (by decide +kernel) rfl rfl rfl (Nat.le_of_ble_eq_true rfl) ?_
  by_cases hok : 0 ≤ k ∧ k ≤ 3
  · obtain ⟨j, hj, rfl⟩ := zj_of (x := k) (n := 4) hok.1 (by have := hok.2; show k < (4 : Int32); grind) (by decide)
    obtain ⟨g1, g2, g3, s, hs, es, g4⟩ := hX.2.2.2.2.2.2 j hj
    have hrz := rows_z (E := E) (ad := ad) hj
    unfold o_sures at hQ
    rw [if_pos hok, pn_nI (by omega), es, pn_nI (by omega), show σ.1 5 = nI n from hI.1.1, pn_nI (by omega)] at hQ
    obtain ⟨M, hM⟩ : ∃ M : Nat, M = min s n := ⟨_, rfl⟩
    have emin : (if nI s < nI n then nI s else nI n) = nI M := by
      have := nI_ltI (a := s) (b := n) (by omega) (by omega)
      by_cases w : s < n
      · rw [if_pos (this.mpr w), hM, Nat.min_eq_left (by omega)]
      · rw [if_neg (fun q => w (this.mp q)), hM, Nat.min_eq_right (by omega)]
    generalize hu : (fun i => σ.2.2.2.2.2.2.2.2 (24 * j + i)) = u at hQ
    have g4 : ∀ i, i < s → c (46 + j) i = u i := fun i hi => by rw [← hu]; exact g4 i hi
    have loop : ¬ σ.2.2.2.2.2.2.1 j = 0 → ∀ (r i : Nat) (F : zN) (c1 : zS), M - i < r → i ≤ M → ST c1 1 8 2 3 5 6 14 15 n t m F → SI F n t m → (∀ q, q ≠ 11 → c1 q = c q) → srN u s n (25 - i) i F = srN u s n 25 0 σ.1 → zW l E ad RX7 cX7_sures 5 1 d Qf 66 [some (.ref (ad 0)), some (.int (nI j)), some (.ref (ad (46 + j))), some (.int (nI M)), some (.int (nI i))] [] c1 := by
      intro hb r
      rw [if_neg hb] at hQ
      induction r with
      | zero => intro i F c1 q; omega
      | succ r ih =>
        intro i F c1 hr hi hS1 hI1 hf e
        have hlt := nI_leI (a := M) (b := i) (by omega) (by omega)
        rw [show 25 - i = 24 - i + 1 by omega, show srN u s n (24 - i + 1) i F = if i < s ∧ i < n ∧ 0 ≤ u i ∧ u i ≤ 99 then srN u s n (24 - i) (i + 1) (upd F (8 + 5 * i + 2) (u i)) else (i, F) from rfl] at e
        have fin : ¬ (i < s ∧ i < n ∧ 0 ≤ u i ∧ u i ≤ 99) → Qf (nI i) c1 := by
          intro w
          rw [if_neg w] at e
          rw [← e] at hQ
          exact WX_now hX hQ ⟨hf 0 (by decide), fun q a b e g => hf q (by omega)⟩ ⟨n, t, m, hS1, hI1⟩
        by_cases hiM : i < M
        · have er : c1 (46 + j) i = u i := by rw [hf _ (by omega)]; exact g4 i (by omega)
          have h1 := PR_up (p := i) (v := u i) 2 hS1.1 (by omega)
          refine z_iload (i := 4) dX7_sures_66 rfl ?_
          refine z_iload_n (i := 3) dX7_sures_68 rfl rfl ?_
          refine z_icmp_ge 105 dX7_sures_69 (by decide) (fun h_69 => ?_) (fun h_69 => ?_)
          · exfalso; have := hlt.mp h_69; omega
          refine z_aload_n (i := 2) dX7_sures_72 rfl rfl ?_
          refine z_iload (i := 4) dX7_sures_73 rfl ?_
          refine z_iald (j := i) dX7_sures_75 (by first | decide | assumption | omega) (by first | rfl | exact hrz _) (by rfl) (by first | decide | omega) (by first | decide | omega) ?_
          rw [er]
          refine z_Sb (As := [_]) dX7_sures_76 (by rfl) v_X7_isSure l_X7_70 rfl (by omega) (by decide) (Nat.le_of_ble_eq_true rfl) ?_
          refine s_isSure (by omega) ?_
          refine z_if_eq 105 dX7_sures_79 (by decide) (fun h_79 => ?_) (fun h_79 => ?_)
          · refine z_iload (i := 4) dX7_sures_105 rfl ?_
            exact z_ret dX7_sures_107 (fin (fun w => absurd w.2.2 (bite.mp (by first | exact h_79 | exact Classical.not_not.mp h_79)))) trivial rfl
          · refine z_aload_n (i := 0) dX7_sures_82 rfl rfl ?_
            refine z_getf dX7_sures_83 f_X7_10 (by first | decide | assumption | omega) (by first | rfl | exact hrz _) (by rfl) ?_
            refine z_getf dX7_sures_86 f_X7_34 (by first | decide | assumption | omega) (by first | rfl | exact hrz _) (by rfl) ?_
            refine z_getf dX7_sures_89 f_X7_95 (by first | decide | assumption | omega) (by first | rfl | exact hrz _) (by rfl) ?_
            refine z_iload (i := 4) dX7_sures_92 rfl ?_
            refine z_aload_n (i := 2) dX7_sures_94 rfl rfl ?_
            refine z_iload (i := 4) dX7_sures_95 rfl ?_
            refine z_iald (j := i) dX7_sures_97 (by first | decide | assumption | omega) (by first | rfl | exact hrz _) (by rfl) (by first | decide | omega) (by first | decide | omega) ?_
            rw [er]
            refine z_iast (j := i) dX7_sures_98 (by first | decide | assumption | omega) (fun _ => by first | rfl | exact hrz _) (by rfl) (by first | decide | omega) (by first | decide | omega) ?_
            refine z_iinc (i := 4) (v := 1) [_, _, _, _, _] dX7_sures_99 rfl (by decide) (by decide) rfl rfl ?_
            refine z_goto 66 dX7_sures_102 (by decide) ?_
            rw [nI_1]
            have hw : 0 ≤ u i ∧ u i ≤ 99 := Classical.byContradiction (fun q => h_79 (bite.mpr q))
            rw [if_pos ⟨by omega, by omega, hw⟩] at e
            refine ih (i + 1) _ _ (by omega) (by omega) (ST_pr hS1 h1 (fun q hq => zup_n (by omega)) (fun q hq => pk_un (by omega)) (pk_un (by omega))) (SI_u hI1 (by omega) (by omega) (by omega) (by omega) (fun i hi e => by omega) (fun i hi e => by omega) (fun e => by omega)) (fun q hq => by rw [zup_n hq]; exact hf q hq) (by rw [show 25 - (i + 1) = 24 - i by omega]; exact e)
        · skip
          refine z_iload (i := 4) dX7_sures_66 rfl ?_
          refine z_iload_n (i := 3) dX7_sures_68 rfl rfl ?_
          refine z_icmp_ge 105 dX7_sures_69 (by decide) (fun h_69 => ?_) (fun h_69 => ?_)
          rotate_left
          · exfalso; exact h_69 (hlt.mpr (by omega))
          refine z_iload (i := 4) dX7_sures_105 rfl ?_
          exact z_ret dX7_sures_107 (fin (fun w => by omega)) trivial rfl
    refine z_iload_n (i := 1) dX7_sures_0 rfl rfl ?_
    refine z_Sb (As := [_]) dX7_sures_1 (by rfl) v_X7_isSheet l_X7_216 rfl (by omega) (by decide) (Nat.le_of_ble_eq_true rfl) ?_
    refine s_isSheet (by omega) ?_
    refine z_if_ne 13 dX7_sures_4 (by decide) (fun h_4 => ?_) (fun h_4 => ?_)
    rotate_left
    · exfalso; exact absurd hok (bite.mp (by first | exact h_4 | exact Classical.not_not.mp h_4))
    refine z_aload_n (i := 0) dX7_sures_13 rfl rfl ?_
    refine z_getf dX7_sures_14 f_X7_55 (by first | decide | assumption | omega) rfl (by rfl) ?_
    refine z_iload_n (i := 1) dX7_sures_17 rfl rfl ?_
    refine z_Vb (As := [_]) dX7_sures_18 (by rfl) v_X3_isMissing l_X7_219 (by first | decide | assumption | omega) rfl rfl rfl (by omega) (by decide) (Nat.le_of_ble_eq_true rfl) ?_
    refine s_isMissing hj ?_
    rw [g1]
    refine z_if_eq 30 dX7_sures_21 (by decide) (fun h_21 => ?_) (fun h_21 => ?_)
    · refine z_aload_n (i := 0) dX7_sures_30 rfl rfl ?_
      refine z_getf dX7_sures_31 f_X7_55 (by first | decide | assumption | omega) rfl (by rfl) ?_
      refine z_getf dX7_sures_34 f_X7_222 (by first | decide | assumption | omega) rfl (by rfl) ?_
      refine z_iload_n (i := 1) dX7_sures_37 rfl rfl ?_
      refine z_aald (j := j) dX7_sures_38 (by rfl) (by first | decide | omega) (by first | decide | omega) ?_
      refine z_astore_n (i := 2) [_, _, _, _, _] dX7_sures_39 rfl (by decide) rfl rfl ?_
      refine z_aload_n (i := 0) dX7_sures_40 rfl rfl ?_
      refine z_getf dX7_sures_41 f_X7_55 (by first | decide | assumption | omega) rfl (by rfl) ?_
      refine z_getf dX7_sures_44 f_X7_226 (by first | decide | assumption | omega) rfl (by rfl) ?_
      refine z_iload_n (i := 1) dX7_sures_47 rfl rfl ?_
      refine z_iald (j := j) dX7_sures_48 (by first | decide | assumption | omega) rfl (by rfl) (by first | decide | omega) (by first | decide | omega) ?_
      refine z_aload_n (i := 0) dX7_sures_49 rfl rfl ?_
      refine z_getf dX7_sures_50 f_X7_10 (by first | decide | assumption | omega) rfl (by rfl) ?_
      refine z_getf dX7_sures_53 f_X7_34 (by first | decide | assumption | omega) rfl (by rfl) ?_
      refine z_getf dX7_sures_56 f_X7_77 (by first | decide | assumption | omega) rfl (by rfl) ?_
      rw [g3, es, hS.1.1]
      refine z_min dX7_sures_59 (by omega) (Nat.le_of_ble_eq_true rfl) l_X7_266 w_minS w_mathI w_minC ?_
      rw [mn_sym, emin]
      refine z_istore_n (i := 3) [_, _, _, _, _] dX7_sures_62 rfl (by decide) rfl rfl ?_
      refine z_iconst (v := 0) dX7_sures_63 (by decide) ?_
      refine z_istore (i := 4) [_, _, _, _, _] dX7_sures_64 (by decide) rfl rfl ?_
      exact loop (bite.mp (by first | exact h_21 | exact Classical.not_not.mp h_21)) (M + 1) 0 σ.1 c (by omega) (by omega) hS hI (fun _ _ => rfl) rfl
    · refine z_aload_n (i := 0) dX7_sures_24 rfl rfl ?_
      refine z_iconst (v := 2) dX7_sures_25 (by decide) ?_
      refine z_Vi (As := [_]) dX7_sures_26 (by rfl) v_X7_refuse l_X7_73 (by first | decide | assumption | omega) rfl rfl rfl (by omega) (by decide) (Nat.le_of_ble_eq_true rfl) ?_
      refine s_refuse (by rfl) (by decide) ?_
      rw [if_pos (Classical.byContradiction (fun q => h_21 (bite.mpr q)))] at hQ
      exact z_ret dX7_sures_29 (WX_err hX hQ) trivial rfl
  · unfold o_sures at hQ
    rw [if_neg hok] at hQ
    refine z_iload_n (i := 1) dX7_sures_0 rfl rfl ?_
    refine z_Sb (As := [_]) dX7_sures_1 (by rfl) v_X7_isSheet l_X7_216 rfl (by omega) (by decide) (Nat.le_of_ble_eq_true rfl) ?_
    refine s_isSheet (by omega) ?_
    refine z_if_ne 13 dX7_sures_4 (by decide) (fun h_4 => ?_) (fun h_4 => ?_)
    · exfalso; exact hok (Classical.byContradiction (fun q => h_4 (bite.mpr q)))
    refine z_aload_n (i := 0) dX7_sures_7 rfl rfl ?_
    refine z_iconst (v := 1) dX7_sures_8 (by decide) ?_
    refine z_Vi (As := [_]) dX7_sures_9 (by rfl) v_X7_refuse l_X7_73 (by first | decide | assumption | omega) rfl rfl rfl (by omega) (by decide) (Nat.le_of_ble_eq_true rfl) ?_
    refine s_refuse (by rfl) (by decide) ?_
    exact z_ret dX7_sures_12 (WX_err hX hQ) trivial rfl
end X8
