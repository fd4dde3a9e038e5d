/-! the reference: what one sees, how one walks, hours -/
theorem hdF_nI {h : Nat} (hh : h < 1000) (v : Int32) : ∃ j : Nat, j ≤ h ∧ hdF 0 (nI h) v = nI j := by
  unfold hdF
  split
  · exact ⟨0, by omega, rfl⟩
  · split
    · exact ⟨h, by omega, rfl⟩
    · next h1 h2 =>
      obtain ⟨j, hj, e⟩ := nI_of2 (x := v) (M := nI h) (n := h) (nI_toInt (by omega)) (by grind) (by grind)
      exact ⟨j, hj, e⟩
theorem min_nI {x y : Int32} {a b : Nat} (hx : ∃ j : Nat, j ≤ a ∧ x = nI j) (hy : ∃ j : Nat, j ≤ b ∧ y = nI j) (ha : a < 1000) (hb : b < 1000) : ∃ j : Nat, j ≤ a ∧ (if x < y then x else y) = nI j := by
  obtain ⟨i, hi, rfl⟩ := hx
  obtain ⟨j, hj, rfl⟩ := hy
  have := nI_ltI (a := i) (b := j) (by omega) (by omega)
  split
  · exact ⟨i, hi, rfl⟩
  · next h => exact ⟨j, by have := mt this.mpr h; omega, rfl⟩
theorem wfT_up {f : zN} {u i : Nat} {x : Int32} (hi : i < 38) (h : wfT f u) : wfT (upd f i x) u := by
  have e : ∀ j, 38 ≤ j → upd f i x j = f j := fun j hj => pk_un (by omega)
  obtain ⟨n, h1, h2, h3⟩ := h
  refine ⟨n, h1, (e _ (by omega)).trans h2, fun hn => ?_⟩
  obtain ⟨h4, h5⟩ := h3 hn
  refine ⟨?_, fun k hk hw => ?_⟩
  · have : ∀ k, dpR (upd f i x) (38 + 125 * u) k = dpR f (38 + 125 * u) k := by
      intro k
      induction k with
      | zero => rfl
      | succ k ih => simp only [dpR, ih]; rw [e _ (by omega), e _ (by omega)]
    rw [this]
    exact h4
  · rw [e _ (by omega)] at hw
    rw [e _ (by omega)]
    exact h5 k hk hw
theorem vaF_up {f : zN} {n i : Nat} {x : Int32} (hi : i < 38) (h5 : i ≠ 5) (h : vaF f n) : vaF (upd f i x) n := ⟨(pk_un (Ne.symm h5)).trans h.1, h.2.1, wfT_up hi h.2.2.1, wfT_up hi h.2.2.2⟩
theorem vaF_wk {p n : Nat} {fall : Bool} (hp : p < 6) : ∀ {s : Nat} {f : zN}, vaF f n → vaF (wkF p fall s f) n
  | 0, f, h => h
  | s + 1, f, h => by
    unfold wkF
    split
    · split
      · split
        · exact vaF_up (by omega) (by omega) (vaF_up (by omega) (by omega) h)
        · exact h
      · exact vaF_wk hp (vaF_up (by omega) (by omega) (vaF_up (by omega) (by omega) h))
    · exact h
theorem vaF_hrN {n : Nat} {f : zN} (h : vaF f n) : ∀ {p : Nat}, p ≤ 6 → vaF (hrN f p) n
  | 0, _ => h
  | p + 1, hp => by
    unfold hrN
    split
    · exact vaF_wk (by omega) (vaF_hrN h (by omega))
    · exact vaF_hrN h (by omega)
theorem vaF_hr {n : Nat} {f : zN} (h : vaF f n) : vaF (hrF f) n := by
  unfold hrF
  rw [h.1, pn_nI (by have := h.2.1; omega)]
  exact vaF_up (by omega) (by omega) (vaF_hrN h h.2.1)
section M4
variable {l : Launch} {E : zE} {ad : Nat → Nat} {c : zS} {Qf : Int32 → zS → Prop} {d : Nat}
theorem s_X8_clearOf {f : zN} {p n : Nat} (hf : c 52 = f) (hv : vaF f n) (hp : p < n) (hd : 3 ≤ d) (hQ : ∀ c', zfm c f c' → Qf (cleF f p) c') : zCl l E ad mX8_clearOf d [.ref (ad 51), .int (nI p)] c Qf := by
  subst hf
  obtain ⟨hn, hn6, hw0, hw1⟩ := id hv
  refine z_enter (own := RX8) [some (.ref (ad 51)), some (.int (nI p))] (by decide +kernel) rfl rfl rfl (Nat.le_of_ble_eq_true rfl) ?_
  refine z_aload_n (i := 0) dX8_clearOf_0 rfl rfl ?_
  refine z_aload_n (i := 0) dX8_clearOf_1 rfl rfl ?_
  refine z_iload_n (i := 1) dX8_clearOf_2 rfl rfl ?_
  refine z_Vi (As := [_]) dX8_clearOf_3 (by rfl) v_X8_seesOf l_X8_124 (by first | decide | assumption | omega) rfl rfl rfl (by omega) (by decide) (Nat.le_of_ble_eq_true rfl) ?_
  refine s_X8_seesOf (n := n) (by omega) (by omega) hn hn6 ?_
  refine z_aload_n (i := 0) dX8_clearOf_6 rfl rfl ?_
  refine z_iload_n (i := 1) dX8_clearOf_7 rfl rfl ?_
  refine z_iconst (v := 2) dX8_clearOf_8 (by decide) ?_
  refine z_Vi (As := [_, _]) dX8_clearOf_9 (by rfl) v_X8_its l_X8_111 (by first | decide | assumption | omega) rfl rfl rfl (by omega) (by decide) (Nat.le_of_ble_eq_true rfl) ?_
  first | refine s_X8_its0 (by omega) ?_ | refine s_X8_its1 (by omega) ?_ | refine s_X8_its2 (by omega) ?_ | refine s_X8_its3 (by omega) ?_ | refine s_X8_its4 (by omega) ?_
  refine z_aload_n (i := 0) dX8_clearOf_12 rfl rfl ?_
  refine z_getf dX8_clearOf_13 f_X8_7 (by first | decide | assumption | omega) rfl (by rfl) ?_
  refine z_iconst (v := 0) dX8_clearOf_16 (by decide) ?_
  refine z_iald dX8_clearOf_17 (by first | decide | assumption | omega) rfl (by rfl) (by first | decide | omega) (by first | decide | omega) ?_
  refine z_bipush (v := 24) dX8_clearOf_18 (by decide) ?_
  refine z_irem dX8_clearOf_20 (by first | decide | assumption) ?_
  refine z_Vi (As := [_, _, _]) dX8_clearOf_21 (by rfl) v_X8_clearTold l_X8_127 (by first | decide | assumption | omega) rfl rfl rfl (by omega) (by decide) (Nat.le_of_ble_eq_true rfl) ?_
  refine s_X8_clearTold (by first | assumption | rfl) (by assumption) (by omega) (fun c' hc' => ?_)
  exact z_ret dX8_clearOf_24 (hQ c' hc') trivial rfl
theorem s_X8_paceOf {f : zN} {p n : Nat} (hf : c 52 = f) (hv : vaF f n) (hp : p < n) (hd : 4 ≤ d) (hQ : ∀ c', zfm c f c' → Qf (pacF f p) c') : zCl l E ad mX8_paceOf d [.ref (ad 51), .int (nI p)] c Qf := by
  subst hf
  obtain ⟨hn, hn6, hw0, hw1⟩ := id hv
  refine z_enter (own := RX8) [some (.ref (ad 51)), some (.int (nI p))] (by decide +kernel) rfl rfl rfl (Nat.le_of_ble_eq_true rfl) ?_
  refine z_aload_n (i := 0) dX8_paceOf_0 rfl rfl ?_
  refine z_aload_n (i := 0) dX8_paceOf_1 rfl rfl ?_
  refine z_iload_n (i := 1) dX8_paceOf_2 rfl rfl ?_
  refine z_Vi (As := [_]) dX8_paceOf_3 (by rfl) v_X8_clearOf l_X8_130 (by first | decide | assumption | omega) rfl rfl rfl (by omega) (by decide) (Nat.le_of_ble_eq_true rfl) ?_
  refine s_X8_clearOf (by first | assumption | rfl) (by assumption) (by omega) (by omega) (fun c' hc' => ?_)
  refine z_aload_n (i := 0) dX8_paceOf_6 rfl rfl ?_
  refine z_iload_n (i := 1) dX8_paceOf_7 rfl rfl ?_
  refine z_iconst (v := 1) dX8_paceOf_8 (by decide) ?_
  refine z_Vi (As := [_, _]) dX8_paceOf_9 (by rfl) v_X8_its l_X8_111 (by first | decide | assumption | omega) rfl rfl rfl (by omega) (by decide) (Nat.le_of_ble_eq_true rfl) ?_
  first | refine s_X8_its0 (by omega) ?_ | refine s_X8_its1 (by omega) ?_ | refine s_X8_its2 (by omega) ?_ | refine s_X8_its3 (by omega) ?_ | refine s_X8_its4 (by omega) ?_
  refine z_aload_n (i := 0) dX8_paceOf_12 rfl rfl ?_
  refine z_iload_n (i := 1) dX8_paceOf_13 rfl rfl ?_
  refine z_iconst (v := 0) dX8_paceOf_14 (by decide) ?_
  refine z_Vi (As := [_, _]) dX8_paceOf_15 (by rfl) v_X8_its l_X8_111 (by first | decide | assumption | omega) rfl rfl rfl (by omega) (by decide) (Nat.le_of_ble_eq_true rfl) ?_
  first | refine s_X8_its0 (by omega) ?_ | refine s_X8_its1 (by omega) ?_ | refine s_X8_its2 (by omega) ?_ | refine s_X8_its3 (by omega) ?_ | refine s_X8_its4 (by omega) ?_
  refine z_Vi (As := [_, _, _]) dX8_paceOf_18 (by rfl) v_X8_paceTold l_X8_133 (by first | decide | assumption | omega) rfl rfl rfl (by omega) (by decide) (Nat.le_of_ble_eq_true rfl) ?_
  rw [hc'.1]
  refine s_X8_paceTold hc'.1 hw1 (by omega) (fun c2 hc2 => ?_)
  exact z_ret dX8_paceOf_21 (hQ c2 (zfm_tr hc' hc2)) trivial rfl
theorem s_X8_walks1 {f : zN} {p n : Nat} (hf : c 52 = f) (hv : vaF f n) (hp : p < n) (hd : 4 ≤ d) (hQ : ∀ c', zfm c (wkF p (faF f p) (stF f p) f) c' → Qf 0 c') : zCl l E ad mX8_walks1 d [.ref (ad 51), .int (nI p)] c Qf := by
  subst hf
  obtain ⟨hn, hn6, hw0, hw1⟩ := id hv
  obtain ⟨S, hS3, hS⟩ := min_nI (hdF_nI (h := 3) (by decide) (if 0 < c 52 163 then txF (c 52) 1 (cleF (c 52) p) (c 52 (8 + 5 * p + 1)) (c 52 (8 + 5 * p)) else if 3 < cleF (c 52) p then 2 else 1)) (hdF_nI (h := 20) (by decide) (if 0 < c 52 38 then txF (c 52) 0 (seF (c 52) p) (c 52 (8 + 5 * p + 2)) (c 52 0 - c 52 0 / 24 * 24) else seF (c 52) p)) (by decide) (by decide)
  have hS' : (if pacF (c 52) p < cleF (c 52) p then pacF (c 52) p else cleF (c 52) p) = nI S := hS
  have hst : stF (c 52) p = S := by unfold stF; rw [hS', pn_nI (by omega)]
  rw [hst] at hQ
  generalize hfb : faF (c 52) p = fb at hQ
  refine z_enter (own := RX8) [some (.ref (ad 51)), some (.int (nI p)), none, none, none, none, none, none, none] (by decide +kernel) rfl rfl rfl (Nat.le_of_ble_eq_true rfl) ?_
  have off : ∀ (k : Int32) (F : zN) (c1 : zS) (x2 x3 x8 : Option Value) (y : Int32), zfm c F c1 → (∀ c', zfm c F c' → Qf 0 c') → zW l E ad RX8 cX8_walks1 9 0 d Qf 49 [some (.ref (ad 51)), some (.int (nI p)), x2, x3, some (.int (nI S)), some (.int y), some (.int 0), some (.int k), x8] [] c1 := by
    intro k F c1 x2 x3 x8 y hc1 hq
    refine z_iload (i := 7) dX8_walks1_49 rfl ?_
    refine z_iload (i := 4) dX8_walks1_51 rfl ?_
    refine z_icmp_ge 144 dX8_walks1_53 (by decide) (fun h_53 => ?_) (fun h_53 => ?_)
    · exact z_ret (r := 0) dX8_walks1_144 (hq c1 hc1) rfl rfl
    · refine z_iload (i := 6) dX8_walks1_56 rfl ?_
      refine z_if_eq 144 dX8_walks1_58 (by decide) (fun h_58 => ?_) (fun h_58 => ?_)
      rotate_left
      · exact absurd rfl h_58
      exact z_ret (r := 0) dX8_walks1_144 (hq c1 hc1) rfl rfl
  have loop : ∀ (r k : Nat) (F : zN) (c1 : zS) (x2 x3 x8 : Option Value), S - k < r → k ≤ S → zfm c F c1 → (∀ c', zfm c (wkF p fb (S - k) F) c' → Qf 0 c') → zW l E ad RX8 cX8_walks1 9 0 d Qf 49 [some (.ref (ad 51)), some (.int (nI p)), x2, x3, some (.int (nI S)), some (.int (if fb = true then 1 else 0)), some (.int 1), some (.int (nI k)), x8] [] c1 := by
    intro r
    induction r with
    | zero => intro k F c1 x2 x3 x8 h; omega
    | succ r ih =>
      intro k F c1 x2 x3 x8 hr hk hc1 hq
      have hlt := nI_leI (a := S) (b := k) (by omega) (by omega)
      have e1 := hc1.1
      have hD1 : k < S → c1 52 (8 + 5 * p + 3) < 15 → (c1 52 1 >>> ((c1 52 (8 + 5 * p + 3) + 1) &&& 31)) &&& 1 = 1 → zW l E ad RX8 cX8_walks1 9 0 d Qf 86 [some (.ref (ad 51)), some (.int (nI p)), x2, x3, some (.int (nI S)), some (.int (if fb = true then 1 else 0)), some (.int 1), some (.int (nI k)), some (.int 1)] [] c1 := by
        intro hks h15 hD
        obtain ⟨s, es⟩ : ∃ s, S - k = s + 1 := ⟨S - k - 1, by omega⟩
        rw [es] at hq
        unfold wkF at hq
        rw [← e1, if_pos h15, if_pos hD] at hq
        refine z_iload (i := 8) dX8_walks1_86 rfl ?_
        refine z_if_ne 95 dX8_walks1_88 (by decide) (fun h_88 => ?_) (fun h_88 => ?_)
        rotate_left
        · first | exact absurd h_88 (by decide) | exact absurd h_127 (by decide)
        refine z_iconst (v := 0) dX8_walks1_95 (by decide) ?_
        refine z_istore (i := 6) [_, _, _, _, _, _, _, _, _] dX8_walks1_96 (by decide) rfl rfl ?_
        refine z_iload (i := 8) dX8_walks1_98 rfl ?_
        refine z_if_eq 108 dX8_walks1_100 (by decide) (fun h_100 => ?_) (fun h_100 => ?_)
        · exact absurd h_100 (by decide)
        refine z_iload (i := 5) dX8_walks1_103 rfl ?_
        refine z_if_eq 138 dX8_walks1_105 (by decide) (fun h_105 => ?_) (fun h_105 => ?_)
        · refine z_iinc (i := 7) (v := 1) [_, _, _, _, _, _, _, _, _] dX8_walks1_138 rfl (by decide) (by decide) rfl rfl ?_
          refine z_goto 49 dX8_walks1_141 (by decide) ?_
          first
          | (refine off _ _ _ _ _ _ _ (zfm_up (zfm_up hc1 _) _) ?_
             rw [if_pos (by grind)] at hq
             exact hq)
          | (refine off _ _ _ _ _ _ _ hc1 ?_
             rw [if_neg (by grind), e1] at hq
             exact hq)
        · refine z_aload_n (i := 0) dX8_walks1_108 rfl rfl ?_
          refine z_iload_n (i := 1) dX8_walks1_109 rfl rfl ?_
          refine z_iconst (v := 3) dX8_walks1_110 (by decide) ?_
          refine z_aload_n (i := 0) dX8_walks1_111 rfl rfl ?_
          refine z_iload_n (i := 1) dX8_walks1_112 rfl rfl ?_
          refine z_iconst (v := 3) dX8_walks1_113 (by decide) ?_
          refine z_Vi (As := [_, _]) dX8_walks1_114 (by rfl) v_X8_its l_X8_111 (by first | decide | assumption | omega) rfl rfl rfl (by omega) (by decide) (Nat.le_of_ble_eq_true rfl) ?_
          first | refine s_X8_its0 (by omega) ?_ | refine s_X8_its1 (by omega) ?_ | refine s_X8_its2 (by omega) ?_ | refine s_X8_its3 (by omega) ?_ | refine s_X8_its4 (by omega) ?_
          refine z_iconst (v := 1) dX8_walks1_117 (by decide) ?_
          refine z_iadd dX8_walks1_118 ?_
          refine z_Vv (As := [_, _, _]) dX8_walks1_119 (by rfl) v_X8_lays1 l_X8_142 (by first | decide | assumption | omega) rfl rfl rfl (by omega) (by decide) (Nat.le_of_ble_eq_true rfl) ?_
          first | refine s_X8_lays10 (by omega) ?_ | refine s_X8_lays11 (by omega) ?_ | refine s_X8_lays12 (by omega) ?_ | refine s_X8_lays13 (by omega) ?_ | refine s_X8_lays14 (by omega) ?_
          refine z_aload_n (i := 0) dX8_walks1_122 rfl rfl ?_
          refine z_iload_n (i := 1) dX8_walks1_123 rfl rfl ?_
          refine z_iconst (v := 4) dX8_walks1_124 (by decide) ?_
          refine z_iload (i := 8) dX8_walks1_125 rfl ?_
          refine z_if_eq 134 dX8_walks1_127 (by decide) (fun h_127 => ?_) (fun h_127 => ?_)
          · first | exact absurd h_88 (by decide) | exact absurd h_127 (by decide)
          refine z_iconst (v := 1) dX8_walks1_130 (by decide) ?_
          refine z_goto 135 dX8_walks1_131 (by decide) ?_
          refine z_Vv (As := [_, _, _]) dX8_walks1_135 (by rfl) v_X8_lays1 l_X8_142 (by first | decide | assumption | omega) rfl rfl rfl (by omega) (by decide) (Nat.le_of_ble_eq_true rfl) ?_
          first | refine s_X8_lays10 (by omega) ?_ | refine s_X8_lays11 (by omega) ?_ | refine s_X8_lays12 (by omega) ?_ | refine s_X8_lays13 (by omega) ?_ | refine s_X8_lays14 (by omega) ?_
          refine z_iinc (i := 7) (v := 1) [_, _, _, _, _, _, _, _, _] dX8_walks1_138 rfl (by decide) (by decide) rfl rfl ?_
          refine z_goto 49 dX8_walks1_141 (by decide) ?_
          first
          | (refine off _ _ _ _ _ _ _ (zfm_up (zfm_up hc1 _) _) ?_
             rw [if_pos (by grind)] at hq
             exact hq)
          | (refine off _ _ _ _ _ _ _ hc1 ?_
             rw [if_neg (by grind), e1] at hq
             exact hq)
      have hD0 : k < S → c1 52 (8 + 5 * p + 3) < 15 → ¬ (c1 52 1 >>> ((c1 52 (8 + 5 * p + 3) + 1) &&& 31)) &&& 1 = 1 → zW l E ad RX8 cX8_walks1 9 0 d Qf 86 [some (.ref (ad 51)), some (.int (nI p)), x2, x3, some (.int (nI S)), some (.int (if fb = true then 1 else 0)), some (.int 1), some (.int (nI k)), some (.int 0)] [] c1 := by
        intro hks h15 hD
        obtain ⟨s, es⟩ : ∃ s, S - k = s + 1 := ⟨S - k - 1, by omega⟩
        rw [es] at hq
        unfold wkF at hq
        rw [← e1, if_pos h15, if_neg hD] at hq
        refine z_iload (i := 8) dX8_walks1_86 rfl ?_
        refine z_if_ne 95 dX8_walks1_88 (by decide) (fun h_88 => ?_) (fun h_88 => ?_)
        · exact absurd rfl h_88
        refine z_iconst (v := 1) dX8_walks1_91 (by decide) ?_
        refine z_goto 96 dX8_walks1_92 (by decide) ?_
        refine z_istore (i := 6) [_, _, _, _, _, _, _, _, _] dX8_walks1_96 (by decide) rfl rfl ?_
        refine z_iload (i := 8) dX8_walks1_98 rfl ?_
        refine z_if_eq 108 dX8_walks1_100 (by decide) (fun h_100 => ?_) (fun h_100 => ?_)
        rotate_left
        · exact absurd rfl h_100
        refine z_aload_n (i := 0) dX8_walks1_108 rfl rfl ?_
        refine z_iload_n (i := 1) dX8_walks1_109 rfl rfl ?_
        refine z_iconst (v := 3) dX8_walks1_110 (by decide) ?_
        refine z_aload_n (i := 0) dX8_walks1_111 rfl rfl ?_
        refine z_iload_n (i := 1) dX8_walks1_112 rfl rfl ?_
        refine z_iconst (v := 3) dX8_walks1_113 (by decide) ?_
        refine z_Vi (As := [_, _]) dX8_walks1_114 (by rfl) v_X8_its l_X8_111 (by first | decide | assumption | omega) rfl rfl rfl (by omega) (by decide) (Nat.le_of_ble_eq_true rfl) ?_
        first | refine s_X8_its0 (by omega) ?_ | refine s_X8_its1 (by omega) ?_ | refine s_X8_its2 (by omega) ?_ | refine s_X8_its3 (by omega) ?_ | refine s_X8_its4 (by omega) ?_
        refine z_iconst (v := 1) dX8_walks1_117 (by decide) ?_
        refine z_iadd dX8_walks1_118 ?_
        refine z_Vv (As := [_, _, _]) dX8_walks1_119 (by rfl) v_X8_lays1 l_X8_142 (by first | decide | assumption | omega) rfl rfl rfl (by omega) (by decide) (Nat.le_of_ble_eq_true rfl) ?_
        first | refine s_X8_lays10 (by omega) ?_ | refine s_X8_lays11 (by omega) ?_ | refine s_X8_lays12 (by omega) ?_ | refine s_X8_lays13 (by omega) ?_ | refine s_X8_lays14 (by omega) ?_
        refine z_aload_n (i := 0) dX8_walks1_122 rfl rfl ?_
        refine z_iload_n (i := 1) dX8_walks1_123 rfl rfl ?_
        refine z_iconst (v := 4) dX8_walks1_124 (by decide) ?_
        refine z_iload (i := 8) dX8_walks1_125 rfl ?_
        refine z_if_eq 134 dX8_walks1_127 (by decide) (fun h_127 => ?_) (fun h_127 => ?_)
        rotate_left
        · exact absurd rfl h_127
        refine z_iconst (v := 0) dX8_walks1_134 (by decide) ?_
        refine z_Vv (As := [_, _, _]) dX8_walks1_135 (by rfl) v_X8_lays1 l_X8_142 (by first | decide | assumption | omega) rfl rfl rfl (by omega) (by decide) (Nat.le_of_ble_eq_true rfl) ?_
        first | refine s_X8_lays10 (by omega) ?_ | refine s_X8_lays11 (by omega) ?_ | refine s_X8_lays12 (by omega) ?_ | refine s_X8_lays13 (by omega) ?_ | refine s_X8_lays14 (by omega) ?_
        refine z_iinc (i := 7) (v := 1) [_, _, _, _, _, _, _, _, _] dX8_walks1_138 rfl (by decide) (by decide) rfl rfl ?_
        refine z_goto 49 dX8_walks1_141 (by decide) ?_
        rw [nI_1]
        refine ih (k + 1) _ _ _ _ _ (by omega) (by omega) (zfm_up (zfm_up hc1 _) _) ?_
        rw [show S - (k + 1) = s by omega]
        exact hq
      refine z_iload (i := 7) dX8_walks1_49 rfl ?_
      refine z_iload (i := 4) dX8_walks1_51 rfl ?_
      refine z_icmp_ge 144 dX8_walks1_53 (by decide) (fun h_53 => ?_) (fun h_53 => ?_)
      · first
        | (have hkS : k = S := by have := hlt.mp h_53; omega
           subst hkS
           rw [Nat.sub_self] at hq
           exact z_ret (r := 0) dX8_walks1_144 (hq c1 hc1) rfl rfl)
        | (obtain ⟨s, es⟩ : ∃ s, S - k = s + 1 := ⟨S - k - 1, by omega⟩
           rw [es] at hq
           unfold wkF at hq
           rw [← e1, if_neg (by grind)] at hq
           rw [e1] at hq
           exact z_ret (r := 0) dX8_walks1_144 (hq c1 hc1) rfl rfl)
      · have hks : k < S := by have := mt hlt.mpr h_53; omega
        refine z_iload (i := 6) dX8_walks1_56 rfl ?_
        refine z_if_eq 144 dX8_walks1_58 (by decide) (fun h_58 => ?_) (fun h_58 => ?_)
        · exact absurd h_58 (by decide)
        refine z_aload_n (i := 0) dX8_walks1_61 rfl rfl ?_
        refine z_iload_n (i := 1) dX8_walks1_62 rfl rfl ?_
        refine z_iconst (v := 3) dX8_walks1_63 (by decide) ?_
        refine z_Vi (As := [_, _]) dX8_walks1_64 (by rfl) v_X8_its l_X8_111 (by first | decide | assumption | omega) rfl rfl rfl (by omega) (by decide) (Nat.le_of_ble_eq_true rfl) ?_
        first | refine s_X8_its0 (by omega) ?_ | refine s_X8_its1 (by omega) ?_ | refine s_X8_its2 (by omega) ?_ | refine s_X8_its3 (by omega) ?_ | refine s_X8_its4 (by omega) ?_
        refine z_bipush (v := 15) dX8_walks1_67 (by decide) ?_
        refine z_icmp_ge 144 dX8_walks1_69 (by decide) (fun h_69 => ?_) (fun h_69 => ?_)
        · first
          | (have hkS : k = S := by have := hlt.mp h_53; omega
             subst hkS
             rw [Nat.sub_self] at hq
             exact z_ret (r := 0) dX8_walks1_144 (hq c1 hc1) rfl rfl)
          | (obtain ⟨s, es⟩ : ∃ s, S - k = s + 1 := ⟨S - k - 1, by omega⟩
             rw [es] at hq
             unfold wkF at hq
             rw [← e1, if_neg (by grind)] at hq
             rw [e1] at hq
             exact z_ret (r := 0) dX8_walks1_144 (hq c1 hc1) rfl rfl)
        · refine z_aload_n (i := 0) dX8_walks1_72 rfl rfl ?_
          refine z_aload_n (i := 0) dX8_walks1_73 rfl rfl ?_
          refine z_iload_n (i := 1) dX8_walks1_74 rfl rfl ?_
          refine z_iconst (v := 3) dX8_walks1_75 (by decide) ?_
          refine z_Vi (As := [_, _]) dX8_walks1_76 (by rfl) v_X8_its l_X8_111 (by first | decide | assumption | omega) rfl rfl rfl (by omega) (by decide) (Nat.le_of_ble_eq_true rfl) ?_
          first | refine s_X8_its0 (by omega) ?_ | refine s_X8_its1 (by omega) ?_ | refine s_X8_its2 (by omega) ?_ | refine s_X8_its3 (by omega) ?_ | refine s_X8_its4 (by omega) ?_
          refine z_iconst (v := 1) dX8_walks1_79 (by decide) ?_
          refine z_iadd dX8_walks1_80 ?_
          refine z_Vb (As := [_]) dX8_walks1_81 (by rfl) v_X8_isDrop l_X8_139 (by first | decide | assumption | omega) rfl rfl rfl (by omega) (by decide) (Nat.le_of_ble_eq_true rfl) ?_
          refine s_X8_isDrop ?_
          refine z_istore (i := 8) [_, _, _, _, _, _, _, _, _] dX8_walks1_84 (by decide) rfl rfl ?_
          by_cases hD : (c1 52 1 >>> ((c1 52 (8 + 5 * p + 3) + 1) &&& 31)) &&& 1 = 1
          · rw [if_pos hD]; exact hD1 hks (by grind) hD
          · rw [if_neg hD]; exact hD0 hks (by grind) hD
  have cut34 : ∀ (x : Int32) (c1 : zS) (x2 x3 : Int32), x = nI S → zfm c (c 52) c1 → zW l E ad RX8 cX8_walks1 9 0 d Qf 34 [some (.ref (ad 51)), some (.int (nI p)), some (.int x2), some (.int x3), none, none, none, none, none] [.int x] c1 := by
    intro x c1 x2 x3 hx hc1
    subst hx
    refine z_istore (i := 4) [_, _, _, _, _, _, _, _, _] dX8_walks1_34 (by decide) rfl rfl ?_
    refine z_aload_n (i := 0) dX8_walks1_36 rfl rfl ?_
    refine z_iload_n (i := 1) dX8_walks1_37 rfl rfl ?_
    refine z_Vb (As := [_]) dX8_walks1_38 (by rfl) v_X8_doesFall l_X8_136 (by first | decide | assumption | omega) rfl rfl rfl (by omega) (by decide) (Nat.le_of_ble_eq_true rfl) ?_
    refine s_X8_doesFall (by omega) (by omega) ?_
    refine z_istore (i := 5) [_, _, _, _, _, _, _, _, _] dX8_walks1_41 (by decide) rfl rfl ?_
    refine z_iconst (v := 1) dX8_walks1_43 (by decide) ?_
    refine z_istore (i := 6) [_, _, _, _, _, _, _, _, _] dX8_walks1_44 (by decide) rfl rfl ?_
    refine z_iconst (v := 0) dX8_walks1_46 (by decide) ?_
    refine z_istore (i := 7) [_, _, _, _, _, _, _, _, _] dX8_walks1_47 (by decide) rfl rfl ?_
    rw [hc1.1, hfb]
    exact loop (S + 1) 0 _ _ _ _ _ (by omega) (by omega) hc1 hQ
  refine z_aload_n (i := 0) dX8_walks1_0 rfl rfl ?_
  refine z_iload_n (i := 1) dX8_walks1_1 rfl rfl ?_
  refine z_Vi (As := [_]) dX8_walks1_2 (by rfl) v_X8_clearOf l_X8_130 (by first | decide | assumption | omega) rfl rfl rfl (by omega) (by decide) (Nat.le_of_ble_eq_true rfl) ?_
  refine s_X8_clearOf (by first | assumption | rfl) (by assumption) (by omega) (by omega) (fun c' hc' => ?_)
  refine z_istore_n (i := 2) [_, _, _, _, _, _, _, _, _] dX8_walks1_5 rfl (by decide) rfl rfl ?_
  refine z_aload_n (i := 0) dX8_walks1_6 rfl rfl ?_
  refine z_iload_n (i := 2) dX8_walks1_7 rfl rfl ?_
  refine z_aload_n (i := 0) dX8_walks1_8 rfl rfl ?_
  refine z_iload_n (i := 1) dX8_walks1_9 rfl rfl ?_
  refine z_iconst (v := 1) dX8_walks1_10 (by decide) ?_
  refine z_Vi (As := [_, _]) dX8_walks1_11 (by rfl) v_X8_its l_X8_111 (by first | decide | assumption | omega) rfl rfl rfl (by omega) (by decide) (Nat.le_of_ble_eq_true rfl) ?_
  first | refine s_X8_its0 (by omega) ?_ | refine s_X8_its1 (by omega) ?_ | refine s_X8_its2 (by omega) ?_ | refine s_X8_its3 (by omega) ?_ | refine s_X8_its4 (by omega) ?_
  refine z_aload_n (i := 0) dX8_walks1_14 rfl rfl ?_
  refine z_iload_n (i := 1) dX8_walks1_15 rfl rfl ?_
  refine z_iconst (v := 0) dX8_walks1_16 (by decide) ?_
  refine z_Vi (As := [_, _]) dX8_walks1_17 (by rfl) v_X8_its l_X8_111 (by first | decide | assumption | omega) rfl rfl rfl (by omega) (by decide) (Nat.le_of_ble_eq_true rfl) ?_
  first | refine s_X8_its0 (by omega) ?_ | refine s_X8_its1 (by omega) ?_ | refine s_X8_its2 (by omega) ?_ | refine s_X8_its3 (by omega) ?_ | refine s_X8_its4 (by omega) ?_
  refine z_Vi (As := [_, _, _]) dX8_walks1_20 (by rfl) v_X8_paceTold l_X8_133 (by first | decide | assumption | omega) rfl rfl rfl (by omega) (by decide) (Nat.le_of_ble_eq_true rfl) ?_
  rw [hc'.1]
  refine s_X8_paceTold hc'.1 hw1 (by omega) (fun c2 hc2 => ?_)
  refine z_istore_n (i := 3) [_, _, _, _, _, _, _, _, _] dX8_walks1_23 rfl (by decide) rfl rfl ?_
  refine z_iload_n (i := 3) dX8_walks1_24 rfl rfl ?_
  refine z_iload_n (i := 2) dX8_walks1_25 rfl rfl ?_
  refine z_icmp_ge 33 dX8_walks1_26 (by decide) (fun h_26 => ?_) (fun h_26 => ?_)
  · refine z_iload_n (i := 2) dX8_walks1_33 rfl rfl ?_
    refine cut34 _ _ _ _ ?_ (zfm_tr hc' hc2)
    rw [← hS']
    unfold pacF
    grind
  · refine z_iload_n (i := 3) dX8_walks1_29 rfl rfl ?_
    refine z_goto 34 dX8_walks1_30 (by decide) ?_
    refine cut34 _ _ _ _ ?_ (zfm_tr hc' hc2)
    rw [← hS']
    unfold pacF
    grind
theorem s_X8_anHour {f : zN} {n : Nat} (hf : c 52 = f) (hv : vaF f n) (hd : 5 ≤ d) (hQ : ∀ c', zfm c (hrF f) c' → Qf 0 c') : zCl l E ad mX8_anHour d [.ref (ad 51)] c Qf := by
  subst hf
  obtain ⟨hn, hn6, hw0, hw1⟩ := id hv
  have hpn : pn (c 52 5) = n := by rw [hn]; exact pn_nI (by omega)
  unfold hrF at hQ
  rw [hpn] at hQ
  refine z_enter (own := RX8) [some (.ref (ad 51)), none] (by decide +kernel) rfl rfl rfl (Nat.le_of_ble_eq_true rfl) ?_
  have loop : ∀ (r k : Nat) (c1 : zS), n - k < r → k ≤ n → zfm c (hrN (c 52) k) c1 → zW l E ad RX8 cX8_anHour 2 0 d Qf 2 [some (.ref (ad 51)), some (.int (nI k))] [] c1 := by
    intro r
    induction r with
    | zero => intro k c1 h; omega
    | succ r ih =>
      intro k c1 hr hk hc1
      have hlt := nI_leI (a := n) (b := k) (by omega) (by omega)
      have e1 := hc1.1
      have hv1 := vaF_hrN hv (p := k) (by omega)
      rw [← e1] at hv1
      have h26 : ∀ c2, k < n → zfm c (hrN (c 52) (k + 1)) c2 → zW l E ad RX8 cX8_anHour 2 0 d Qf 26 [some (.ref (ad 51)), some (.int (nI k))] [] c2 := by
        intro c2 hkn hc2
        refine z_iinc (i := 1) (v := 1) [_, _] dX8_anHour_26 rfl (by decide) (by decide) rfl rfl ?_
        refine z_goto 2 dX8_anHour_29 (by decide) ?_
        rw [nI_1]; exact ih (k + 1) c2 (by omega) (by omega) hc2
      refine z_iload_n (i := 1) dX8_anHour_2 rfl rfl ?_
      refine z_aload_n (i := 0) dX8_anHour_3 rfl rfl ?_
      refine z_getf dX8_anHour_4 f_X8_7 (by first | decide | assumption | omega) rfl (by rfl) ?_
      refine z_iconst (v := 5) dX8_anHour_7 (by decide) ?_
      refine z_iald dX8_anHour_8 (by first | decide | assumption | omega) rfl (by rfl) (by first | decide | omega) (by first | decide | omega) ?_
      refine z_icmp_ge 32 dX8_anHour_9 (by decide) (fun h_9 => ?_) (fun h_9 => ?_)
      · have hkn : k = n := by rw [hv1.1] at h_9; have := hlt.mp h_9; omega
        subst hkn
        refine z_aload_n (i := 0) dX8_anHour_32 rfl rfl ?_
        refine z_getf dX8_anHour_33 f_X8_7 (by first | decide | assumption | omega) rfl (by rfl) ?_
        refine z_iconst (v := 0) dX8_anHour_36 (by decide) ?_
        refine z_dup2 dX8_anHour_37 rfl rfl ?_
        refine z_iald dX8_anHour_38 (by first | decide | assumption | omega) rfl (by rfl) (by first | decide | omega) (by first | decide | omega) ?_
        refine z_iconst (v := 1) dX8_anHour_39 (by decide) ?_
        refine z_iadd dX8_anHour_40 ?_
        refine z_iast dX8_anHour_41 (by first | decide | assumption | omega) (fun _ => rfl) (by rfl) (by first | decide | omega) (by first | decide | omega) ?_
        exact z_ret (r := 0) dX8_anHour_42 (hQ _ (by rw [← e1]; exact zfm_up hc1 _)) rfl rfl
      · have hkn : k < n := by rw [hv1.1] at h_9; have := mt hlt.mpr h_9; omega
        refine z_aload_n (i := 0) dX8_anHour_12 rfl rfl ?_
        refine z_iload_n (i := 1) dX8_anHour_13 rfl rfl ?_
        refine z_iconst (v := 4) dX8_anHour_14 (by decide) ?_
        refine z_Vi (As := [_, _]) dX8_anHour_15 (by rfl) v_X8_its l_X8_111 (by first | decide | assumption | omega) rfl rfl rfl (by omega) (by decide) (Nat.le_of_ble_eq_true rfl) ?_
        first | refine s_X8_its0 (by omega) ?_ | refine s_X8_its1 (by omega) ?_ | refine s_X8_its2 (by omega) ?_ | refine s_X8_its3 (by omega) ?_ | refine s_X8_its4 (by omega) ?_
        refine z_if_ne 26 dX8_anHour_18 (by decide) (fun h_18 => ?_) (fun h_18 => ?_)
        · first
          | (refine h26 _ hkn ?_
             unfold hrN
             rw [← e1, if_pos (by grind)]
             exact zfm_tr hc1 hc')
          | (refine h26 _ hkn ?_
             unfold hrN
             rw [← e1, if_neg (by grind), e1]
             exact hc1)
        · refine z_aload_n (i := 0) dX8_anHour_21 rfl rfl ?_
          refine z_iload_n (i := 1) dX8_anHour_22 rfl rfl ?_
          refine z_Vv (As := [_]) dX8_anHour_23 (by rfl) v_X8_walks1 l_X8_146 (by first | decide | assumption | omega) rfl rfl rfl (by omega) (by decide) (Nat.le_of_ble_eq_true rfl) ?_
          refine s_X8_walks1 rfl hv1 hkn (by omega) (fun c' hc' => ?_)
          first
          | (refine h26 _ hkn ?_
             unfold hrN
             rw [← e1, if_pos (by grind)]
             exact zfm_tr hc1 hc')
          | (refine h26 _ hkn ?_
             unfold hrN
             rw [← e1, if_neg (by grind), e1]
             exact hc1)
  refine z_iconst (v := 0) dX8_anHour_0 (by decide) ?_
  refine z_istore_n (i := 1) [_, _] dX8_anHour_1 rfl (by decide) rfl rfl ?_
  exact loop (n + 1) 0 c (by omega) (by omega) zfm_rf
theorem vaF_go {n : Nat} : ∀ {k : Nat} {f : zN}, vaF f n → vaF (goF k f) n
  | 0, _, h => h
  | k + 1, _, h => vaF_go (k := k) (vaF_hr h)
theorem s_X8_goes {f : zN} {n k : Nat} (hf : c 52 = f) (hv : vaF f n) (hd : 6 ≤ d) (hk : k ≤ 60) (hQ : ∀ c', zfm c (goF k f) c' → Qf 0 c') : zCl l E ad mX8_goes d [.ref (ad 51), .int (nI k)] c Qf := by
  subst hf
  refine z_enter (own := RX8) [some (.ref (ad 51)), some (.int (nI k)), none] (by decide +kernel) rfl rfl rfl (Nat.le_of_ble_eq_true rfl) ?_
  have loop : ∀ (r i : Nat) (F : zN) (c1 : zS), k - i < r → i ≤ k → vaF F n → zfm c F c1 → (∀ c', zfm c (goF (k - i) F) c' → Qf 0 c') → zW l E ad RX8 cX8_goes 3 0 d Qf 2 [some (.ref (ad 51)), some (.int (nI k)), some (.int (nI i))] [] c1 := by
    intro r
    induction r with
    | zero => intro i F c1 h; omega
    | succ r ih =>
      intro i F c1 hr hi hv1 hc1 hq
      have hlt := nI_leI (a := k) (b := i) (by omega) (by omega)
      refine z_iload_n (i := 2) dX8_goes_2 rfl rfl ?_
      refine z_iload_n (i := 1) dX8_goes_3 rfl rfl ?_
      refine z_icmp_ge 17 dX8_goes_4 (by decide) (fun h_4 => ?_) (fun h_4 => ?_)
      · have hik : i = k := by have := hlt.mp h_4; omega
        subst hik
        rw [Nat.sub_self] at hq
        exact z_ret (r := 0) dX8_goes_17 (hq c1 hc1) rfl rfl
      · refine z_aload_n (i := 0) dX8_goes_7 rfl rfl ?_
        refine z_Vv (As := []) dX8_goes_8 (by rfl) v_X8_anHour l_X8_150 (by first | decide | assumption | omega) rfl rfl rfl (by omega) (by decide) (Nat.le_of_ble_eq_true rfl) ?_
        refine s_X8_anHour hc1.1 hv1 (by omega) (fun c' hc' => ?_)
        refine z_iinc (i := 2) (v := 1) [_, _, _] dX8_goes_11 rfl (by decide) (by decide) rfl rfl ?_
        refine z_goto 2 dX8_goes_14 (by decide) ?_
        rw [nI_1]
        have hik : i < k := by have := mt hlt.mpr h_4; omega
        refine ih (i + 1) _ _ (by omega) (by omega) (vaF_hr hv1) (zfm_tr hc1 hc') ?_
        rw [show k - i = k - (i + 1) + 1 by omega] at hq
        exact hq
  refine z_iconst (v := 0) dX8_goes_0 (by decide) ?_
  refine z_istore_n (i := 2) [_, _, _] dX8_goes_1 rfl (by decide) rfl rfl ?_
  exact loop (k + 1) 0 _ c (by omega) (by omega) hv zfm_rf hQ
theorem s_X8_through {f : zN} {n : Nat} (hf : c 52 = f) (hv : vaF f n) (hd : 1 ≤ d) (hQ : Qf (thF f) c) : zCl l E ad mX8_through d [.ref (ad 51)] c Qf := by
  subst hf
  obtain ⟨hn, hn6, hw0, hw1⟩ := id hv
  have hpn : pn (c 52 5) = n := by rw [hn]; exact pn_nI (by omega)
  unfold thF at hQ
  rw [hpn] at hQ
  refine z_enter (own := RX8) [some (.ref (ad 51)), none, none] (by decide +kernel) rfl rfl rfl (Nat.le_of_ble_eq_true rfl) ?_
  have loop : ∀ (r k : Nat), n - k < r → k ≤ n → zW l E ad RX8 cX8_through 3 1 d Qf 4 [some (.ref (ad 51)), some (.int (thN (c 52) k)), some (.int (nI k))] [] c := by
    intro r
    induction r with
    | zero => intro k h; omega
    | succ r ih =>
      intro k hr hk
      have hlt := nI_leI (a := n) (b := k) (by omega) (by omega)
      have cut33 : ∀ x : Int32, thN (c 52) (k + 1) = thN (c 52) k ||| x → k < n → zW l E ad RX8 cX8_through 3 1 d Qf 33 [some (.ref (ad 51)), some (.int (thN (c 52) k)), some (.int (nI k))] [.int x, .int (thN (c 52) k)] c := by
        intro x hx hkn
        refine z_ior dX8_through_33 ?_
        refine z_istore_n (i := 1) [_, _, _] dX8_through_34 rfl (by decide) rfl rfl ?_
        refine z_iinc (i := 2) (v := 1) [_, _, _] dX8_through_35 rfl (by decide) (by decide) rfl rfl ?_
        refine z_goto 4 dX8_through_38 (by decide) ?_
        rw [nI_1, ← hx]; exact ih (k + 1) (by omega) (by omega)
      refine z_iload_n (i := 2) dX8_through_4 rfl rfl ?_
      refine z_aload_n (i := 0) dX8_through_5 rfl rfl ?_
      refine z_getf dX8_through_6 f_X8_7 (by first | decide | assumption | omega) rfl (by rfl) ?_
      refine z_iconst (v := 5) dX8_through_9 (by decide) ?_
      refine z_iald dX8_through_10 (by first | decide | assumption | omega) rfl (by rfl) (by first | decide | omega) (by first | decide | omega) ?_
      refine z_icmp_ge 41 dX8_through_11 (by decide) (fun h_11 => ?_) (fun h_11 => ?_)
      · refine z_iload_n (i := 1) dX8_through_41 rfl rfl ?_
        have hkn : k = n := by rw [hn] at h_11; have := hlt.mp h_11; omega
        subst hkn
        exact z_ret dX8_through_42 hQ trivial rfl
      · have hkn : k < n := by rw [hn] at h_11; have := mt hlt.mpr h_11; omega
        refine z_iload_n (i := 1) dX8_through_14 rfl rfl ?_
        refine z_aload_n (i := 0) dX8_through_15 rfl rfl ?_
        refine z_iload_n (i := 2) dX8_through_16 rfl rfl ?_
        refine z_iconst (v := 3) dX8_through_17 (by decide) ?_
        refine z_Vi (As := [_, _]) dX8_through_18 (by rfl) v_X8_its l_X8_111 (by first | decide | assumption | omega) rfl rfl rfl (by omega) (by decide) (Nat.le_of_ble_eq_true rfl) ?_
        first | refine s_X8_its0 (by omega) ?_ | refine s_X8_its1 (by omega) ?_ | refine s_X8_its2 (by omega) ?_ | refine s_X8_its3 (by omega) ?_ | refine s_X8_its4 (by omega) ?_
        refine z_bipush (v := 15) dX8_through_21 (by decide) ?_
        refine z_icmp_ne 32 dX8_through_23 (by decide) (fun h_23 => ?_) (fun h_23 => ?_)
        · refine z_iconst (v := 0) dX8_through_32 (by decide) ?_
          refine cut33 _ ?_ hkn
          simp only [thN]
          grind
        · refine z_iconst (v := 1) dX8_through_26 (by decide) ?_
          refine z_iload_n (i := 2) dX8_through_27 rfl rfl ?_
          refine z_ishl dX8_through_28 ?_
          refine z_goto 33 dX8_through_29 (by decide) ?_
          refine cut33 _ ?_ hkn
          simp only [thN]
          grind
  refine z_iconst (v := 0) dX8_through_0 (by decide) ?_
  refine z_istore_n (i := 1) [_, _, _] dX8_through_1 rfl (by decide) rfl rfl ?_
  refine z_iconst (v := 0) dX8_through_2 (by decide) ?_
  refine z_istore_n (i := 2) [_, _, _] dX8_through_3 rfl (by decide) rfl rfl ?_
  exact loop (n + 1) 0 (by omega) (by omega)
end M4
