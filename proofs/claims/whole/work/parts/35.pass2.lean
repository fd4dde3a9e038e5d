/-! the class: the hours of its passes -/
theorem mn_sym (x y : Int32) : (if y < x then y else x) = (if x < y then x else y) := by
  by_cases h : x = y
  · subst h
    rfl
  · have h1 : ¬ y < x → x < y := by grind
    have h2 : y < x → ¬ x < y := by grind
    grind
theorem wkF_15 {i : Nat} {fb : Bool} {f : zN} (h : ¬ f (8 + 5 * i + 3) < 15) : ∀ {s : Nat}, wkF i fb s f = f
  | 0 => rfl
  | s + 1 => by
    unfold wkF
    rw [if_neg h]
theorem st_nI {f : zN} {i : Nat} : ∃ S : Nat, S ≤ 3 ∧ (if pacF f i < cleF f i then pacF f i else cleF f i) = nI S := by
  obtain ⟨S, hS3, hS⟩ := min_nI (hdF_nI (h := 3) (by decide) (if 0 < f 163 then txF f 1 (cleF f i) (f (8 + 5 * i + 1)) (f (8 + 5 * i)) else if 3 < cleF f i then 2 else 1)) (hdF_nI (h := 20) (by decide) (if 0 < f 38 then txF f 0 (seF f i) (f (8 + 5 * i + 2)) (f 0 - f 0 / 24 * 24) else seF f i)) (by decide) (by decide)
  exact ⟨S, hS3, hS⟩
section PB
variable {l : Launch} {E : zE} {ad : Nat → Nat} {c : zS} {Qf : Int32 → zS → Prop} {d n : Nat}
theorem s_hour8 {w : Int32} {p : Nat} {all : Bool} {f : zN} (hR : PR c 8 n f) (hL : LW c f) (hv : vaF f n) (hw : (w = -1 ∧ all = true) ∨ (w = nI p ∧ p < n ∧ all = decide (f (8 + 5 * p) = 4))) (hd : 5 ≤ d) (hQ : ∀ c', PR c' 8 n (hrB all p f n) → (∀ k, k ≠ 8 → k ≠ 12 → k ≠ 13 → k ≠ 4 → k ≠ 7 → c' k = c k) → Qf 0 c') : zCl l E ad mX1_anHourGoes d [.ref (ad 8), .int w] c Qf := by
  have hn6 := hv.2.1
  refine z_enter (own := RX1) [some (.ref (ad 8)), some (.int w), none, none, none] (by decide +kernel) rfl rfl rfl (Nat.le_of_ble_eq_true rfl) ?_
  have loop : ∀ (r i : Nat) (c1 : zS) (x4 : Option Value), n - i < r → i ≤ n → PR c1 8 n (hrA all p f i) → (∀ k, k ≠ 8 → k ≠ 12 → k ≠ 13 → k ≠ 4 → k ≠ 7 → c1 k = c k) → zW l E ad RX1 cX1_anHourGoes 5 0 d Qf 23 [some (.ref (ad 8)), some (.int w), some (.int (if all = true then 1 else 0)), some (.int (nI i)), x4] [] c1 := by
    intro r
    induction r with
    | zero => intro i c1 x4 h; omega
    | succ r ih =>
      intro i c1 x4 hr hi hR1 hf
      have hlt := nI_leI (a := n) (b := i) (by omega) (by omega)
      have hL1 : LW c1 (hrA all p f i) := LW_cg hL (fun k hk => hrA_hi hn6 hk hi) (hf 2 (by decide) (by decide) (by decide) (by decide) (by decide)) (hf 3 (by decide) (by decide) (by decide) (by decide) (by decide)) (hf 5 (by decide) (by decide) (by decide) (by decide) (by decide)) (hf 6 (by decide) (by decide) (by decide) (by decide) (by decide))
      have hv1 := vaF_hrA (p := p) (all := all) hv hi
      have hip : p < n → (nI i = nI p ↔ i = p) := fun hp => nI_eq (by omega) (by omega)
      have hs1 : hrA all p f (i + 1) = if hrA all p f i (8 + 5 * i + 4) = 0 ∧ (all = true ∨ i = p) then wkF i (faF (hrA all p f i) i) (stF (hrA all p f i) i) (hrA all p f i) else hrA all p f i := rfl
      have cut89 : ∀ (c2 : zS) (x4 : Option Value), i < n → PR c2 8 n (hrA all p f (i + 1)) → (∀ k, k ≠ 8 → k ≠ 12 → k ≠ 13 → k ≠ 4 → k ≠ 7 → c2 k = c k) → zW l E ad RX1 cX1_anHourGoes 5 0 d Qf 89 [some (.ref (ad 8)), some (.int w), some (.int (if all = true then 1 else 0)), some (.int (nI i)), x4] [] c2 := by
        intro c2 x4 hin hR2 hf2
        refine z_iinc (i := 3) (v := 1) [_, _, _, _, _] dX1_anHourGoes_89 rfl (by decide) (by decide) rfl rfl ?_
        refine z_goto 23 dX1_anHourGoes_92 (by decide) ?_
        rw [nI_1]
        exact ih (i + 1) c2 _ (by omega) (by omega) hR2 hf2
      have hfin : i = n → PR (zup c1 8 (upd (c1 8) 9 (c1 8 9 + 1))) 8 n (hrB all p f n) := by
        intro e
        subst e
        unfold hrB
        rw [show c1 8 9 = hrA all p f i 0 from hR1.2.2.1]
        exact PR_hr hR1
      generalize hF : hrA all p f i = F at hR1 hL1 hv1 hs1
      have cut60 : i < n → F (8 + 5 * i + 4) = 0 → (all = true ∨ i = p) → zW l E ad RX1 cX1_anHourGoes 5 0 d Qf 60 [some (.ref (ad 8)), some (.int w), some (.int (if all = true then 1 else 0)), some (.int (nI i)), x4] [] c1 := by
        intro hin hl hc
        rw [if_pos ⟨hl, hc⟩] at hs1
        obtain ⟨S, hS3, hS⟩ := st_nI (f := F) (i := i)
        have hst : stF F i = S := by unfold stF; rw [hS, pn_nI (by omega)]
        rw [hst] at hs1
        have hmin : (if cleF F i < paF F (cleF F i) (F (8 + 5 * i + 1)) (F (8 + 5 * i)) then cleF F i else paF F (cleF F i) (F (8 + 5 * i + 1)) (F (8 + 5 * i))) = nI S := by rw [mn_sym]; exact hS
        refine z_aload_n (i := 0) dX1_anHourGoes_60 rfl rfl ?_
        refine z_iload_n (i := 3) dX1_anHourGoes_61 rfl rfl ?_
        refine z_Vi (As := [_]) dX1_anHourGoes_62 (by rfl) v_X1_clearFor l_X1_62 (by first | decide | assumption | omega) rfl rfl rfl (by omega) (by decide) (Nat.le_of_ble_eq_true rfl) ?_
        refine s_clearFor8 hR1 hL1 hv1 hin (by omega) (fun g => ?_)
        have hR2 : PR (zup c1 4 g) 8 n F := PR_cg hR1 (fun k a b => zup_n (by omega))
        have hL2 : LW (zup c1 4 g) F := LW_cg hL1 (fun _ _ => rfl) rfl rfl rfl rfl
        refine z_istore (i := 4) [_, _, _, _, _] dX1_anHourGoes_65 (by decide) rfl rfl ?_
        refine z_aload_n (i := 0) dX1_anHourGoes_67 rfl rfl ?_
        refine z_iload_n (i := 3) dX1_anHourGoes_68 rfl rfl ?_
        refine z_aload_n (i := 0) dX1_anHourGoes_69 rfl rfl ?_
        refine z_iload_n (i := 3) dX1_anHourGoes_70 rfl rfl ?_
        refine z_iload (i := 4) dX1_anHourGoes_71 rfl ?_
        refine z_Vi (As := [_, _]) dX1_anHourGoes_73 (by rfl) v_X1_paceOf l_X1_65 (by first | decide | assumption | omega) rfl rfl rfl (by omega) (by decide) (Nat.le_of_ble_eq_true rfl) ?_
        refine s_paceOf8 hR2 hL2 hv1 hin (by omega) (fun g2 => ?_)
        have hR3 : PR (zup (zup c1 4 g) 7 g2) 8 n F := PR_cg hR2 (fun k a b => zup_n (by omega))
        refine z_iload (i := 4) dX1_anHourGoes_76 rfl ?_
        refine z_min dX1_anHourGoes_78 (by omega) (Nat.le_of_ble_eq_true rfl) l_X1_69 w_minS w_mathI w_minC ?_
        rw [hmin]
        refine z_aload_n (i := 0) dX1_anHourGoes_81 rfl rfl ?_
        refine z_iload_n (i := 3) dX1_anHourGoes_82 rfl rfl ?_
        refine z_Vb (As := [_]) dX1_anHourGoes_83 (by rfl) v_X1_falls l_X1_74 (by first | decide | assumption | omega) rfl rfl rfl (by omega) (by decide) (Nat.le_of_ble_eq_true rfl) ?_
        refine s_falls8 hR3 hn6 hin ?_
        refine z_Vv (As := [_, _, _]) dX1_anHourGoes_86 (by rfl) v_X1_goes l_X1_78 (by first | decide | assumption | omega) rfl rfl rfl (by omega) (by decide) (Nat.le_of_ble_eq_true rfl) ?_
        refine s_goes8 hR3 hn6 hin (by omega) hl (fun c2 hR4 hf4 => ?_)
        exact cut89 c2 _ hin (by rw [hs1]; exact hR4) (fun k a b e1 e2 e3 => by rw [hf4 k b e1, zup_n e3, zup_n e2]; exact hf k a b e1 e2 e3)
      refine z_iload_n (i := 3) dX1_anHourGoes_23 rfl rfl ?_
      refine z_aload_n (i := 0) dX1_anHourGoes_24 rfl rfl ?_
      refine z_getf dX1_anHourGoes_25 f_X1_28 (by first | decide | assumption | omega) rfl (by rfl) ?_
      refine z_icmp_ge 95 dX1_anHourGoes_28 (by decide) (fun h_28 => ?_) (fun h_28 => ?_)
      · have hin : i = n := by rw [hR1.1] at h_28; have := hlt.mp h_28; omega
        refine z_aload_n (i := 0) dX1_anHourGoes_95 rfl rfl ?_
        refine z_dup dX1_anHourGoes_96 rfl ?_
        refine z_getf dX1_anHourGoes_97 f_X1_35 (by first | decide | assumption | omega) rfl (by rfl) ?_
        refine z_iconst (v := 1) dX1_anHourGoes_100 (by decide) ?_
        refine z_iadd dX1_anHourGoes_101 ?_
        refine z_putfi dX1_anHourGoes_102 f_X1_35 fp_X1_9 (by first | decide | assumption | omega) rfl (by exact Nat.le_of_ble_eq_true rfl) rfl ?_
        exact z_ret (r := 0) dX1_anHourGoes_105 (hQ _ (hfin hin) (fun k a b e1 e2 e3 => by rw [zup_n a]; exact hf k a b e1 e2 e3)) rfl rfl
      · have hin : i < n := by rw [hR1.1] at h_28; have := mt hlt.mpr h_28; omega
        have eA : c1 12 i = F (8 + 5 * i + 3) := (hR1.2.2.2 i hin).2.2.2.1
        have eL : c1 13 i = F (8 + 5 * i + 4) := (hR1.2.2.2 i hin).2.2.2.2
        refine z_aload_n (i := 0) dX1_anHourGoes_31 rfl rfl ?_
        refine z_getf dX1_anHourGoes_32 f_X1_24 (by first | decide | assumption | omega) rfl (by rfl) ?_
        refine z_iload_n (i := 3) dX1_anHourGoes_35 rfl rfl ?_
        refine z_zald (j := i) dX1_anHourGoes_36 (by first | decide | assumption | omega) rfl (by rfl) (by first | decide | omega) (by first | decide | omega) ?_
        refine z_if_ne 89 dX1_anHourGoes_37 (by decide) (fun h_37 => ?_) (fun h_37 => ?_)
        · first
          | (refine cut89 c1 _ hin ?_ hf
             rw [hs1, if_neg (fun q => by rw [← eL] at q; exact h_37 q.1)]
             exact hR1)
          | (refine cut89 c1 _ hin ?_ hf
             rw [hs1]
             rw [eA] at h_48
             split
             · rw [wkF_15 (by grind)]; exact hR1
             · exact hR1)
          | (refine cut89 c1 _ hin ?_ hf
             rw [hs1, if_neg (fun q => by
               rcases q.2 with q2 | q2
               · rw [if_pos q2] at h_52; revert h_52; decide
               · rcases hw with hw | hw
                 · rw [hw.2] at h_52; revert h_52; decide
                 · rw [hw.1] at h_57; exact h_57 ((hip hw.2.1).mpr q2))]
             exact hR1)
        · refine z_aload_n (i := 0) dX1_anHourGoes_40 rfl rfl ?_
          refine z_getf dX1_anHourGoes_41 f_X1_21 (by first | decide | assumption | omega) rfl (by rfl) ?_
          refine z_iload_n (i := 3) dX1_anHourGoes_44 rfl rfl ?_
          refine z_iald (j := i) dX1_anHourGoes_45 (by first | decide | assumption | omega) rfl (by rfl) (by first | decide | omega) (by first | decide | omega) ?_
          refine z_bipush (v := 15) dX1_anHourGoes_46 (by decide) ?_
          refine z_icmp_ge 89 dX1_anHourGoes_48 (by decide) (fun h_48 => ?_) (fun h_48 => ?_)
          · first
            | (refine cut89 c1 _ hin ?_ hf
               rw [hs1, if_neg (fun q => by rw [← eL] at q; exact h_37 q.1)]
               exact hR1)
            | (refine cut89 c1 _ hin ?_ hf
               rw [hs1]
               rw [eA] at h_48
               split
               · rw [wkF_15 (by grind)]; exact hR1
               · exact hR1)
            | (refine cut89 c1 _ hin ?_ hf
               rw [hs1, if_neg (fun q => by
                 rcases q.2 with q2 | q2
                 · rw [if_pos q2] at h_52; revert h_52; decide
                 · rcases hw with hw | hw
                   · rw [hw.2] at h_52; revert h_52; decide
                   · rw [hw.1] at h_57; exact h_57 ((hip hw.2.1).mpr q2))]
               exact hR1)
          · refine z_iload_n (i := 2) dX1_anHourGoes_51 rfl rfl ?_
            refine z_if_ne 60 dX1_anHourGoes_52 (by decide) (fun h_52 => ?_) (fun h_52 => ?_)
            · first
              | exact cut60 hin (by rw [← eL]; first | exact h_37 | exact Classical.not_not.mp h_37) (Or.inl (Classical.byContradiction (fun q => h_52 (by rw [if_neg q]))))
              | (refine cut60 hin (by rw [← eL]; first | exact h_37 | exact Classical.not_not.mp h_37) (Or.inr ?_)
                 rcases hw with hw | hw
                 · exfalso
                   rw [hw.2] at h_52
                   revert h_52
                   decide
                 · rw [hw.1] at h_57
                   exact (hip hw.2.1).mp (by first | exact h_57 | exact Classical.not_not.mp h_57))
            · refine z_iload_n (i := 3) dX1_anHourGoes_55 rfl rfl ?_
              refine z_iload_n (i := 1) dX1_anHourGoes_56 rfl rfl ?_
              refine z_icmp_ne 89 dX1_anHourGoes_57 (by decide) (fun h_57 => ?_) (fun h_57 => ?_)
              · first
                | (refine cut89 c1 _ hin ?_ hf
                   rw [hs1, if_neg (fun q => by rw [← eL] at q; exact h_37 q.1)]
                   exact hR1)
                | (refine cut89 c1 _ hin ?_ hf
                   rw [hs1]
                   rw [eA] at h_48
                   split
                   · rw [wkF_15 (by grind)]; exact hR1
                   · exact hR1)
                | (refine cut89 c1 _ hin ?_ hf
                   rw [hs1, if_neg (fun q => by
                     rcases q.2 with q2 | q2
                     · rw [if_pos q2] at h_52; revert h_52; decide
                     · rcases hw with hw | hw
                       · rw [hw.2] at h_52; revert h_52; decide
                       · rw [hw.1] at h_57; exact h_57 ((hip hw.2.1).mpr q2))]
                   exact hR1)
              · first
                | exact cut60 hin (by rw [← eL]; first | exact h_37 | exact Classical.not_not.mp h_37) (Or.inl (Classical.byContradiction (fun q => h_52 (by rw [if_neg q]))))
                | (refine cut60 hin (by rw [← eL]; first | exact h_37 | exact Classical.not_not.mp h_37) (Or.inr ?_)
                   rcases hw with hw | hw
                   · exfalso
                     rw [hw.2] at h_52
                     revert h_52
                     decide
                   · rw [hw.1] at h_57
                     exact (hip hw.2.1).mp (by first | exact h_57 | exact Classical.not_not.mp h_57))
  have cut20 : ∀ x : Int32, x = (if all = true then 1 else 0) → zW l E ad RX1 cX1_anHourGoes 5 0 d Qf 20 [some (.ref (ad 8)), some (.int w), none, none, none] [.int x] c := by
    intro x hx
    subst hx
    refine z_istore_n (i := 2) [_, _, _, _, _] dX1_anHourGoes_20 rfl (by decide) rfl rfl ?_
    refine z_iconst (v := 0) dX1_anHourGoes_21 (by decide) ?_
    refine z_istore_n (i := 3) [_, _, _, _, _] dX1_anHourGoes_22 rfl (by decide) rfl rfl ?_
    exact loop (n + 1) 0 c none (by omega) (by omega) hR (fun _ _ _ _ _ _ => rfl)
  rcases hw with ⟨rfl, rfl⟩ | ⟨rfl, hp, ha⟩
  · skip
    refine z_iload_n (i := 1) dX1_anHourGoes_0 rfl rfl ?_
    refine z_iconst (v := (-1)) dX1_anHourGoes_1 (by decide) ?_
    refine z_icmp_eq 15 dX1_anHourGoes_2 (by decide) (fun h_2 => ?_) (fun h_2 => ?_)
    rotate_left
    · exact absurd rfl h_2
    refine z_iconst (v := 1) dX1_anHourGoes_15 (by decide) ?_
    refine z_goto 20 dX1_anHourGoes_16 (by decide) ?_
    exact cut20 1 rfl
  · have eK : c 9 p = f (8 + 5 * p) := (hR.2.2.2 p hp).1
    have hpm : ¬ nI p = (-1 : Int32) := by have := nI_pos' (n := p) (by omega); intro q; rw [q] at this; revert this; decide
    refine z_iload_n (i := 1) dX1_anHourGoes_0 rfl rfl ?_
    refine z_iconst (v := (-1)) dX1_anHourGoes_1 (by decide) ?_
    refine z_icmp_eq 15 dX1_anHourGoes_2 (by decide) (fun h_2 => ?_) (fun h_2 => ?_)
    · exact absurd h_2 hpm
    refine z_aload_n (i := 0) dX1_anHourGoes_5 rfl rfl ?_
    refine z_getf dX1_anHourGoes_6 f_X1_9 (by first | decide | assumption | omega) rfl (by rfl) ?_
    refine z_iload_n (i := 1) dX1_anHourGoes_9 rfl rfl ?_
    refine z_iald (j := p) dX1_anHourGoes_10 (by first | decide | assumption | omega) rfl (by rfl) (by first | decide | omega) (by first | decide | omega) ?_
    rw [eK]
    refine z_iconst (v := 4) dX1_anHourGoes_11 (by decide) ?_
    refine z_icmp_ne 19 dX1_anHourGoes_12 (by decide) (fun h_12 => ?_) (fun h_12 => ?_)
    · refine z_iconst (v := 0) dX1_anHourGoes_19 (by decide) ?_
      first
      | exact cut20 0 (by rw [ha, if_neg (by rw [decide_eq_true_eq]; exact h_12)])
      | exact cut20 1 (by rw [ha, if_pos (by rw [decide_eq_true_eq]; first | exact h_12 | exact Classical.not_not.mp h_12)])
    · refine z_iconst (v := 1) dX1_anHourGoes_15 (by decide) ?_
      refine z_goto 20 dX1_anHourGoes_16 (by decide) ?_
      first
      | exact cut20 0 (by rw [ha, if_neg (by rw [decide_eq_true_eq]; exact h_12)])
      | exact cut20 1 (by rw [ha, if_pos (by rw [decide_eq_true_eq]; first | exact h_12 | exact Classical.not_not.mp h_12)])
theorem s_hour34 {w : Int32} {p : Nat} {all : Bool} {f : zN} (hR : PR c 34 n f) (hL : LW c f) (hv : vaF f n) (hw : (w = -1 ∧ all = true) ∨ (w = nI p ∧ p < n ∧ all = decide (f (8 + 5 * p) = 4))) (hd : 5 ≤ d) (hQ : ∀ c', PR c' 34 n (hrB all p f n) → (∀ k, k ≠ 34 → k ≠ 38 → k ≠ 39 → k ≠ 4 → k ≠ 7 → c' k = c k) → Qf 0 c') : zCl l E ad mX1_anHourGoes d [.ref (ad 34), .int w] c Qf := by
  have hn6 := hv.2.1
  refine z_enter (own := RX1) [some (.ref (ad 34)), some (.int w), none, none, none] (by decide +kernel) rfl rfl rfl (Nat.le_of_ble_eq_true rfl) ?_
  have loop : ∀ (r i : Nat) (c1 : zS) (x4 : Option Value), n - i < r → i ≤ n → PR c1 34 n (hrA all p f i) → (∀ k, k ≠ 34 → k ≠ 38 → k ≠ 39 → k ≠ 4 → k ≠ 7 → c1 k = c k) → zW l E ad RX1 cX1_anHourGoes 5 0 d Qf 23 [some (.ref (ad 34)), some (.int w), some (.int (if all = true then 1 else 0)), some (.int (nI i)), x4] [] c1 := by
    intro r
    induction r with
    | zero => intro i c1 x4 h; omega
    | succ r ih =>
      intro i c1 x4 hr hi hR1 hf
      have hlt := nI_leI (a := n) (b := i) (by omega) (by omega)
      have hL1 : LW c1 (hrA all p f i) := LW_cg hL (fun k hk => hrA_hi hn6 hk hi) (hf 2 (by decide) (by decide) (by decide) (by decide) (by decide)) (hf 3 (by decide) (by decide) (by decide) (by decide) (by decide)) (hf 5 (by decide) (by decide) (by decide) (by decide) (by decide)) (hf 6 (by decide) (by decide) (by decide) (by decide) (by decide))
      have hv1 := vaF_hrA (p := p) (all := all) hv hi
      have hip : p < n → (nI i = nI p ↔ i = p) := fun hp => nI_eq (by omega) (by omega)
      have hs1 : hrA all p f (i + 1) = if hrA all p f i (8 + 5 * i + 4) = 0 ∧ (all = true ∨ i = p) then wkF i (faF (hrA all p f i) i) (stF (hrA all p f i) i) (hrA all p f i) else hrA all p f i := rfl
      have cut89 : ∀ (c2 : zS) (x4 : Option Value), i < n → PR c2 34 n (hrA all p f (i + 1)) → (∀ k, k ≠ 34 → k ≠ 38 → k ≠ 39 → k ≠ 4 → k ≠ 7 → c2 k = c k) → zW l E ad RX1 cX1_anHourGoes 5 0 d Qf 89 [some (.ref (ad 34)), some (.int w), some (.int (if all = true then 1 else 0)), some (.int (nI i)), x4] [] c2 := by
        intro c2 x4 hin hR2 hf2
        refine z_iinc (i := 3) (v := 1) [_, _, _, _, _] dX1_anHourGoes_89 rfl (by decide) (by decide) rfl rfl ?_
        refine z_goto 23 dX1_anHourGoes_92 (by decide) ?_
        rw [nI_1]
        exact ih (i + 1) c2 _ (by omega) (by omega) hR2 hf2
      have hfin : i = n → PR (zup c1 34 (upd (c1 34) 9 (c1 34 9 + 1))) 34 n (hrB all p f n) := by
        intro e
        subst e
        unfold hrB
        rw [show c1 34 9 = hrA all p f i 0 from hR1.2.2.1]
        exact PR_hr hR1
      generalize hF : hrA all p f i = F at hR1 hL1 hv1 hs1
      have cut60 : i < n → F (8 + 5 * i + 4) = 0 → (all = true ∨ i = p) → zW l E ad RX1 cX1_anHourGoes 5 0 d Qf 60 [some (.ref (ad 34)), some (.int w), some (.int (if all = true then 1 else 0)), some (.int (nI i)), x4] [] c1 := by
        intro hin hl hc
        rw [if_pos ⟨hl, hc⟩] at hs1
        obtain ⟨S, hS3, hS⟩ := st_nI (f := F) (i := i)
        have hst : stF F i = S := by unfold stF; rw [hS, pn_nI (by omega)]
        rw [hst] at hs1
        have hmin : (if cleF F i < paF F (cleF F i) (F (8 + 5 * i + 1)) (F (8 + 5 * i)) then cleF F i else paF F (cleF F i) (F (8 + 5 * i + 1)) (F (8 + 5 * i))) = nI S := by rw [mn_sym]; exact hS
        refine z_aload_n (i := 0) dX1_anHourGoes_60 rfl rfl ?_
        refine z_iload_n (i := 3) dX1_anHourGoes_61 rfl rfl ?_
        refine z_Vi (As := [_]) dX1_anHourGoes_62 (by rfl) v_X1_clearFor l_X1_62 (by first | decide | assumption | omega) rfl rfl rfl (by omega) (by decide) (Nat.le_of_ble_eq_true rfl) ?_
        refine s_clearFor34 hR1 hL1 hv1 hin (by omega) (fun g => ?_)
        have hR2 : PR (zup c1 4 g) 34 n F := PR_cg hR1 (fun k a b => zup_n (by omega))
        have hL2 : LW (zup c1 4 g) F := LW_cg hL1 (fun _ _ => rfl) rfl rfl rfl rfl
        refine z_istore (i := 4) [_, _, _, _, _] dX1_anHourGoes_65 (by decide) rfl rfl ?_
        refine z_aload_n (i := 0) dX1_anHourGoes_67 rfl rfl ?_
        refine z_iload_n (i := 3) dX1_anHourGoes_68 rfl rfl ?_
        refine z_aload_n (i := 0) dX1_anHourGoes_69 rfl rfl ?_
        refine z_iload_n (i := 3) dX1_anHourGoes_70 rfl rfl ?_
        refine z_iload (i := 4) dX1_anHourGoes_71 rfl ?_
        refine z_Vi (As := [_, _]) dX1_anHourGoes_73 (by rfl) v_X1_paceOf l_X1_65 (by first | decide | assumption | omega) rfl rfl rfl (by omega) (by decide) (Nat.le_of_ble_eq_true rfl) ?_
        refine s_paceOf34 hR2 hL2 hv1 hin (by omega) (fun g2 => ?_)
        have hR3 : PR (zup (zup c1 4 g) 7 g2) 34 n F := PR_cg hR2 (fun k a b => zup_n (by omega))
        refine z_iload (i := 4) dX1_anHourGoes_76 rfl ?_
        refine z_min dX1_anHourGoes_78 (by omega) (Nat.le_of_ble_eq_true rfl) l_X1_69 w_minS w_mathI w_minC ?_
        rw [hmin]
        refine z_aload_n (i := 0) dX1_anHourGoes_81 rfl rfl ?_
        refine z_iload_n (i := 3) dX1_anHourGoes_82 rfl rfl ?_
        refine z_Vb (As := [_]) dX1_anHourGoes_83 (by rfl) v_X1_falls l_X1_74 (by first | decide | assumption | omega) rfl rfl rfl (by omega) (by decide) (Nat.le_of_ble_eq_true rfl) ?_
        refine s_falls34 hR3 hn6 hin ?_
        refine z_Vv (As := [_, _, _]) dX1_anHourGoes_86 (by rfl) v_X1_goes l_X1_78 (by first | decide | assumption | omega) rfl rfl rfl (by omega) (by decide) (Nat.le_of_ble_eq_true rfl) ?_
        refine s_goes34 hR3 hn6 hin (by omega) hl (fun c2 hR4 hf4 => ?_)
        exact cut89 c2 _ hin (by rw [hs1]; exact hR4) (fun k a b e1 e2 e3 => by rw [hf4 k b e1, zup_n e3, zup_n e2]; exact hf k a b e1 e2 e3)
      refine z_iload_n (i := 3) dX1_anHourGoes_23 rfl rfl ?_
      refine z_aload_n (i := 0) dX1_anHourGoes_24 rfl rfl ?_
      refine z_getf dX1_anHourGoes_25 f_X1_28 (by first | decide | assumption | omega) rfl (by rfl) ?_
      refine z_icmp_ge 95 dX1_anHourGoes_28 (by decide) (fun h_28 => ?_) (fun h_28 => ?_)
      · have hin : i = n := by rw [hR1.1] at h_28; have := hlt.mp h_28; omega
        refine z_aload_n (i := 0) dX1_anHourGoes_95 rfl rfl ?_
        refine z_dup dX1_anHourGoes_96 rfl ?_
        refine z_getf dX1_anHourGoes_97 f_X1_35 (by first | decide | assumption | omega) rfl (by rfl) ?_
        refine z_iconst (v := 1) dX1_anHourGoes_100 (by decide) ?_
        refine z_iadd dX1_anHourGoes_101 ?_
        refine z_putfi dX1_anHourGoes_102 f_X1_35 fp_X1_9 (by first | decide | assumption | omega) rfl (by exact Nat.le_of_ble_eq_true rfl) rfl ?_
        exact z_ret (r := 0) dX1_anHourGoes_105 (hQ _ (hfin hin) (fun k a b e1 e2 e3 => by rw [zup_n a]; exact hf k a b e1 e2 e3)) rfl rfl
      · have hin : i < n := by rw [hR1.1] at h_28; have := mt hlt.mpr h_28; omega
        have eA : c1 38 i = F (8 + 5 * i + 3) := (hR1.2.2.2 i hin).2.2.2.1
        have eL : c1 39 i = F (8 + 5 * i + 4) := (hR1.2.2.2 i hin).2.2.2.2
        refine z_aload_n (i := 0) dX1_anHourGoes_31 rfl rfl ?_
        refine z_getf dX1_anHourGoes_32 f_X1_24 (by first | decide | assumption | omega) rfl (by rfl) ?_
        refine z_iload_n (i := 3) dX1_anHourGoes_35 rfl rfl ?_
        refine z_zald (j := i) dX1_anHourGoes_36 (by first | decide | assumption | omega) rfl (by rfl) (by first | decide | omega) (by first | decide | omega) ?_
        refine z_if_ne 89 dX1_anHourGoes_37 (by decide) (fun h_37 => ?_) (fun h_37 => ?_)
        · first
          | (refine cut89 c1 _ hin ?_ hf
             rw [hs1, if_neg (fun q => by rw [← eL] at q; exact h_37 q.1)]
             exact hR1)
          | (refine cut89 c1 _ hin ?_ hf
             rw [hs1]
             rw [eA] at h_48
             split
             · rw [wkF_15 (by grind)]; exact hR1
             · exact hR1)
          | (refine cut89 c1 _ hin ?_ hf
             rw [hs1, if_neg (fun q => by
               rcases q.2 with q2 | q2
               · rw [if_pos q2] at h_52; revert h_52; decide
               · rcases hw with hw | hw
                 · rw [hw.2] at h_52; revert h_52; decide
                 · rw [hw.1] at h_57; exact h_57 ((hip hw.2.1).mpr q2))]
             exact hR1)
        · refine z_aload_n (i := 0) dX1_anHourGoes_40 rfl rfl ?_
          refine z_getf dX1_anHourGoes_41 f_X1_21 (by first | decide | assumption | omega) rfl (by rfl) ?_
          refine z_iload_n (i := 3) dX1_anHourGoes_44 rfl rfl ?_
          refine z_iald (j := i) dX1_anHourGoes_45 (by first | decide | assumption | omega) rfl (by rfl) (by first | decide | omega) (by first | decide | omega) ?_
          refine z_bipush (v := 15) dX1_anHourGoes_46 (by decide) ?_
          refine z_icmp_ge 89 dX1_anHourGoes_48 (by decide) (fun h_48 => ?_) (fun h_48 => ?_)
          · first
            | (refine cut89 c1 _ hin ?_ hf
               rw [hs1, if_neg (fun q => by rw [← eL] at q; exact h_37 q.1)]
               exact hR1)
            | (refine cut89 c1 _ hin ?_ hf
               rw [hs1]
               rw [eA] at h_48
               split
               · rw [wkF_15 (by grind)]; exact hR1
               · exact hR1)
            | (refine cut89 c1 _ hin ?_ hf
               rw [hs1, if_neg (fun q => by
                 rcases q.2 with q2 | q2
                 · rw [if_pos q2] at h_52; revert h_52; decide
                 · rcases hw with hw | hw
                   · rw [hw.2] at h_52; revert h_52; decide
                   · rw [hw.1] at h_57; exact h_57 ((hip hw.2.1).mpr q2))]
               exact hR1)
          · refine z_iload_n (i := 2) dX1_anHourGoes_51 rfl rfl ?_
            refine z_if_ne 60 dX1_anHourGoes_52 (by decide) (fun h_52 => ?_) (fun h_52 => ?_)
            · first
              | exact cut60 hin (by rw [← eL]; first | exact h_37 | exact Classical.not_not.mp h_37) (Or.inl (Classical.byContradiction (fun q => h_52 (by rw [if_neg q]))))
              | (refine cut60 hin (by rw [← eL]; first | exact h_37 | exact Classical.not_not.mp h_37) (Or.inr ?_)
                 rcases hw with hw | hw
                 · exfalso
                   rw [hw.2] at h_52
                   revert h_52
                   decide
                 · rw [hw.1] at h_57
                   exact (hip hw.2.1).mp (by first | exact h_57 | exact Classical.not_not.mp h_57))
            · refine z_iload_n (i := 3) dX1_anHourGoes_55 rfl rfl ?_
              refine z_iload_n (i := 1) dX1_anHourGoes_56 rfl rfl ?_
              refine z_icmp_ne 89 dX1_anHourGoes_57 (by decide) (fun h_57 => ?_) (fun h_57 => ?_)
              · first
                | (refine cut89 c1 _ hin ?_ hf
                   rw [hs1, if_neg (fun q => by rw [← eL] at q; exact h_37 q.1)]
                   exact hR1)
                | (refine cut89 c1 _ hin ?_ hf
                   rw [hs1]
                   rw [eA] at h_48
                   split
                   · rw [wkF_15 (by grind)]; exact hR1
                   · exact hR1)
                | (refine cut89 c1 _ hin ?_ hf
                   rw [hs1, if_neg (fun q => by
                     rcases q.2 with q2 | q2
                     · rw [if_pos q2] at h_52; revert h_52; decide
                     · rcases hw with hw | hw
                       · rw [hw.2] at h_52; revert h_52; decide
                       · rw [hw.1] at h_57; exact h_57 ((hip hw.2.1).mpr q2))]
                   exact hR1)
              · first
                | exact cut60 hin (by rw [← eL]; first | exact h_37 | exact Classical.not_not.mp h_37) (Or.inl (Classical.byContradiction (fun q => h_52 (by rw [if_neg q]))))
                | (refine cut60 hin (by rw [← eL]; first | exact h_37 | exact Classical.not_not.mp h_37) (Or.inr ?_)
                   rcases hw with hw | hw
                   · exfalso
                     rw [hw.2] at h_52
                     revert h_52
                     decide
                   · rw [hw.1] at h_57
                     exact (hip hw.2.1).mp (by first | exact h_57 | exact Classical.not_not.mp h_57))
  have cut20 : ∀ x : Int32, x = (if all = true then 1 else 0) → zW l E ad RX1 cX1_anHourGoes 5 0 d Qf 20 [some (.ref (ad 34)), some (.int w), none, none, none] [.int x] c := by
    intro x hx
    subst hx
    refine z_istore_n (i := 2) [_, _, _, _, _] dX1_anHourGoes_20 rfl (by decide) rfl rfl ?_
    refine z_iconst (v := 0) dX1_anHourGoes_21 (by decide) ?_
    refine z_istore_n (i := 3) [_, _, _, _, _] dX1_anHourGoes_22 rfl (by decide) rfl rfl ?_
    exact loop (n + 1) 0 c none (by omega) (by omega) hR (fun _ _ _ _ _ _ => rfl)
  rcases hw with ⟨rfl, rfl⟩ | ⟨rfl, hp, ha⟩
  · skip
    refine z_iload_n (i := 1) dX1_anHourGoes_0 rfl rfl ?_
    refine z_iconst (v := (-1)) dX1_anHourGoes_1 (by decide) ?_
    refine z_icmp_eq 15 dX1_anHourGoes_2 (by decide) (fun h_2 => ?_) (fun h_2 => ?_)
    rotate_left
    · exact absurd rfl h_2
    refine z_iconst (v := 1) dX1_anHourGoes_15 (by decide) ?_
    refine z_goto 20 dX1_anHourGoes_16 (by decide) ?_
    exact cut20 1 rfl
  · have eK : c 35 p = f (8 + 5 * p) := (hR.2.2.2 p hp).1
    have hpm : ¬ nI p = (-1 : Int32) := by have := nI_pos' (n := p) (by omega); intro q; rw [q] at this; revert this; decide
    refine z_iload_n (i := 1) dX1_anHourGoes_0 rfl rfl ?_
    refine z_iconst (v := (-1)) dX1_anHourGoes_1 (by decide) ?_
    refine z_icmp_eq 15 dX1_anHourGoes_2 (by decide) (fun h_2 => ?_) (fun h_2 => ?_)
    · exact absurd h_2 hpm
    refine z_aload_n (i := 0) dX1_anHourGoes_5 rfl rfl ?_
    refine z_getf dX1_anHourGoes_6 f_X1_9 (by first | decide | assumption | omega) rfl (by rfl) ?_
    refine z_iload_n (i := 1) dX1_anHourGoes_9 rfl rfl ?_
    refine z_iald (j := p) dX1_anHourGoes_10 (by first | decide | assumption | omega) rfl (by rfl) (by first | decide | omega) (by first | decide | omega) ?_
    rw [eK]
    refine z_iconst (v := 4) dX1_anHourGoes_11 (by decide) ?_
    refine z_icmp_ne 19 dX1_anHourGoes_12 (by decide) (fun h_12 => ?_) (fun h_12 => ?_)
    · refine z_iconst (v := 0) dX1_anHourGoes_19 (by decide) ?_
      first
      | exact cut20 0 (by rw [ha, if_neg (by rw [decide_eq_true_eq]; exact h_12)])
      | exact cut20 1 (by rw [ha, if_pos (by rw [decide_eq_true_eq]; first | exact h_12 | exact Classical.not_not.mp h_12)])
    · refine z_iconst (v := 1) dX1_anHourGoes_15 (by decide) ?_
      refine z_goto 20 dX1_anHourGoes_16 (by decide) ?_
      first
      | exact cut20 0 (by rw [ha, if_neg (by rw [decide_eq_true_eq]; exact h_12)])
      | exact cut20 1 (by rw [ha, if_pos (by rw [decide_eq_true_eq]; first | exact h_12 | exact Classical.not_not.mp h_12)])
end PB
