/-! the reference's calls, eight: loose, fits -/
theorem t_draw {l : Launch} {E : zE} {ad : Nat → Nat} {c : zS} {Qf : Int32 → zS → Prop} {d : Nat} {f : zN} (hf : c 52 = f) (hQ : Qf (dvF f) (zup c 52 (dzF f))) : zCl l E ad mX8_draw d [.ref (ad 51)] c Qf := by
  subst hf
  exact s_X8_draw hQ
section R8
variable {l : Launch} {E : zE} {ad : Nat → Nat} {c : zS} {Qf : Int32 → zS → Prop} {d n : Nat}
theorem s_X8_chances {f : zN} (hf : c 52 = f) (hv : vaF f n) (hd : 2 ≤ d) (hQ : ∀ c', zfm c (drF (suF f)) c' → Qf 0 c') : zCl l E ad mX8_chances d [.ref (ad 51)] c Qf := by
  subst hf
  refine z_enter (own := RX8) [some (.ref (ad 51)), none] (by decide +kernel) rfl rfl rfl (Nat.le_of_ble_eq_true rfl) ?_
  have tail : ∀ (g : zN) (c1 : zS) (x1 : Option Value), zfm c g c1 → (∀ c', zfm c (drF g) c' → Qf 0 c') → zW l E ad RX8 cX8_chances 2 0 d Qf 50 [some (.ref (ad 51)), x1] [] c1 := by
    intro g c1 x1 hc1 hq
    have e1 := hc1.1
    have hdr : drF g = if reF (dvF (dzF g)) 8 = 0 then upd (dzF (dzF g)) 1 (g 1 ^^^ 1 <<< ((1 + reF (dvF g) 14) &&& 31)) else dzF (dzF g) := rfl
    refine z_iconst (v := 1) dX8_chances_50 (by decide) ?_
    refine z_aload_n (i := 0) dX8_chances_51 rfl rfl ?_
    refine z_Vi (As := []) dX8_chances_52 (by rfl) v_X8_draw l_X8_181 (by first | decide | assumption | omega) rfl rfl rfl (by omega) (by decide) (Nat.le_of_ble_eq_true rfl) ?_
    refine t_draw e1 ?_
    refine z_bipush (v := 14) dX8_chances_55 (by decide) ?_
    refine z_irem dX8_chances_57 (by first | decide | assumption) ?_
    refine z_iadd dX8_chances_58 ?_
    refine z_istore_n (i := 1) [_, _] dX8_chances_59 rfl (by decide) rfl rfl ?_
    refine z_aload_n (i := 0) dX8_chances_60 rfl rfl ?_
    refine z_Vi (As := []) dX8_chances_61 (by rfl) v_X8_draw l_X8_181 (by first | decide | assumption | omega) rfl rfl rfl (by omega) (by decide) (Nat.le_of_ble_eq_true rfl) ?_
    refine t_draw (f := dzF g) (zup_s _ _ _) ?_
    refine z_bipush (v := 8) dX8_chances_64 (by decide) ?_
    refine z_irem dX8_chances_66 (by first | decide | assumption) ?_
    refine z_if_ne 82 dX8_chances_67 (by decide) (fun h_67 => ?_) (fun h_67 => ?_)
    · first
      | (rw [if_neg (by assumption)] at hdr
         rw [← hdr]
         exact z_ret (r := 0) dX8_chances_82 (hq _ (by rw [zup_zup]; exact zfm_up hc1 _)) rfl rfl)
      | (rw [if_pos (show reF (dvF (dzF g)) 8 = 0 by first | assumption | exact Classical.not_not.mp (by assumption))] at hdr
         refine z_ret (r := 0) dX8_chances_82 (hq _ ?_) rfl rfl
         rw [hdr]
         simp only [zup_s, zup_zup]
         exact zfm_up hc1 _)
    · refine z_aload_n (i := 0) dX8_chances_70 rfl rfl ?_
      refine z_getf dX8_chances_71 f_X8_7 (by first | decide | assumption | omega) rfl (by rfl) ?_
      refine z_iconst (v := 1) dX8_chances_74 (by decide) ?_
      refine z_dup2 dX8_chances_75 rfl rfl ?_
      refine z_iald (j := 1) dX8_chances_76 (by first | decide | assumption | omega) rfl (by rfl) (by first | decide | omega) (by first | decide | omega) ?_
      refine z_iconst (v := 1) dX8_chances_77 (by decide) ?_
      refine z_iload_n (i := 1) dX8_chances_78 rfl rfl ?_
      refine z_ishl dX8_chances_79 ?_
      refine z_ixor dX8_chances_80 ?_
      refine z_iast (j := 1) dX8_chances_81 (by first | decide | assumption | omega) (fun _ => rfl) (by rfl) (by first | decide | omega) (by first | decide | omega) ?_
      first
      | (rw [if_neg (by assumption)] at hdr
         rw [← hdr]
         exact z_ret (r := 0) dX8_chances_82 (hq _ (by rw [zup_zup]; exact zfm_up hc1 _)) rfl rfl)
      | (rw [if_pos (show reF (dvF (dzF g)) 8 = 0 by first | assumption | exact Classical.not_not.mp (by assumption))] at hdr
         refine z_ret (r := 0) dX8_chances_82 (hq _ ?_) rfl rfl
         rw [hdr]
         simp only [zup_s, zup_zup]
         exact zfm_up hc1 _)
  have hn6 := hv.2.1
  by_cases h5 : 0 < c 52 5
  · have hn0 : 0 < n := by
      rw [hv.1, pn_0 (by omega)] at h5
      exact h5
    obtain ⟨j, hj, ej⟩ := reF_nI (c 52) hn0 (by omega)
    have hsu : suF (c 52) = upd (dzF (dzF (c 52))) (8 + 5 * j + 2) (hdF 0 99 (c 52 (8 + 5 * j + 2) + reF (dvF (dzF (c 52))) 21 - 10)) := by
      unfold suF
      rw [if_pos h5]
      dsimp only
      rw [hv.1, ej, pn_nI (by omega)]
    refine z_aload_n (i := 0) dX8_chances_0 rfl rfl ?_
    refine z_getf dX8_chances_1 f_X8_7 (by first | decide | assumption | omega) rfl (by rfl) ?_
    refine z_iconst (v := 5) dX8_chances_4 (by decide) ?_
    refine z_iald dX8_chances_5 (by first | decide | assumption | omega) rfl (by rfl) (by first | decide | omega) (by first | decide | omega) ?_
    refine z_if_le 50 dX8_chances_6 (by decide) (fun h_6 => ?_) (fun h_6 => ?_)
    · exfalso; grind
    refine z_aload_n (i := 0) dX8_chances_9 rfl rfl ?_
    refine z_Vi (As := []) dX8_chances_10 (by rfl) v_X8_draw l_X8_181 (by first | decide | assumption | omega) rfl rfl rfl (by omega) (by decide) (Nat.le_of_ble_eq_true rfl) ?_
    refine t_draw rfl ?_
    refine z_aload_n (i := 0) dX8_chances_13 rfl rfl ?_
    refine z_getf dX8_chances_14 f_X8_7 (by first | decide | assumption | omega) rfl (by rfl) ?_
    refine z_iconst (v := 5) dX8_chances_17 (by decide) ?_
    refine z_iald dX8_chances_18 (by first | decide | assumption | omega) rfl (by rfl) (by first | decide | omega) (by first | decide | omega) ?_
    have e19 : dvF (c 52) - dvF (c 52) / dzF (c 52) 5 * dzF (c 52) 5 = nI j := by rw [show dzF (c 52) 5 = nI n from hv.1]; exact ej
    refine z_irem dX8_chances_19 (by rw [zup_s, show dzF (c 52) 5 = nI n from hv.1]; exact nI_ne0 hn0 (by omega)) ?_
    rw [zup_s, e19]
    refine z_istore_n (i := 1) [_, _] dX8_chances_20 rfl (by decide) rfl rfl ?_
    refine z_aload_n (i := 0) dX8_chances_21 rfl rfl ?_
    refine z_iload_n (i := 1) dX8_chances_22 rfl rfl ?_
    refine z_iconst (v := 2) dX8_chances_23 (by decide) ?_
    refine z_aload_n (i := 0) dX8_chances_24 rfl rfl ?_
    refine z_iload_n (i := 1) dX8_chances_25 rfl rfl ?_
    refine z_iconst (v := 2) dX8_chances_26 (by decide) ?_
    refine z_Vi (As := [_, _]) dX8_chances_27 (by rfl) v_X8_its l_X8_111 (by first | decide | assumption | omega) rfl rfl rfl (by omega) (by decide) (Nat.le_of_ble_eq_true rfl) ?_
    refine s_X8_its2 (by omega) ?_
    refine z_aload_n (i := 0) dX8_chances_30 rfl rfl ?_
    refine z_Vi (As := []) dX8_chances_31 (by rfl) v_X8_draw l_X8_181 (by first | decide | assumption | omega) rfl rfl rfl (by omega) (by decide) (Nat.le_of_ble_eq_true rfl) ?_
    refine t_draw (f := dzF (c 52)) (zup_s _ _ _) ?_
    refine z_bipush (v := 21) dX8_chances_34 (by decide) ?_
    refine z_irem dX8_chances_36 (by first | decide | assumption) ?_
    refine z_iadd dX8_chances_37 ?_
    refine z_bipush (v := 10) dX8_chances_38 (by decide) ?_
    refine z_isub dX8_chances_40 ?_
    refine z_iconst (v := 0) dX8_chances_41 (by decide) ?_
    refine z_bipush (v := 99) dX8_chances_42 (by decide) ?_
    refine z_Si (As := [_, _, _]) dX8_chances_44 (by rfl) v_X8_held l_X8_121 rfl (by omega) (by decide) (Nat.le_of_ble_eq_true rfl) ?_
    refine s_X8_held ?_
    refine z_Vv (As := [_, _, _]) dX8_chances_47 (by rfl) v_X8_lays1 l_X8_142 (by first | decide | assumption | omega) rfl rfl rfl (by omega) (by decide) (Nat.le_of_ble_eq_true rfl) ?_
    refine s_X8_lays12 (by omega) ?_
    refine tail (suF (c 52)) _ _ ?_ hQ
    rw [hsu]
    simp only [zup_s, zup_zup]
    rw [show dzF (c 52) (8 + 5 * j + 2) = c 52 (8 + 5 * j + 2) from pk_un (by omega)]
    exact zfm_up zfm_rf _
  · have hsu : suF (c 52) = c 52 := by unfold suF; rw [if_neg h5]
    rw [hsu] at hQ
    refine z_aload_n (i := 0) dX8_chances_0 rfl rfl ?_
    refine z_getf dX8_chances_1 f_X8_7 (by first | decide | assumption | omega) rfl (by rfl) ?_
    refine z_iconst (v := 5) dX8_chances_4 (by decide) ?_
    refine z_iald dX8_chances_5 (by first | decide | assumption | omega) rfl (by rfl) (by first | decide | omega) (by first | decide | omega) ?_
    refine z_if_le 50 dX8_chances_6 (by decide) (fun h_6 => ?_) (fun h_6 => ?_)
    rotate_left
    · exfalso; grind
    exact tail (c 52) c _ zfm_rf hQ
theorem loF_s (m : Nat) : ∀ f : zN, loF (m + 1) f = hrF (drF (suF (loF m f))) := by
  induction m with
  | zero => intro f; rfl
  | succ m ih => intro f; exact ih _
theorem o8_loose {k : Int32} (hv : vaF (c 52) n) (hd : 8 ≤ d) (hQ : ∀ r c', (∀ k, k < 51 → c' k = c k) → (r, mst c') = o_loose (mst c) k → Qf r c') : zCl l E ad mX8_loose d [.ref (ad 51), .int k] c Qf := by
  obtain ⟨hn, hn6, hw0, hw1⟩ := id hv
  refine z_enter (own := RX8) [some (.ref (ad 51)), some (.int k), none, none] (by decide +kernel) rfl rfl rfl (Nat.le_of_ble_eq_true rfl) ?_
  by_cases h1 : 1 ≤ k ∧ k ≤ 30
  · by_cases h2 : c 52 0 + k ≤ 9999
    · obtain ⟨j, hj, rfl⟩ := zj_of (x := k) (n := 31) (by grind) (by show k < (31 : Int32); grind) (by decide)
      have loop : ∀ (r i : Nat) (c1 : zS), j - i < r → i ≤ j → zfm c (loF i (c 52)) c1 → zW l E ad RX8 cX8_loose 4 1 d Qf 20 [some (.ref (ad 51)), some (.int (nI j)), some (.int 0), some (.int (nI i))] [] c1 := by
        intro r
        induction r with
        | zero => intro i c1 h; omega
        | succ r ih =>
          intro i c1 hr hi hc1
          have hlt := nI_leI (a := j) (b := i) (by omega) (by omega)
          have hv1 := vaF_lo (k := i) hv
          refine z_iload_n (i := 3) dX8_loose_20 rfl rfl ?_
          refine z_iload_n (i := 1) dX8_loose_21 rfl rfl ?_
          refine z_icmp_ge 39 dX8_loose_22 (by decide) (fun h_22 => ?_) (fun h_22 => ?_)
          · have hij : i = j := by have := hlt.mp h_22; omega
            subst hij
            refine z_aload_n (i := 0) dX8_loose_39 rfl rfl ?_
            refine z_Vi (As := []) dX8_loose_40 (by rfl) v_X8_through l_X8_178 (by first | decide | assumption | omega) rfl rfl rfl (by omega) (by decide) (Nat.le_of_ble_eq_true rfl) ?_
            refine s_X8_through hc1.1 hv1 (by omega) ?_
            exact z_ret dX8_loose_43 (hQ _ _ (fun k hk => hc1.2 k (by omega) (by omega) (by omega)) (by unfold o_loose; rw [if_pos h1, if_pos (show (mst c).1 0 + nI i ≤ 9999 from h2), mst_zfm hc1, pn_nI (by omega)]; rfl)) trivial rfl
          · refine z_aload_n (i := 0) dX8_loose_25 rfl rfl ?_
            refine z_Vv (As := []) dX8_loose_26 (by rfl) v_X8_chances l_X8_184 (by first | decide | assumption | omega) rfl rfl rfl (by omega) (by decide) (Nat.le_of_ble_eq_true rfl) ?_
            refine s_X8_chances hc1.1 hv1 (by omega) (fun c2 hc2 => ?_)
            refine z_aload_n (i := 0) dX8_loose_29 rfl rfl ?_
            refine z_Vv (As := []) dX8_loose_30 (by rfl) v_X8_anHour l_X8_150 (by first | decide | assumption | omega) rfl rfl rfl (by omega) (by decide) (Nat.le_of_ble_eq_true rfl) ?_
            refine s_X8_anHour hc2.1 (vaF_dr (vaF_su hv1)) (by omega) (fun c3 hc3 => ?_)
            refine z_iinc (i := 3) (v := 1) [_, _, _, _] dX8_loose_33 rfl (by decide) (by decide) rfl rfl ?_
            refine z_goto 20 dX8_loose_36 (by decide) ?_
            rw [nI_1]
            have hij : i < j := by have := mt hlt.mpr h_22; omega
            exact ih (i + 1) _ (by omega) (by omega) (by rw [loF_s]; exact zfm_tr (zfm_tr hc1 hc2) hc3)
      refine z_aload_n (i := 0) dX8_loose_0 rfl rfl ?_
      refine z_iload_n (i := 1) dX8_loose_1 rfl rfl ?_
      refine z_bipush (v := 30) dX8_loose_2 (by decide) ?_
      refine z_Vi (As := [_, _]) dX8_loose_4 (by rfl) v_X8_whyNot l_X8_172 (by first | decide | assumption | omega) rfl rfl rfl (by omega) (by decide) (Nat.le_of_ble_eq_true rfl) ?_
      refine s_X8_whyNot (by omega) ?_
      rw [if_pos h1, if_pos h2]
      refine z_istore_n (i := 2) [_, _, _, _] dX8_loose_7 rfl (by decide) rfl rfl ?_
      refine z_iload_n (i := 2) dX8_loose_8 rfl rfl ?_
      refine z_if_eq 18 dX8_loose_9 (by decide) (fun h_9 => ?_) (fun h_9 => ?_)
      rotate_left
      · exact absurd rfl h_9
      refine z_iconst (v := 0) dX8_loose_18 (by decide) ?_
      refine z_istore_n (i := 3) [_, _, _, _] dX8_loose_19 rfl (by decide) rfl rfl ?_
      exact loop (j + 1) 0 c (by omega) (by omega) zfm_rf
    · skip
      refine z_aload_n (i := 0) dX8_loose_0 rfl rfl ?_
      refine z_iload_n (i := 1) dX8_loose_1 rfl rfl ?_
      refine z_bipush (v := 30) dX8_loose_2 (by decide) ?_
      refine z_Vi (As := [_, _]) dX8_loose_4 (by rfl) v_X8_whyNot l_X8_172 (by first | decide | assumption | omega) rfl rfl rfl (by omega) (by decide) (Nat.le_of_ble_eq_true rfl) ?_
      refine s_X8_whyNot (by omega) ?_
      rw [if_pos h1, if_neg h2]
      refine z_istore_n (i := 2) [_, _, _, _] dX8_loose_7 rfl (by decide) rfl rfl ?_
      refine z_iload_n (i := 2) dX8_loose_8 rfl rfl ?_
      refine z_if_eq 18 dX8_loose_9 (by decide) (fun h_9 => ?_) (fun h_9 => ?_)
      · exact absurd h_9 (by decide)
      refine z_aload_n (i := 0) dX8_loose_12 rfl rfl ?_
      refine z_iload_n (i := 2) dX8_loose_13 rfl rfl ?_
      refine z_Vi (As := [_]) dX8_loose_14 (by rfl) v_X8_error l_X8_51 (by first | decide | assumption | omega) rfl rfl rfl (by omega) (by decide) (Nat.le_of_ble_eq_true rfl) ?_
      refine s_X8_error (by rfl) (by first | decide | omega) ?_
      exact z_ret dX8_loose_17 (hQ _ _ (by intro k hk; simp (disch := omega) only [zup_n]) (by unfold o_loose; rw [if_pos h1, if_neg (show ¬ (mst c).1 0 + k ≤ 9999 from h2)]; rfl)) trivial rfl
  · skip
    refine z_aload_n (i := 0) dX8_loose_0 rfl rfl ?_
    refine z_iload_n (i := 1) dX8_loose_1 rfl rfl ?_
    refine z_bipush (v := 30) dX8_loose_2 (by decide) ?_
    refine z_Vi (As := [_, _]) dX8_loose_4 (by rfl) v_X8_whyNot l_X8_172 (by first | decide | assumption | omega) rfl rfl rfl (by omega) (by decide) (Nat.le_of_ble_eq_true rfl) ?_
    refine s_X8_whyNot (by omega) ?_
    rw [if_neg h1]
    refine z_istore_n (i := 2) [_, _, _, _] dX8_loose_7 rfl (by decide) rfl rfl ?_
    refine z_iload_n (i := 2) dX8_loose_8 rfl rfl ?_
    refine z_if_eq 18 dX8_loose_9 (by decide) (fun h_9 => ?_) (fun h_9 => ?_)
    · exact absurd h_9 (by decide)
    refine z_aload_n (i := 0) dX8_loose_12 rfl rfl ?_
    refine z_iload_n (i := 2) dX8_loose_13 rfl rfl ?_
    refine z_Vi (As := [_]) dX8_loose_14 (by rfl) v_X8_error l_X8_51 (by first | decide | assumption | omega) rfl rfl rfl (by omega) (by decide) (Nat.le_of_ble_eq_true rfl) ?_
    refine s_X8_error (by rfl) (by first | decide | omega) ?_
    exact z_ret dX8_loose_17 (hQ _ _ (by intro k hk; simp (disch := omega) only [zup_n]) (by unfold o_loose; rw [if_neg h1]; rfl)) trivial rfl
end R8
