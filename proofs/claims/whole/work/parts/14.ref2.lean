/-! the reference's calls, two: texts' bytes, images, what is told -/
theorem mst_zfm {c c' : zS} {F : zN} (h : zfm c F c') : mst c' = wS (mst c) F := by
  unfold mst wS
  rw [h.1, h.2 53 (by decide) (by decide) (by decide), h.2 55 (by decide) (by decide) (by decide), h.2 51 (by decide) (by decide) (by decide), h.2 59 (by decide) (by decide) (by decide), h.2 60 (by decide) (by decide) (by decide), h.2 61 (by decide) (by decide) (by decide), h.2 62 (by decide) (by decide) (by decide)]
theorem fdN_3 {w : Int64} {f : zN} {t : Nat} (h : f 3 = nI t) : ∀ k, fdN w k f 3 = nI (t + k)
  | 0 => h
  | k + 1 => by
    unfold fdN
    rw [pk_us, fdN_3 h k, nI_1]
    rfl
section R2
variable {l : Launch} {E : zE} {ad : Nat → Nat} {c : zS} {Qf : Int32 → zS → Prop} {d n : Nat}
theorem l8_feed {w : Int64} {t m : Nat} (ht : c 52 3 = nI t) (htm : t + m ≤ 60) (hQ : Qf (fdN w m (c 52) 3) (zup c 52 (fdN w m (c 52)))) : ∀ (r i : Nat), m - i < r → i ≤ m → zW l E ad RX8 cX8_feed 5 1 d Qf 38 [some (.ref (ad 51)), some (.long w), none, some (.int (nI m)), some (.int (nI i))] [] (zup c 52 (fdN w i (c 52))) := by
  intro r
  induction r with
  | zero => intro i h; omega
  | succ r ih =>
    intro i hr hi
    have hlt := nI_leI (a := m) (b := i) (by omega) (by omega)
    have e3 := fdN_3 (w := w) ht i
    refine z_iload (i := 4) dX8_feed_38 rfl ?_
    refine z_iload_n (i := 3) dX8_feed_40 rfl rfl ?_
    refine z_icmp_ge 87 dX8_feed_41 (by decide) (fun h_41 => ?_) (fun h_41 => ?_)
    · refine z_aload_n (i := 0) dX8_feed_87 rfl rfl ?_
      refine z_getf dX8_feed_88 f_X8_7 (by first | decide | assumption | omega) rfl (by rfl) ?_
      refine z_iconst (v := 3) dX8_feed_91 (by decide) ?_
      refine z_iald dX8_feed_92 (by first | decide | assumption | omega) rfl (by rfl) (by first | decide | omega) (by first | decide | omega) ?_
      have him : i = m := by have := hlt.mp h_41; omega
      subst him
      exact z_ret dX8_feed_93 hQ trivial rfl
    · have him : i < m := by have := mt hlt.mpr h_41; omega
      rw [← zup_s c 52 (fdN w i (c 52))] at e3
      refine z_aload_n (i := 0) dX8_feed_44 rfl rfl ?_
      refine z_getf dX8_feed_45 f_X8_7 (by first | decide | assumption | omega) rfl (by rfl) ?_
      refine z_sipush (v := 288) dX8_feed_48 (by decide) ?_
      refine z_aload_n (i := 0) dX8_feed_51 rfl rfl ?_
      refine z_getf dX8_feed_52 f_X8_7 (by first | decide | assumption | omega) rfl (by rfl) ?_
      refine z_iconst (v := 3) dX8_feed_55 (by decide) ?_
      refine z_iald dX8_feed_56 (by first | decide | assumption | omega) rfl (by rfl) (by first | decide | omega) (by first | decide | omega) ?_
      refine z_iadd dX8_feed_57 ?_
      refine z_lload_n (i := 1) dX8_feed_58 rfl rfl ?_
      refine z_bipush (v := 8) dX8_feed_59 (by decide) ?_
      refine z_iload (i := 4) dX8_feed_61 rfl ?_
      refine z_imul dX8_feed_63 ?_
      refine z_lshr dX8_feed_64 ?_
      refine z_ldc2_w dX8_feed_65 k_X8_55 ?_
      refine z_land dX8_feed_68 ?_
      refine z_l2i dX8_feed_69 ?_
      refine z_iast (j := 288 + (t + i)) dX8_feed_70 (by first | decide | assumption | omega) (fun _ => rfl) (by rw [e3]; show nI 288 + nI (t + i) = _; rw [nI_add]) (by first | decide | omega) (by first | decide | omega) ?_
      refine z_aload_n (i := 0) dX8_feed_71 rfl rfl ?_
      refine z_getf dX8_feed_72 f_X8_7 (by first | decide | assumption | omega) rfl (by rfl) ?_
      refine z_iconst (v := 3) dX8_feed_75 (by decide) ?_
      refine z_dup2 dX8_feed_76 rfl rfl ?_
      refine z_iald dX8_feed_77 (by first | decide | assumption | omega) rfl (by rfl) (by first | decide | omega) (by first | decide | omega) ?_
      refine z_iconst (v := 1) dX8_feed_78 (by decide) ?_
      refine z_iadd dX8_feed_79 ?_
      refine z_iast dX8_feed_80 (by first | decide | assumption | omega) (fun _ => rfl) (by rfl) (by first | decide | omega) (by first | decide | omega) ?_
      refine z_iinc (i := 4) (v := 1) [_, _, _, _, _] dX8_feed_81 rfl (by decide) (by decide) rfl rfl ?_
      refine z_goto 38 dX8_feed_84 (by decide) ?_
      rw [nI_1]
      have := ih (i + 1) (by omega) (by omega)
      have e4 : fdN w (i + 1) (c 52) = upd (upd (fdN w i (c 52)) (288 + (t + i)) (((w >>> ((8 * nI i).toInt64 &&& 63)) &&& 255).toInt32)) 3 (fdN w i (c 52) 3 + 1) := by
        show upd (upd _ (288 + pn (fdN w i (c 52) 3)) _) 3 _ = _
        rw [show fdN w i (c 52) 3 = nI (t + i) from e3, pn_nI (by omega)]
      rw [e4] at this
      simp (disch := omega) only [zup_s, zup_zup, pk_un]
      exact this
theorem o8_feed {w : Int64} {k : Int32} {t : Nat} (ht : c 52 3 = nI t) (ht6 : t ≤ 60) (hd : 3 ≤ d) (hQ : ∀ r c', (∀ k, k < 51 → c' k = c k) → (r, mst c') = o_feed (mst c) w k → Qf r c') : zCl l E ad mX8_feed d [.ref (ad 51), .long w, .int k] c Qf := by
  refine z_enter (own := RX8) [some (.ref (ad 51)), some (.long w), none, some (.int k), none] (by decide +kernel) rfl rfl rfl (Nat.le_of_ble_eq_true rfl) ?_
  refine z_iload_n (i := 3) dX8_feed_0 rfl rfl ?_
  refine z_iconst (v := 1) dX8_feed_1 (by decide) ?_
  refine z_bipush (v := 8) dX8_feed_2 (by decide) ?_
  refine z_Sb (As := [_, _, _]) dX8_feed_4 (by rfl) v_X8_in l_X8_47 rfl (by omega) (by decide) (Nat.le_of_ble_eq_true rfl) ?_
  refine s_X8_in ?_
  refine z_if_ne 16 dX8_feed_7 (by decide) (fun h_7 => ?_) (fun h_7 => ?_)
  · refine z_aload_n (i := 0) dX8_feed_16 rfl rfl ?_
    refine z_getf dX8_feed_17 f_X8_7 (by first | decide | assumption | omega) rfl (by rfl) ?_
    refine z_iconst (v := 3) dX8_feed_20 (by decide) ?_
    refine z_iald dX8_feed_21 (by first | decide | assumption | omega) rfl (by rfl) (by first | decide | omega) (by first | decide | omega) ?_
    refine z_iload_n (i := 3) dX8_feed_22 rfl rfl ?_
    refine z_iadd dX8_feed_23 ?_
    refine z_bipush (v := 60) dX8_feed_24 (by decide) ?_
    refine z_icmp_le 35 dX8_feed_26 (by decide) (fun h_26 => ?_) (fun h_26 => ?_)
    · have hok : 1 ≤ k ∧ k ≤ 8 := by grind
      have hok2 : c 52 3 + k ≤ 60 := by grind
      obtain ⟨m, hm, rfl⟩ := zj_of (x := k) (n := 9) (by grind) (by show k < (9 : Int32); grind) (by decide)
      have htm : t + m ≤ 60 := by
        rw [ht, nI_add] at hok2
        exact (nI_leI (a := t + m) (b := 60) (by omega) (by omega)).mp hok2
      refine z_iconst (v := 0) dX8_feed_35 (by decide) ?_
      refine z_istore (i := 4) [_, _, _, _, _] dX8_feed_36 (by decide) rfl rfl ?_
      exact l8_feed ht htm (hQ _ _ (by intro k hk; simp (disch := omega) only [zup_n]) (by unfold o_feed; rw [if_pos hok, if_pos (show (mst c).1 3 + nI m ≤ 60 from hok2), pn_nI (by omega)]; rfl)) (m + 1) 0 (by omega) (by omega)
    · refine z_aload_n (i := 0) dX8_feed_29 rfl rfl ?_
      refine z_iconst (v := 4) dX8_feed_30 (by decide) ?_
      refine z_Vi (As := [_]) dX8_feed_31 (by rfl) v_X8_error l_X8_51 (by first | decide | assumption | omega) rfl rfl rfl (by omega) (by decide) (Nat.le_of_ble_eq_true rfl) ?_
      refine s_X8_error (by rfl) (by first | decide | omega) ?_
      exact z_ret dX8_feed_34 (hQ _ _ (by intro k hk; simp (disch := omega) only [zup_n]) (by unfold o_feed; rw [if_pos (by grind), if_neg (by show ¬ (c 52 3 + k ≤ 60); grind)]; rfl)) trivial rfl
  · refine z_aload_n (i := 0) dX8_feed_10 rfl rfl ?_
    refine z_iconst (v := 1) dX8_feed_11 (by decide) ?_
    refine z_Vi (As := [_]) dX8_feed_12 (by rfl) v_X8_error l_X8_51 (by first | decide | assumption | omega) rfl rfl rfl (by omega) (by decide) (Nat.le_of_ble_eq_true rfl) ?_
    refine s_X8_error (by rfl) (by first | decide | omega) ?_
    exact z_ret dX8_feed_15 (hQ _ _ (by intro k hk; simp (disch := omega) only [zup_n]) (by unfold o_feed; rw [if_neg (by grind)]; rfl)) trivial rfl
theorem o8_untell {u : Int32} (hd : 3 ≤ d) (hQ : ∀ r c', (∀ k, k < 51 → c' k = c k) → (r, mst c') = o_untell (mst c) u → Qf r c') : zCl l E ad mX8_untell d [.ref (ad 51), .int u] c Qf := by
  refine z_enter (own := RX8) [some (.ref (ad 51)), some (.int u), none] (by decide +kernel) rfl rfl rfl (Nat.le_of_ble_eq_true rfl) ?_
  refine z_iload_n (i := 1) dX8_untell_0 rfl rfl ?_
  refine z_iconst (v := 0) dX8_untell_1 (by decide) ?_
  refine z_iconst (v := 1) dX8_untell_2 (by decide) ?_
  refine z_Sb (As := [_, _, _]) dX8_untell_3 (by rfl) v_X8_in l_X8_47 rfl (by omega) (by decide) (Nat.le_of_ble_eq_true rfl) ?_
  refine s_X8_in ?_
  refine z_if_ne 15 dX8_untell_6 (by decide) (fun h_6 => ?_) (fun h_6 => ?_)
  · have hok : 0 ≤ u ∧ u ≤ 1 := by grind
    obtain ⟨j, hj, rfl⟩ := zj_of (x := u) (n := 2) hok.1 (by show u < (2 : Int32); grind) (by decide)
    refine z_aload_n (i := 0) dX8_untell_15 rfl rfl ?_
    refine z_iload_n (i := 1) dX8_untell_16 rfl rfl ?_
    refine z_Vb (As := [_]) dX8_untell_17 (by rfl) v_X8_hasText l_X8_104 (by first | decide | assumption | omega) rfl rfl rfl (by omega) (by decide) (Nat.le_of_ble_eq_true rfl) ?_
    refine s_X8_hasText (by assumption) ?_
    refine z_if_eq 27 dX8_untell_20 (by decide) (fun h_20 => ?_) (fun h_20 => ?_)
    · refine z_iconst (v := 0) dX8_untell_27 (by decide) ?_
      refine z_istore_n (i := 2) [_, _, _] dX8_untell_28 rfl (by decide) rfl rfl ?_
      refine z_aload_n (i := 0) dX8_untell_29 rfl rfl ?_
      refine z_getf dX8_untell_30 f_X8_7 (by first | decide | assumption | omega) rfl (by rfl) ?_
      refine z_bipush (v := 38) dX8_untell_33 (by decide) ?_
      refine z_bipush (v := 125) dX8_untell_35 (by decide) ?_
      refine z_iload_n (i := 1) dX8_untell_37 rfl rfl ?_
      refine z_imul dX8_untell_38 ?_
      refine z_iadd dX8_untell_39 ?_
      refine z_iconst (v := 0) dX8_untell_40 (by decide) ?_
      refine z_iast (j := 38 + 125 * j) dX8_untell_41 (by first | decide | assumption | omega) (fun _ => rfl) (zi_u j) (by first | decide | omega) (by first | decide | omega) ?_
      refine z_iload_n (i := 2) dX8_untell_42 rfl rfl ?_
      first
      | exact z_ret dX8_untell_43 (hQ _ _ (by intro k hk; simp (disch := omega) only [zup_n]) (by unfold o_untell; rw [if_pos hok, pn_nI (by omega), if_pos (by show 0 < c 52 (38 + 125 * j); grind)]; rfl)) trivial rfl
      | exact z_ret dX8_untell_43 (hQ _ _ (by intro k hk; simp (disch := omega) only [zup_n]) (by unfold o_untell; rw [if_pos hok, pn_nI (by omega), if_neg (by show ¬ 0 < c 52 (38 + 125 * j); grind)]; rfl)) trivial rfl
    · refine z_iconst (v := 1) dX8_untell_23 (by decide) ?_
      refine z_goto 28 dX8_untell_24 (by decide) ?_
      refine z_istore_n (i := 2) [_, _, _] dX8_untell_28 rfl (by decide) rfl rfl ?_
      refine z_aload_n (i := 0) dX8_untell_29 rfl rfl ?_
      refine z_getf dX8_untell_30 f_X8_7 (by first | decide | assumption | omega) rfl (by rfl) ?_
      refine z_bipush (v := 38) dX8_untell_33 (by decide) ?_
      refine z_bipush (v := 125) dX8_untell_35 (by decide) ?_
      refine z_iload_n (i := 1) dX8_untell_37 rfl rfl ?_
      refine z_imul dX8_untell_38 ?_
      refine z_iadd dX8_untell_39 ?_
      refine z_iconst (v := 0) dX8_untell_40 (by decide) ?_
      refine z_iast (j := 38 + 125 * j) dX8_untell_41 (by first | decide | assumption | omega) (fun _ => rfl) (zi_u j) (by first | decide | omega) (by first | decide | omega) ?_
      refine z_iload_n (i := 2) dX8_untell_42 rfl rfl ?_
      first
      | exact z_ret dX8_untell_43 (hQ _ _ (by intro k hk; simp (disch := omega) only [zup_n]) (by unfold o_untell; rw [if_pos hok, pn_nI (by omega), if_pos (by show 0 < c 52 (38 + 125 * j); grind)]; rfl)) trivial rfl
      | exact z_ret dX8_untell_43 (hQ _ _ (by intro k hk; simp (disch := omega) only [zup_n]) (by unfold o_untell; rw [if_pos hok, pn_nI (by omega), if_neg (by show ¬ 0 < c 52 (38 + 125 * j); grind)]; rfl)) trivial rfl
  · refine z_aload_n (i := 0) dX8_untell_9 rfl rfl ?_
    refine z_iconst (v := 1) dX8_untell_10 (by decide) ?_
    refine z_Vi (As := [_]) dX8_untell_11 (by rfl) v_X8_error l_X8_51 (by first | decide | assumption | omega) rfl rfl rfl (by omega) (by decide) (Nat.le_of_ble_eq_true rfl) ?_
    refine s_X8_error (by rfl) (by first | decide | omega) ?_
    exact z_ret dX8_untell_14 (hQ _ _ (by intro k hk; simp (disch := omega) only [zup_n]) (by unfold o_untell; rw [if_neg (by grind)]; rfl)) trivial rfl
theorem o8_law {u a b h : Int32} (hv : vaF (c 52) n) (hd : 4 ≤ d) (hQ : ∀ r c', (∀ k, k < 51 → c' k = c k) → (r, mst c') = o_law (mst c) u a b h → Qf r c') : zCl l E ad mX8_law d [.ref (ad 51), .int u, .int a, .int b, .int h] c Qf := by
  obtain ⟨hn, hn6, hw0, hw1⟩ := id hv
  refine z_enter (own := RX8) [some (.ref (ad 51)), some (.int u), some (.int a), some (.int b), some (.int h)] (by decide +kernel) rfl rfl rfl (Nat.le_of_ble_eq_true rfl) ?_
  refine z_iload_n (i := 1) dX8_law_0 rfl rfl ?_
  refine z_iconst (v := 0) dX8_law_1 (by decide) ?_
  refine z_iconst (v := 1) dX8_law_2 (by decide) ?_
  refine z_Sb (As := [_, _, _]) dX8_law_3 (by rfl) v_X8_in l_X8_47 rfl (by omega) (by decide) (Nat.le_of_ble_eq_true rfl) ?_
  refine s_X8_in ?_
  refine z_if_ne 15 dX8_law_6 (by decide) (fun h_6 => ?_) (fun h_6 => ?_)
  · refine z_iload_n (i := 1) dX8_law_15 rfl rfl ?_
    refine z_if_ne 30 dX8_law_16 (by decide) (fun h_16 => ?_) (fun h_16 => ?_)
    · refine z_aload_n (i := 0) dX8_law_30 rfl rfl ?_
      refine z_iload_n (i := 2) dX8_law_31 rfl rfl ?_
      refine z_iload_n (i := 3) dX8_law_32 rfl rfl ?_
      refine z_iload (i := 4) dX8_law_33 rfl ?_
      refine z_Vi (As := [_, _, _]) dX8_law_35 (by rfl) v_X8_paceTold l_X8_133 (by first | decide | assumption | omega) rfl rfl rfl (by omega) (by decide) (Nat.le_of_ble_eq_true rfl) ?_
      refine s_X8_paceTold rfl hw1 (by omega) (fun c' hc' => ?_)
      exact z_ret dX8_law_38 (hQ _ _ (fun k hk => hc'.2 k (by omega) (by omega) (by omega)) (by unfold o_law; rw [if_pos (by grind), mst_zfm hc']; first | (rw [if_pos (by assumption)]; rfl) | (rw [if_neg (by assumption)]; rfl))) trivial rfl
    · refine z_aload_n (i := 0) dX8_law_19 rfl rfl ?_
      refine z_iload_n (i := 2) dX8_law_20 rfl rfl ?_
      refine z_iload_n (i := 3) dX8_law_21 rfl rfl ?_
      refine z_iload (i := 4) dX8_law_22 rfl ?_
      refine z_Vi (As := [_, _, _]) dX8_law_24 (by rfl) v_X8_clearTold l_X8_127 (by first | decide | assumption | omega) rfl rfl rfl (by omega) (by decide) (Nat.le_of_ble_eq_true rfl) ?_
      refine s_X8_clearTold rfl hw0 (by omega) (fun c' hc' => ?_)
      refine z_goto 38 dX8_law_27 (by decide) ?_
      exact z_ret dX8_law_38 (hQ _ _ (fun k hk => hc'.2 k (by omega) (by omega) (by omega)) (by unfold o_law; rw [if_pos (by grind), mst_zfm hc']; first | (rw [if_pos (by assumption)]; rfl) | (rw [if_neg (by assumption)]; rfl))) trivial rfl
  · refine z_aload_n (i := 0) dX8_law_9 rfl rfl ?_
    refine z_iconst (v := 1) dX8_law_10 (by decide) ?_
    refine z_Vi (As := [_]) dX8_law_11 (by rfl) v_X8_error l_X8_51 (by first | decide | assumption | omega) rfl rfl rfl (by omega) (by decide) (Nat.le_of_ble_eq_true rfl) ?_
    refine s_X8_error (by rfl) (by first | decide | omega) ?_
    exact z_ret dX8_law_14 (hQ _ _ (by intro k hk; simp (disch := omega) only [zup_n]) (by unfold o_law; rw [if_neg (by grind)]; rfl)) trivial rfl
theorem o8_tell {v : Int32} {m : Nat} (hm : c 52 4 = nI m) (hm6 : m ≤ 24) (hd : 3 ≤ d) (hQ : ∀ r c', (∀ k, k < 51 → c' k = c k) → (r, mst c') = o_tell (mst c) v → Qf r c') : zCl l E ad mX8_tell d [.ref (ad 51), .int v] c Qf := by
  have h24 := nI_eq (a := m) (b := 24) (by omega) (by omega)
  refine z_enter (own := RX8) [some (.ref (ad 51)), some (.int v)] (by decide +kernel) rfl rfl rfl (Nat.le_of_ble_eq_true rfl) ?_
  refine z_aload_n (i := 0) dX8_tell_0 rfl rfl ?_
  refine z_getf dX8_tell_1 f_X8_7 (by first | decide | assumption | omega) rfl (by rfl) ?_
  refine z_iconst (v := 4) dX8_tell_4 (by decide) ?_
  refine z_iald dX8_tell_5 (by first | decide | assumption | omega) rfl (by rfl) (by first | decide | omega) (by first | decide | omega) ?_
  refine z_bipush (v := 24) dX8_tell_6 (by decide) ?_
  refine z_icmp_ne 17 dX8_tell_8 (by decide) (fun h_8 => ?_) (fun h_8 => ?_)
  · have hm5 : m < 24 := by rw [hm] at h_8; have := mt h24.mpr h_8; omega
    refine z_aload_n (i := 0) dX8_tell_17 rfl rfl ?_
    refine z_getf dX8_tell_18 f_X8_7 (by first | decide | assumption | omega) rfl (by rfl) ?_
    refine z_sipush (v := 348) dX8_tell_21 (by decide) ?_
    refine z_aload_n (i := 0) dX8_tell_24 rfl rfl ?_
    refine z_getf dX8_tell_25 f_X8_7 (by first | decide | assumption | omega) rfl (by rfl) ?_
    refine z_iconst (v := 4) dX8_tell_28 (by decide) ?_
    refine z_iald dX8_tell_29 (by first | decide | assumption | omega) rfl (by rfl) (by first | decide | omega) (by first | decide | omega) ?_
    refine z_iadd dX8_tell_30 ?_
    refine z_iload_n (i := 1) dX8_tell_31 rfl rfl ?_
    refine z_iast (j := 348 + m) dX8_tell_32 (by first | decide | assumption | omega) (fun _ => rfl) (by rw [hm]; show nI 348 + nI m = _; rw [nI_add]) (by first | decide | omega) (by first | decide | omega) ?_
    refine z_aload_n (i := 0) dX8_tell_33 rfl rfl ?_
    refine z_getf dX8_tell_34 f_X8_7 (by first | decide | assumption | omega) rfl (by rfl) ?_
    refine z_iconst (v := 4) dX8_tell_37 (by decide) ?_
    refine z_dup2 dX8_tell_38 rfl rfl ?_
    refine z_iald dX8_tell_39 (by first | decide | assumption | omega) rfl (by rfl) (by first | decide | omega) (by first | decide | omega) ?_
    refine z_iconst (v := 1) dX8_tell_40 (by decide) ?_
    refine z_iadd dX8_tell_41 ?_
    refine z_iast dX8_tell_42 (by first | decide | assumption | omega) (fun _ => rfl) (by rfl) (by first | decide | omega) (by first | decide | omega) ?_
    refine z_aload_n (i := 0) dX8_tell_43 rfl rfl ?_
    refine z_getf dX8_tell_44 f_X8_7 (by first | decide | assumption | omega) rfl (by rfl) ?_
    refine z_iconst (v := 4) dX8_tell_47 (by decide) ?_
    refine z_iald dX8_tell_48 (by first | decide | assumption | omega) rfl (by rfl) (by first | decide | omega) (by first | decide | omega) ?_
    exact z_ret dX8_tell_49 (hQ _ _ (by intro k hk; simp (disch := omega) only [zup_n]) (by unfold o_tell; rw [if_neg (by exact h_8)]; simp (disch := omega) only [mst, hm, pn_nI (show m < 2147483648 by omega), zup_s, zup_zup, pk_un, pk_us]; rfl)) trivial rfl
  · refine z_aload_n (i := 0) dX8_tell_11 rfl rfl ?_
    refine z_iconst (v := 4) dX8_tell_12 (by decide) ?_
    refine z_Vi (As := [_]) dX8_tell_13 (by rfl) v_X8_error l_X8_51 (by first | decide | assumption | omega) rfl rfl rfl (by omega) (by decide) (Nat.le_of_ble_eq_true rfl) ?_
    refine s_X8_error (by rfl) (by first | decide | omega) ?_
    exact z_ret dX8_tell_16 (hQ _ _ (by intro k hk; simp (disch := omega) only [zup_n]) (by unfold o_tell; rw [if_pos (by exact h_8)]; rfl)) trivial rfl
theorem o8_count {w : Int32} (hv : vaF (c 52) n) (hd : 3 ≤ d) (hQ : ∀ r c', (∀ k, k < 51 → c' k = c k) → (r, mst c') = o_count (mst c) w → Qf r c') : zCl l E ad mX8_count d [.ref (ad 51), .int w] c Qf := by
  obtain ⟨hn, hn6, hw0, hw1⟩ := id hv
  refine z_enter (own := RX8) [some (.ref (ad 51)), some (.int w)] (by decide +kernel) rfl rfl rfl (Nat.le_of_ble_eq_true rfl) ?_
  refine z_iload_n (i := 1) dX8_count_0 rfl rfl ?_
  by_cases h_1_0 : w = 0
  · refine z_table (v := 0) 48 dX8_count_1 h_1_0 (by decide) (by decide) rfl (by decide) ?_
    refine z_aload_n (i := 0) dX8_count_48 rfl rfl ?_
    refine z_getf dX8_count_49 f_X8_7 (by first | decide | assumption | omega) rfl (by rfl) ?_
    refine z_iconst (v := 5) dX8_count_52 (by decide) ?_
    refine z_iald dX8_count_53 (by first | decide | assumption | omega) rfl (by rfl) (by first | decide | omega) (by first | decide | omega) ?_
    exact z_ret dX8_count_54 (hQ _ _ (by intro k hk; simp (disch := omega) only [zup_n]) (by unfold o_count; rw [if_pos h_1_0]; rfl)) trivial rfl
  by_cases h_1_1 : w = 1
  · refine z_table (v := 1) 55 dX8_count_1 h_1_1 (by decide) (by decide) rfl (by decide) ?_
    refine z_aload_n (i := 0) dX8_count_55 rfl rfl ?_
    refine z_getf dX8_count_56 f_X8_7 (by first | decide | assumption | omega) rfl (by rfl) ?_
    refine z_iconst (v := 1) dX8_count_59 (by decide) ?_
    refine z_iald dX8_count_60 (by first | decide | assumption | omega) rfl (by rfl) (by first | decide | omega) (by first | decide | omega) ?_
    exact z_ret dX8_count_61 (hQ _ _ (by intro k hk; simp (disch := omega) only [zup_n]) (by unfold o_count; rw [if_neg h_1_0, if_pos h_1_1]; rfl)) trivial rfl
  by_cases h_1_2 : w = 2
  · refine z_table (v := 2) 62 dX8_count_1 h_1_2 (by decide) (by decide) rfl (by decide) ?_
    refine z_aload_n (i := 0) dX8_count_62 rfl rfl ?_
    refine z_getf dX8_count_63 f_X8_7 (by first | decide | assumption | omega) rfl (by rfl) ?_
    refine z_iconst (v := 0) dX8_count_66 (by decide) ?_
    refine z_iald dX8_count_67 (by first | decide | assumption | omega) rfl (by rfl) (by first | decide | omega) (by first | decide | omega) ?_
    exact z_ret dX8_count_68 (hQ _ _ (by intro k hk; simp (disch := omega) only [zup_n]) (by unfold o_count; rw [if_neg h_1_0, if_neg h_1_1, if_pos h_1_2]; rfl)) trivial rfl
  by_cases h_1_3 : w = 3
  · refine z_table (v := 3) 69 dX8_count_1 h_1_3 (by decide) (by decide) rfl (by decide) ?_
    refine z_aload_n (i := 0) dX8_count_69 rfl rfl ?_
    refine z_Vi (As := []) dX8_count_70 (by rfl) v_X8_through l_X8_178 (by first | decide | assumption | omega) rfl rfl rfl (by omega) (by decide) (Nat.le_of_ble_eq_true rfl) ?_
    refine s_X8_through rfl hv (by omega) ?_
    exact z_ret dX8_count_73 (hQ _ _ (by intro k hk; simp (disch := omega) only [zup_n]) (by unfold o_count; rw [if_neg h_1_0, if_neg h_1_1, if_neg h_1_2, if_pos h_1_3]; rfl)) trivial rfl
  by_cases h_1_4 : w = 4
  · refine z_table (v := 4) 74 dX8_count_1 h_1_4 (by decide) (by decide) rfl (by decide) ?_
    refine z_aload_n (i := 0) dX8_count_74 rfl rfl ?_
    refine z_getf dX8_count_75 f_X8_7 (by first | decide | assumption | omega) rfl (by rfl) ?_
    refine z_iconst (v := 3) dX8_count_78 (by decide) ?_
    refine z_iald dX8_count_79 (by first | decide | assumption | omega) rfl (by rfl) (by first | decide | omega) (by first | decide | omega) ?_
    exact z_ret dX8_count_80 (hQ _ _ (by intro k hk; simp (disch := omega) only [zup_n]) (by unfold o_count; rw [if_neg h_1_0, if_neg h_1_1, if_neg h_1_2, if_neg h_1_3, if_pos h_1_4]; rfl)) trivial rfl
  by_cases h_1_5 : w = 5
  · refine z_table (v := 5) 81 dX8_count_1 h_1_5 (by decide) (by decide) rfl (by decide) ?_
    refine z_aload_n (i := 0) dX8_count_81 rfl rfl ?_
    refine z_getf dX8_count_82 f_X8_7 (by first | decide | assumption | omega) rfl (by rfl) ?_
    refine z_iconst (v := 4) dX8_count_85 (by decide) ?_
    refine z_iald dX8_count_86 (by first | decide | assumption | omega) rfl (by rfl) (by first | decide | omega) (by first | decide | omega) ?_
    exact z_ret dX8_count_87 (hQ _ _ (by intro k hk; simp (disch := omega) only [zup_n]) (by unfold o_count; rw [if_neg h_1_0, if_neg h_1_1, if_neg h_1_2, if_neg h_1_3, if_neg h_1_4, if_pos h_1_5]; rfl)) trivial rfl
  by_cases h_1_6 : w = 6
  · refine z_table (v := 6) 88 dX8_count_1 h_1_6 (by decide) (by decide) rfl (by decide) ?_
    refine z_aload_n (i := 0) dX8_count_88 rfl rfl ?_
    refine z_getf dX8_count_89 f_X8_221 (by first | decide | assumption | omega) rfl (by rfl) ?_
    exact z_ret dX8_count_92 (hQ _ _ (by intro k hk; simp (disch := omega) only [zup_n]) (by unfold o_count; rw [if_neg h_1_0, if_neg h_1_1, if_neg h_1_2, if_neg h_1_3, if_neg h_1_4, if_neg h_1_5, if_pos h_1_6]; rfl)) trivial rfl
  by_cases h_1_7 : w = 7
  · refine z_table (v := 7) 93 dX8_count_1 h_1_7 (by decide) (by decide) rfl (by decide) ?_
    refine z_aload_n (i := 0) dX8_count_93 rfl rfl ?_
    refine z_getf dX8_count_94 f_X8_7 (by first | decide | assumption | omega) rfl (by rfl) ?_
    refine z_iconst (v := 2) dX8_count_97 (by decide) ?_
    refine z_iald dX8_count_98 (by first | decide | assumption | omega) rfl (by rfl) (by first | decide | omega) (by first | decide | omega) ?_
    exact z_ret dX8_count_99 (hQ _ _ (by intro k hk; simp (disch := omega) only [zup_n]) (by unfold o_count; rw [if_neg h_1_0, if_neg h_1_1, if_neg h_1_2, if_neg h_1_3, if_neg h_1_4, if_neg h_1_5, if_neg h_1_6, if_pos h_1_7]; rfl)) trivial rfl
  refine z_tableD 100 dX8_count_1 (by have a0 := zt_ne (k := 0) (by decide) h_1_0; have a1 := zt_ne (k := 1) (by decide) h_1_1; have a2 := zt_ne (k := 2) (by decide) h_1_2; have a3 := zt_ne (k := 3) (by decide) h_1_3; have a4 := zt_ne (k := 4) (by decide) h_1_4; have a5 := zt_ne (k := 5) (by decide) h_1_5; have a6 := zt_ne (k := 6) (by decide) h_1_6; have a7 := zt_ne (k := 7) (by decide) h_1_7; omega) (by decide) ?_
  refine z_aload_n (i := 0) dX8_count_100 rfl rfl ?_
  refine z_iconst (v := 1) dX8_count_101 (by decide) ?_
  refine z_Vi (As := [_]) dX8_count_102 (by rfl) v_X8_error l_X8_51 (by first | decide | assumption | omega) rfl rfl rfl (by omega) (by decide) (Nat.le_of_ble_eq_true rfl) ?_
  refine s_X8_error (by rfl) (by first | decide | omega) ?_
  exact z_ret dX8_count_105 (hQ _ _ (by intro k hk; simp (disch := omega) only [zup_n]) (by unfold o_count; rw [if_neg (by assumption), if_neg (by assumption), if_neg (by assumption), if_neg (by assumption), if_neg (by assumption), if_neg (by assumption), if_neg (by assumption), if_neg (by assumption)]; rfl)) trivial rfl
theorem o8_told {k : Int32} (hd : 3 ≤ d) (hQ : ∀ r c', (∀ k, k < 51 → c' k = c k) → (r, mst c') = o_told (mst c) k → Qf r c') : zCl l E ad mX8_told d [.ref (ad 51), .int k] c Qf := by
  refine z_enter (own := RX8) [some (.ref (ad 51)), some (.int k)] (by decide +kernel) rfl rfl rfl (Nat.le_of_ble_eq_true rfl) ?_
  refine z_iload_n (i := 1) dX8_told_0 rfl rfl ?_
  refine z_iconst (v := 1) dX8_told_1 (by decide) ?_
  refine z_bipush (v := 6) dX8_told_2 (by decide) ?_
  refine z_Sb (As := [_, _, _]) dX8_told_4 (by rfl) v_X8_in l_X8_47 rfl (by omega) (by decide) (Nat.le_of_ble_eq_true rfl) ?_
  refine s_X8_in ?_
  refine z_if_eq 19 dX8_told_7 (by decide) (fun h_7 => ?_) (fun h_7 => ?_)
  · refine z_aload_n (i := 0) dX8_told_19 rfl rfl ?_
    refine z_iconst (v := 1) dX8_told_20 (by decide) ?_
    refine z_Vi (As := [_]) dX8_told_21 (by rfl) v_X8_error l_X8_51 (by first | decide | assumption | omega) rfl rfl rfl (by omega) (by decide) (Nat.le_of_ble_eq_true rfl) ?_
    refine s_X8_error (by rfl) (by first | decide | omega) ?_
    first
    | exact z_ret dX8_told_24 (hQ _ _ (by intro k hk; simp (disch := omega) only [zup_n]) (by unfold o_told; rw [if_neg (by grind)]; rfl)) trivial rfl
    | exact z_ret dX8_told_24 (hQ _ _ (by intro k hk; simp (disch := omega) only [zup_n]) (by unfold o_told; rw [if_pos hok, pn_nI (by omega)]; rfl)) trivial rfl
  · have hok : 1 ≤ k ∧ k ≤ 6 := by grind
    obtain ⟨j, hj, rfl⟩ := zj_of (x := k) (n := 7) (by grind) (by show k < (7 : Int32); grind) (by decide)
    refine z_aload_n (i := 0) dX8_told_10 rfl rfl ?_
    refine z_getf dX8_told_11 f_X8_19 (by first | decide | assumption | omega) rfl (by rfl) ?_
    refine z_iload_n (i := 1) dX8_told_14 rfl rfl ?_
    refine z_iald dX8_told_15 (by first | decide | assumption | omega) rfl (by rfl) (by first | decide | omega) (by first | decide | omega) ?_
    refine z_goto 24 dX8_told_16 (by decide) ?_
    first
    | exact z_ret dX8_told_24 (hQ _ _ (by intro k hk; simp (disch := omega) only [zup_n]) (by unfold o_told; rw [if_neg (by grind)]; rfl)) trivial rfl
    | exact z_ret dX8_told_24 (hQ _ _ (by intro k hk; simp (disch := omega) only [zup_n]) (by unfold o_told; rw [if_pos hok, pn_nI (by omega)]; rfl)) trivial rfl
theorem cpF_of {f g h : zN} {m : Nat} (h1 : ∀ k, k < m → h k = f k) (h2 : ∀ k, m ≤ k → h k = g k) : h = cpF m f g := by
  funext k
  unfold cpF
  split
  · exact h1 k (by assumption)
  · exact h2 k (by omega)
theorem o8_image (hd : 3 ≤ d) (hQ : ∀ r c', (∀ k, k < 51 → c' k = c k) → (r, mst c') = o_image (mst c) → Qf r c') : zCl l E ad mX8_image d [.ref (ad 51)] c Qf := by
  refine z_enter (own := RX8) [some (.ref (ad 51))] (by decide +kernel) rfl rfl rfl (Nat.le_of_ble_eq_true rfl) ?_
  refine z_aload_n (i := 0) dX8_image_0 rfl rfl ?_
  refine z_getf dX8_image_1 f_X8_7 (by first | decide | assumption | omega) rfl (by rfl) ?_
  refine z_aload_n (i := 0) dX8_image_4 rfl rfl ?_
  refine z_getf dX8_image_5 f_X8_13 (by first | decide | assumption | omega) rfl (by rfl) ?_
  refine z_Sv (As := [_, _]) dX8_image_8 (by rfl) v_X8_copyAll l_X8_255 rfl (by omega) (by decide) (Nat.le_of_ble_eq_true rfl) ?_
  refine s_X8_copyAll (fun _ => rfl) (fun _ => rfl) (by decide) (by decide) (by decide) (fun g hg hg2 => ?_)
  have hg3 := cpF_of hg hg2
  subst hg3
  refine z_aload_n (i := 0) dX8_image_11 rfl rfl ?_
  refine z_dup dX8_image_12 rfl ?_
  refine z_getf dX8_image_13 f_X8_259 (by first | decide | assumption | omega) rfl (by rfl) ?_
  refine z_iconst (v := 1) dX8_image_16 (by decide) ?_
  refine z_iadd dX8_image_17 ?_
  refine z_putfi dX8_image_18 f_X8_259 fp_X8_3 (by first | decide | assumption | omega) rfl (by exact Nat.le_of_ble_eq_true rfl) rfl ?_
  refine z_aload_n (i := 0) dX8_image_21 rfl rfl ?_
  refine z_getf dX8_image_22 f_X8_259 (by first | decide | assumption | omega) rfl (by rfl) ?_
  exact z_ret dX8_image_25 (hQ _ _ (by intro k hk; simp (disch := omega) only [zup_n]) rfl) trivial rfl
theorem o8_restore (hd : 3 ≤ d) (hQ : ∀ r c', (∀ k, k < 51 → c' k = c k) → (r, mst c') = o_restore (mst c) → Qf r c') : zCl l E ad mX8_restore d [.ref (ad 51)] c Qf := by
  refine z_enter (own := RX8) [some (.ref (ad 51))] (by decide +kernel) rfl rfl rfl (Nat.le_of_ble_eq_true rfl) ?_
  refine z_aload_n (i := 0) dX8_restore_0 rfl rfl ?_
  refine z_getf dX8_restore_1 f_X8_259 (by first | decide | assumption | omega) rfl (by rfl) ?_
  refine z_if_ne 13 dX8_restore_4 (by decide) (fun h_4 => ?_) (fun h_4 => ?_)
  · refine z_aload_n (i := 0) dX8_restore_13 rfl rfl ?_
    refine z_getf dX8_restore_14 f_X8_13 (by first | decide | assumption | omega) rfl (by rfl) ?_
    refine z_aload_n (i := 0) dX8_restore_17 rfl rfl ?_
    refine z_getf dX8_restore_18 f_X8_7 (by first | decide | assumption | omega) rfl (by rfl) ?_
    refine z_Sv (As := [_, _]) dX8_restore_21 (by rfl) v_X8_copyAll l_X8_255 rfl (by omega) (by decide) (Nat.le_of_ble_eq_true rfl) ?_
    refine s_X8_copyAll (fun _ => rfl) (fun _ => rfl) (by decide) (by decide) (by decide) (fun g hg hg2 => ?_)
    have hg3 := cpF_of hg hg2
    subst hg3
    refine z_aload_n (i := 0) dX8_restore_24 rfl rfl ?_
    refine z_getf dX8_restore_25 f_X8_7 (by first | decide | assumption | omega) rfl (by rfl) ?_
    refine z_iconst (v := 0) dX8_restore_28 (by decide) ?_
    refine z_iald dX8_restore_29 (by first | decide | assumption | omega) rfl (by rfl) (by first | decide | omega) (by first | decide | omega) ?_
    exact z_ret dX8_restore_30 (hQ _ _ (by intro k hk; simp (disch := omega) only [zup_n]) (by unfold o_restore; rw [if_neg (by grind [mst])]; rfl)) trivial rfl
  · refine z_aload_n (i := 0) dX8_restore_7 rfl rfl ?_
    refine z_iconst (v := 2) dX8_restore_8 (by decide) ?_
    refine z_Vi (As := [_]) dX8_restore_9 (by rfl) v_X8_error l_X8_51 (by first | decide | assumption | omega) rfl rfl rfl (by omega) (by decide) (Nat.le_of_ble_eq_true rfl) ?_
    refine s_X8_error (by rfl) (by first | decide | omega) ?_
    exact z_ret dX8_restore_12 (hQ _ _ (by intro k hk; simp (disch := omega) only [zup_n]) (by unfold o_restore; rw [if_pos (by grind [mst])]; rfl)) trivial rfl
theorem s_X8_above {k : Int32} (hQ : Qf (if k = 4 then 1 else if k = 5 then 2 else 0) c) : zCl l E ad mX8_above d [.int k] c Qf := by
  refine z_enter (own := RX8) [some (.int k)] (by decide +kernel) rfl rfl rfl (Nat.le_of_ble_eq_true rfl) ?_
  refine z_iload_n (i := 0) dX8_above_0 rfl rfl ?_
  refine z_iconst (v := 4) dX8_above_1 (by decide) ?_
  refine z_icmp_ne 9 dX8_above_2 (by decide) (fun h_2 => ?_) (fun h_2 => ?_)
  · refine z_iload_n (i := 0) dX8_above_9 rfl rfl ?_
    refine z_iconst (v := 5) dX8_above_10 (by decide) ?_
    refine z_icmp_ne 18 dX8_above_11 (by decide) (fun h_11 => ?_) (fun h_11 => ?_)
    · refine z_iconst (v := 0) dX8_above_18 (by decide) ?_
      exact z_ret dX8_above_19 (by grind) trivial rfl
    · refine z_iconst (v := 2) dX8_above_14 (by decide) ?_
      refine z_goto 19 dX8_above_15 (by decide) ?_
      exact z_ret dX8_above_19 (by grind) trivial rfl
  · refine z_iconst (v := 1) dX8_above_5 (by decide) ?_
    refine z_goto 19 dX8_above_6 (by decide) ?_
    exact z_ret dX8_above_19 (by grind) trivial rfl
theorem o8_as {p k : Int32} (hv : vaF (c 52) n) (hd : 3 ≤ d) (hQ : ∀ r c', (∀ k, k < 51 → c' k = c k) → (r, mst c') = o_as (mst c) p k → Qf r c') : zCl l E ad mX8_as d [.ref (ad 51), .int p, .int k] c Qf := by
  obtain ⟨hn, hn6, hw0, hw1⟩ := id hv
  refine z_enter (own := RX8) [some (.ref (ad 51)), some (.int p), some (.int k), none] (by decide +kernel) rfl rfl rfl (Nat.le_of_ble_eq_true rfl) ?_
  have tail : ∀ (j : Nat) (is : Int32), j < n → (is = k → Qf (c 52 (8 + 5 * j + 1)) c) → (¬ is = k → Qf (-1000000000 - 5) (zup c 55 (upd (c 55) 5 (c 55 5 + 1)))) → zW l E ad RX8 cX8_as 4 1 d Qf 48 [some (.ref (ad 51)), some (.int (nI j)), some (.int k), some (.int is)] [] c := by
    intro j is hj q1 q2
    refine z_iload_n (i := 3) dX8_as_48 rfl rfl ?_
    refine z_iload_n (i := 2) dX8_as_49 rfl rfl ?_
    refine z_icmp_ne 62 dX8_as_50 (by decide) (fun h_50 => ?_) (fun h_50 => ?_)
    · refine z_aload_n (i := 0) dX8_as_62 rfl rfl ?_
      refine z_iconst (v := 5) dX8_as_63 (by decide) ?_
      refine z_Vi (As := [_]) dX8_as_64 (by rfl) v_X8_error l_X8_51 (by first | decide | assumption | omega) rfl rfl rfl (by omega) (by decide) (Nat.le_of_ble_eq_true rfl) ?_
      refine s_X8_error (by rfl) (by first | decide | omega) ?_
      first | exact z_ret dX8_as_67 (q1 (by assumption)) trivial rfl | exact z_ret dX8_as_67 (q2 (by assumption)) trivial rfl
    · refine z_aload_n (i := 0) dX8_as_53 rfl rfl ?_
      refine z_iload_n (i := 1) dX8_as_54 rfl rfl ?_
      refine z_iconst (v := 1) dX8_as_55 (by decide) ?_
      refine z_Vi (As := [_, _]) dX8_as_56 (by rfl) v_X8_its l_X8_111 (by first | decide | assumption | omega) rfl rfl rfl (by omega) (by decide) (Nat.le_of_ble_eq_true rfl) ?_
      first | refine s_X8_its0 (by omega) ?_ | refine s_X8_its1 (by omega) ?_ | refine s_X8_its2 (by omega) ?_ | refine s_X8_its3 (by omega) ?_ | refine s_X8_its4 (by omega) ?_
      refine z_goto 67 dX8_as_59 (by decide) ?_
      first | exact z_ret dX8_as_67 (q1 (by assumption)) trivial rfl | exact z_ret dX8_as_67 (q2 (by assumption)) trivial rfl
  have lp0 : ∀ (j : Nat), j < n → (0 = k → Qf (c 52 (8 + 5 * j + 1)) c) → (¬ 0 = k → Qf (-1000000000 - 5) (zup c 55 (upd (c 55) 5 (c 55 5 + 1)))) → zW l E ad RX8 cX8_as 4 1 d Qf 31 [some (.ref (ad 51)), some (.int (nI j)), some (.int k), some (.int 0)] [] c := by
    intro j hj q1 q2
    refine z_iload_n (i := 3) dX8_as_31 rfl rfl ?_
    refine z_iload_n (i := 2) dX8_as_32 rfl rfl ?_
    refine z_icmp_eq 48 dX8_as_33 (by decide) (fun h_33 => ?_) (fun h_33 => ?_)
    · exact tail j _ hj q1 q2
    · refine z_iload_n (i := 3) dX8_as_36 rfl rfl ?_
      refine z_if_eq 48 dX8_as_37 (by decide) (fun h_37 => ?_) (fun h_37 => ?_)
      rotate_left
      · exact absurd rfl h_37
      exact tail j _ hj q1 q2
  have lp1 : ∀ (j : Nat) (is : Int32), ¬ is = 4 → ¬ is = 5 → j < n → (is = k ∨ 0 = k → Qf (c 52 (8 + 5 * j + 1)) c) → (¬ (is = k ∨ 0 = k) → Qf (-1000000000 - 5) (zup c 55 (upd (c 55) 5 (c 55 5 + 1)))) → zW l E ad RX8 cX8_as 4 1 d Qf 31 [some (.ref (ad 51)), some (.int (nI j)), some (.int k), some (.int is)] [] c := by
    intro j is h4 h5 hj q1 q2
    refine z_iload_n (i := 3) dX8_as_31 rfl rfl ?_
    refine z_iload_n (i := 2) dX8_as_32 rfl rfl ?_
    refine z_icmp_eq 48 dX8_as_33 (by decide) (fun h_33 => ?_) (fun h_33 => ?_)
    · exact tail j _ hj (fun h => q1 (by grind)) (fun h => q2 (by grind))
    · refine z_iload_n (i := 3) dX8_as_36 rfl rfl ?_
      refine z_if_eq 48 dX8_as_37 (by decide) (fun h_37 => ?_) (fun h_37 => ?_)
      · exact tail j _ hj (fun h => q1 (by grind)) (fun h => q2 (by grind))
      · refine z_iload_n (i := 3) dX8_as_40 rfl rfl ?_
        refine z_Si (As := [_]) dX8_as_41 (by rfl) v_X8_above l_X8_166 rfl (by omega) (by decide) (Nat.le_of_ble_eq_true rfl) ?_
        refine s_X8_above ?_
        rw [if_neg h4, if_neg h5]
        refine z_istore_n (i := 3) [_, _, _, _] dX8_as_44 rfl (by decide) rfl rfl ?_
        refine z_goto 31 dX8_as_45 (by decide) ?_
        exact lp0 j hj (fun h => q1 (by grind)) (fun h => q2 (by grind))
  have lp45 : ∀ (j : Nat) (is : Int32), is = 4 ∨ is = 5 → j < n → (is = k ∨ 0 = k ∨ (is = 4 ∧ k = 1) ∨ (is = 5 ∧ k = 2) → Qf (c 52 (8 + 5 * j + 1)) c) → (¬ (is = k ∨ 0 = k ∨ (is = 4 ∧ k = 1) ∨ (is = 5 ∧ k = 2)) → Qf (-1000000000 - 5) (zup c 55 (upd (c 55) 5 (c 55 5 + 1)))) → zW l E ad RX8 cX8_as 4 1 d Qf 31 [some (.ref (ad 51)), some (.int (nI j)), some (.int k), some (.int is)] [] c := by
    intro j is h45 hj q1 q2
    refine z_iload_n (i := 3) dX8_as_31 rfl rfl ?_
    refine z_iload_n (i := 2) dX8_as_32 rfl rfl ?_
    refine z_icmp_eq 48 dX8_as_33 (by decide) (fun h_33 => ?_) (fun h_33 => ?_)
    · exact tail j _ hj (fun h => q1 (by grind)) (fun h => q2 (by grind))
    · refine z_iload_n (i := 3) dX8_as_36 rfl rfl ?_
      refine z_if_eq 48 dX8_as_37 (by decide) (fun h_37 => ?_) (fun h_37 => ?_)
      · exact tail j _ hj (fun h => q1 (by grind)) (fun h => q2 (by grind))
      · refine z_iload_n (i := 3) dX8_as_40 rfl rfl ?_
        refine z_Si (As := [_]) dX8_as_41 (by rfl) v_X8_above l_X8_166 rfl (by omega) (by decide) (Nat.le_of_ble_eq_true rfl) ?_
        refine s_X8_above ?_
        refine z_istore_n (i := 3) [_, _, _, _] dX8_as_44 rfl (by decide) rfl rfl ?_
        refine z_goto 31 dX8_as_45 (by decide) ?_
        exact lp1 j _ (by grind) (by grind) hj (fun h => q1 (by grind)) (fun h => q2 (by grind))
  refine z_aload_n (i := 0) dX8_as_0 rfl rfl ?_
  refine z_iload_n (i := 1) dX8_as_1 rfl rfl ?_
  refine z_Vb (As := [_]) dX8_as_2 (by rfl) v_X8_isPerson l_X8_157 (by first | decide | assumption | omega) rfl rfl rfl (by omega) (by decide) (Nat.le_of_ble_eq_true rfl) ?_
  refine s_X8_isPerson (by omega) ?_
  refine z_if_eq 18 dX8_as_5 (by decide) (fun h_5 => ?_) (fun h_5 => ?_)
  · refine z_aload_n (i := 0) dX8_as_18 rfl rfl ?_
    refine z_iconst (v := 1) dX8_as_19 (by decide) ?_
    refine z_Vi (As := [_]) dX8_as_20 (by rfl) v_X8_error l_X8_51 (by first | decide | assumption | omega) rfl rfl rfl (by omega) (by decide) (Nat.le_of_ble_eq_true rfl) ?_
    refine s_X8_error (by rfl) (by first | decide | omega) ?_
    exact z_ret dX8_as_23 (hQ _ _ (by intro k hk; simp (disch := omega) only [zup_n]) (by unfold o_as; rw [if_neg (by show ¬ ((0 ≤ p ∧ p ≤ c 52 5 - 1) ∧ _); grind)]; rfl)) trivial rfl
  · refine z_iload_n (i := 2) dX8_as_8 rfl rfl ?_
    refine z_iconst (v := 0) dX8_as_9 (by decide) ?_
    refine z_bipush (v := 6) dX8_as_10 (by decide) ?_
    refine z_Sb (As := [_, _, _]) dX8_as_12 (by rfl) v_X8_in l_X8_47 rfl (by omega) (by decide) (Nat.le_of_ble_eq_true rfl) ?_
    refine s_X8_in ?_
    refine z_if_ne 24 dX8_as_15 (by decide) (fun h_15 => ?_) (fun h_15 => ?_)
    · have hok : isP (mst c) p ∧ 0 ≤ k ∧ k ≤ 6 := by show (0 ≤ p ∧ p ≤ c 52 5 - 1) ∧ _; grind
      obtain ⟨j, hj, rfl⟩ := isP_of (f := c 52) hok.1 hn hn6
      have hpj : pn (nI j) = j := pn_nI (by omega)
      have q1 : (k = c 52 (8 + 5 * j) ∨ k = 0 ∨ (c 52 (8 + 5 * j) = 4 ∧ k = 1) ∨ (c 52 (8 + 5 * j) = 5 ∧ k = 2)) → Qf (c 52 (8 + 5 * j + 1)) c := fun h => hQ _ _ (by intro k hk; simp (disch := omega) only [zup_n]) (by unfold o_as; rw [if_pos hok, hpj, show (mst c).1 = c 52 from rfl, if_pos h])
      have q2 : ¬ (k = c 52 (8 + 5 * j) ∨ k = 0 ∨ (c 52 (8 + 5 * j) = 4 ∧ k = 1) ∨ (c 52 (8 + 5 * j) = 5 ∧ k = 2)) → Qf (-1000000000 - 5) (zup c 55 (upd (c 55) 5 (c 55 5 + 1))) := fun h => hQ _ _ (by intro k hk; simp (disch := omega) only [zup_n]) (by unfold o_as; rw [if_pos hok, hpj, show (mst c).1 = c 52 from rfl, if_neg h]; rfl)
      refine z_aload_n (i := 0) dX8_as_24 rfl rfl ?_
      refine z_iload_n (i := 1) dX8_as_25 rfl rfl ?_
      refine z_iconst (v := 0) dX8_as_26 (by decide) ?_
      refine z_Vi (As := [_, _]) dX8_as_27 (by rfl) v_X8_its l_X8_111 (by first | decide | assumption | omega) rfl rfl rfl (by omega) (by decide) (Nat.le_of_ble_eq_true rfl) ?_
      first | refine s_X8_its0 (by omega) ?_ | refine s_X8_its1 (by omega) ?_ | refine s_X8_its2 (by omega) ?_ | refine s_X8_its3 (by omega) ?_ | refine s_X8_its4 (by omega) ?_
      refine z_istore_n (i := 3) [_, _, _, _] dX8_as_30 rfl (by decide) rfl rfl ?_
      by_cases h4 : c 52 (8 + 5 * j) = 4 ∨ c 52 (8 + 5 * j) = 5
      · exact lp45 j _ h4 hj (fun h => q1 (by grind)) (fun h => q2 (by grind))
      · exact lp1 j _ (by grind) (by grind) hj (fun h => q1 (by grind)) (fun h => q2 (by grind))
    · refine z_aload_n (i := 0) dX8_as_18 rfl rfl ?_
      refine z_iconst (v := 1) dX8_as_19 (by decide) ?_
      refine z_Vi (As := [_]) dX8_as_20 (by rfl) v_X8_error l_X8_51 (by first | decide | assumption | omega) rfl rfl rfl (by omega) (by decide) (Nat.le_of_ble_eq_true rfl) ?_
      refine s_X8_error (by rfl) (by first | decide | omega) ?_
      exact z_ret dX8_as_23 (hQ _ _ (by intro k hk; simp (disch := omega) only [zup_n]) (by unfold o_as; rw [if_neg (by show ¬ ((0 ≤ p ∧ p ≤ c 52 5 - 1) ∧ _); grind)]; rfl)) trivial rfl
end R2
