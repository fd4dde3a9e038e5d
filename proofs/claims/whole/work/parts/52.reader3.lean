/-! the class: its reader of TEXTS, the ranks and the units -/
section RC
variable {l : Launch} {E : zE} {ad : Nat → Nat} {tp : zN} {len u : Nat}
theorem s_rdr {r F : Nat} (hr : r < 5) (H : ∀ f, f ≤ F → rdC l E ad tp len u f (r + 1)) : rdC l E ad tp len u (F + 1) r := by
  intro c o d q Qf hm hq ho hn hd hz he hQ
  have hlen := he.2.2.2.1
  rw [pr_rk hr] at hQ
  refine z_enter (own := RX2) [some (.ref (ad 31)), some (.int (nI r)), some (.int (nI o)), none, none] (by decide +kernel) rfl rfl rfl (Nat.le_of_ble_eq_true rfl) ?_
  have loop : ∀ (f i : Nat) (q1 : pS) (c1 : zS) (x4 : Option Value), f ≤ F → 8 * (60 - q1.1) + 1 ≤ f → i ≤ q1.1 → q1.1 ≤ len → q1.2.1 ≤ q1.1 → zqs u c q1 c1 → (∀ c', zqs u c (prF (lkF tp len) u f (10 + r) o q1).2 c' → Qf (if (prF (lkF tp len) u f (10 + r) o q1).1 = true then 1 else 0) c') → zW l E ad RX2 cX2_reads 5 3 d Qf 26 [some (.ref (ad 31)), some (.int (nI r)), some (.int (nI o)), some (.int (nI i)), x4] [] c1 := by
    intro f
    induction f with
    | zero => intro i q1 c1 x4 _ h; omega
    | succ f ih =>
      intro i q1 c1 x4 hf hm1 hi1 hq1 hn1 hz1 hQ1
      have he1 := zqe_tr he hz1
      have h60 := nI_leI (a := 60) (b := i) (by omega) (by omega)
      rw [pr_lp r] at hQ1
      by_cases hrk : rkF (lkF tp len q1.1) = r
      · have hp := rk_lt hrk (by omega)
        rw [if_pos hrk] at hQ1
        have hza := zqs_adv (zqs_self hz1)
        have i0 := pr_ok (tp := tp) (len := len) (u := u) f (r + 1) o (adv q1) (by show q1.1 + 1 ≤ len; omega) (by omega)
        have hg : (prF (lkF tp len) u f (r + 1) o (adv q1)).2.1 ≤ len ∧ q1.1 + 1 ≤ (prF (lkF tp len) u f (r + 1) o (adv q1)).2.1 ∧ (prF (lkF tp len) u f (r + 1) o (adv q1)).2.2.1 + 1 ≤ (prF (lkF tp len) u f (r + 1) o (adv q1)).2.1 := by
          have i9 := i0
          generalize (prF (lkF tp len) u f (r + 1) o (adv q1)).2 = A at i9 ⊢
          unfold gO adv at i9
          dsimp only at i9
          omega
        have er2 : nI r = 2 ↔ r = 2 := nI_eq (a := r) (b := 2) (by omega) (by omega)
        refine z_iload_n (i := 3) dX2_reads_26 rfl rfl ?_
        refine z_bipush (v := 60) dX2_reads_27 (by decide) ?_
        refine z_icmp_ge 92 dX2_reads_29 (by decide) (fun h_29 => ?_) (fun h_29 => ?_)
        · exfalso; have := h60.mp h_29; omega
        refine z_aload_n (i := 0) dX2_reads_32 rfl rfl ?_
        refine z_Vi (As := []) dX2_reads_33 (by rfl) v_X2_next l_X2_46 (by first | decide | assumption | omega) rfl rfl rfl (by omega) (by decide) (Nat.le_of_ble_eq_true rfl) ?_
        refine s_next (zqs_self hz1) he1 hq1 ?_
        refine z_Si (As := [_]) dX2_reads_36 (by rfl) v_X2_rankOf l_X2_50 rfl (by omega) (by decide) (Nat.le_of_ble_eq_true rfl) ?_
        refine s_X2_rankOf ?_
        rw [if_pos (by omega), hrk]
        refine z_iload_n (i := 1) dX2_reads_39 rfl rfl ?_
        refine z_icmp_ne 92 dX2_reads_40 (by decide) (fun h_40 => ?_) (fun h_40 => ?_)
        · exact absurd rfl h_40
        refine z_aload_n (i := 0) dX2_reads_43 rfl rfl ?_
        refine z_Vi (As := []) dX2_reads_44 (by rfl) v_X2_next l_X2_46 (by first | decide | assumption | omega) rfl rfl rfl (by omega) (by decide) (Nat.le_of_ble_eq_true rfl) ?_
        refine s_next (zqs_self hz1) he1 hq1 ?_
        refine z_istore (i := 4) [_, _, _, _, _] dX2_reads_47 (by decide) rfl rfl ?_
        refine z_aload_n (i := 0) dX2_reads_49 rfl rfl ?_
        refine z_dup dX2_reads_50 rfl ?_
        refine z_getf dX2_reads_51 f_X2_22 (by first | decide | assumption | omega) rfl (by rfl) ?_
        refine z_iconst (v := 1) dX2_reads_54 (by decide) ?_
        refine z_iadd dX2_reads_55 ?_
        refine z_putfi dX2_reads_56 f_X2_22 fp_X2_4 (by first | decide | assumption | omega) rfl (by exact Nat.le_of_ble_eq_true rfl) rfl ?_
        refine z_aload_n (i := 0) dX2_reads_59 rfl rfl ?_
        refine z_iload_n (i := 1) dX2_reads_60 rfl rfl ?_
        refine z_iconst (v := 1) dX2_reads_61 (by decide) ?_
        refine z_iadd dX2_reads_62 ?_
        rw [nI_1]
        refine z_iload_n (i := 2) dX2_reads_63 rfl rfl ?_
        refine z_Vb (As := [_, _]) dX2_reads_64 (by rfl) v_X2_reads l_X2_38 (by first | decide | assumption | omega) rfl rfl rfl (by omega) (by decide) (Nat.le_of_ble_eq_true rfl) ?_
        refine H f (by omega) _ o _ (adv q1) _ (by show 8 * (60 - (q1.1 + 1)) + _ ≤ _; omega) (by show q1.1 + 1 ≤ len; omega) ho (by show q1.2.1 ≤ q1.1 + 1; omega) (by omega) (zqs_self hza) (zqe_tr he1 hza) (fun c2 hz2 => ?_)
        refine z_if_ne 72 dX2_reads_67 (by decide) (fun h_67 => ?_) (fun h_67 => ?_)
        · have hA : (prF (lkF tp len) u f (r + 1) o (adv q1)).1 = true := Classical.byContradiction (fun w => h_67 (bite.mpr w))
          rw [if_pos hA] at hQ1
          have hzs := zqs_stp (w := 3) (v := lkF tp len q1.1) (zqs_self hz2) enc_3.symm
          refine z_aload_n (i := 0) dX2_reads_72 rfl rfl ?_
          refine z_iload (i := 4) dX2_reads_73 rfl ?_
          refine z_ineg dX2_reads_75 ?_
          refine z_Vv (As := [_]) dX2_reads_76 (by rfl) v_X2_writes l_X2_54 (by first | decide | assumption | omega) rfl rfl rfl (by omega) (by decide) (Nat.le_of_ble_eq_true rfl) ?_
          refine s_writes (zqs_self hz2) (by omega) ?_
          refine z_iload_n (i := 1) dX2_reads_79 rfl rfl ?_
          refine z_iconst (v := 2) dX2_reads_80 (by decide) ?_
          refine z_icmp_ne 86 dX2_reads_81 (by decide) (fun h_81 => ?_) (fun h_81 => ?_)
          · refine z_iinc (i := 3) (v := 1) [_, _, _, _, _] dX2_reads_86 rfl (by decide) (by decide) rfl rfl ?_
            refine z_goto 26 dX2_reads_89 (by decide) ?_
            rw [if_neg (fun w => h_81 (er2.mpr w))] at hQ1
            rw [nI_1]
            exact ih (i + 1) (stp 3 (lkF tp len q1.1) (prF (lkF tp len) u f (r + 1) o (adv q1)).2) _ _ (by omega) (by show 8 * (60 - (prF (lkF tp len) u f (r + 1) o (adv q1)).2.1) + 1 ≤ f; omega) (by show i + 1 ≤ (prF (lkF tp len) u f (r + 1) o (adv q1)).2.1; omega) hg.1 (by show (prF (lkF tp len) u f (r + 1) o (adv q1)).2.2.1 + 1 ≤ (prF (lkF tp len) u f (r + 1) o (adv q1)).2.1; omega) (zqs_tr hz1 (zqs_tr hza (zqs_tr hz2 hzs))) hQ1
          · refine z_iconst (v := 1) dX2_reads_84 (by decide) ?_
            rw [if_pos (er2.mp (by first | exact h_81 | exact Classical.not_not.mp h_81))] at hQ1
            exact z_ret (r := 1) dX2_reads_85 (hQ1 _ (zqs_tr hz1 (zqs_tr hza (zqs_tr hz2 hzs)))) (by rfl) rfl
        · refine z_iconst (v := 0) dX2_reads_70 (by decide) ?_
          have hA := bite.mp (by first | exact h_67 | exact Classical.not_not.mp h_67)
          rw [if_neg hA] at hQ1
          refine z_ret (r := 0) dX2_reads_71 ?_ (by rfl) rfl
          have := hQ1 c2 (zqs_tr hz1 (zqs_tr hza hz2))
          rw [if_neg hA] at this
          exact this
      · rw [if_neg hrk] at hQ1
        have hfin := hQ1 c1 hz1
        rw [if_pos rfl] at hfin
        have hne : ¬ (if rkF (lkF tp len q1.1) < 9 then nI (rkF (lkF tp len q1.1)) else -1) = nI r := by
          split
          · next h9 => exact fun w => hrk ((nI_eq (by omega) (by omega)).mp w)
          · have := nI_pos' (n := r) (by omega)
            intro w
            rw [← w] at this
            exact absurd this (by decide)
        refine z_iload_n (i := 3) dX2_reads_26 rfl rfl ?_
        refine z_bipush (v := 60) dX2_reads_27 (by decide) ?_
        refine z_icmp_ge 92 dX2_reads_29 (by decide) (fun h_29 => ?_) (fun h_29 => ?_)
        · refine z_iconst (v := 1) dX2_reads_92 (by decide) ?_
          exact z_ret (r := 1) dX2_reads_93 hfin (by rfl) rfl
        · refine z_aload_n (i := 0) dX2_reads_32 rfl rfl ?_
          refine z_Vi (As := []) dX2_reads_33 (by rfl) v_X2_next l_X2_46 (by first | decide | assumption | omega) rfl rfl rfl (by omega) (by decide) (Nat.le_of_ble_eq_true rfl) ?_
          refine s_next (zqs_self hz1) he1 hq1 ?_
          refine z_Si (As := [_]) dX2_reads_36 (by rfl) v_X2_rankOf l_X2_50 rfl (by omega) (by decide) (Nat.le_of_ble_eq_true rfl) ?_
          refine s_X2_rankOf ?_
          refine z_iload_n (i := 1) dX2_reads_39 rfl rfl ?_
          refine z_icmp_ne 92 dX2_reads_40 (by decide) (fun h_40 => ?_) (fun h_40 => ?_)
          rotate_left
          · exact absurd (by first | exact h_40 | exact Classical.not_not.mp h_40) hne
          refine z_iconst (v := 1) dX2_reads_92 (by decide) ?_
          exact z_ret (r := 1) dX2_reads_93 hfin (by rfl) rfl
  have i0 := pr_ok (tp := tp) (len := len) (u := u) F (r + 1) o q hq (by omega)
  have hg : (prF (lkF tp len) u F (r + 1) o q).2.1 ≤ len ∧ q.1 ≤ (prF (lkF tp len) u F (r + 1) o q).2.1 ∧ (prF (lkF tp len) u F (r + 1) o q).2.2.1 ≤ (prF (lkF tp len) u F (r + 1) o q).2.1 := by
    generalize (prF (lkF tp len) u F (r + 1) o q).2 = A at i0 ⊢
    unfold gO at i0
    omega
  have h5 : nI r < (5 : Int32) := (nI_ltI (a := r) (b := 5) (by omega) (by omega)).mpr hr
  refine z_iload_n (i := 1) dX2_reads_0 rfl rfl ?_
  refine z_iconst (v := 5) dX2_reads_1 (by decide) ?_
  refine z_icmp_lt 11 dX2_reads_2 (by decide) (fun h_2 => ?_) (fun h_2 => ?_)
  rotate_left
  · exact absurd h5 h_2
  refine z_aload_n (i := 0) dX2_reads_11 rfl rfl ?_
  refine z_iload_n (i := 1) dX2_reads_12 rfl rfl ?_
  refine z_iconst (v := 1) dX2_reads_13 (by decide) ?_
  refine z_iadd dX2_reads_14 ?_
  rw [nI_1]
  refine z_iload_n (i := 2) dX2_reads_15 rfl rfl ?_
  refine z_Vb (As := [_, _]) dX2_reads_16 (by rfl) v_X2_reads l_X2_38 (by first | decide | assumption | omega) rfl rfl rfl (by omega) (by decide) (Nat.le_of_ble_eq_true rfl) ?_
  refine H F (Nat.le_refl _) _ o _ q _ (by omega) hq ho hn (by omega) hz he (fun c2 hz2 => ?_)
  refine z_if_ne 24 dX2_reads_19 (by decide) (fun h_19 => ?_) (fun h_19 => ?_)
  · refine z_iconst (v := 0) dX2_reads_24 (by decide) ?_
    refine z_istore_n (i := 3) [_, _, _, _, _] dX2_reads_25 rfl (by decide) rfl rfl ?_
    have hA : (prF (lkF tp len) u F (r + 1) o q).1 = true := Classical.byContradiction (fun w => h_19 (bite.mpr w))
    rw [if_pos hA] at hQ
    exact loop F 0 (prF (lkF tp len) u F (r + 1) o q).2 c2 none (Nat.le_refl _) (by omega) (by omega) hg.1 hg.2.2 hz2 hQ
  · refine z_iconst (v := 0) dX2_reads_22 (by decide) ?_
    have hA := bite.mp (by first | exact h_19 | exact Classical.not_not.mp h_19)
    rw [if_neg hA] at hQ
    refine z_ret (r := 0) dX2_reads_23 ?_ (by rfl) rfl
    have := hQ c2 hz2
    rw [if_neg hA] at this
    exact this
theorem s_readsNot {f : Nat} (H : ruC l E ad tp len u f) {c : zS} {o d : Nat} {q : pS} {Qf : Int32 → zS → Prop} (hm : 8 * (60 - q.1) + 1 ≤ f) (hq : q.1 ≤ len) (ho : o ≤ 5) (hn : q.2.1 + 1 ≤ q.1) (hd : 8 * (5 - o) + 7 ≤ d) (hz : zqs u c q c) (he : zqe tp len u c) (hQ : ∀ c', zqs u c (if (prF (lkF tp len) u f 5 o q).1 = true then stp 2 0 (prF (lkF tp len) u f 5 o q).2 else (prF (lkF tp len) u f 5 o q).2) c' → Qf (if (prF (lkF tp len) u f 5 o q).1 = true then 1 else 0) c') : zCl l E ad mX2_readsNot d [.ref (ad 31), .int (nI o)] c Qf := by
  have hlen := he.2.2.2.1
  have i0 := pr_ok (tp := tp) (len := len) (u := u) f 5 o q hq (by omega)
  generalize hA : prF (lkF tp len) u f 5 o q = A at hQ i0
  have hg : A.2.2.1 < 60 := by unfold gO at i0; omega
  refine z_enter (own := RX2) [some (.ref (ad 31)), some (.int (nI o))] (by decide +kernel) rfl rfl rfl (Nat.le_of_ble_eq_true rfl) ?_
  refine z_aload_n (i := 0) dX2_readsNot_0 rfl rfl ?_
  refine z_iload_n (i := 1) dX2_readsNot_1 rfl rfl ?_
  refine z_Vb (As := [_]) dX2_readsNot_2 (by rfl) v_X2_readsUnit l_X2_42 (by first | decide | assumption | omega) rfl rfl rfl (by omega) (by decide) (Nat.le_of_ble_eq_true rfl) ?_
  refine H c o _ q _ hm hq ho (by omega) (by omega) hz he (fun c2 hz2 => ?_)
  rw [hA] at hz2
  rw [hA]
  refine z_if_ne 10 dX2_readsNot_5 (by decide) (fun h_5 => ?_) (fun h_5 => ?_)
  · have hA1 : A.1 = true := Classical.byContradiction (fun w => h_5 (bite.mpr w))
    rw [if_pos hA1, if_pos hA1] at hQ
    refine z_aload_n (i := 0) dX2_readsNot_10 rfl rfl ?_
    refine z_bipush (v := (-33)) dX2_readsNot_11 (by decide) ?_
    refine z_Vv (As := [_]) dX2_readsNot_13 (by rfl) v_X2_writes l_X2_54 (by first | decide | assumption | omega) rfl rfl rfl (by omega) (by decide) (Nat.le_of_ble_eq_true rfl) ?_
    refine s_writes (zqs_self hz2) hg ?_
    refine z_iconst (v := 1) dX2_readsNot_16 (by decide) ?_
    exact z_ret (r := 1) dX2_readsNot_17 (hQ _ (zqs_tr hz2 (zqs_stp (zqs_self hz2) enc_2.symm))) (by rfl) rfl
  · refine z_iconst (v := 0) dX2_readsNot_8 (by decide) ?_
    have hA1 := bite.mp (by first | exact h_5 | exact Classical.not_not.mp h_5)
    rw [if_neg hA1, if_neg hA1] at hQ
    exact z_ret (r := 0) dX2_readsNot_9 (hQ c2 hz2) (by rfl) rfl
theorem s_readsInner {f : Nat} (H : rdC l E ad tp len u f 0) {c : zS} {o d : Nat} {q : pS} {Qf : Int32 → zS → Prop} (hm : 8 * (60 - q.1) + 6 ≤ f) (hq : q.1 ≤ len) (ho : o ≤ 5) (hn : q.2.1 ≤ q.1) (hd : 8 * (5 - o) + 13 ≤ d) (hz : zqs u c q c) (he : zqe tp len u c) (hQ : ∀ c', zqs u c (if (prF (lkF tp len) u f 0 o q).1 = true ∧ lkF tp len (prF (lkF tp len) u f 0 o q).2.1 = 41 then adv (prF (lkF tp len) u f 0 o q).2 else (prF (lkF tp len) u f 0 o q).2) c' → Qf (if (prF (lkF tp len) u f 0 o q).1 = true ∧ lkF tp len (prF (lkF tp len) u f 0 o q).2.1 = 41 then 1 else 0) c') : zCl l E ad mX2_readsInner d [.ref (ad 31), .int (nI o)] c Qf := by
  have hlen := he.2.2.2.1
  have i0 := pr_ok (tp := tp) (len := len) (u := u) f 0 o q hq (by omega)
  generalize hA : prF (lkF tp len) u f 0 o q = A at hQ i0
  refine z_enter (own := RX2) [some (.ref (ad 31)), some (.int (nI o))] (by decide +kernel) rfl rfl rfl (Nat.le_of_ble_eq_true rfl) ?_
  refine z_aload_n (i := 0) dX2_readsInner_0 rfl rfl ?_
  refine z_iconst (v := 0) dX2_readsInner_1 (by decide) ?_
  refine z_iload_n (i := 1) dX2_readsInner_2 rfl rfl ?_
  refine z_Vb (As := [_, _]) dX2_readsInner_3 (by rfl) v_X2_reads l_X2_38 (by first | decide | assumption | omega) rfl rfl rfl (by omega) (by decide) (Nat.le_of_ble_eq_true rfl) ?_
  refine H c o _ q _ (by omega) hq ho hn (by omega) hz he (fun c2 hz2 => ?_)
  rw [hA] at hz2
  rw [hA]
  refine z_if_eq 18 dX2_readsInner_6 (by decide) (fun h_6 => ?_) (fun h_6 => ?_)
  · refine z_iconst (v := 0) dX2_readsInner_18 (by decide) ?_
    first
    | (have hA1 := bite.mp (by first | exact h_6 | exact Classical.not_not.mp h_6)
       rw [if_neg (fun w => hA1 w.1), if_neg (fun w => hA1 w.1)] at hQ
       exact z_ret (r := 0) dX2_readsInner_19 (hQ c2 hz2) (by rfl) rfl)
    | (rw [if_neg (fun w => h_15 w.2), if_neg (fun w => h_15 w.2)] at hQ
       exact z_ret (r := 0) dX2_readsInner_19 (hQ c2 hz2) (by rfl) rfl)
  · refine z_aload_n (i := 0) dX2_readsInner_9 rfl rfl ?_
    refine z_Vi (As := []) dX2_readsInner_10 (by rfl) v_X2_next l_X2_46 (by first | decide | assumption | omega) rfl rfl rfl (by omega) (by decide) (Nat.le_of_ble_eq_true rfl) ?_
    refine s_next (zqs_self hz2) (zqe_tr he hz2) i0.2.1 ?_
    refine z_bipush (v := 41) dX2_readsInner_13 (by decide) ?_
    refine z_icmp_eq 20 dX2_readsInner_15 (by decide) (fun h_15 => ?_) (fun h_15 => ?_)
    · refine z_aload_n (i := 0) dX2_readsInner_20 rfl rfl ?_
      refine z_dup dX2_readsInner_21 rfl ?_
      refine z_getf dX2_readsInner_22 f_X2_22 (by first | decide | assumption | omega) rfl (by rfl) ?_
      refine z_iconst (v := 1) dX2_readsInner_25 (by decide) ?_
      refine z_iadd dX2_readsInner_26 ?_
      refine z_putfi dX2_readsInner_27 f_X2_22 fp_X2_4 (by first | decide | assumption | omega) rfl (by exact Nat.le_of_ble_eq_true rfl) rfl ?_
      refine z_iconst (v := 1) dX2_readsInner_30 (by decide) ?_
      have hA1 : A.1 = true := Classical.byContradiction (fun w => h_6 (bite.mpr w))
      have h41 : lkF tp len A.2.1 = 41 := by first | exact h_15 | exact Classical.not_not.mp h_15
      rw [if_pos ⟨hA1, h41⟩, if_pos ⟨hA1, h41⟩] at hQ
      exact z_ret (r := 1) dX2_readsInner_31 (hQ _ (zqs_tr hz2 (zqs_adv (zqs_self hz2)))) (by rfl) rfl
    · refine z_iconst (v := 0) dX2_readsInner_18 (by decide) ?_
      first
      | (have hA1 := bite.mp (by first | exact h_6 | exact Classical.not_not.mp h_6)
         rw [if_neg (fun w => hA1 w.1), if_neg (fun w => hA1 w.1)] at hQ
         exact z_ret (r := 0) dX2_readsInner_19 (hQ c2 hz2) (by rfl) rfl)
      | (rw [if_neg (fun w => h_15 w.2), if_neg (fun w => h_15 w.2)] at hQ
         exact z_ret (r := 0) dX2_readsInner_19 (hQ c2 hz2) (by rfl) rfl)
theorem s_ru {F : Nat} (H5 : ruC l E ad tp len u F) (H0 : rdC l E ad tp len u F 0) : ruC l E ad tp len u (F + 1) := by
  intro c o d q Qf hm hq ho hn hd hz he hQ
  have hlen := he.2.2.2.1
  have hu2 := he.2.2.2.2.1
  have hbo := nb_nI (tp := tp) (len := len) (i := q.1) he.2.2.2.2.2
  generalize epr : prF (lkF tp len) u (F + 1) 5 o q = R at hQ
  unfold prF at epr
  rw [if_neg (show ¬ 5 < 5 by decide), if_pos rfl] at epr
  have hza := zqs_adv hz
  have hlk : ∀ x : Int32, lkF tp len q.1 = x → ¬ x = -1 → q.1 < len := fun x h1 h2 => lk_lt (tp := tp) (by rw [h1]; exact h2)
  have hnx := nx_v (u := u) (b := lkF tp len q.1) hu2
  have hdn : (48 ≤ lkF tp len q.1 ∧ lkF tp len q.1 ≤ 57) → ¬ nmB u (lkF tp len q.1) := by
    intro h w
    generalize lkF tp len q.1 = y at h w
    unfold nmB at w
    split at w <;> rcases w with rfl | rfl | rfl <;> exact absurd h.2 (by decide)
  generalize hb : lkF tp len q.1 = b at *
  refine z_enter (own := RX2) [some (.ref (ad 31)), some (.int (nI o)), none, none] (by decide +kernel) rfl rfl rfl (Nat.le_of_ble_eq_true rfl) ?_
  have cut60 : ∀ x3 : Int32, ¬ nmB u b → ¬ (48 ≤ b ∧ b ≤ 57) → zW l E ad RX2 cX2_readsUnit 4 3 d Qf 60 [some (.ref (ad 31)), some (.int (nI o)), some (.int b), some (.int x3)] [] c := by
    intro x3 n1 n2
    have h5 : nI o < (5 : Int32) ↔ o < 5 := nI_ltI (a := o) (b := 5) (by omega) (by omega)
    rw [if_neg n1, if_neg n2] at epr
    by_cases b33 : b = 33
    · rw [if_pos b33] at epr
      have hp := hlk b rfl (by rw [b33]; decide)
      by_cases o5 : o = 5
      · rw [if_pos o5] at epr
        rw [← epr] at hQ
        refine z_iload_n (i := 2) dX2_readsUnit_60 rfl rfl ?_
        refine z_bipush (v := 33) dX2_readsUnit_61 (by decide) ?_
        refine z_icmp_eq 72 dX2_readsUnit_63 (by decide) (fun h_63 => ?_) (fun h_63 => ?_)
        rotate_left
        · exact absurd b33 h_63
        refine z_iload_n (i := 1) dX2_readsUnit_72 rfl rfl ?_
        refine z_iconst (v := 5) dX2_readsUnit_73 (by decide) ?_
        refine z_icmp_lt 79 dX2_readsUnit_74 (by decide) (fun h_74 => ?_) (fun h_74 => ?_)
        · exfalso; have := h5.mp h_74; omega
        refine z_iconst (v := 0) dX2_readsUnit_77 (by decide) ?_
        exact z_ret (r := 0) dX2_readsUnit_78 (hQ c hz) (by rfl) rfl
      · rw [if_neg o5] at epr
        generalize hA : prF (lkF tp len) u F 5 (o + 1) (adv q) = A at epr
        have efin : R.2 = (if A.1 = true then stp 2 0 A.2 else A.2) ∧ (if R.1 = true then (1 : Int32) else 0) = (if A.1 = true then 1 else 0) := by
          rw [← epr]
          by_cases w : A.1 = true
          · rw [if_pos w, if_pos w, if_pos w, if_pos rfl]
            exact ⟨rfl, rfl⟩
          · rw [if_neg w, if_neg w, if_neg w]
            exact ⟨rfl, rfl⟩
        refine z_iload_n (i := 2) dX2_readsUnit_60 rfl rfl ?_
        refine z_bipush (v := 33) dX2_readsUnit_61 (by decide) ?_
        refine z_icmp_eq 72 dX2_readsUnit_63 (by decide) (fun h_63 => ?_) (fun h_63 => ?_)
        rotate_left
        · exact absurd b33 h_63
        refine z_iload_n (i := 1) dX2_readsUnit_72 rfl rfl ?_
        refine z_iconst (v := 5) dX2_readsUnit_73 (by decide) ?_
        refine z_icmp_lt 79 dX2_readsUnit_74 (by decide) (fun h_74 => ?_) (fun h_74 => ?_)
        rotate_left
        · exfalso; exact h_74 (h5.mpr (by omega))
        refine z_aload_n (i := 0) dX2_readsUnit_79 rfl rfl ?_
        refine z_dup dX2_readsUnit_80 rfl ?_
        refine z_getf dX2_readsUnit_81 f_X2_22 (by first | decide | assumption | omega) rfl (by rfl) ?_
        refine z_iconst (v := 1) dX2_readsUnit_84 (by decide) ?_
        refine z_iadd dX2_readsUnit_85 ?_
        refine z_putfi dX2_readsUnit_86 f_X2_22 fp_X2_4 (by first | decide | assumption | omega) rfl (by exact Nat.le_of_ble_eq_true rfl) rfl ?_
        refine z_iload_n (i := 2) dX2_readsUnit_89 rfl rfl ?_
        refine z_bipush (v := 33) dX2_readsUnit_90 (by decide) ?_
        refine z_icmp_ne 105 dX2_readsUnit_92 (by decide) (fun h_92 => ?_) (fun h_92 => ?_)
        · exact absurd b33 h_92
        refine z_aload_n (i := 0) dX2_readsUnit_95 rfl rfl ?_
        refine z_iload_n (i := 1) dX2_readsUnit_96 rfl rfl ?_
        refine z_iconst (v := 1) dX2_readsUnit_97 (by decide) ?_
        refine z_iadd dX2_readsUnit_98 ?_
        rw [nI_1]
        refine z_Vb (As := [_]) dX2_readsUnit_99 (by rfl) v_X2_readsNot l_X2_72 (by first | decide | assumption | omega) rfl rfl rfl (by omega) (by decide) (Nat.le_of_ble_eq_true rfl) ?_
        refine s_readsNot H5 (q := adv q) (by show 8 * (60 - (q.1 + 1)) + 1 ≤ F; omega) (by show q.1 + 1 ≤ len; omega) (by omega) (by show q.2.1 + 1 ≤ q.1 + 1; omega) (by omega) (zqs_self hza) (zqe_tr he hza) (fun c2 hz2 => ?_)
        rw [hA] at hz2
        rw [hA]
        refine z_goto 112 dX2_readsUnit_102 (by decide) ?_
        exact z_ret dX2_readsUnit_112 (by rw [← efin.2]; exact hQ c2 (by rw [efin.1]; exact zqs_tr hza hz2)) (by show narrow _ _ = _; split <;> rfl) rfl
    · rw [if_neg b33] at epr
      by_cases b40 : b = 40
      · rw [if_pos b40] at epr
        have hp := hlk b rfl (by rw [b40]; decide)
        by_cases o5 : o = 5
        · rw [if_pos o5] at epr
          rw [← epr] at hQ
          refine z_iload_n (i := 2) dX2_readsUnit_60 rfl rfl ?_
          refine z_bipush (v := 33) dX2_readsUnit_61 (by decide) ?_
          refine z_icmp_eq 72 dX2_readsUnit_63 (by decide) (fun h_63 => ?_) (fun h_63 => ?_)
          · exact absurd h_63 b33
          refine z_iload_n (i := 2) dX2_readsUnit_66 rfl rfl ?_
          refine z_bipush (v := 40) dX2_readsUnit_67 (by decide) ?_
          refine z_icmp_ne 77 dX2_readsUnit_69 (by decide) (fun h_69 => ?_) (fun h_69 => ?_)
          · exact absurd b40 h_69
          refine z_iload_n (i := 1) dX2_readsUnit_72 rfl rfl ?_
          refine z_iconst (v := 5) dX2_readsUnit_73 (by decide) ?_
          refine z_icmp_lt 79 dX2_readsUnit_74 (by decide) (fun h_74 => ?_) (fun h_74 => ?_)
          · exfalso; have := h5.mp h_74; omega
          refine z_iconst (v := 0) dX2_readsUnit_77 (by decide) ?_
          exact z_ret (r := 0) dX2_readsUnit_78 (hQ c hz) (by rfl) rfl
        · rw [if_neg o5] at epr
          generalize hA : prF (lkF tp len) u F 0 (o + 1) (adv q) = A at epr
          have efin : R.2 = (if A.1 = true ∧ lkF tp len A.2.1 = 41 then adv A.2 else A.2) ∧ (if R.1 = true then (1 : Int32) else 0) = (if A.1 = true ∧ lkF tp len A.2.1 = 41 then 1 else 0) := by
            rw [← epr]
            by_cases w : A.1 = true
            · rw [if_pos w]
              by_cases w2 : lkF tp len A.2.1 = 41
              · rw [if_pos w2, if_pos ⟨w, w2⟩, if_pos rfl, if_pos ⟨w, w2⟩]
                exact ⟨rfl, rfl⟩
              · rw [if_neg w2, if_neg (fun z => w2 z.2), if_neg Bool.false_ne_true, if_neg (fun z => w2 z.2)]
                exact ⟨rfl, rfl⟩
            · rw [if_neg w, if_neg (fun z => w z.1), if_neg w, if_neg (fun z => w z.1)]
              exact ⟨rfl, rfl⟩
          refine z_iload_n (i := 2) dX2_readsUnit_60 rfl rfl ?_
          refine z_bipush (v := 33) dX2_readsUnit_61 (by decide) ?_
          refine z_icmp_eq 72 dX2_readsUnit_63 (by decide) (fun h_63 => ?_) (fun h_63 => ?_)
          · exact absurd h_63 b33
          refine z_iload_n (i := 2) dX2_readsUnit_66 rfl rfl ?_
          refine z_bipush (v := 40) dX2_readsUnit_67 (by decide) ?_
          refine z_icmp_ne 77 dX2_readsUnit_69 (by decide) (fun h_69 => ?_) (fun h_69 => ?_)
          · exact absurd b40 h_69
          refine z_iload_n (i := 1) dX2_readsUnit_72 rfl rfl ?_
          refine z_iconst (v := 5) dX2_readsUnit_73 (by decide) ?_
          refine z_icmp_lt 79 dX2_readsUnit_74 (by decide) (fun h_74 => ?_) (fun h_74 => ?_)
          rotate_left
          · exfalso; exact h_74 (h5.mpr (by omega))
          refine z_aload_n (i := 0) dX2_readsUnit_79 rfl rfl ?_
          refine z_dup dX2_readsUnit_80 rfl ?_
          refine z_getf dX2_readsUnit_81 f_X2_22 (by first | decide | assumption | omega) rfl (by rfl) ?_
          refine z_iconst (v := 1) dX2_readsUnit_84 (by decide) ?_
          refine z_iadd dX2_readsUnit_85 ?_
          refine z_putfi dX2_readsUnit_86 f_X2_22 fp_X2_4 (by first | decide | assumption | omega) rfl (by exact Nat.le_of_ble_eq_true rfl) rfl ?_
          refine z_iload_n (i := 2) dX2_readsUnit_89 rfl rfl ?_
          refine z_bipush (v := 33) dX2_readsUnit_90 (by decide) ?_
          refine z_icmp_ne 105 dX2_readsUnit_92 (by decide) (fun h_92 => ?_) (fun h_92 => ?_)
          rotate_left
          · exact absurd (by first | exact h_92 | exact Classical.not_not.mp h_92) b33
          refine z_aload_n (i := 0) dX2_readsUnit_105 rfl rfl ?_
          refine z_iload_n (i := 1) dX2_readsUnit_106 rfl rfl ?_
          refine z_iconst (v := 1) dX2_readsUnit_107 (by decide) ?_
          refine z_iadd dX2_readsUnit_108 ?_
          rw [nI_1]
          refine z_Vb (As := [_]) dX2_readsUnit_109 (by rfl) v_X2_readsInner l_X2_75 (by first | decide | assumption | omega) rfl rfl rfl (by omega) (by decide) (Nat.le_of_ble_eq_true rfl) ?_
          refine s_readsInner H0 (q := adv q) (by show 8 * (60 - (q.1 + 1)) + 6 ≤ F; omega) (by show q.1 + 1 ≤ len; omega) (by omega) (by show q.2.1 ≤ q.1 + 1; omega) (by omega) (zqs_self hza) (zqe_tr he hza) (fun c2 hz2 => ?_)
          rw [hA] at hz2
          rw [hA]
          exact z_ret dX2_readsUnit_112 (by rw [← efin.2]; exact hQ c2 (by rw [efin.1]; exact zqs_tr hza hz2)) (by show narrow _ _ = _; split <;> rfl) rfl
      · rw [if_neg b40] at epr
        rw [← epr] at hQ
        refine z_iload_n (i := 2) dX2_readsUnit_60 rfl rfl ?_
        refine z_bipush (v := 33) dX2_readsUnit_61 (by decide) ?_
        refine z_icmp_eq 72 dX2_readsUnit_63 (by decide) (fun h_63 => ?_) (fun h_63 => ?_)
        · exact absurd h_63 b33
        refine z_iload_n (i := 2) dX2_readsUnit_66 rfl rfl ?_
        refine z_bipush (v := 40) dX2_readsUnit_67 (by decide) ?_
        refine z_icmp_ne 77 dX2_readsUnit_69 (by decide) (fun h_69 => ?_) (fun h_69 => ?_)
        rotate_left
        · exact absurd (by first | exact h_69 | exact Classical.not_not.mp h_69) b40
        refine z_iconst (v := 0) dX2_readsUnit_77 (by decide) ?_
        exact z_ret (r := 0) dX2_readsUnit_78 (hQ c hz) (by rfl) rfl
  have cut35 : ¬ (48 ≤ b ∧ b ≤ 57) → zW l E ad RX2 cX2_readsUnit 4 3 d Qf 35 [some (.ref (ad 31)), some (.int (nI o)), some (.int b), some (.int (nxF (u + 1) b))] [] c := by
    intro n2
    by_cases n1 : nmB u b
    · have hp := hlk b rfl (fun w => by have := nm_in n1; rw [w] at this; exact absurd this.1 (by decide))
      rw [if_pos n1] at epr
      rw [← epr] at hQ
      have hx := hnx.1 n1
      refine z_iload_n (i := 3) dX2_readsUnit_35 rfl rfl ?_
      refine z_if_lt 60 dX2_readsUnit_36 (by decide) (fun h_36 => ?_) (fun h_36 => ?_)
      · exfalso; have := hx.1; grind
      refine z_aload_n (i := 0) dX2_readsUnit_39 rfl rfl ?_
      refine z_dup dX2_readsUnit_40 rfl ?_
      refine z_getf dX2_readsUnit_41 f_X2_22 (by first | decide | assumption | omega) rfl (by rfl) ?_
      refine z_iconst (v := 1) dX2_readsUnit_44 (by decide) ?_
      refine z_iadd dX2_readsUnit_45 ?_
      refine z_putfi dX2_readsUnit_46 f_X2_22 fp_X2_4 (by first | decide | assumption | omega) rfl (by exact Nat.le_of_ble_eq_true rfl) rfl ?_
      refine z_aload_n (i := 0) dX2_readsUnit_49 rfl rfl ?_
      refine z_sipush (v := 10000) dX2_readsUnit_50 (by decide) ?_
      refine z_iload_n (i := 3) dX2_readsUnit_53 rfl rfl ?_
      refine z_iadd dX2_readsUnit_54 ?_
      rw [hx.2]
      refine z_Vv (As := [_]) dX2_readsUnit_55 (by rfl) v_X2_writes l_X2_54 (by first | decide | assumption | omega) rfl rfl rfl (by omega) (by decide) (Nat.le_of_ble_eq_true rfl) ?_
      refine s_writes (zqs_self hza) (by show q.2.1 < 60; omega) ?_
      refine z_iconst (v := 1) dX2_readsUnit_58 (by decide) ?_
      exact z_ret (r := 1) dX2_readsUnit_59 (hQ _ (zqs_tr hza (zqs_stp (zqs_self hza) rfl))) (by rfl) rfl
    · have hx := hnx.2 n1
      refine z_iload_n (i := 3) dX2_readsUnit_35 rfl rfl ?_
      refine z_if_lt 60 dX2_readsUnit_36 (by decide) (fun h_36 => ?_) (fun h_36 => ?_)
      rotate_left
      · exfalso; rw [hx] at h_36; exact h_36 (by decide)
      exact cut60 _ n1 n2
  have enx : (c 31 5).toNatClampNeg = u + 1 := by rw [he.2.2.1]; exact pn_nI (by omega)
  have hu1 : u + 1 = 1 ∨ u + 1 = 2 := by omega
  have hu3 : u + 1 < 3 := by omega
  refine z_aload_n (i := 0) dX2_readsUnit_0 rfl rfl ?_
  refine z_Vi (As := []) dX2_readsUnit_1 (by rfl) v_X2_next l_X2_46 (by first | decide | assumption | omega) rfl rfl rfl (by omega) (by decide) (Nat.le_of_ble_eq_true rfl) ?_
  refine s_next hz he hq ?_
  rw [hb]
  refine z_istore_n (i := 2) [_, _, _, _] dX2_readsUnit_4 rfl (by decide) rfl rfl ?_
  refine z_iload_n (i := 2) dX2_readsUnit_5 rfl rfl ?_
  refine z_Sb (As := [_]) dX2_readsUnit_6 (by rfl) v_X2_isDigit l_X2_58 rfl (by omega) (by decide) (Nat.le_of_ble_eq_true rfl) ?_
  refine s_X2_isDigit ?_
  refine z_if_eq 17 dX2_readsUnit_9 (by decide) (fun h_9 => ?_) (fun h_9 => ?_)
  · refine z_iload_n (i := 2) dX2_readsUnit_17 rfl rfl ?_
    refine z_if_ge 25 dX2_readsUnit_18 (by decide) (fun h_18 => ?_) (fun h_18 => ?_)
    · refine z_aload_n (i := 0) dX2_readsUnit_25 rfl rfl ?_
      refine z_getf dX2_readsUnit_26 f_X2_27 (by first | decide | assumption | omega) rfl (by rfl) ?_
      rw [enx]
      refine z_iload_n (i := 2) dX2_readsUnit_29 rfl rfl ?_
      refine z_i2c dX2_readsUnit_30 ?_
      obtain ⟨j, hj, ej⟩ := hbo.resolve_left (fun w => by rw [w] at h_18; exact absurd h_18 (by decide))
      subst ej
      rw [(i2b_255 j hj).2.2.2.2.2]
      refine z_call (rk' := 1) (As := [_]) (b := _) dX2_readsUnit_31 (by rfl) v_J0_indexOf_0f7a4 l_X2_65 (z_recS (by assumption)) rfl (by omega) (by decide) (Nat.le_of_ble_eq_true rfl) ?_
      refine s_J0_indexOf (k := u + 1) hu3 hu1 hj (by omega) ?_
      refine z_istore_n (i := 3) [_, _, _, _] dX2_readsUnit_34 rfl (by decide) rfl rfl ?_
      first
      | exact cut35 (bite.mp h_9)
      | (have hbm : b = -1 := hbo.resolve_right (fun ⟨j, hj, w⟩ => by have := nI_pos' (n := j) (by omega); rw [w] at h_18; exact h_18 this)
         have e1 : nxF (u + 1) b = -1 := hnx.2 (fun w => by have := nm_in w; rw [hbm] at this; exact absurd this.1 (by decide))
         rw [← e1]
         exact cut35 (bite.mp h_9))
    · refine z_iconst (v := (-1)) dX2_readsUnit_21 (by decide) ?_
      refine z_goto 34 dX2_readsUnit_22 (by decide) ?_
      refine z_istore_n (i := 3) [_, _, _, _] dX2_readsUnit_34 rfl (by decide) rfl rfl ?_
      first
      | exact cut35 (bite.mp h_9)
      | (have hbm : b = -1 := hbo.resolve_right (fun ⟨j, hj, w⟩ => by have := nI_pos' (n := j) (by omega); rw [w] at h_18; exact h_18 this)
         have e1 : nxF (u + 1) b = -1 := hnx.2 (fun w => by have := nm_in w; rw [hbm] at this; exact absurd this.1 (by decide))
         rw [← e1]
         exact cut35 (bite.mp h_9))
  · have n2 : 48 ≤ b ∧ b ≤ 57 := Classical.byContradiction (fun w => h_9 (bite.mpr w))
    have hp := hlk b rfl (fun w => by rw [w] at n2; exact absurd n2.1 (by decide))
    rw [if_neg (hdn n2), if_pos n2] at epr
    rw [← epr] at hQ
    refine z_aload_n (i := 0) dX2_readsUnit_12 rfl rfl ?_
    refine z_Vb (As := []) dX2_readsUnit_13 (by rfl) v_X2_readsNumber l_X2_61 (by first | decide | assumption | omega) rfl rfl rfl (by omega) (by decide) (Nat.le_of_ble_eq_true rfl) ?_
    refine s_readsNumber hz he hq (by omega) (by omega) (fun c2 hz2 => ?_)
    exact z_ret (r := 1) dX2_readsUnit_16 (hQ c2 hz2) (by rfl) rfl
end RC
