/-! the reader of TEXTS, the reference's ranks -/
theorem pr_rk {lk : Nat → Int32} {u f r o : Nat} {q : pS} (h : r < 5) : prF lk u (f + 1) r o q = (if (prF lk u f (r + 1) o q).1 = true then prF lk u f (10 + r) o (prF lk u f (r + 1) o q).2 else prF lk u f (r + 1) o q) := by
  rw [prF, if_pos h]
theorem pr_lp {lk : Nat → Int32} {u f o : Nat} {q : pS} (s : Nat) : prF lk u (f + 1) (10 + s) o q = (if rkF (lk q.1) = s then (if (prF lk u f (s + 1) o (adv q)).1 = true then (if s = 2 then (true, stp 3 (lk q.1) (prF lk u f (s + 1) o (adv q)).2) else prF lk u f (10 + s) o (stp 3 (lk q.1) (prF lk u f (s + 1) o (adv q)).2)) else prF lk u f (s + 1) o (adv q)) else (true, q)) := by
  rw [prF, if_neg (by omega), if_neg (by omega), show 10 + s - 10 = s by omega, show 10 + s - 9 = s + 1 by omega]
  simp only [show (10 + s = 12) = (s = 2) by apply propext; omega]
section P3
variable {l : Launch} {E : zE} {ad : Nat → Nat} {Qf : Int32 → zS → Prop} {tp : zN} {len u : Nat}
theorem s_X8_whole {F : Nat} (H : ∀ f, f ≤ F → prC l E ad tp len u f 1 mX8_both) : prC l E ad tp len u (F + 1) 0 mX8_whole := by
  intro c o d q Qf hm hq ho hn hd hz h6 he hQ
  have hlen := he.2.2.2.1
  rw [pr_rk (by decide)] at hQ
  refine z_enter (own := RX8) [some (.ref (ad 51))] (by decide +kernel) rfl rfl rfl (Nat.le_of_ble_eq_true rfl) ?_
  have loop : ∀ (f : Nat) (q1 : pS) (c1 : zS), f ≤ F → 8 * (60 - q1.1) + 1 ≤ f → q1.1 ≤ len → q1.2.1 ≤ q1.1 → zps c q1 c1 → c1 51 6 = nI o → (∀ c', zps c (prF (lkF tp len) u f (10 + 0) o q1).2 c' → ((prF (lkF tp len) u f (10 + 0) o q1).1 = true → c' 51 6 = nI o) → Qf (if (prF (lkF tp len) u f (10 + 0) o q1).1 = true then 1 else 0) c') → zW l E ad RX8 cX8_whole 1 3 d Qf 9 [some (.ref (ad 51))] [] c1 := by
    intro f
    induction f with
    | zero => intro q1 c1 _ h; omega
    | succ f ih =>
      intro q1 c1 hf hm1 hq1 hn1 hz1 h61 hQ1
      have he1 := zpe_tr he hz1
      rw [pr_lp 0] at hQ1
      have hrk : rkF (lkF tp len q1.1) = 0 ↔ (lkF tp len q1.1 = 124) := by unfold rkF; grind
      have hza : zps c1 (adv q1) (zup c1 51 (upd (c1 51) 5 (c1 51 5 + 1))) := zps_adv (zps_self hz1) (by rw [hz1.1, nI_1])
      refine z_aload_n (i := 0) dX8_whole_9 rfl rfl ?_
      refine z_Vi (As := []) dX8_whole_10 (by rfl) v_X8_look l_X8_71 (by first | decide | assumption | omega) rfl rfl rfl (by omega) (by decide) (Nat.le_of_ble_eq_true rfl) ?_
      refine t_look (zps_self hz1) he1 hq1 ?_
      refine z_bipush (v := 124) dX8_whole_13 (by decide) ?_
      refine z_icmp_ne 47 dX8_whole_15 (by decide) (fun h_15 => ?_) (fun h_15 => ?_)
      · refine z_iconst (v := 1) dX8_whole_47 (by decide) ?_
        rw [if_neg (mt hrk.mp (by grind))] at hQ1
        exact z_ret dX8_whole_48 (by have := hQ1 c1 hz1 (fun _ => h61); exact this) (by rfl) rfl
      · have hb : lkF tp len q1.1 = 124 := by grind
        have hp := rk_lt (hrk.mpr hb) (by omega)
        rw [if_pos (hrk.mpr hb)] at hQ1
        have i0 := pr_ok (tp := tp) (len := len) (u := u) f 1 o (adv q1) (by show q1.1 + 1 ≤ len; omega) (by omega)
        have hg : (prF (lkF tp len) u f 1 o (adv q1)).2.1 ≤ len ∧ q1.1 + 1 ≤ (prF (lkF tp len) u f 1 o (adv q1)).2.1 ∧ (prF (lkF tp len) u f 1 o (adv q1)).2.2.1 + 1 ≤ (prF (lkF tp len) u f 1 o (adv q1)).2.1 := by
          have i9 := i0
          generalize (prF (lkF tp len) u f 1 o (adv q1)).2 = A at i9 ⊢
          unfold gO adv at i9
          dsimp only at i9
          omega
        refine z_aload_n (i := 0) dX8_whole_18 rfl rfl ?_
        refine z_dup dX8_whole_19 rfl ?_
        refine z_getf dX8_whole_20 f_X8_57 (by first | decide | assumption | omega) rfl (by rfl) ?_
        refine z_iconst (v := 1) dX8_whole_23 (by decide) ?_
        refine z_iadd dX8_whole_24 ?_
        refine z_putfi dX8_whole_25 f_X8_57 fp_X8_5 (by first | decide | assumption | omega) rfl (by exact Nat.le_of_ble_eq_true rfl) rfl ?_
        refine z_aload_n (i := 0) dX8_whole_28 rfl rfl ?_
        refine z_Vb (As := []) dX8_whole_29 (by rfl) v_X8_both l_X8_67 (by first | decide | assumption | omega) rfl rfl rfl (by omega) (by decide) (Nat.le_of_ble_eq_true rfl) ?_
        refine H f (by omega) _ o _ (adv q1) _ (by show 8 * (60 - (q1.1 + 1)) + _ ≤ _; omega) (by show q1.1 + 1 ≤ len; omega) ho (by show q1.2.1 ≤ q1.1 + 1; omega) (by omega) (zps_self hza) (by rw [zup_s, pk_un (by decide)]; exact h61) (zpe_tr he1 hza) (fun c2 hz2 h62 => ?_)
        refine z_if_ne 37 dX8_whole_32 (by decide) (fun h_32 => ?_) (fun h_32 => ?_)
        · have hA : (prF (lkF tp len) u f 1 o (adv q1)).1 = true := Classical.byContradiction (fun q => h_32 (bite.mpr q))
          rw [if_pos hA, if_neg (show ¬ (0 : Nat) = 2 by decide)] at hQ1
          refine z_aload_n (i := 0) dX8_whole_37 rfl rfl ?_
          refine z_iconst (v := 3) dX8_whole_38 (by decide) ?_
          refine z_bipush (v := 124) dX8_whole_39 (by decide) ?_
          refine z_Vv (As := [_, _]) dX8_whole_41 (by rfl) v_X8_step1 l_X8_75 (by first | decide | assumption | omega) rfl rfl rfl (by omega) (by decide) (Nat.le_of_ble_eq_true rfl) ?_
          refine s_X8_step1 (k := (prF (lkF tp len) u f 1 o (adv q1)).2.2.1) hz2.2.1 (by omega) ?_
          refine z_goto 9 dX8_whole_44 (by decide) ?_
          exact ih (stp 3 124 (prF (lkF tp len) u f 1 o (adv q1)).2) _ (by omega) (by show 8 * (60 - (prF (lkF tp len) u f 1 o (adv q1)).2.1) + 1 ≤ f; omega) hg.1 (by show (prF (lkF tp len) u f 1 o (adv q1)).2.2.1 + 1 ≤ (prF (lkF tp len) u f 1 o (adv q1)).2.1; omega) (zps_tr hz1 (zps_tr hza (zps_tr hz2 (zps_stp (zps_self hz2))))) (by rw [zup_s, pk_un (by decide)]; exact h62 hA) (by rw [hb] at hQ1; exact hQ1)
        · refine z_iconst (v := 0) dX8_whole_35 (by decide) ?_
          have hA := bite.mp h_32
          rw [if_neg hA] at hQ1
          exact z_ret dX8_whole_36 (by have := hQ1 c2 (zps_tr hz1 (zps_tr hza hz2)) (fun q => absurd q hA); rw [if_neg hA] at this; exact this) (by rfl) rfl
  have i0 := pr_ok (tp := tp) (len := len) (u := u) F 1 o q hq (by omega)
  have hg : (prF (lkF tp len) u F 1 o q).2.1 ≤ len ∧ q.1 ≤ (prF (lkF tp len) u F 1 o q).2.1 ∧ (prF (lkF tp len) u F 1 o q).2.2.1 ≤ (prF (lkF tp len) u F 1 o q).2.1 := by
    generalize (prF (lkF tp len) u F 1 o q).2 = A at i0 ⊢
    unfold gO at i0
    omega
  refine z_aload_n (i := 0) dX8_whole_0 rfl rfl ?_
  refine z_Vb (As := []) dX8_whole_1 (by rfl) v_X8_both l_X8_67 (by first | decide | assumption | omega) rfl rfl rfl (by omega) (by decide) (Nat.le_of_ble_eq_true rfl) ?_
  refine H F (Nat.le_refl _) _ o _ q _ (by omega) hq ho hn (by omega) hz h6 he (fun c2 hz2 h62 => ?_)
  refine z_if_ne 9 dX8_whole_4 (by decide) (fun h_4 => ?_) (fun h_4 => ?_)
  · have hA : (prF (lkF tp len) u F 1 o q).1 = true := Classical.byContradiction (fun q => h_4 (bite.mpr q))
    rw [if_pos hA] at hQ
    exact loop F (prF (lkF tp len) u F 1 o q).2 c2 (Nat.le_refl _) (by omega) hg.1 hg.2.2 hz2 (h62 hA) hQ
  · refine z_iconst (v := 0) dX8_whole_7 (by decide) ?_
    have hA := bite.mp h_4
    rw [if_neg hA] at hQ
    exact z_ret dX8_whole_8 (by have := hQ c2 hz2 (fun q => absurd q hA); rw [if_neg hA] at this; exact this) (by rfl) rfl
theorem s_X8_both {F : Nat} (H : ∀ f, f ≤ F → prC l E ad tp len u f 2 mX8_compared) : prC l E ad tp len u (F + 1) 1 mX8_both := by
  intro c o d q Qf hm hq ho hn hd hz h6 he hQ
  have hlen := he.2.2.2.1
  rw [pr_rk (by decide)] at hQ
  refine z_enter (own := RX8) [some (.ref (ad 51))] (by decide +kernel) rfl rfl rfl (Nat.le_of_ble_eq_true rfl) ?_
  have loop : ∀ (f : Nat) (q1 : pS) (c1 : zS), f ≤ F → 8 * (60 - q1.1) + 1 ≤ f → q1.1 ≤ len → q1.2.1 ≤ q1.1 → zps c q1 c1 → c1 51 6 = nI o → (∀ c', zps c (prF (lkF tp len) u f (10 + 1) o q1).2 c' → ((prF (lkF tp len) u f (10 + 1) o q1).1 = true → c' 51 6 = nI o) → Qf (if (prF (lkF tp len) u f (10 + 1) o q1).1 = true then 1 else 0) c') → zW l E ad RX8 cX8_both 1 3 d Qf 9 [some (.ref (ad 51))] [] c1 := by
    intro f
    induction f with
    | zero => intro q1 c1 _ h; omega
    | succ f ih =>
      intro q1 c1 hf hm1 hq1 hn1 hz1 h61 hQ1
      have he1 := zpe_tr he hz1
      rw [pr_lp 1] at hQ1
      have hrk : rkF (lkF tp len q1.1) = 1 ↔ (lkF tp len q1.1 = 38) := by unfold rkF; grind
      have hza : zps c1 (adv q1) (zup c1 51 (upd (c1 51) 5 (c1 51 5 + 1))) := zps_adv (zps_self hz1) (by rw [hz1.1, nI_1])
      refine z_aload_n (i := 0) dX8_both_9 rfl rfl ?_
      refine z_Vi (As := []) dX8_both_10 (by rfl) v_X8_look l_X8_71 (by first | decide | assumption | omega) rfl rfl rfl (by omega) (by decide) (Nat.le_of_ble_eq_true rfl) ?_
      refine t_look (zps_self hz1) he1 hq1 ?_
      refine z_bipush (v := 38) dX8_both_13 (by decide) ?_
      refine z_icmp_ne 47 dX8_both_15 (by decide) (fun h_15 => ?_) (fun h_15 => ?_)
      · refine z_iconst (v := 1) dX8_both_47 (by decide) ?_
        rw [if_neg (mt hrk.mp (by grind))] at hQ1
        exact z_ret dX8_both_48 (by have := hQ1 c1 hz1 (fun _ => h61); exact this) (by rfl) rfl
      · have hb : lkF tp len q1.1 = 38 := by grind
        have hp := rk_lt (hrk.mpr hb) (by omega)
        rw [if_pos (hrk.mpr hb)] at hQ1
        have i0 := pr_ok (tp := tp) (len := len) (u := u) f 2 o (adv q1) (by show q1.1 + 1 ≤ len; omega) (by omega)
        have hg : (prF (lkF tp len) u f 2 o (adv q1)).2.1 ≤ len ∧ q1.1 + 1 ≤ (prF (lkF tp len) u f 2 o (adv q1)).2.1 ∧ (prF (lkF tp len) u f 2 o (adv q1)).2.2.1 + 1 ≤ (prF (lkF tp len) u f 2 o (adv q1)).2.1 := by
          have i9 := i0
          generalize (prF (lkF tp len) u f 2 o (adv q1)).2 = A at i9 ⊢
          unfold gO adv at i9
          dsimp only at i9
          omega
        refine z_aload_n (i := 0) dX8_both_18 rfl rfl ?_
        refine z_dup dX8_both_19 rfl ?_
        refine z_getf dX8_both_20 f_X8_57 (by first | decide | assumption | omega) rfl (by rfl) ?_
        refine z_iconst (v := 1) dX8_both_23 (by decide) ?_
        refine z_iadd dX8_both_24 ?_
        refine z_putfi dX8_both_25 f_X8_57 fp_X8_5 (by first | decide | assumption | omega) rfl (by exact Nat.le_of_ble_eq_true rfl) rfl ?_
        refine z_aload_n (i := 0) dX8_both_28 rfl rfl ?_
        refine z_Vb (As := []) dX8_both_29 (by rfl) v_X8_compared l_X8_79 (by first | decide | assumption | omega) rfl rfl rfl (by omega) (by decide) (Nat.le_of_ble_eq_true rfl) ?_
        refine H f (by omega) _ o _ (adv q1) _ (by show 8 * (60 - (q1.1 + 1)) + _ ≤ _; omega) (by show q1.1 + 1 ≤ len; omega) ho (by show q1.2.1 ≤ q1.1 + 1; omega) (by omega) (zps_self hza) (by rw [zup_s, pk_un (by decide)]; exact h61) (zpe_tr he1 hza) (fun c2 hz2 h62 => ?_)
        refine z_if_ne 37 dX8_both_32 (by decide) (fun h_32 => ?_) (fun h_32 => ?_)
        · have hA : (prF (lkF tp len) u f 2 o (adv q1)).1 = true := Classical.byContradiction (fun q => h_32 (bite.mpr q))
          rw [if_pos hA, if_neg (show ¬ (1 : Nat) = 2 by decide)] at hQ1
          refine z_aload_n (i := 0) dX8_both_37 rfl rfl ?_
          refine z_iconst (v := 3) dX8_both_38 (by decide) ?_
          refine z_bipush (v := 38) dX8_both_39 (by decide) ?_
          refine z_Vv (As := [_, _]) dX8_both_41 (by rfl) v_X8_step1 l_X8_75 (by first | decide | assumption | omega) rfl rfl rfl (by omega) (by decide) (Nat.le_of_ble_eq_true rfl) ?_
          refine s_X8_step1 (k := (prF (lkF tp len) u f 2 o (adv q1)).2.2.1) hz2.2.1 (by omega) ?_
          refine z_goto 9 dX8_both_44 (by decide) ?_
          exact ih (stp 3 38 (prF (lkF tp len) u f 2 o (adv q1)).2) _ (by omega) (by show 8 * (60 - (prF (lkF tp len) u f 2 o (adv q1)).2.1) + 1 ≤ f; omega) hg.1 (by show (prF (lkF tp len) u f 2 o (adv q1)).2.2.1 + 1 ≤ (prF (lkF tp len) u f 2 o (adv q1)).2.1; omega) (zps_tr hz1 (zps_tr hza (zps_tr hz2 (zps_stp (zps_self hz2))))) (by rw [zup_s, pk_un (by decide)]; exact h62 hA) (by rw [hb] at hQ1; exact hQ1)
        · refine z_iconst (v := 0) dX8_both_35 (by decide) ?_
          have hA := bite.mp h_32
          rw [if_neg hA] at hQ1
          exact z_ret dX8_both_36 (by have := hQ1 c2 (zps_tr hz1 (zps_tr hza hz2)) (fun q => absurd q hA); rw [if_neg hA] at this; exact this) (by rfl) rfl
  have i0 := pr_ok (tp := tp) (len := len) (u := u) F 2 o q hq (by omega)
  have hg : (prF (lkF tp len) u F 2 o q).2.1 ≤ len ∧ q.1 ≤ (prF (lkF tp len) u F 2 o q).2.1 ∧ (prF (lkF tp len) u F 2 o q).2.2.1 ≤ (prF (lkF tp len) u F 2 o q).2.1 := by
    generalize (prF (lkF tp len) u F 2 o q).2 = A at i0 ⊢
    unfold gO at i0
    omega
  refine z_aload_n (i := 0) dX8_both_0 rfl rfl ?_
  refine z_Vb (As := []) dX8_both_1 (by rfl) v_X8_compared l_X8_79 (by first | decide | assumption | omega) rfl rfl rfl (by omega) (by decide) (Nat.le_of_ble_eq_true rfl) ?_
  refine H F (Nat.le_refl _) _ o _ q _ (by omega) hq ho hn (by omega) hz h6 he (fun c2 hz2 h62 => ?_)
  refine z_if_ne 9 dX8_both_4 (by decide) (fun h_4 => ?_) (fun h_4 => ?_)
  · have hA : (prF (lkF tp len) u F 2 o q).1 = true := Classical.byContradiction (fun q => h_4 (bite.mpr q))
    rw [if_pos hA] at hQ
    exact loop F (prF (lkF tp len) u F 2 o q).2 c2 (Nat.le_refl _) (by omega) hg.1 hg.2.2 hz2 (h62 hA) hQ
  · refine z_iconst (v := 0) dX8_both_7 (by decide) ?_
    have hA := bite.mp h_4
    rw [if_neg hA] at hQ
    exact z_ret dX8_both_8 (by have := hQ c2 hz2 (fun q => absurd q hA); rw [if_neg hA] at this; exact this) (by rfl) rfl
theorem s_X8_compared {F : Nat} (H : ∀ f, f ≤ F → prC l E ad tp len u f 3 mX8_sum) : prC l E ad tp len u (F + 1) 2 mX8_compared := by
  intro c o d q Qf hm hq ho hn hd hz h6 he hQ
  have hlen := he.2.2.2.1
  rw [pr_rk (by decide)] at hQ
  refine z_enter (own := RX8) [some (.ref (ad 51)), none] (by decide +kernel) rfl rfl rfl (Nat.le_of_ble_eq_true rfl) ?_
  have loop : ∀ (f : Nat) (q1 : pS) (c1 : zS) (x1 : Option Value), f ≤ F → 8 * (60 - q1.1) + 1 ≤ f → q1.1 ≤ len → q1.2.1 ≤ q1.1 → zps c q1 c1 → c1 51 6 = nI o → (∀ c', zps c (prF (lkF tp len) u f (10 + 2) o q1).2 c' → ((prF (lkF tp len) u f (10 + 2) o q1).1 = true → c' 51 6 = nI o) → Qf (if (prF (lkF tp len) u f (10 + 2) o q1).1 = true then 1 else 0) c') → zW l E ad RX8 cX8_compared 2 3 d Qf 9 [some (.ref (ad 51)), x1] [] c1 := by
    intro f
    induction f with
    | zero => intro q1 c1 x1 _ h; omega
    | succ f ih =>
      intro q1 c1 x1 hf hm1 hq1 hn1 hz1 h61 hQ1
      have he1 := zpe_tr he hz1
      rw [pr_lp 2] at hQ1
      have hrk : rkF (lkF tp len q1.1) = 2 ↔ (lkF tp len q1.1 = 60 ∨ lkF tp len q1.1 = 61 ∨ lkF tp len q1.1 = 62) := by unfold rkF; grind
      have hza : zps c1 (adv q1) (zup c1 51 (upd (c1 51) 5 (c1 51 5 + 1))) := zps_adv (zps_self hz1) (by rw [hz1.1, nI_1])
      have cut34 : (lkF tp len q1.1 = 60 ∨ lkF tp len q1.1 = 61 ∨ lkF tp len q1.1 = 62) → zW l E ad RX8 cX8_compared 2 3 d Qf 34 [some (.ref (ad 51)), some (.int (lkF tp len q1.1))] [] c1 := by
        intro hb
        have hp := rk_lt (hrk.mpr hb) (by omega)
        rw [if_pos (hrk.mpr hb)] at hQ1
        have i0 := pr_ok (tp := tp) (len := len) (u := u) f 3 o (adv q1) (by show q1.1 + 1 ≤ len; omega) (by omega)
        have hg : (prF (lkF tp len) u f 3 o (adv q1)).2.1 ≤ len ∧ q1.1 + 1 ≤ (prF (lkF tp len) u f 3 o (adv q1)).2.1 ∧ (prF (lkF tp len) u f 3 o (adv q1)).2.2.1 + 1 ≤ (prF (lkF tp len) u f 3 o (adv q1)).2.1 := by
          have i9 := i0
          generalize (prF (lkF tp len) u f 3 o (adv q1)).2 = A at i9 ⊢
          unfold gO adv at i9
          dsimp only at i9
          omega
        refine z_aload_n (i := 0) dX8_compared_34 rfl rfl ?_
        refine z_dup dX8_compared_35 rfl ?_
        refine z_getf dX8_compared_36 f_X8_57 (by first | decide | assumption | omega) rfl (by rfl) ?_
        refine z_iconst (v := 1) dX8_compared_39 (by decide) ?_
        refine z_iadd dX8_compared_40 ?_
        refine z_putfi dX8_compared_41 f_X8_57 fp_X8_5 (by first | decide | assumption | omega) rfl (by exact Nat.le_of_ble_eq_true rfl) rfl ?_
        refine z_aload_n (i := 0) dX8_compared_44 rfl rfl ?_
        refine z_Vb (As := []) dX8_compared_45 (by rfl) v_X8_sum l_X8_82 (by first | decide | assumption | omega) rfl rfl rfl (by omega) (by decide) (Nat.le_of_ble_eq_true rfl) ?_
        refine H f (by omega) _ o _ (adv q1) _ (by show 8 * (60 - (q1.1 + 1)) + _ ≤ _; omega) (by show q1.1 + 1 ≤ len; omega) ho (by show q1.2.1 ≤ q1.1 + 1; omega) (by omega) (zps_self hza) (by rw [zup_s, pk_un (by decide)]; exact h61) (zpe_tr he1 hza) (fun c2 hz2 h62 => ?_)
        refine z_if_ne 53 dX8_compared_48 (by decide) (fun h_48 => ?_) (fun h_48 => ?_)
        · have hA : (prF (lkF tp len) u f 3 o (adv q1)).1 = true := Classical.byContradiction (fun q => h_48 (bite.mpr q))
          rw [if_pos hA, if_pos rfl] at hQ1
          refine z_aload_n (i := 0) dX8_compared_53 rfl rfl ?_
          refine z_iconst (v := 3) dX8_compared_54 (by decide) ?_
          refine z_iload_n (i := 1) dX8_compared_55 rfl rfl ?_
          refine z_Vv (As := [_, _]) dX8_compared_56 (by rfl) v_X8_step1 l_X8_75 (by first | decide | assumption | omega) rfl rfl rfl (by omega) (by decide) (Nat.le_of_ble_eq_true rfl) ?_
          refine s_X8_step1 (k := (prF (lkF tp len) u f 3 o (adv q1)).2.2.1) hz2.2.1 (by omega) ?_
          refine z_iconst (v := 1) dX8_compared_59 (by decide) ?_
          exact z_ret dX8_compared_60 (by have := hQ1 _ (zps_tr hz1 (zps_tr hza (zps_tr hz2 (zps_stp (zps_self hz2))))) (fun _ => by rw [zup_s, pk_un (by decide)]; exact h62 hA); exact this) (by rfl) rfl
        · refine z_iconst (v := 0) dX8_compared_51 (by decide) ?_
          have hA := bite.mp h_48
          rw [if_neg hA] at hQ1
          exact z_ret dX8_compared_52 (by have := hQ1 c2 (zps_tr hz1 (zps_tr hza hz2)) (fun q => absurd q hA); rw [if_neg hA] at this; exact this) (by rfl) rfl
      refine z_aload_n (i := 0) dX8_compared_9 rfl rfl ?_
      refine z_Vi (As := []) dX8_compared_10 (by rfl) v_X8_look l_X8_71 (by first | decide | assumption | omega) rfl rfl rfl (by omega) (by decide) (Nat.le_of_ble_eq_true rfl) ?_
      refine t_look (zps_self hz1) he1 hq1 ?_
      refine z_istore_n (i := 1) [_, _] dX8_compared_13 rfl (by decide) rfl rfl ?_
      refine z_iload_n (i := 1) dX8_compared_14 rfl rfl ?_
      refine z_bipush (v := 60) dX8_compared_15 (by decide) ?_
      refine z_icmp_eq 34 dX8_compared_17 (by decide) (fun h_17 => ?_) (fun h_17 => ?_)
      · exact cut34 (by grind)
      · refine z_iload_n (i := 1) dX8_compared_20 rfl rfl ?_
        refine z_bipush (v := 61) dX8_compared_21 (by decide) ?_
        refine z_icmp_eq 34 dX8_compared_23 (by decide) (fun h_23 => ?_) (fun h_23 => ?_)
        · exact cut34 (by grind)
        · refine z_iload_n (i := 1) dX8_compared_26 rfl rfl ?_
          refine z_bipush (v := 62) dX8_compared_27 (by decide) ?_
          refine z_icmp_eq 34 dX8_compared_29 (by decide) (fun h_29 => ?_) (fun h_29 => ?_)
          · exact cut34 (by grind)
          · refine z_iconst (v := 1) dX8_compared_32 (by decide) ?_
            rw [if_neg (mt hrk.mp (by grind))] at hQ1
            exact z_ret dX8_compared_33 (by have := hQ1 c1 hz1 (fun _ => h61); exact this) (by rfl) rfl
  have i0 := pr_ok (tp := tp) (len := len) (u := u) F 3 o q hq (by omega)
  have hg : (prF (lkF tp len) u F 3 o q).2.1 ≤ len ∧ q.1 ≤ (prF (lkF tp len) u F 3 o q).2.1 ∧ (prF (lkF tp len) u F 3 o q).2.2.1 ≤ (prF (lkF tp len) u F 3 o q).2.1 := by
    generalize (prF (lkF tp len) u F 3 o q).2 = A at i0 ⊢
    unfold gO at i0
    omega
  refine z_aload_n (i := 0) dX8_compared_0 rfl rfl ?_
  refine z_Vb (As := []) dX8_compared_1 (by rfl) v_X8_sum l_X8_82 (by first | decide | assumption | omega) rfl rfl rfl (by omega) (by decide) (Nat.le_of_ble_eq_true rfl) ?_
  refine H F (Nat.le_refl _) _ o _ q _ (by omega) hq ho hn (by omega) hz h6 he (fun c2 hz2 h62 => ?_)
  refine z_if_ne 9 dX8_compared_4 (by decide) (fun h_4 => ?_) (fun h_4 => ?_)
  · have hA : (prF (lkF tp len) u F 3 o q).1 = true := Classical.byContradiction (fun q => h_4 (bite.mpr q))
    rw [if_pos hA] at hQ
    exact loop F (prF (lkF tp len) u F 3 o q).2 c2 _ (Nat.le_refl _) (by omega) hg.1 hg.2.2 hz2 (h62 hA) hQ
  · refine z_iconst (v := 0) dX8_compared_7 (by decide) ?_
    have hA := bite.mp h_4
    rw [if_neg hA] at hQ
    exact z_ret dX8_compared_8 (by have := hQ c2 hz2 (fun q => absurd q hA); rw [if_neg hA] at this; exact this) (by rfl) rfl
theorem s_X8_sum {F : Nat} (H : ∀ f, f ≤ F → prC l E ad tp len u f 4 mX8_product) : prC l E ad tp len u (F + 1) 3 mX8_sum := by
  intro c o d q Qf hm hq ho hn hd hz h6 he hQ
  have hlen := he.2.2.2.1
  rw [pr_rk (by decide)] at hQ
  refine z_enter (own := RX8) [some (.ref (ad 51)), none] (by decide +kernel) rfl rfl rfl (Nat.le_of_ble_eq_true rfl) ?_
  have loop : ∀ (f : Nat) (q1 : pS) (c1 : zS) (x1 : Option Value), f ≤ F → 8 * (60 - q1.1) + 1 ≤ f → q1.1 ≤ len → q1.2.1 ≤ q1.1 → zps c q1 c1 → c1 51 6 = nI o → (∀ c', zps c (prF (lkF tp len) u f (10 + 3) o q1).2 c' → ((prF (lkF tp len) u f (10 + 3) o q1).1 = true → c' 51 6 = nI o) → Qf (if (prF (lkF tp len) u f (10 + 3) o q1).1 = true then 1 else 0) c') → zW l E ad RX8 cX8_sum 2 3 d Qf 9 [some (.ref (ad 51)), x1] [] c1 := by
    intro f
    induction f with
    | zero => intro q1 c1 x1 _ h; omega
    | succ f ih =>
      intro q1 c1 x1 hf hm1 hq1 hn1 hz1 h61 hQ1
      have he1 := zpe_tr he hz1
      rw [pr_lp 3] at hQ1
      have hrk : rkF (lkF tp len q1.1) = 3 ↔ (lkF tp len q1.1 = 43 ∨ lkF tp len q1.1 = 45) := by unfold rkF; grind
      have hza : zps c1 (adv q1) (zup c1 51 (upd (c1 51) 5 (c1 51 5 + 1))) := zps_adv (zps_self hz1) (by rw [hz1.1, nI_1])
      have cut27 : (lkF tp len q1.1 = 43 ∨ lkF tp len q1.1 = 45) → zW l E ad RX8 cX8_sum 2 3 d Qf 27 [some (.ref (ad 51)), x1] [] c1 := by
        intro hb
        refine z_aload_n (i := 0) dX8_sum_27 rfl rfl ?_
        refine z_Vi (As := []) dX8_sum_28 (by rfl) v_X8_look l_X8_71 (by first | decide | assumption | omega) rfl rfl rfl (by omega) (by decide) (Nat.le_of_ble_eq_true rfl) ?_
        refine t_look (zps_self hz1) he1 hq1 ?_
        refine z_istore_n (i := 1) [_, _] dX8_sum_31 rfl (by decide) rfl rfl ?_
        have hp := rk_lt (hrk.mpr hb) (by omega)
        rw [if_pos (hrk.mpr hb)] at hQ1
        have i0 := pr_ok (tp := tp) (len := len) (u := u) f 4 o (adv q1) (by show q1.1 + 1 ≤ len; omega) (by omega)
        have hg : (prF (lkF tp len) u f 4 o (adv q1)).2.1 ≤ len ∧ q1.1 + 1 ≤ (prF (lkF tp len) u f 4 o (adv q1)).2.1 ∧ (prF (lkF tp len) u f 4 o (adv q1)).2.2.1 + 1 ≤ (prF (lkF tp len) u f 4 o (adv q1)).2.1 := by
          have i9 := i0
          generalize (prF (lkF tp len) u f 4 o (adv q1)).2 = A at i9 ⊢
          unfold gO adv at i9
          dsimp only at i9
          omega
        refine z_aload_n (i := 0) dX8_sum_32 rfl rfl ?_
        refine z_dup dX8_sum_33 rfl ?_
        refine z_getf dX8_sum_34 f_X8_57 (by first | decide | assumption | omega) rfl (by rfl) ?_
        refine z_iconst (v := 1) dX8_sum_37 (by decide) ?_
        refine z_iadd dX8_sum_38 ?_
        refine z_putfi dX8_sum_39 f_X8_57 fp_X8_5 (by first | decide | assumption | omega) rfl (by exact Nat.le_of_ble_eq_true rfl) rfl ?_
        refine z_aload_n (i := 0) dX8_sum_42 rfl rfl ?_
        refine z_Vb (As := []) dX8_sum_43 (by rfl) v_X8_product l_X8_85 (by first | decide | assumption | omega) rfl rfl rfl (by omega) (by decide) (Nat.le_of_ble_eq_true rfl) ?_
        refine H f (by omega) _ o _ (adv q1) _ (by show 8 * (60 - (q1.1 + 1)) + _ ≤ _; omega) (by show q1.1 + 1 ≤ len; omega) ho (by show q1.2.1 ≤ q1.1 + 1; omega) (by omega) (zps_self hza) (by rw [zup_s, pk_un (by decide)]; exact h61) (zpe_tr he1 hza) (fun c2 hz2 h62 => ?_)
        refine z_if_ne 51 dX8_sum_46 (by decide) (fun h_46 => ?_) (fun h_46 => ?_)
        · have hA : (prF (lkF tp len) u f 4 o (adv q1)).1 = true := Classical.byContradiction (fun q => h_46 (bite.mpr q))
          rw [if_pos hA, if_neg (show ¬ (3 : Nat) = 2 by decide)] at hQ1
          refine z_aload_n (i := 0) dX8_sum_51 rfl rfl ?_
          refine z_iconst (v := 3) dX8_sum_52 (by decide) ?_
          refine z_iload_n (i := 1) dX8_sum_53 rfl rfl ?_
          refine z_Vv (As := [_, _]) dX8_sum_54 (by rfl) v_X8_step1 l_X8_75 (by first | decide | assumption | omega) rfl rfl rfl (by omega) (by decide) (Nat.le_of_ble_eq_true rfl) ?_
          refine s_X8_step1 (k := (prF (lkF tp len) u f 4 o (adv q1)).2.2.1) hz2.2.1 (by omega) ?_
          refine z_goto 9 dX8_sum_57 (by decide) ?_
          exact ih (stp 3 (lkF tp len q1.1) (prF (lkF tp len) u f 4 o (adv q1)).2) _ _ (by omega) (by show 8 * (60 - (prF (lkF tp len) u f 4 o (adv q1)).2.1) + 1 ≤ f; omega) hg.1 (by show (prF (lkF tp len) u f 4 o (adv q1)).2.2.1 + 1 ≤ (prF (lkF tp len) u f 4 o (adv q1)).2.1; omega) (zps_tr hz1 (zps_tr hza (zps_tr hz2 (zps_stp (zps_self hz2))))) (by rw [zup_s, pk_un (by decide)]; exact h62 hA) hQ1
        · refine z_iconst (v := 0) dX8_sum_49 (by decide) ?_
          have hA := bite.mp h_46
          rw [if_neg hA] at hQ1
          exact z_ret dX8_sum_50 (by have := hQ1 c2 (zps_tr hz1 (zps_tr hza hz2)) (fun q => absurd q hA); rw [if_neg hA] at this; exact this) (by rfl) rfl
      refine z_aload_n (i := 0) dX8_sum_9 rfl rfl ?_
      refine z_Vi (As := []) dX8_sum_10 (by rfl) v_X8_look l_X8_71 (by first | decide | assumption | omega) rfl rfl rfl (by omega) (by decide) (Nat.le_of_ble_eq_true rfl) ?_
      refine t_look (zps_self hz1) he1 hq1 ?_
      refine z_bipush (v := 43) dX8_sum_13 (by decide) ?_
      refine z_icmp_eq 27 dX8_sum_15 (by decide) (fun h_15 => ?_) (fun h_15 => ?_)
      · exact cut27 (by grind)
      · refine z_aload_n (i := 0) dX8_sum_18 rfl rfl ?_
        refine z_Vi (As := []) dX8_sum_19 (by rfl) v_X8_look l_X8_71 (by first | decide | assumption | omega) rfl rfl rfl (by omega) (by decide) (Nat.le_of_ble_eq_true rfl) ?_
        refine t_look (zps_self hz1) he1 hq1 ?_
        refine z_bipush (v := 45) dX8_sum_22 (by decide) ?_
        refine z_icmp_ne 60 dX8_sum_24 (by decide) (fun h_24 => ?_) (fun h_24 => ?_)
        · refine z_iconst (v := 1) dX8_sum_60 (by decide) ?_
          rw [if_neg (mt hrk.mp (by grind))] at hQ1
          exact z_ret dX8_sum_61 (by have := hQ1 c1 hz1 (fun _ => h61); exact this) (by rfl) rfl
        · exact cut27 (by grind)
  have i0 := pr_ok (tp := tp) (len := len) (u := u) F 4 o q hq (by omega)
  have hg : (prF (lkF tp len) u F 4 o q).2.1 ≤ len ∧ q.1 ≤ (prF (lkF tp len) u F 4 o q).2.1 ∧ (prF (lkF tp len) u F 4 o q).2.2.1 ≤ (prF (lkF tp len) u F 4 o q).2.1 := by
    generalize (prF (lkF tp len) u F 4 o q).2 = A at i0 ⊢
    unfold gO at i0
    omega
  refine z_aload_n (i := 0) dX8_sum_0 rfl rfl ?_
  refine z_Vb (As := []) dX8_sum_1 (by rfl) v_X8_product l_X8_85 (by first | decide | assumption | omega) rfl rfl rfl (by omega) (by decide) (Nat.le_of_ble_eq_true rfl) ?_
  refine H F (Nat.le_refl _) _ o _ q _ (by omega) hq ho hn (by omega) hz h6 he (fun c2 hz2 h62 => ?_)
  refine z_if_ne 9 dX8_sum_4 (by decide) (fun h_4 => ?_) (fun h_4 => ?_)
  · have hA : (prF (lkF tp len) u F 4 o q).1 = true := Classical.byContradiction (fun q => h_4 (bite.mpr q))
    rw [if_pos hA] at hQ
    exact loop F (prF (lkF tp len) u F 4 o q).2 c2 _ (Nat.le_refl _) (by omega) hg.1 hg.2.2 hz2 (h62 hA) hQ
  · refine z_iconst (v := 0) dX8_sum_7 (by decide) ?_
    have hA := bite.mp h_4
    rw [if_neg hA] at hQ
    exact z_ret dX8_sum_8 (by have := hQ c2 hz2 (fun q => absurd q hA); rw [if_neg hA] at this; exact this) (by rfl) rfl
theorem s_X8_product {F : Nat} (H : ∀ f, f ≤ F → prC l E ad tp len u f 5 mX8_one) : prC l E ad tp len u (F + 1) 4 mX8_product := by
  intro c o d q Qf hm hq ho hn hd hz h6 he hQ
  have hlen := he.2.2.2.1
  rw [pr_rk (by decide)] at hQ
  refine z_enter (own := RX8) [some (.ref (ad 51)), none] (by decide +kernel) rfl rfl rfl (Nat.le_of_ble_eq_true rfl) ?_
  have loop : ∀ (f : Nat) (q1 : pS) (c1 : zS) (x1 : Option Value), f ≤ F → 8 * (60 - q1.1) + 1 ≤ f → q1.1 ≤ len → q1.2.1 ≤ q1.1 → zps c q1 c1 → c1 51 6 = nI o → (∀ c', zps c (prF (lkF tp len) u f (10 + 4) o q1).2 c' → ((prF (lkF tp len) u f (10 + 4) o q1).1 = true → c' 51 6 = nI o) → Qf (if (prF (lkF tp len) u f (10 + 4) o q1).1 = true then 1 else 0) c') → zW l E ad RX8 cX8_product 2 3 d Qf 9 [some (.ref (ad 51)), x1] [] c1 := by
    intro f
    induction f with
    | zero => intro q1 c1 x1 _ h; omega
    | succ f ih =>
      intro q1 c1 x1 hf hm1 hq1 hn1 hz1 h61 hQ1
      have he1 := zpe_tr he hz1
      rw [pr_lp 4] at hQ1
      have hrk : rkF (lkF tp len q1.1) = 4 ↔ (lkF tp len q1.1 = 42 ∨ lkF tp len q1.1 = 47 ∨ lkF tp len q1.1 = 37) := by unfold rkF; grind
      have hza : zps c1 (adv q1) (zup c1 51 (upd (c1 51) 5 (c1 51 5 + 1))) := zps_adv (zps_self hz1) (by rw [hz1.1, nI_1])
      have cut36 : (lkF tp len q1.1 = 42 ∨ lkF tp len q1.1 = 47 ∨ lkF tp len q1.1 = 37) → zW l E ad RX8 cX8_product 2 3 d Qf 36 [some (.ref (ad 51)), x1] [] c1 := by
        intro hb
        refine z_aload_n (i := 0) dX8_product_36 rfl rfl ?_
        refine z_Vi (As := []) dX8_product_37 (by rfl) v_X8_look l_X8_71 (by first | decide | assumption | omega) rfl rfl rfl (by omega) (by decide) (Nat.le_of_ble_eq_true rfl) ?_
        refine t_look (zps_self hz1) he1 hq1 ?_
        refine z_istore_n (i := 1) [_, _] dX8_product_40 rfl (by decide) rfl rfl ?_
        have hp := rk_lt (hrk.mpr hb) (by omega)
        rw [if_pos (hrk.mpr hb)] at hQ1
        have i0 := pr_ok (tp := tp) (len := len) (u := u) f 5 o (adv q1) (by show q1.1 + 1 ≤ len; omega) (by omega)
        have hg : (prF (lkF tp len) u f 5 o (adv q1)).2.1 ≤ len ∧ q1.1 + 1 ≤ (prF (lkF tp len) u f 5 o (adv q1)).2.1 ∧ (prF (lkF tp len) u f 5 o (adv q1)).2.2.1 + 1 ≤ (prF (lkF tp len) u f 5 o (adv q1)).2.1 := by
          have i9 := i0
          generalize (prF (lkF tp len) u f 5 o (adv q1)).2 = A at i9 ⊢
          unfold gO adv at i9
          dsimp only at i9
          omega
        refine z_aload_n (i := 0) dX8_product_41 rfl rfl ?_
        refine z_dup dX8_product_42 rfl ?_
        refine z_getf dX8_product_43 f_X8_57 (by first | decide | assumption | omega) rfl (by rfl) ?_
        refine z_iconst (v := 1) dX8_product_46 (by decide) ?_
        refine z_iadd dX8_product_47 ?_
        refine z_putfi dX8_product_48 f_X8_57 fp_X8_5 (by first | decide | assumption | omega) rfl (by exact Nat.le_of_ble_eq_true rfl) rfl ?_
        refine z_aload_n (i := 0) dX8_product_51 rfl rfl ?_
        refine z_Vb (As := []) dX8_product_52 (by rfl) v_X8_one l_X8_88 (by first | decide | assumption | omega) rfl rfl rfl (by omega) (by decide) (Nat.le_of_ble_eq_true rfl) ?_
        refine H f (by omega) _ o _ (adv q1) _ (by show 8 * (60 - (q1.1 + 1)) + _ ≤ _; omega) (by show q1.1 + 1 ≤ len; omega) ho (by show q1.2.1 ≤ q1.1 + 1; omega) (by omega) (zps_self hza) (by rw [zup_s, pk_un (by decide)]; exact h61) (zpe_tr he1 hza) (fun c2 hz2 h62 => ?_)
        refine z_if_ne 60 dX8_product_55 (by decide) (fun h_55 => ?_) (fun h_55 => ?_)
        · have hA : (prF (lkF tp len) u f 5 o (adv q1)).1 = true := Classical.byContradiction (fun q => h_55 (bite.mpr q))
          rw [if_pos hA, if_neg (show ¬ (4 : Nat) = 2 by decide)] at hQ1
          refine z_aload_n (i := 0) dX8_product_60 rfl rfl ?_
          refine z_iconst (v := 3) dX8_product_61 (by decide) ?_
          refine z_iload_n (i := 1) dX8_product_62 rfl rfl ?_
          refine z_Vv (As := [_, _]) dX8_product_63 (by rfl) v_X8_step1 l_X8_75 (by first | decide | assumption | omega) rfl rfl rfl (by omega) (by decide) (Nat.le_of_ble_eq_true rfl) ?_
          refine s_X8_step1 (k := (prF (lkF tp len) u f 5 o (adv q1)).2.2.1) hz2.2.1 (by omega) ?_
          refine z_goto 9 dX8_product_66 (by decide) ?_
          exact ih (stp 3 (lkF tp len q1.1) (prF (lkF tp len) u f 5 o (adv q1)).2) _ _ (by omega) (by show 8 * (60 - (prF (lkF tp len) u f 5 o (adv q1)).2.1) + 1 ≤ f; omega) hg.1 (by show (prF (lkF tp len) u f 5 o (adv q1)).2.2.1 + 1 ≤ (prF (lkF tp len) u f 5 o (adv q1)).2.1; omega) (zps_tr hz1 (zps_tr hza (zps_tr hz2 (zps_stp (zps_self hz2))))) (by rw [zup_s, pk_un (by decide)]; exact h62 hA) hQ1
        · refine z_iconst (v := 0) dX8_product_58 (by decide) ?_
          have hA := bite.mp h_55
          rw [if_neg hA] at hQ1
          exact z_ret dX8_product_59 (by have := hQ1 c2 (zps_tr hz1 (zps_tr hza hz2)) (fun q => absurd q hA); rw [if_neg hA] at this; exact this) (by rfl) rfl
      refine z_aload_n (i := 0) dX8_product_9 rfl rfl ?_
      refine z_Vi (As := []) dX8_product_10 (by rfl) v_X8_look l_X8_71 (by first | decide | assumption | omega) rfl rfl rfl (by omega) (by decide) (Nat.le_of_ble_eq_true rfl) ?_
      refine t_look (zps_self hz1) he1 hq1 ?_
      refine z_bipush (v := 42) dX8_product_13 (by decide) ?_
      refine z_icmp_eq 36 dX8_product_15 (by decide) (fun h_15 => ?_) (fun h_15 => ?_)
      · exact cut36 (by grind)
      · refine z_aload_n (i := 0) dX8_product_18 rfl rfl ?_
        refine z_Vi (As := []) dX8_product_19 (by rfl) v_X8_look l_X8_71 (by first | decide | assumption | omega) rfl rfl rfl (by omega) (by decide) (Nat.le_of_ble_eq_true rfl) ?_
        refine t_look (zps_self hz1) he1 hq1 ?_
        refine z_bipush (v := 47) dX8_product_22 (by decide) ?_
        refine z_icmp_eq 36 dX8_product_24 (by decide) (fun h_24 => ?_) (fun h_24 => ?_)
        · exact cut36 (by grind)
        · refine z_aload_n (i := 0) dX8_product_27 rfl rfl ?_
          refine z_Vi (As := []) dX8_product_28 (by rfl) v_X8_look l_X8_71 (by first | decide | assumption | omega) rfl rfl rfl (by omega) (by decide) (Nat.le_of_ble_eq_true rfl) ?_
          refine t_look (zps_self hz1) he1 hq1 ?_
          refine z_bipush (v := 37) dX8_product_31 (by decide) ?_
          refine z_icmp_ne 69 dX8_product_33 (by decide) (fun h_33 => ?_) (fun h_33 => ?_)
          · refine z_iconst (v := 1) dX8_product_69 (by decide) ?_
            rw [if_neg (mt hrk.mp (by grind))] at hQ1
            exact z_ret dX8_product_70 (by have := hQ1 c1 hz1 (fun _ => h61); exact this) (by rfl) rfl
          · exact cut36 (by grind)
  have i0 := pr_ok (tp := tp) (len := len) (u := u) F 5 o q hq (by omega)
  have hg : (prF (lkF tp len) u F 5 o q).2.1 ≤ len ∧ q.1 ≤ (prF (lkF tp len) u F 5 o q).2.1 ∧ (prF (lkF tp len) u F 5 o q).2.2.1 ≤ (prF (lkF tp len) u F 5 o q).2.1 := by
    generalize (prF (lkF tp len) u F 5 o q).2 = A at i0 ⊢
    unfold gO at i0
    omega
  refine z_aload_n (i := 0) dX8_product_0 rfl rfl ?_
  refine z_Vb (As := []) dX8_product_1 (by rfl) v_X8_one l_X8_88 (by first | decide | assumption | omega) rfl rfl rfl (by omega) (by decide) (Nat.le_of_ble_eq_true rfl) ?_
  refine H F (Nat.le_refl _) _ o _ q _ (by omega) hq ho hn (by omega) hz h6 he (fun c2 hz2 h62 => ?_)
  refine z_if_ne 9 dX8_product_4 (by decide) (fun h_4 => ?_) (fun h_4 => ?_)
  · have hA : (prF (lkF tp len) u F 5 o q).1 = true := Classical.byContradiction (fun q => h_4 (bite.mpr q))
    rw [if_pos hA] at hQ
    exact loop F (prF (lkF tp len) u F 5 o q).2 c2 _ (Nat.le_refl _) (by omega) hg.1 hg.2.2 hz2 (h62 hA) hQ
  · refine z_iconst (v := 0) dX8_product_7 (by decide) ?_
    have hA := bite.mp h_4
    rw [if_neg hA] at hQ
    exact z_ret dX8_product_8 (by have := hQ c2 hz2 (fun q => absurd q hA); rw [if_neg hA] at this; exact this) (by rfl) rfl
end P3
