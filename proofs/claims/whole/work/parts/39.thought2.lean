/-! the class: what its thoughts answer -/
theorem co_ge {p : Nat} {cell : Int32} : ∀ {m i : Nat} {f : zN}, i + m ≤ 1000 → coF p cell m i f = -1 ∨ 0 ≤ coF p cell m i f ∧ ¬ coF p cell m i f = -1
  | 0, i, f, _ => Or.inl rfl
  | m + 1, i, f, h => by
    rw [show coF p cell (m + 1) i f = if f (8 + 5 * p + 4) = 0 ∧ cell ≤ f (8 + 5 * p + 3) then nI i else coF p cell m (i + 1) (hrF f) from rfl]
    split
    · have h0 := nI_pos' (n := i) (by omega)
      exact Or.inr ⟨h0, fun q => by rw [q] at h0; exact absurd h0 (by decide)⟩
    · exact co_ge (by omega)
theorem TW_of {c : zS} {p n : Nat} {f : zN} (hR : PR c 34 n f) (hv : vaF f n) (hL : LW c f) (hp : p < n) : TW c p n f := by
  refine ⟨hv, hp, f, hR, hv, hL, ?_⟩
  by_cases h : f (8 + 5 * p) = 4
  · exact Or.inl ⟨h, rfl⟩
  · exact Or.inr ⟨h, AgS_rf⟩
theorem TW_cg {c c' : zS} {p n : Nat} {f : zN} (h : TW c p n f) (e : ∀ k, k ≠ 4 → c' k = c k) : TW c' p n f := by
  obtain ⟨hv, hp, g, hR, hg, hL, ha⟩ := h
  exact ⟨hv, hp, g, PR_cg hR (fun k a b => e k (by omega)), hg, LW_cg hL (fun _ _ => rfl) (e 2 (by decide)) (e 3 (by decide)) (e 5 (by decide)) (e 6 (by decide)), ha⟩
theorem cl_ag {p : Nat} {f g : zN} (h : AgP p f g) : cleF g p = cleF f p := by
  rcases h with ⟨_, rfl⟩ | ⟨h4, h⟩
  · rfl
  · exact cl_cg h h4
theorem zth_LW {c c' : zS} {f : zN} (h : LW c f) (e : zth c c') : LW c' f := LW_cg h (fun _ _ => rfl) (e 2 (by omega) (by decide) (by decide)) (e 3 (by omega) (by decide) (by decide)) (e 5 (by omega) (by decide) (by decide)) (e 6 (by omega) (by decide) (by decide))
section TG
variable {l : Launch} {E : zE} {ad : Nat → Nat} {c : zS} {Qf : Int32 → zS → Prop} {d n : Nat}
theorem c_comesWith {p k : Nat} {cell sure : Int32} {f : zN} (hR : PR c 8 n f) (hL : LW c f) (hv : vaF f n) (hb : ∀ i, i < n → f (8 + 5 * i + 4) = 0 ∨ f (8 + 5 * i + 4) = 1) (hp : p < n) (hk : k ≤ 60) (hd : 8 ≤ d) (hQ : ∀ c', zth c c' → Qf (if cwF f p cell k sure = true then 1 else 0) c') : zCl l E ad mX5_comesWith d [.ref (ad 33), .int (nI p), .int sure, .int cell, .int (nI k)] c Qf := by
  have hn6 := hv.2.1
  have hv2 : vaF (upd f (8 + 5 * p + 2) sure) n := vaF_up (by omega) (by omega) hv
  have hcw : cwF f p cell k sure = decide (coF p cell (k + 1) 0 (upd f (8 + 5 * p + 2) sure) ≠ -1) := rfl
  have hco := co_ge (p := p) (cell := cell) (m := k + 1) (i := 0) (f := upd f (8 + 5 * p + 2) sure) (by omega)
  refine z_enter (own := RX5) [some (.ref (ad 33)), some (.int (nI p)), some (.int sure), some (.int cell), some (.int (nI k))] (by decide +kernel) rfl rfl rfl (Nat.le_of_ble_eq_true rfl) ?_
  refine z_aload_n (i := 0) dX5_comesWith_0 rfl rfl ?_
  refine z_Vv (As := []) dX5_comesWith_1 (by rfl) v_X5_starts l_X5_46 (by first | decide | assumption | omega) rfl rfl rfl (by omega) (by decide) (Nat.le_of_ble_eq_true rfl) ?_
  refine s_starts hR hn6 hb (by omega) (fun c1 h1 z1 => ?_)
  refine z_aload_n (i := 0) dX5_comesWith_4 rfl rfl ?_
  refine z_getf dX5_comesWith_5 f_X5_27 (by first | decide | assumption | omega) rfl (by rfl) ?_
  refine z_getf dX5_comesWith_8 f_X5_49 (by first | decide | assumption | omega) rfl (by rfl) ?_
  refine z_iload_n (i := 1) dX5_comesWith_11 rfl rfl ?_
  refine z_iload_n (i := 2) dX5_comesWith_12 rfl rfl ?_
  refine z_iast (j := p) dX5_comesWith_13 (by first | decide | assumption | omega) (fun _ => rfl) (by rfl) (by first | decide | omega) (by first | decide | omega) ?_
  have hT : TW (zup c1 37 (upd (c1 37) p sure)) p n (upd f (8 + 5 * p + 2) sure) := TW_of (PR_up 2 h1 (by omega)) hv2 (LW_cg (zth_LW hL z1) (fun k hk => pk_un (by omega)) rfl rfl rfl rfl) hp
  refine z_aload_n (i := 0) dX5_comesWith_14 rfl rfl ?_
  refine z_iload_n (i := 1) dX5_comesWith_15 rfl rfl ?_
  refine z_iload_n (i := 3) dX5_comesWith_16 rfl rfl ?_
  refine z_iload (i := 4) dX5_comesWith_17 rfl ?_
  refine z_Vi (As := [_, _, _]) dX5_comesWith_19 (by rfl) v_X5_hoursTo l_X5_52 (by first | decide | assumption | omega) rfl rfl rfl (by omega) (by decide) (Nat.le_of_ble_eq_true rfl) ?_
  refine s_hoursTo hT hk (by omega) (fun c2 z2 => ?_)
  have z3 : zth c c2 := zth_tr (zth_tr z1 (fun k a _ _ => zup_n (by omega))) z2
  refine z_if_lt 29 dX5_comesWith_22 (by decide) (fun h_22 => ?_) (fun h_22 => ?_)
  · refine z_iconst (v := 0) dX5_comesWith_29 (by decide) ?_
    first
    | (refine z_ret (r := 0) dX5_comesWith_30 ?_ (by rfl) rfl
       have := hQ c2 z3
       rw [hcw, if_neg (fun q => by rcases hco with w | w; exact absurd w (of_decide_eq_true q); have := w.1; grind)] at this
       exact this)
    | (refine z_ret (r := 1) dX5_comesWith_30 ?_ (by rfl) rfl
       have := hQ c2 z3
       have hne : ¬ (coF _ _ _ _ _) = -1 := fun w => by rw [w] at h_22; revert h_22; decide
       rw [hcw, if_pos (by rw [decide_eq_true_eq]; exact hne)] at this
       exact this)
  · refine z_iconst (v := 1) dX5_comesWith_25 (by decide) ?_
    refine z_goto 30 dX5_comesWith_26 (by decide) ?_
    first
    | (refine z_ret (r := 0) dX5_comesWith_30 ?_ (by rfl) rfl
       have := hQ c2 z3
       rw [hcw, if_neg (fun q => by rcases hco with w | w; exact absurd w (of_decide_eq_true q); have := w.1; grind)] at this
       exact this)
    | (refine z_ret (r := 1) dX5_comesWith_30 ?_ (by rfl) rfl
       have := hQ c2 z3
       have hne : ¬ (coF _ _ _ _ _) = -1 := fun w => by rw [w] at h_22; revert h_22; decide
       rw [hcw, if_pos (by rw [decide_eq_true_eq]; exact hne)] at this
       exact this)
theorem c_comesWithout {p k : Nat} {cell set : Int32} {f : zN} (hR : PR c 8 n f) (hL : LW c f) (hv : vaF f n) (hb : ∀ i, i < n → f (8 + 5 * i + 4) = 0 ∨ f (8 + 5 * i + 4) = 1) (hp : p < n) (hk : k ≤ 60) (hd : 8 ≤ d) (hQ : ∀ c', zth c c' → Qf (if coutF f p cell k set = true then 1 else 0) c') : zCl l E ad mX5_comesWithout d [.ref (ad 33), .int set, .int (nI p), .int cell, .int (nI k)] c Qf := by
  have hn6 := hv.2.1
  have hv2 : vaF (upd f 1 (f 1 &&& (set ^^^ (-1)))) n := vaF_up (by omega) (by omega) hv
  have hcw : coutF f p cell k set = decide (coF p cell (k + 1) 0 (upd f 1 (f 1 &&& (set ^^^ (-1)))) ≠ -1) := rfl
  have hco := co_ge (p := p) (cell := cell) (m := k + 1) (i := 0) (f := upd f 1 (f 1 &&& (set ^^^ (-1)))) (by omega)
  refine z_enter (own := RX5) [some (.ref (ad 33)), some (.int set), some (.int (nI p)), some (.int cell), some (.int (nI k))] (by decide +kernel) rfl rfl rfl (Nat.le_of_ble_eq_true rfl) ?_
  refine z_aload_n (i := 0) dX5_comesWithout_0 rfl rfl ?_
  refine z_Vv (As := []) dX5_comesWithout_1 (by rfl) v_X5_starts l_X5_46 (by first | decide | assumption | omega) rfl rfl rfl (by omega) (by decide) (Nat.le_of_ble_eq_true rfl) ?_
  refine s_starts hR hn6 hb (by omega) (fun c1 h1 z1 => ?_)
  refine z_aload_n (i := 0) dX5_comesWithout_4 rfl rfl ?_
  refine z_getf dX5_comesWithout_5 f_X5_27 (by first | decide | assumption | omega) rfl (by rfl) ?_
  refine z_dup dX5_comesWithout_8 rfl ?_
  refine z_getf dX5_comesWithout_9 f_X5_56 (by first | decide | assumption | omega) rfl (by rfl) ?_
  rw [h1.2.1]
  refine z_iload_n (i := 1) dX5_comesWithout_12 rfl rfl ?_
  refine z_iconst (v := (-1)) dX5_comesWithout_13 (by decide) ?_
  refine z_ixor dX5_comesWithout_14 ?_
  refine z_iand dX5_comesWithout_15 ?_
  refine z_putfi dX5_comesWithout_16 f_X5_56 fp_X1_8 (by first | decide | assumption | omega) rfl (by exact Nat.le_of_ble_eq_true rfl) rfl ?_
  have hT : TW (zup c1 34 (upd (c1 34) 8 (f 1 &&& (set ^^^ (-1))))) p n (upd f 1 (f 1 &&& (set ^^^ (-1)))) := TW_of (PR_dr h1) hv2 (LW_cg (zth_LW hL z1) (fun k hk => pk_un (by omega)) rfl rfl rfl rfl) hp
  refine z_aload_n (i := 0) dX5_comesWithout_19 rfl rfl ?_
  refine z_iload_n (i := 2) dX5_comesWithout_20 rfl rfl ?_
  refine z_iload_n (i := 3) dX5_comesWithout_21 rfl rfl ?_
  refine z_iload (i := 4) dX5_comesWithout_22 rfl ?_
  refine z_Vi (As := [_, _, _]) dX5_comesWithout_24 (by rfl) v_X5_hoursTo l_X5_52 (by first | decide | assumption | omega) rfl rfl rfl (by omega) (by decide) (Nat.le_of_ble_eq_true rfl) ?_
  refine s_hoursTo hT hk (by omega) (fun c2 z2 => ?_)
  have z3 : zth c c2 := zth_tr (zth_tr z1 (fun k a _ _ => zup_n (by omega))) z2
  refine z_if_lt 34 dX5_comesWithout_27 (by decide) (fun h_27 => ?_) (fun h_27 => ?_)
  · refine z_iconst (v := 0) dX5_comesWithout_34 (by decide) ?_
    first
    | (refine z_ret (r := 0) dX5_comesWithout_35 ?_ (by rfl) rfl
       have := hQ c2 z3
       rw [hcw, if_neg (fun q => by rcases hco with w | w; exact absurd w (of_decide_eq_true q); have := w.1; grind)] at this
       exact this)
    | (refine z_ret (r := 1) dX5_comesWithout_35 ?_ (by rfl) rfl
       have := hQ c2 z3
       have hne : ¬ (coF _ _ _ _ _) = -1 := fun w => by rw [w] at h_27; revert h_27; decide
       rw [hcw, if_pos (by rw [decide_eq_true_eq]; exact hne)] at this
       exact this)
  · refine z_iconst (v := 1) dX5_comesWithout_30 (by decide) ?_
    refine z_goto 35 dX5_comesWithout_31 (by decide) ?_
    first
    | (refine z_ret (r := 0) dX5_comesWithout_35 ?_ (by rfl) rfl
       have := hQ c2 z3
       rw [hcw, if_neg (fun q => by rcases hco with w | w; exact absurd w (of_decide_eq_true q); have := w.1; grind)] at this
       exact this)
    | (refine z_ret (r := 1) dX5_comesWithout_35 ?_ (by rfl) rfl
       have := hQ c2 z3
       have hne : ¬ (coF _ _ _ _ _) = -1 := fun w => by rw [w] at h_27; revert h_27; decide
       rw [hcw, if_pos (by rw [decide_eq_true_eq]; exact hne)] at this
       exact this)
theorem goF_s (m : Nat) : ∀ f : zN, goF (m + 1) f = hrF (goF m f) := by
  induction m with
  | zero => intro f; rfl
  | succ m ih => intro f; exact ih (hrF f)
theorem c_goesOn {p m : Nat} {f : zN} (h : TW c p n f) (hm : m ≤ 60) (hd : 6 ≤ d) (hQ : ∀ c', TW c' p n (goF m f) → zth c c' → Qf 0 c') : zCl l E ad mX5_goesOn d [.ref (ad 33), .int (nI p), .int (nI m)] c Qf := by
  refine z_enter (own := RX5) [some (.ref (ad 33)), some (.int (nI p)), some (.int (nI m)), none] (by decide +kernel) rfl rfl rfl (Nat.le_of_ble_eq_true rfl) ?_
  have loop : ∀ (r i : Nat) (c1 : zS), m - i < r → i ≤ m → TW c1 p n (goF i f) → zth c c1 → zW l E ad RX5 cX5_goesOn 4 0 d Qf 2 [some (.ref (ad 33)), some (.int (nI p)), some (.int (nI m)), some (.int (nI i))] [] c1 := by
    intro r
    induction r with
    | zero => intro i c1 q; omega
    | succ r ih =>
      intro i c1 hr hi hT hz
      have hlt := nI_leI (a := m) (b := i) (by omega) (by omega)
      refine z_iload_n (i := 3) dX5_goesOn_2 rfl rfl ?_
      refine z_iload_n (i := 2) dX5_goesOn_3 rfl rfl ?_
      refine z_icmp_ge 21 dX5_goesOn_4 (by decide) (fun h_4 => ?_) (fun h_4 => ?_)
      · have him : i = m := by have := hlt.mp h_4; omega
        subst him
        exact z_ret (r := 0) dX5_goesOn_21 (hQ c1 hT hz) rfl rfl
      · refine z_aload_n (i := 0) dX5_goesOn_7 rfl rfl ?_
        refine z_getf dX5_goesOn_8 f_X5_27 (by first | decide | assumption | omega) rfl (by rfl) ?_
        refine z_iload_n (i := 1) dX5_goesOn_11 rfl rfl ?_
        refine z_Vv (As := [_]) dX5_goesOn_12 (by rfl) v_X1_anHourGoes l_X5_34 (by first | decide | assumption | omega) rfl rfl rfl (by omega) (by decide) (Nat.le_of_ble_eq_true rfl) ?_
        refine t_thour hT (by omega) (fun c2 hT2 hz2 => ?_)
        refine z_iinc (i := 3) (v := 1) [_, _, _, _] dX5_goesOn_15 rfl (by decide) (by decide) rfl rfl ?_
        refine z_goto 2 dX5_goesOn_18 (by decide) ?_
        rw [nI_1]
        have him : i < m := by have := mt hlt.mpr h_4; omega
        exact ih (i + 1) c2 (by omega) (by omega) (by rw [goF_s]; exact hT2) (zth_tr hz hz2)
  refine z_iconst (v := 0) dX5_goesOn_0 (by decide) ?_
  refine z_istore_n (i := 3) [_, _, _, _] dX5_goesOn_1 rfl (by decide) rfl rfl ?_
  exact loop (m + 1) 0 c (by omega) (by omega) h zth_rf
theorem c_howFarWith {p o k : Nat} {f : zN} (hR : PR c 8 n f) (hL : LW c f) (hv : vaF f n) (hb : ∀ i, i < n → f (8 + 5 * i + 4) = 0 ∨ f (8 + 5 * i + 4) = 1) (hb2 : ∀ g, vaF g n → g (8 + 5 * p + 4) = 0 ∨ g (8 + 5 * p + 4) = 1 → ∀ m, goF m g (8 + 5 * p + 4) = 0 ∨ goF m g (8 + 5 * p + 4) = 1) (hp : p < n) (ho : o < n) (hk : k ≤ 60) (hd : 8 ≤ d) (hQ : ∀ c', zth c c' → Qf (farF f p o k) c') : zCl l E ad mX5_howFarWith d [.ref (ad 33), .int (nI p), .int (nI o), .int (nI k)] c Qf := by
  have hn6 := hv.2.1
  have hv2 : vaF (upd (upd f (8 + 5 * p + 3) (f (8 + 5 * o + 3))) (8 + 5 * p + 4) 0) n := vaF_up (by omega) (by omega) (vaF_up (by omega) (by omega) hv)
  have e12 : c 12 o = f (8 + 5 * o + 3) := (hR.2.2.2 o ho).2.2.2.1
  have hbg := hb2 _ hv2 (Or.inl (pk_us)) k
  refine z_enter (own := RX5) [some (.ref (ad 33)), some (.int (nI p)), some (.int (nI o)), some (.int (nI k))] (by decide +kernel) rfl rfl rfl (Nat.le_of_ble_eq_true rfl) ?_
  refine z_aload_n (i := 0) dX5_howFarWith_0 rfl rfl ?_
  refine z_Vv (As := []) dX5_howFarWith_1 (by rfl) v_X5_starts l_X5_46 (by first | decide | assumption | omega) rfl rfl rfl (by omega) (by decide) (Nat.le_of_ble_eq_true rfl) ?_
  refine s_starts hR hn6 hb (by omega) (fun c1 h1 z1 => ?_)
  refine z_aload_n (i := 0) dX5_howFarWith_4 rfl rfl ?_
  refine z_getf dX5_howFarWith_5 f_X5_27 (by first | decide | assumption | omega) rfl (by rfl) ?_
  refine z_iload_n (i := 1) dX5_howFarWith_8 rfl rfl ?_
  refine z_aload_n (i := 0) dX5_howFarWith_9 rfl rfl ?_
  refine z_getf dX5_howFarWith_10 f_X5_9 (by first | decide | assumption | omega) rfl (by rfl) ?_
  refine z_getf dX5_howFarWith_13 f_X5_42 (by first | decide | assumption | omega) rfl (by rfl) ?_
  refine z_iload_n (i := 2) dX5_howFarWith_16 rfl rfl ?_
  refine z_iald (j := o) dX5_howFarWith_17 (by first | decide | assumption | omega) rfl (by rfl) (by first | decide | omega) (by first | decide | omega) ?_
  rw [z1 12 (by omega) (by decide) (by decide), e12]
  refine z_Vv (As := [_, _]) dX5_howFarWith_18 (by rfl) v_X1_stands l_X5_68 (by first | decide | assumption | omega) rfl rfl rfl (by omega) (by decide) (Nat.le_of_ble_eq_true rfl) ?_
  refine s_stands34 (v := f (8 + 5 * o + 3)) h1 hn6 (by omega) (fun c2 h2 f2 => ?_)
  have hT : TW c2 p n _ := TW_of h2 hv2 (LW_cg (zth_LW hL z1) (fun k hk => by rw [pk_un (by omega), pk_un (by omega)]) (f2 2 (by decide) (by decide)) (f2 3 (by decide) (by decide)) (f2 5 (by decide) (by decide)) (f2 6 (by decide) (by decide))) hp
  refine z_aload_n (i := 0) dX5_howFarWith_21 rfl rfl ?_
  refine z_iload_n (i := 1) dX5_howFarWith_22 rfl rfl ?_
  refine z_iload_n (i := 3) dX5_howFarWith_23 rfl rfl ?_
  refine z_Vv (As := [_, _]) dX5_howFarWith_24 (by rfl) v_X5_goesOn l_X5_72 (by first | decide | assumption | omega) rfl rfl rfl (by omega) (by decide) (Nat.le_of_ble_eq_true rfl) ?_
  refine c_goesOn hT hk (by omega) (fun c3 hT3 z3 => ?_)
  have z4 : zth c c3 := zth_tr (zth_tr z1 (fun k a _ _ => f2 k (by omega) (by omega))) z3
  have hat := TW_at hT3
  have hq := hQ c3 z4
  unfold farF at hq
  refine z_aload_n (i := 0) dX5_howFarWith_27 rfl rfl ?_
  refine z_getf dX5_howFarWith_28 f_X5_27 (by first | decide | assumption | omega) rfl (by rfl) ?_
  refine z_getf dX5_howFarWith_31 f_X5_38 (by first | decide | assumption | omega) rfl (by rfl) ?_
  refine z_iload_n (i := 1) dX5_howFarWith_34 rfl rfl ?_
  refine z_zald (j := p) dX5_howFarWith_35 (by first | decide | assumption | omega) rfl (by rfl) (by first | decide | omega) (by first | decide | omega) ?_
  refine z_if_eq 43 dX5_howFarWith_36 (by decide) (fun h_36 => ?_) (fun h_36 => ?_)
  · refine z_aload_n (i := 0) dX5_howFarWith_43 rfl rfl ?_
    refine z_getf dX5_howFarWith_44 f_X5_27 (by first | decide | assumption | omega) rfl (by rfl) ?_
    refine z_getf dX5_howFarWith_47 f_X5_42 (by first | decide | assumption | omega) rfl (by rfl) ?_
    refine z_iload_n (i := 1) dX5_howFarWith_50 rfl rfl ?_
    refine z_iald (j := p) dX5_howFarWith_51 (by first | decide | assumption | omega) rfl (by rfl) (by first | decide | omega) (by first | decide | omega) ?_
    refine z_aload_n (i := 0) dX5_howFarWith_52 rfl rfl ?_
    refine z_getf dX5_howFarWith_53 f_X5_9 (by first | decide | assumption | omega) rfl (by rfl) ?_
    refine z_getf dX5_howFarWith_56 f_X5_42 (by first | decide | assumption | omega) rfl (by rfl) ?_
    refine z_iload_n (i := 2) dX5_howFarWith_59 rfl rfl ?_
    refine z_iald (j := o) dX5_howFarWith_60 (by first | decide | assumption | omega) rfl (by rfl) (by first | decide | omega) (by first | decide | omega) ?_
    refine z_isub dX5_howFarWith_61 ?_
    first
    | (rw [if_pos (by rcases hbg with w | w; exact absurd (hat.2.trans w) h_36; exact w)] at hq
       exact z_ret dX5_howFarWith_62 hq trivial rfl)
    | (have e36 : c3 39 p = 0 := by first | exact h_36 | exact Classical.not_not.mp h_36
       rw [if_neg (fun w => by rw [hat.2, w] at e36; exact absurd e36 (by decide))] at hq
       rw [hat.1, z4 12 (by omega) (by decide) (by decide), e12]
       exact z_ret dX5_howFarWith_62 hq trivial rfl)
  · refine z_iconst (v := 0) dX5_howFarWith_39 (by decide) ?_
    refine z_goto 62 dX5_howFarWith_40 (by decide) ?_
    first
    | (rw [if_pos (by rcases hbg with w | w; exact absurd (hat.2.trans w) h_36; exact w)] at hq
       exact z_ret dX5_howFarWith_62 hq trivial rfl)
    | (have e36 : c3 39 p = 0 := by first | exact h_36 | exact Classical.not_not.mp h_36
       rw [if_neg (fun w => by rw [hat.2, w] at e36; exact absurd e36 (by decide))] at hq
       rw [hat.1, z4 12 (by omega) (by decide) (by decide), e12]
       exact z_ret dX5_howFarWith_62 hq trivial rfl)
theorem c_clearsAs {p z R : Nat} {sure : Int32} {f : zN} (hR : PR c 8 n f) (hL : LW c f) (hv : vaF f n) (hb : ∀ i, i < n → f (8 + 5 * i + 4) = 0 ∨ f (8 + 5 * i + 4) = 1) (hp : p < n) (hR6 : R < 64) (hR4 : 40 ≤ R) (hz : z ≤ 24) (hRs : ∀ f, zen E ad R f = .inl (E.2.1.1, 24, .inl f)) (hd : 8 ≤ d) (hQ : ∀ c', zth c c' → Qf (if csN (c R) p z 0 (upd f (8 + 5 * p + 2) sure) = true then 1 else 0) c') : zCl l E ad mX5_clearsAs d [.ref (ad 33), .int (nI p), .int sure, .ref (ad R), .int (nI z)] c Qf := by
  have hn6 := hv.2.1
  have hv2 : vaF (upd f (8 + 5 * p + 2) sure) n := vaF_up (by omega) (by omega) hv
  obtain ⟨W, hW⟩ : ∃ W, csN (c R) p z 0 (upd f (8 + 5 * p + 2) sure) = W := ⟨_, rfl⟩
  rw [hW] at hQ
  refine z_enter (own := RX5) [some (.ref (ad 33)), some (.int (nI p)), some (.int sure), some (.ref (ad R)), some (.int (nI z)), none] (by decide +kernel) rfl rfl rfl (Nat.le_of_ble_eq_true rfl) ?_
  have loop : ∀ (r i : Nat) (F : zN) (c1 : zS), z - i < r → i ≤ z → TW c1 p n F → zth c c1 → csN (c R) p (z - i) i F = W → zW l E ad RX5 cX5_clearsAs 6 3 d Qf 17 [some (.ref (ad 33)), some (.int (nI p)), some (.int sure), some (.ref (ad R)), some (.int (nI z)), some (.int (nI i))] [] c1 := by
    intro r
    induction r with
    | zero => intro i F c1 q; omega
    | succ r ih =>
      intro i F c1 hr hi hT hz1 e
      have hlt := nI_leI (a := z) (b := i) (by omega) (by omega)
      obtain ⟨hvF, _, g, hRg, hg, hLg, hag⟩ := id hT
      refine z_iload (i := 5) dX5_clearsAs_17 rfl ?_
      refine z_iload (i := 4) dX5_clearsAs_19 rfl ?_
      refine z_icmp_ge 55 dX5_clearsAs_21 (by decide) (fun h_21 => ?_) (fun h_21 => ?_)
      · refine z_iconst (v := 1) dX5_clearsAs_55 (by decide) ?_
        have hiz : i = z := by have := hlt.mp h_21; omega
        subst hiz
        rw [Nat.sub_self] at e
        refine z_ret (r := 1) dX5_clearsAs_56 ?_ (by rfl) rfl
        have := hQ c1 hz1
        rw [← e] at this
        exact this
      · have hiz : i < z := by have := mt hlt.mpr h_21; omega
        have es : z - i = (z - (i + 1)) + 1 := by omega
        rw [es, show csN (c R) p (z - (i + 1) + 1) i F = if cleF F p = c R i then csN (c R) p (z - (i + 1)) (i + 1) (hrF F) else false from rfl] at e
        refine z_aload_n (i := 0) dX5_clearsAs_24 rfl rfl ?_
        refine z_getf dX5_clearsAs_25 f_X5_27 (by first | decide | assumption | omega) (by first | rfl | exact hRs _) (by rfl) ?_
        refine z_iload_n (i := 1) dX5_clearsAs_28 rfl rfl ?_
        refine z_Vi (As := [_]) dX5_clearsAs_29 (by rfl) v_X1_clearFor l_X5_75 (by first | decide | assumption | omega) (by first | rfl | exact hRs _) rfl rfl (by omega) (by decide) (Nat.le_of_ble_eq_true rfl) ?_
        refine s_clearFor34 hRg hLg hg hp (by omega) (fun g4 => ?_)
        rw [cl_ag hag]
        have hT4 : TW (zup c1 4 g4) p n F := TW_cg hT (fun k hk => zup_n hk)
        refine z_aload_n (i := 3) dX5_clearsAs_32 rfl rfl ?_
        refine z_iload (i := 5) dX5_clearsAs_33 rfl ?_
        refine z_iald (j := i) dX5_clearsAs_35 (by first | decide | assumption | omega) (by first | rfl | exact hRs _) (by rfl) (by first | decide | omega) (by first | decide | omega) ?_
        rw [zup_n (by omega), hz1 R (by omega) (by omega) (by omega)]
        refine z_icmp_eq 41 dX5_clearsAs_36 (by decide) (fun h_36 => ?_) (fun h_36 => ?_)
        · refine z_aload_n (i := 0) dX5_clearsAs_41 rfl rfl ?_
          refine z_getf dX5_clearsAs_42 f_X5_27 (by first | decide | assumption | omega) (by first | rfl | exact hRs _) (by rfl) ?_
          refine z_iload_n (i := 1) dX5_clearsAs_45 rfl rfl ?_
          refine z_Vv (As := [_]) dX5_clearsAs_46 (by rfl) v_X1_anHourGoes l_X5_34 (by first | decide | assumption | omega) (by first | rfl | exact hRs _) rfl rfl (by omega) (by decide) (Nat.le_of_ble_eq_true rfl) ?_
          rw [if_pos (by first | exact h_36 | exact Classical.not_not.mp h_36)] at e
          refine t_thour hT4 (by omega) (fun c2 hT2 hz2 => ?_)
          refine z_iinc (i := 5) (v := 1) [_, _, _, _, _, _] dX5_clearsAs_49 rfl (by decide) (by decide) rfl rfl ?_
          refine z_goto 17 dX5_clearsAs_52 (by decide) ?_
          rw [nI_1]
          exact ih (i + 1) _ c2 (by omega) (by omega) hT2 (zth_tr hz1 (zth_tr (fun k _ b _ => zup_n b) hz2)) e
        · refine z_iconst (v := 0) dX5_clearsAs_39 (by decide) ?_
          rw [if_neg (by assumption)] at e
          refine z_ret (r := 0) dX5_clearsAs_40 ?_ (by rfl) rfl
          have := hQ (zup c1 4 g4) (zth_tr hz1 (fun k _ b _ => zup_n b))
          rw [← e] at this
          exact this
  refine z_aload_n (i := 0) dX5_clearsAs_0 rfl rfl ?_
  refine z_Vv (As := []) dX5_clearsAs_1 (by rfl) v_X5_starts l_X5_46 (by first | decide | assumption | omega) rfl rfl rfl (by omega) (by decide) (Nat.le_of_ble_eq_true rfl) ?_
  refine s_starts hR hn6 hb (by omega) (fun c1 h1 z1 => ?_)
  refine z_aload_n (i := 0) dX5_clearsAs_4 rfl rfl ?_
  refine z_getf dX5_clearsAs_5 f_X5_27 (by first | decide | assumption | omega) rfl (by rfl) ?_
  refine z_getf dX5_clearsAs_8 f_X5_49 (by first | decide | assumption | omega) rfl (by rfl) ?_
  refine z_iload_n (i := 1) dX5_clearsAs_11 rfl rfl ?_
  refine z_iload_n (i := 2) dX5_clearsAs_12 rfl rfl ?_
  refine z_iast (j := p) dX5_clearsAs_13 (by first | decide | assumption | omega) (fun _ => rfl) (by rfl) (by first | decide | omega) (by first | decide | omega) ?_
  have hT : TW (zup c1 37 (upd (c1 37) p sure)) p n (upd f (8 + 5 * p + 2) sure) := TW_of (PR_up 2 h1 (by omega)) hv2 (LW_cg (zth_LW hL z1) (fun k hk => pk_un (by omega)) rfl rfl rfl rfl) hp
  refine z_iconst (v := 0) dX5_clearsAs_14 (by decide) ?_
  refine z_istore (i := 5) [_, _, _, _, _, _] dX5_clearsAs_15 (by decide) rfl rfl ?_
  exact loop (z + 1) 0 _ _ (by omega) (by omega) hT (zth_tr z1 (fun k a _ _ => zup_n (by omega))) hW
end TG
