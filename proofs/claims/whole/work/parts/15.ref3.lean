/-! the reference's calls, three: hours, what would be -/
theorem isP_iff {f : zN} {n k : Nat} (hn : f 5 = nI n) (hn6 : n ≤ 6) (hk : k ≤ 100) : (0 ≤ nI k ∧ nI k ≤ f 5 - 1) ↔ k < n := by
  rw [hn]
  rcases Nat.eq_zero_or_pos n with q | q
  · subst q
    have h0 := nI_leI (a := 0) (b := k) (by omega) (by omega)
    have : (nI 0 - 1 : Int32) = -1 := rfl
    rw [this]
    have h1 : (0 : Int32) ≤ nI k := h0.mpr (by omega)
    grind
  · rw [zi_m1 q]
    have h0 := nI_leI (a := 0) (b := k) (by omega) (by omega)
    have h1 := nI_leI (a := k) (b := n - 1) (by omega) (by omega)
    have h2 : (0 : Int32) ≤ nI k := h0.mpr (by omega)
    constructor
    · intro h; have := h1.mp h.2; omega
    · intro h; exact ⟨h2, h1.mpr (by omega)⟩
theorem wkF_hi {p k : Nat} {fall : Bool} (hp : p < 6) (hk : 38 ≤ k) : ∀ {s : Nat} {f : zN}, wkF p fall s f k = f k
  | 0, f => rfl
  | s + 1, f => by
    unfold wkF
    split
    · split
      · split
        · rw [pk_un (by omega), pk_un (by omega)]
        · rfl
      · rw [wkF_hi hp hk, pk_un (by omega), pk_un (by omega)]
    · rfl
theorem hrN_hi {k : Nat} (hk : 38 ≤ k) {f : zN} : ∀ {p : Nat}, p ≤ 6 → hrN f p k = f k
  | 0, _ => rfl
  | p + 1, hp => by
    unfold hrN
    split
    · rw [wkF_hi (by omega) hk, hrN_hi hk (by omega)]
    · exact hrN_hi hk (by omega)
theorem hrF_hi {f : zN} {n k : Nat} (hv : vaF f n) (hk : 38 ≤ k) : hrF f k = f k := by
  unfold hrF
  rw [pk_un (by omega), hv.1, pn_nI (by have := hv.2.1; omega), hrN_hi hk hv.2.1]
theorem goF_hi2 {n k : Nat} (hk : 38 ≤ k) : ∀ {m : Nat} {f : zN}, vaF f n → goF m f k = f k
  | 0, _, _ => rfl
  | m + 1, f, h => by
    unfold goF
    rw [goF_hi2 hk (vaF_hr h), hrF_hi h hk]
/-- behind a thought all is as it was -/
theorem zback {c c1 : zS} {g : zN} (h1 : ∀ k, k < 38 → g k = c 52 k) (h2 : ∀ k, 38 ≤ k → g k = c 52 k) : g = c 52 := by
  funext k
  rcases Nat.lt_or_ge k 38 with q | q
  · exact h1 k q
  · exact h2 k q
/-- the store c, but for the scratch rows of thoughts -/
def zsc (c c' : zS) : Prop := ∀ k, k ≠ 54 → k ≠ 57 → k ≠ 58 → c' k = c k
theorem zsc_rf {c : zS} : zsc c c := fun _ _ _ _ => rfl
theorem zsc_tr {c c1 c2 : zS} (h : zsc c c1) (h2 : zsc c1 c2) : zsc c c2 := fun k a b e => (h2 k a b e).trans (h k a b e)
theorem zsc_of {c c' : zS} {g F : zN} (h : zfm (zup c 54 g) F c') : zsc c (zup c' 52 (c 52)) := fun k a b e => by
  by_cases q : k = 52
  · subst q; exact zup_s _ _ _
  · rw [zup_n q, h.2 k q b e, zup_n a]
theorem mst_zsc {c c' : zS} (h : zsc c c') : mst c' = mst c := by
  unfold mst
  rw [h 52 (by decide) (by decide) (by decide), h 53 (by decide) (by decide) (by decide), h 55 (by decide) (by decide) (by decide), h 51 (by decide) (by decide) (by decide), h 59 (by decide) (by decide) (by decide), h 60 (by decide) (by decide) (by decide), h 61 (by decide) (by decide) (by decide), h 62 (by decide) (by decide) (by decide)]
section R3
variable {l : Launch} {E : zE} {ad : Nat → Nat} {c : zS} {Qf : Int32 → zS → Prop} {d n : Nat}
theorem o8_check {m : Nat} (hv : vaF (c 52) n) (hm : c 52 4 = nI m) (hm6 : m ≤ 24) (hd : 3 ≤ d) (hQ : ∀ r c', (∀ k, k < 51 → c' k = c k) → (r, mst c') = o_check (mst c) → Qf r c') : zCl l E ad mX8_check d [.ref (ad 51)] c Qf := by
  obtain ⟨hn, hn6, hw0, hw1⟩ := id hv
  have hpn : pn (c 52 5) = n := by rw [hn]; exact pn_nI (by omega)
  have hpm : pn (c 52 4) = m := by rw [hm]; exact pn_nI (by omega)
  have hq : Qf (ckN (c 52) n m 0) (zup c 52 (upd (c 52) 4 0)) := hQ _ _ (by intro k hk; simp (disch := omega) only [zup_n]) (by unfold o_check; rw [show (mst c).1 = c 52 from rfl, hpn, hpm]; rfl)
  refine z_enter (own := RX8) [some (.ref (ad 51)), none, none] (by decide +kernel) rfl rfl rfl (Nat.le_of_ble_eq_true rfl) ?_
  have loop : ∀ (r k : Nat), m - k < r → k ≤ m → Qf (ckN (c 52) n (m - k) k) (zup c 52 (upd (c 52) 4 0)) → zW l E ad RX8 cX8_check 3 1 d Qf 16 [some (.ref (ad 51)), some (.int (nI m)), some (.int (nI k))] [] (zup c 52 (upd (c 52) 4 0)) := by
    intro r
    induction r with
    | zero => intro k h; omega
    | succ r ih =>
      intro k hr hk hq
      have hlt := nI_leI (a := m) (b := k) (by omega) (by omega)
      have hip := isP_iff (f := upd (c 52) 4 0) (k := k) (n := n) hn hn6 (by omega)
      rw [← zup_s c 52 (upd (c 52) 4 0)] at hip
      refine z_iload_n (i := 2) dX8_check_16 rfl rfl ?_
      refine z_iload_n (i := 1) dX8_check_17 rfl rfl ?_
      refine z_icmp_ge 58 dX8_check_18 (by decide) (fun h_18 => ?_) (fun h_18 => ?_)
      · have hkm : k = m := by have := hlt.mp h_18; omega
        subst hkm
        rw [Nat.sub_self] at hq
        refine z_iconst (v := 0) dX8_check_58 (by decide) ?_
        exact z_ret dX8_check_59 hq trivial rfl
      · have hkm : k < m := by have := mt hlt.mpr h_18; omega
        obtain ⟨s, es⟩ : ∃ s, m - k = s + 1 := ⟨m - k - 1, by omega⟩
        rw [es] at hq
        unfold ckN at hq
        refine z_aload_n (i := 0) dX8_check_21 rfl rfl ?_
        refine z_iload_n (i := 2) dX8_check_22 rfl rfl ?_
        refine z_Vb (As := [_]) dX8_check_23 (by rfl) v_X8_isPerson l_X8_157 (by first | decide | assumption | omega) rfl rfl rfl (by omega) (by decide) (Nat.le_of_ble_eq_true rfl) ?_
        refine s_X8_isPerson (by omega) ?_
        refine z_if_eq 48 dX8_check_26 (by decide) (fun h_26 => ?_) (fun h_26 => ?_)
        · first
          | (rw [if_neg (by grind)] at hq; skip)
          refine z_iconst (v := 1) dX8_check_48 (by decide) ?_
          refine z_iload_n (i := 2) dX8_check_49 rfl rfl ?_
          refine z_iadd dX8_check_50 ?_
          exact z_ret dX8_check_51 hq trivial rfl
        · have hkn : k < n := hip.mp (by grind)
          refine z_aload_n (i := 0) dX8_check_29 rfl rfl ?_
          refine z_getf dX8_check_30 f_X8_7 (by first | decide | assumption | omega) rfl (by rfl) ?_
          refine z_sipush (v := 348) dX8_check_33 (by decide) ?_
          refine z_iload_n (i := 2) dX8_check_36 rfl rfl ?_
          refine z_iadd dX8_check_37 ?_
          refine z_iald (j := 348 + k) dX8_check_38 (by first | decide | assumption | omega) rfl (by show nI 348 + nI k = _; rw [nI_add]) (by first | decide | omega) (by first | decide | omega) ?_
          refine z_aload_n (i := 0) dX8_check_39 rfl rfl ?_
          refine z_iload_n (i := 2) dX8_check_40 rfl rfl ?_
          refine z_iconst (v := 2) dX8_check_41 (by decide) ?_
          refine z_Vi (As := [_, _]) dX8_check_42 (by rfl) v_X8_its l_X8_111 (by first | decide | assumption | omega) rfl rfl rfl (by omega) (by decide) (Nat.le_of_ble_eq_true rfl) ?_
          refine s_X8_its2 (by omega) ?_
          simp (disch := omega) only [zup_s, pk_un]
          refine z_icmp_eq 52 dX8_check_45 (by decide) (fun h_45 => ?_) (fun h_45 => ?_)
          · rw [if_pos (by grind)] at hq
            refine z_iinc (i := 2) (v := 1) [_, _, _] dX8_check_52 rfl (by decide) (by decide) rfl rfl ?_
            refine z_goto 16 dX8_check_55 (by decide) ?_
            rw [nI_1]
            exact ih (k + 1) (by omega) (by omega) (by rw [show m - (k + 1) = s by omega]; exact hq)
          · first
            | (rw [if_neg (by grind)] at hq; skip)
            refine z_iconst (v := 1) dX8_check_48 (by decide) ?_
            refine z_iload_n (i := 2) dX8_check_49 rfl rfl ?_
            refine z_iadd dX8_check_50 ?_
            exact z_ret dX8_check_51 hq trivial rfl
  refine z_aload_n (i := 0) dX8_check_0 rfl rfl ?_
  refine z_getf dX8_check_1 f_X8_7 (by first | decide | assumption | omega) rfl (by rfl) ?_
  refine z_iconst (v := 4) dX8_check_4 (by decide) ?_
  refine z_iald dX8_check_5 (by first | decide | assumption | omega) rfl (by rfl) (by first | decide | omega) (by first | decide | omega) ?_
  refine z_istore_n (i := 1) [_, _, _] dX8_check_6 rfl (by decide) rfl rfl ?_
  refine z_aload_n (i := 0) dX8_check_7 rfl rfl ?_
  refine z_getf dX8_check_8 f_X8_7 (by first | decide | assumption | omega) rfl (by rfl) ?_
  refine z_iconst (v := 4) dX8_check_11 (by decide) ?_
  refine z_iconst (v := 0) dX8_check_12 (by decide) ?_
  refine z_iast dX8_check_13 (by first | decide | assumption | omega) (fun _ => rfl) (by rfl) (by first | decide | omega) (by first | decide | omega) ?_
  refine z_iconst (v := 0) dX8_check_14 (by decide) ?_
  refine z_istore_n (i := 2) [_, _, _] dX8_check_15 rfl (by decide) rfl rfl ?_
  rw [hm]
  exact loop (m + 1) 0 (by omega) (by omega) hq
theorem s_X8_whyNot {k most : Int32} (hd : 1 ≤ d) (hQ : Qf (if 1 ≤ k ∧ k ≤ most then (if c 52 0 + k ≤ 9999 then 0 else 3) else 1) c) : zCl l E ad mX8_whyNot d [.ref (ad 51), .int k, .int most] c Qf := by
  refine z_enter (own := RX8) [some (.ref (ad 51)), some (.int k), some (.int most)] (by decide +kernel) rfl rfl rfl (Nat.le_of_ble_eq_true rfl) ?_
  refine z_iload_n (i := 1) dX8_whyNot_0 rfl rfl ?_
  refine z_iconst (v := 1) dX8_whyNot_1 (by decide) ?_
  refine z_iload_n (i := 2) dX8_whyNot_2 rfl rfl ?_
  refine z_Sb (As := [_, _, _]) dX8_whyNot_3 (by rfl) v_X8_in l_X8_47 rfl (by omega) (by decide) (Nat.le_of_ble_eq_true rfl) ?_
  refine s_X8_in ?_
  refine z_if_ne 13 dX8_whyNot_6 (by decide) (fun h_6 => ?_) (fun h_6 => ?_)
  · refine z_aload_n (i := 0) dX8_whyNot_13 rfl rfl ?_
    refine z_getf dX8_whyNot_14 f_X8_7 (by first | decide | assumption | omega) rfl (by rfl) ?_
    refine z_iconst (v := 0) dX8_whyNot_17 (by decide) ?_
    refine z_iald dX8_whyNot_18 (by first | decide | assumption | omega) rfl (by rfl) (by first | decide | omega) (by first | decide | omega) ?_
    refine z_iload_n (i := 1) dX8_whyNot_19 rfl rfl ?_
    refine z_iadd dX8_whyNot_20 ?_
    refine z_sipush (v := 9999) dX8_whyNot_21 (by decide) ?_
    refine z_icmp_le 31 dX8_whyNot_24 (by decide) (fun h_24 => ?_) (fun h_24 => ?_)
    · refine z_iconst (v := 0) dX8_whyNot_31 (by decide) ?_
      exact z_ret dX8_whyNot_32 (by grind) trivial rfl
    · refine z_iconst (v := 3) dX8_whyNot_27 (by decide) ?_
      refine z_goto 32 dX8_whyNot_28 (by decide) ?_
      exact z_ret dX8_whyNot_32 (by grind) trivial rfl
  · refine z_iconst (v := 1) dX8_whyNot_9 (by decide) ?_
    refine z_goto 32 dX8_whyNot_10 (by decide) ?_
    exact z_ret dX8_whyNot_32 (by grind) trivial rfl
theorem o8_hours {k : Int32} (hv : vaF (c 52) n) (hd : 8 ≤ d) (hQ : ∀ r c', (∀ k, k < 51 → c' k = c k) → (r, mst c') = o_hours (mst c) k → Qf r c') : zCl l E ad mX8_hours d [.ref (ad 51), .int k] c Qf := by
  obtain ⟨hn, hn6, hw0, hw1⟩ := id hv
  refine z_enter (own := RX8) [some (.ref (ad 51)), some (.int k), none] (by decide +kernel) rfl rfl rfl (Nat.le_of_ble_eq_true rfl) ?_
  by_cases h1 : 1 ≤ k ∧ k ≤ 60
  · by_cases h2 : c 52 0 + k ≤ 9999
    · obtain ⟨j, hj, rfl⟩ := zj_of (x := k) (n := 61) (by grind) (by show k < (61 : Int32); grind) (by decide)
      refine z_aload_n (i := 0) dX8_hours_0 rfl rfl ?_
      refine z_iload_n (i := 1) dX8_hours_1 rfl rfl ?_
      refine z_bipush (v := 60) dX8_hours_2 (by decide) ?_
      refine z_Vi (As := [_, _]) dX8_hours_4 (by rfl) v_X8_whyNot l_X8_172 (by first | decide | assumption | omega) rfl rfl rfl (by omega) (by decide) (Nat.le_of_ble_eq_true rfl) ?_
      refine s_X8_whyNot (by omega) ?_
      rw [if_pos h1, if_pos h2]
      refine z_istore_n (i := 2) [_, _, _] dX8_hours_7 rfl (by decide) rfl rfl ?_
      refine z_iload_n (i := 2) dX8_hours_8 rfl rfl ?_
      refine z_if_eq 18 dX8_hours_9 (by decide) (fun h_9 => ?_) (fun h_9 => ?_)
      rotate_left
      · exact absurd rfl h_9
      refine z_aload_n (i := 0) dX8_hours_18 rfl rfl ?_
      refine z_iload_n (i := 1) dX8_hours_19 rfl rfl ?_
      refine z_Vv (As := [_]) dX8_hours_20 (by rfl) v_X8_goes l_X8_175 (by first | decide | assumption | omega) rfl rfl rfl (by omega) (by decide) (Nat.le_of_ble_eq_true rfl) ?_
      refine s_X8_goes rfl hv (by omega) (by omega) (fun c' hc' => ?_)
      refine z_aload_n (i := 0) dX8_hours_23 rfl rfl ?_
      refine z_Vi (As := []) dX8_hours_24 (by rfl) v_X8_through l_X8_178 (by first | decide | assumption | omega) rfl rfl rfl (by omega) (by decide) (Nat.le_of_ble_eq_true rfl) ?_
      refine s_X8_through hc'.1 (vaF_go hv) (by omega) ?_
      exact z_ret dX8_hours_27 (hQ _ _ (fun k hk => hc'.2 k (by omega) (by omega) (by omega)) (by unfold o_hours; rw [if_pos h1, if_pos (show (mst c).1 0 + nI j ≤ 9999 from h2), mst_zfm hc', pn_nI (by omega)]; rfl)) trivial rfl
    · skip
      refine z_aload_n (i := 0) dX8_hours_0 rfl rfl ?_
      refine z_iload_n (i := 1) dX8_hours_1 rfl rfl ?_
      refine z_bipush (v := 60) dX8_hours_2 (by decide) ?_
      refine z_Vi (As := [_, _]) dX8_hours_4 (by rfl) v_X8_whyNot l_X8_172 (by first | decide | assumption | omega) rfl rfl rfl (by omega) (by decide) (Nat.le_of_ble_eq_true rfl) ?_
      refine s_X8_whyNot (by omega) ?_
      rw [if_pos h1, if_neg h2]
      refine z_istore_n (i := 2) [_, _, _] dX8_hours_7 rfl (by decide) rfl rfl ?_
      refine z_iload_n (i := 2) dX8_hours_8 rfl rfl ?_
      refine z_if_eq 18 dX8_hours_9 (by decide) (fun h_9 => ?_) (fun h_9 => ?_)
      · exact absurd h_9 (by decide)
      refine z_aload_n (i := 0) dX8_hours_12 rfl rfl ?_
      refine z_iload_n (i := 2) dX8_hours_13 rfl rfl ?_
      refine z_Vi (As := [_]) dX8_hours_14 (by rfl) v_X8_error l_X8_51 (by first | decide | assumption | omega) rfl rfl rfl (by omega) (by decide) (Nat.le_of_ble_eq_true rfl) ?_
      refine s_X8_error (by rfl) (by first | decide | omega) ?_
      exact z_ret dX8_hours_17 (hQ _ _ (by intro k hk; simp (disch := omega) only [zup_n]) (by unfold o_hours; rw [if_pos h1, if_neg (show ¬ (mst c).1 0 + k ≤ 9999 from h2)]; rfl)) trivial rfl
  · skip
    refine z_aload_n (i := 0) dX8_hours_0 rfl rfl ?_
    refine z_iload_n (i := 1) dX8_hours_1 rfl rfl ?_
    refine z_bipush (v := 60) dX8_hours_2 (by decide) ?_
    refine z_Vi (As := [_, _]) dX8_hours_4 (by rfl) v_X8_whyNot l_X8_172 (by first | decide | assumption | omega) rfl rfl rfl (by omega) (by decide) (Nat.le_of_ble_eq_true rfl) ?_
    refine s_X8_whyNot (by omega) ?_
    rw [if_neg h1]
    refine z_istore_n (i := 2) [_, _, _] dX8_hours_7 rfl (by decide) rfl rfl ?_
    refine z_iload_n (i := 2) dX8_hours_8 rfl rfl ?_
    refine z_if_eq 18 dX8_hours_9 (by decide) (fun h_9 => ?_) (fun h_9 => ?_)
    · exact absurd h_9 (by decide)
    refine z_aload_n (i := 0) dX8_hours_12 rfl rfl ?_
    refine z_iload_n (i := 2) dX8_hours_13 rfl rfl ?_
    refine z_Vi (As := [_]) dX8_hours_14 (by rfl) v_X8_error l_X8_51 (by first | decide | assumption | omega) rfl rfl rfl (by omega) (by decide) (Nat.le_of_ble_eq_true rfl) ?_
    refine s_X8_error (by rfl) (by first | decide | omega) ?_
    exact z_ret dX8_hours_17 (hQ _ _ (by intro k hk; simp (disch := omega) only [zup_n]) (by unfold o_hours; rw [if_neg h1]; rfl)) trivial rfl
theorem o8_then {p k w : Int32} (hv : vaF (c 52) n) (hd : 8 ≤ d) (hQ : ∀ r c', (∀ k, k < 51 → c' k = c k) → (r, mst c') = o_then (mst c) p k w → Qf r c') : zCl l E ad mX8_then d [.ref (ad 51), .int p, .int k, .int w] c Qf := by
  obtain ⟨hn, hn6, hw0, hw1⟩ := id hv
  refine z_enter (own := RX8) [some (.ref (ad 51)), some (.int p), some (.int k), some (.int w), none] (by decide +kernel) rfl rfl rfl (Nat.le_of_ble_eq_true rfl) ?_
  refine z_aload_n (i := 0) dX8_then_0 rfl rfl ?_
  refine z_iload_n (i := 1) dX8_then_1 rfl rfl ?_
  refine z_Vb (As := [_]) dX8_then_2 (by rfl) v_X8_isPerson l_X8_157 (by first | decide | assumption | omega) rfl rfl rfl (by omega) (by decide) (Nat.le_of_ble_eq_true rfl) ?_
  refine s_X8_isPerson (by omega) ?_
  refine z_if_eq 27 dX8_then_5 (by decide) (fun h_5 => ?_) (fun h_5 => ?_)
  · refine z_aload_n (i := 0) dX8_then_27 rfl rfl ?_
    refine z_iconst (v := 1) dX8_then_28 (by decide) ?_
    refine z_Vi (As := [_]) dX8_then_29 (by rfl) v_X8_error l_X8_51 (by first | decide | assumption | omega) rfl rfl rfl (by omega) (by decide) (Nat.le_of_ble_eq_true rfl) ?_
    refine s_X8_error (by rfl) (by first | decide | omega) ?_
    exact z_ret dX8_then_32 (hQ _ _ (by intro k hk; simp (disch := omega) only [zup_n]) (by unfold o_then; rw [if_neg (by show ¬ ((0 ≤ p ∧ p ≤ c 52 5 - 1) ∧ _); grind)]; rfl)) trivial rfl
  · refine z_iload_n (i := 2) dX8_then_8 rfl rfl ?_
    refine z_iconst (v := 0) dX8_then_9 (by decide) ?_
    refine z_bipush (v := 60) dX8_then_10 (by decide) ?_
    refine z_Sb (As := [_, _, _]) dX8_then_12 (by rfl) v_X8_in l_X8_47 rfl (by omega) (by decide) (Nat.le_of_ble_eq_true rfl) ?_
    refine s_X8_in ?_
    refine z_if_eq 27 dX8_then_15 (by decide) (fun h_15 => ?_) (fun h_15 => ?_)
    · refine z_aload_n (i := 0) dX8_then_27 rfl rfl ?_
      refine z_iconst (v := 1) dX8_then_28 (by decide) ?_
      refine z_Vi (As := [_]) dX8_then_29 (by rfl) v_X8_error l_X8_51 (by first | decide | assumption | omega) rfl rfl rfl (by omega) (by decide) (Nat.le_of_ble_eq_true rfl) ?_
      refine s_X8_error (by rfl) (by first | decide | omega) ?_
      exact z_ret dX8_then_32 (hQ _ _ (by intro k hk; simp (disch := omega) only [zup_n]) (by unfold o_then; rw [if_neg (by show ¬ ((0 ≤ p ∧ p ≤ c 52 5 - 1) ∧ _); grind)]; rfl)) trivial rfl
    · refine z_iload_n (i := 3) dX8_then_18 rfl rfl ?_
      refine z_iconst (v := 0) dX8_then_19 (by decide) ?_
      refine z_iconst (v := 1) dX8_then_20 (by decide) ?_
      refine z_Sb (As := [_, _, _]) dX8_then_21 (by rfl) v_X8_in l_X8_47 rfl (by omega) (by decide) (Nat.le_of_ble_eq_true rfl) ?_
      refine s_X8_in ?_
      refine z_if_ne 33 dX8_then_24 (by decide) (fun h_24 => ?_) (fun h_24 => ?_)
      · have hok : isP (mst c) p ∧ (0 ≤ k ∧ k ≤ 60) ∧ 0 ≤ w ∧ w ≤ 1 := by show (0 ≤ p ∧ p ≤ c 52 5 - 1) ∧ _; grind
        obtain ⟨j, hj, rfl⟩ := isP_of (f := c 52) hok.1 hn hn6
        obtain ⟨m, hm, rfl⟩ := zj_of (x := k) (n := 61) (by grind) (by show k < (61 : Int32); grind) (by decide)
        obtain ⟨i, hi, rfl⟩ := zj_of (x := w) (n := 2) (by grind) (by show w < (2 : Int32); grind) (by decide)
        refine z_aload_n (i := 0) dX8_then_33 rfl rfl ?_
        refine z_Vv (As := []) dX8_then_34 (by rfl) v_X8_layDown l_X8_187 (by first | decide | assumption | omega) rfl rfl rfl (by omega) (by decide) (Nat.le_of_ble_eq_true rfl) ?_
        refine s_X8_layDown (fun g hg => ?_)
        refine z_aload_n (i := 0) dX8_then_37 rfl rfl ?_
        refine z_iload_n (i := 2) dX8_then_38 rfl rfl ?_
        refine z_Vv (As := [_]) dX8_then_39 (by rfl) v_X8_goes l_X8_175 (by first | decide | assumption | omega) rfl rfl rfl (by omega) (by decide) (Nat.le_of_ble_eq_true rfl) ?_
        refine s_X8_goes (f := c 52) rfl hv (by omega) (by omega) (fun c' hc' => ?_)
        refine z_aload_n (i := 0) dX8_then_42 rfl rfl ?_
        refine z_iload_n (i := 1) dX8_then_43 rfl rfl ?_
        refine z_iconst (v := 3) dX8_then_44 (by decide) ?_
        refine z_iload_n (i := 3) dX8_then_45 rfl rfl ?_
        refine z_iadd dX8_then_46 ?_
        refine z_Vi (As := [_, _]) dX8_then_47 (by rfl) v_X8_its l_X8_111 (by first | decide | assumption | omega) rfl rfl rfl (by omega) (by decide) (Nat.le_of_ble_eq_true rfl) ?_
        refine s_its hc'.1 (i := 8 + 5 * j + 3 + i) (by show nI 8 + nI 5 * nI j + (nI 3 + nI i) = _; rw [pk_mul, nI_add, nI_add, nI_add]; congr 1; omega) (by omega) ?_
        refine z_istore (i := 4) [_, _, _, _, _] dX8_then_50 (by decide) rfl rfl ?_
        refine z_aload_n (i := 0) dX8_then_52 rfl rfl ?_
        refine z_Vv (As := []) dX8_then_53 (by rfl) v_X8_layBack l_X8_190 (by first | decide | assumption | omega) rfl rfl rfl (by omega) (by decide) (Nat.le_of_ble_eq_true rfl) ?_
        refine s_X8_layBack (fun g2 hg1 hg2 => ?_)
        have e2 : g2 = c 52 := zback (c1 := c) (fun k hk => by rw [hg1 k hk, hc'.2 54 (by decide) (by decide) (by decide), zup_s]; exact hg k hk) (fun k hk => by rw [hg2 k hk, hc'.1, goF_hi2 hk hv])
        subst e2
        have hsc := zsc_of hc'
        refine z_iload (i := 4) dX8_then_56 rfl ?_
        exact z_ret dX8_then_58 (hQ _ _ (fun k hk => hsc k (by omega) (by omega) (by omega)) (by unfold o_then; rw [if_pos hok, mst_zsc hsc, pn_nI (show m < 2147483648 by omega), pn_nI (show j < 2147483648 by omega), pn_nI (show i < 2147483648 by omega)]; rfl)) trivial rfl
      · refine z_aload_n (i := 0) dX8_then_27 rfl rfl ?_
        refine z_iconst (v := 1) dX8_then_28 (by decide) ?_
        refine z_Vi (As := [_]) dX8_then_29 (by rfl) v_X8_error l_X8_51 (by first | decide | assumption | omega) rfl rfl rfl (by omega) (by decide) (Nat.le_of_ble_eq_true rfl) ?_
        refine s_X8_error (by rfl) (by first | decide | omega) ?_
        exact z_ret dX8_then_32 (hQ _ _ (by intro k hk; simp (disch := omega) only [zup_n]) (by unfold o_then; rw [if_neg (by show ¬ ((0 ≤ p ∧ p ≤ c 52 5 - 1) ∧ _); grind)]; rfl)) trivial rfl
theorem vaF_co {f : zN} {p : Nat} (hv : vaF f n) : vaF (hrF f) n := vaF_hr hv
/-- the hours gone on the way to a CELL: how many -/
theorem s_X8_comesBy {f : zN} {p k : Nat} {cell : Int32} (hf : c 52 = f) (hv : vaF f n) (hp : p < n) (hk : k ≤ 60) (hd : 6 ≤ d) (hQ : ∀ m c', zfm c (goF m f) c' → Qf (coF p cell (k + 1) 0 f) c') : zCl l E ad mX8_comesBy d [.ref (ad 51), .int (nI p), .int cell, .int (nI k)] c Qf := by
  subst hf
  have hp6 : p < 6 := by have := hv.2.1; omega
  refine z_enter (own := RX8) [some (.ref (ad 51)), some (.int (nI p)), some (.int cell), some (.int (nI k)), none, none] (by decide +kernel) rfl rfl rfl (Nat.le_of_ble_eq_true rfl) ?_
  have off : ∀ (x : Int32) (i : Nat) (c1 : zS) (m : Nat), i ≤ k + 1 → ¬ x = -1 → zfm c (goF m (c 52)) c1 → x = coF p cell (k + 1) 0 (c 52) → zW l E ad RX8 cX8_comesBy 6 1 d Qf 6 [some (.ref (ad 51)), some (.int (nI p)), some (.int cell), some (.int (nI k)), some (.int x), some (.int (nI i))] [] c1 := by
    intro x i c1 m hi hx hc1 e
    refine z_iload (i := 5) dX8_comesBy_6 rfl ?_
    refine z_iload_n (i := 3) dX8_comesBy_8 rfl rfl ?_
    refine z_icmp_gt 55 dX8_comesBy_9 (by decide) (fun h_9 => ?_) (fun h_9 => ?_)
    · refine z_iload (i := 4) dX8_comesBy_55 rfl ?_
      exact z_ret dX8_comesBy_57 (by rw [e]; exact hQ m c1 hc1) trivial rfl
    · refine z_iload (i := 4) dX8_comesBy_12 rfl ?_
      refine z_iconst (v := (-1)) dX8_comesBy_14 (by decide) ?_
      refine z_icmp_ne 55 dX8_comesBy_15 (by decide) (fun h_15 => ?_) (fun h_15 => ?_)
      rotate_left
      · exact absurd h_15 hx
      refine z_iload (i := 4) dX8_comesBy_55 rfl ?_
      exact z_ret dX8_comesBy_57 (by rw [e]; exact hQ m c1 hc1) trivial rfl
  have gs : ∀ (m : Nat) (f : zN), goF (m + 1) f = hrF (goF m f) := by
    intro m
    induction m with
    | zero => intro f; rfl
    | succ m ih => intro f; exact ih (hrF f)
  have loop : ∀ (r i : Nat) (c1 : zS), k + 1 - i < r → i ≤ k + 1 → zfm c (goF i (c 52)) c1 → coF p cell (k + 1 - i) i (goF i (c 52)) = coF p cell (k + 1) 0 (c 52) → zW l E ad RX8 cX8_comesBy 6 1 d Qf 6 [some (.ref (ad 51)), some (.int (nI p)), some (.int cell), some (.int (nI k)), some (.int (-1)), some (.int (nI i))] [] c1 := by
    intro r
    induction r with
    | zero => intro i c1 h; omega
    | succ r ih =>
      intro i c1 hr hi hc1 e
      have hlt := nI_leI (a := i) (b := k) (by omega) (by omega)
      have hv1 := vaF_go (k := i) hv
      have cut43 : ∀ x : Int32, i ≤ k → (if goF i (c 52) (8 + 5 * p + 4) = 0 ∧ cell ≤ goF i (c 52) (8 + 5 * p + 3) then x = nI i else x = -1) → zW l E ad RX8 cX8_comesBy 6 1 d Qf 43 [some (.ref (ad 51)), some (.int (nI p)), some (.int cell), some (.int (nI k)), some (.int (-1)), some (.int (nI i))] [.int x] c1 := by
        intro x hik hx
        obtain ⟨s, es⟩ : ∃ s, k + 1 - i = s + 1 := ⟨k - i, by omega⟩
        rw [es] at e
        unfold coF at e
        refine z_istore (i := 4) [_, _, _, _, _, _] dX8_comesBy_43 (by decide) rfl rfl ?_
        refine z_aload_n (i := 0) dX8_comesBy_45 rfl rfl ?_
        refine z_Vv (As := []) dX8_comesBy_46 (by rfl) v_X8_anHour l_X8_150 (by first | decide | assumption | omega) rfl rfl rfl (by omega) (by decide) (Nat.le_of_ble_eq_true rfl) ?_
        refine s_X8_anHour hc1.1 hv1 (by omega) (fun c' hc' => ?_)
        refine z_iinc (i := 5) (v := 1) [_, _, _, _, _, _] dX8_comesBy_49 rfl (by decide) (by decide) rfl rfl ?_
        refine z_goto 6 dX8_comesBy_52 (by decide) ?_
        rw [nI_1]
        rw [← gs] at hc'
        split at hx
        · next q =>
          subst hx
          rw [if_pos q] at e
          exact off _ (i + 1) c' (i + 1) (by omega) (by have := nI_pos' (n := i) (by omega); grind) (zfm_tr hc1 hc') e
        · next q =>
          subst hx
          rw [if_neg q] at e
          exact ih (i + 1) c' (by omega) (by omega) (zfm_tr hc1 hc') (by rw [show k + 1 - (i + 1) = s by omega, gs]; exact e)
      refine z_iload (i := 5) dX8_comesBy_6 rfl ?_
      refine z_iload_n (i := 3) dX8_comesBy_8 rfl rfl ?_
      refine z_icmp_gt 55 dX8_comesBy_9 (by decide) (fun h_9 => ?_) (fun h_9 => ?_)
      · have hik : i = k + 1 := by have h9 := h_9; have := mt hlt.mpr; grind
        subst hik
        rw [Nat.sub_self] at e
        refine z_iload (i := 4) dX8_comesBy_55 rfl ?_
        exact z_ret dX8_comesBy_57 (by have e9 : (-1 : Int32) = _ := e; rw [e9]; exact hQ (k + 1) c1 hc1) trivial rfl
      · refine z_iload (i := 4) dX8_comesBy_12 rfl ?_
        refine z_iconst (v := (-1)) dX8_comesBy_14 (by decide) ?_
        refine z_icmp_ne 55 dX8_comesBy_15 (by decide) (fun h_15 => ?_) (fun h_15 => ?_)
        · exact absurd rfl h_15
        have hik : i ≤ k := by have h9 := h_9; grind
        refine z_aload_n (i := 0) dX8_comesBy_18 rfl rfl ?_
        refine z_iload_n (i := 1) dX8_comesBy_19 rfl rfl ?_
        refine z_iconst (v := 4) dX8_comesBy_20 (by decide) ?_
        refine z_Vi (As := [_, _]) dX8_comesBy_21 (by rfl) v_X8_its l_X8_111 (by first | decide | assumption | omega) rfl rfl rfl (by omega) (by decide) (Nat.le_of_ble_eq_true rfl) ?_
        first | refine s_X8_its3 hp6 ?_ | refine s_X8_its4 hp6 ?_
        rw [hc1.1]
        refine z_if_ne 42 dX8_comesBy_24 (by decide) (fun h_24 => ?_) (fun h_24 => ?_)
        · refine z_iconst (v := (-1)) dX8_comesBy_42 (by decide) ?_
          exact cut43 _ hik (by grind)
        · refine z_aload_n (i := 0) dX8_comesBy_27 rfl rfl ?_
          refine z_iload_n (i := 1) dX8_comesBy_28 rfl rfl ?_
          refine z_iconst (v := 3) dX8_comesBy_29 (by decide) ?_
          refine z_Vi (As := [_, _]) dX8_comesBy_30 (by rfl) v_X8_its l_X8_111 (by first | decide | assumption | omega) rfl rfl rfl (by omega) (by decide) (Nat.le_of_ble_eq_true rfl) ?_
          first | refine s_X8_its3 hp6 ?_ | refine s_X8_its4 hp6 ?_
          rw [hc1.1]
          refine z_iload_n (i := 2) dX8_comesBy_33 rfl rfl ?_
          refine z_icmp_lt 42 dX8_comesBy_34 (by decide) (fun h_34 => ?_) (fun h_34 => ?_)
          · refine z_iconst (v := (-1)) dX8_comesBy_42 (by decide) ?_
            exact cut43 _ hik (by grind)
          · refine z_iload (i := 5) dX8_comesBy_37 rfl ?_
            refine z_goto 43 dX8_comesBy_39 (by decide) ?_
            exact cut43 _ hik (by grind)
  refine z_iconst (v := (-1)) dX8_comesBy_0 (by decide) ?_
  refine z_istore (i := 4) [_, _, _, _, _, _] dX8_comesBy_1 (by decide) rfl rfl ?_
  refine z_iconst (v := 0) dX8_comesBy_3 (by decide) ?_
  refine z_istore (i := 5) [_, _, _, _, _, _] dX8_comesBy_4 (by decide) rfl rfl ?_
  exact loop (k + 2) 0 c (by omega) (by omega) zfm_rf rfl
end R3
