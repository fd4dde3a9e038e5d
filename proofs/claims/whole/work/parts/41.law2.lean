/-! the class: laws that become others -/
section LB
variable {l : Launch} {E : zE} {ad : Nat → Nat} {c : zS} {Qf : Int32 → zS → Prop} {d n : Nat}
theorem s_becomes2_32 {m : Nat} (hm : m ≤ 60) (hd : 2 ≤ d) (hQ : ∀ c', c' 2 3 = nI m → c' 2 0 = c 2 0 → (∀ i, i < m → c' 3 i = c 32 i) → (∀ k, k ≠ 2 → k ≠ 3 → c' k = c k) → Qf 0 c') : zCl l E ad mX0_becomes d [.ref (ad 2), .ref (ad 32), .int (nI m)] c Qf := by
  have hpm : (nI m).toNatClampNeg = m := pn_nI (by omega)
  have h0 := nI_pos' (n := m) (by omega)
  refine z_enter (own := RX0) [some (.ref (ad 2)), some (.ref (ad 32)), some (.int (nI m))] (by decide +kernel) rfl rfl rfl (Nat.le_of_ble_eq_true rfl) ?_
  refine z_aload_n (i := 1) dX0_becomes_0 rfl rfl ?_
  refine z_iconst (v := 0) dX0_becomes_1 (by decide) ?_
  refine z_aload_n (i := 0) dX0_becomes_2 rfl rfl ?_
  refine z_getf dX0_becomes_3 f_X0_9 (by first | decide | assumption | omega) rfl (by rfl) ?_
  refine z_iconst (v := 0) dX0_becomes_6 (by decide) ?_
  refine z_iload_n (i := 2) dX0_becomes_7 rfl rfl ?_
  refine z_copy dX0_becomes_8 (by omega) (Nat.le_of_ble_eq_true rfl) l_X0_29 w_acN w_acS w_sysI (by first | decide | assumption | omega) (by first | decide | assumption | omega) rfl (fun _ => rfl) (by decide) (by decide) (by intro q; grind) (by rw [hpm]; show 0 + m ≤ 60; omega) (by rw [hpm]; show 0 + m ≤ 60; omega) ?_
  refine z_aload_n (i := 0) dX0_becomes_11 rfl rfl ?_
  refine z_iload_n (i := 2) dX0_becomes_12 rfl rfl ?_
  refine z_putfi dX0_becomes_13 f_X0_18 fp_X0_3 (by first | decide | assumption | omega) rfl (by exact Nat.le_of_ble_eq_true rfl) rfl ?_
  refine z_ret (r := 0) dX0_becomes_16 (hQ _ ?_ ?_ (fun i hi => ?_) (fun k a b => ?_)) rfl rfl
  · rw [zup_s, pk_us]
  · rw [zup_s, pk_un (by decide), zup_n (by decide)]
  · rw [zup_n (by decide), zup_s, hpm]
    show va_cpy (c 32) (c 3) 0 0 m i = _
    unfold va_cpy
    rw [if_pos (by omega)]
    congr 1
    omega
  · rw [zup_n a, zup_n b]
theorem s_becomes5_32 {m : Nat} (hm : m ≤ 60) (hd : 2 ≤ d) (hQ : ∀ c', c' 5 3 = nI m → c' 5 0 = c 5 0 → (∀ i, i < m → c' 6 i = c 32 i) → (∀ k, k ≠ 5 → k ≠ 6 → c' k = c k) → Qf 0 c') : zCl l E ad mX0_becomes d [.ref (ad 5), .ref (ad 32), .int (nI m)] c Qf := by
  have hpm : (nI m).toNatClampNeg = m := pn_nI (by omega)
  have h0 := nI_pos' (n := m) (by omega)
  refine z_enter (own := RX0) [some (.ref (ad 5)), some (.ref (ad 32)), some (.int (nI m))] (by decide +kernel) rfl rfl rfl (Nat.le_of_ble_eq_true rfl) ?_
  refine z_aload_n (i := 1) dX0_becomes_0 rfl rfl ?_
  refine z_iconst (v := 0) dX0_becomes_1 (by decide) ?_
  refine z_aload_n (i := 0) dX0_becomes_2 rfl rfl ?_
  refine z_getf dX0_becomes_3 f_X0_9 (by first | decide | assumption | omega) rfl (by rfl) ?_
  refine z_iconst (v := 0) dX0_becomes_6 (by decide) ?_
  refine z_iload_n (i := 2) dX0_becomes_7 rfl rfl ?_
  refine z_copy dX0_becomes_8 (by omega) (Nat.le_of_ble_eq_true rfl) l_X0_29 w_acN w_acS w_sysI (by first | decide | assumption | omega) (by first | decide | assumption | omega) rfl (fun _ => rfl) (by decide) (by decide) (by intro q; grind) (by rw [hpm]; show 0 + m ≤ 60; omega) (by rw [hpm]; show 0 + m ≤ 60; omega) ?_
  refine z_aload_n (i := 0) dX0_becomes_11 rfl rfl ?_
  refine z_iload_n (i := 2) dX0_becomes_12 rfl rfl ?_
  refine z_putfi dX0_becomes_13 f_X0_18 fp_X0_3 (by first | decide | assumption | omega) rfl (by exact Nat.le_of_ble_eq_true rfl) rfl ?_
  refine z_ret (r := 0) dX0_becomes_16 (hQ _ ?_ ?_ (fun i hi => ?_) (fun k a b => ?_)) rfl rfl
  · rw [zup_s, pk_us]
  · rw [zup_s, pk_un (by decide), zup_n (by decide)]
  · rw [zup_n (by decide), zup_s, hpm]
    show va_cpy (c 32) (c 6) 0 0 m i = _
    unfold va_cpy
    rw [if_pos (by omega)]
    congr 1
    omega
  · rw [zup_n a, zup_n b]
theorem s_becomes17_3 {m : Nat} (hm : m ≤ 60) (hd : 2 ≤ d) (hQ : ∀ c', c' 17 3 = nI m → c' 17 0 = c 17 0 → (∀ i, i < m → c' 18 i = c 3 i) → (∀ k, k ≠ 17 → k ≠ 18 → c' k = c k) → Qf 0 c') : zCl l E ad mX0_becomes d [.ref (ad 17), .ref (ad 3), .int (nI m)] c Qf := by
  have hpm : (nI m).toNatClampNeg = m := pn_nI (by omega)
  have h0 := nI_pos' (n := m) (by omega)
  refine z_enter (own := RX0) [some (.ref (ad 17)), some (.ref (ad 3)), some (.int (nI m))] (by decide +kernel) rfl rfl rfl (Nat.le_of_ble_eq_true rfl) ?_
  refine z_aload_n (i := 1) dX0_becomes_0 rfl rfl ?_
  refine z_iconst (v := 0) dX0_becomes_1 (by decide) ?_
  refine z_aload_n (i := 0) dX0_becomes_2 rfl rfl ?_
  refine z_getf dX0_becomes_3 f_X0_9 (by first | decide | assumption | omega) rfl (by rfl) ?_
  refine z_iconst (v := 0) dX0_becomes_6 (by decide) ?_
  refine z_iload_n (i := 2) dX0_becomes_7 rfl rfl ?_
  refine z_copy dX0_becomes_8 (by omega) (Nat.le_of_ble_eq_true rfl) l_X0_29 w_acN w_acS w_sysI (by first | decide | assumption | omega) (by first | decide | assumption | omega) rfl (fun _ => rfl) (by decide) (by decide) (by intro q; grind) (by rw [hpm]; show 0 + m ≤ 60; omega) (by rw [hpm]; show 0 + m ≤ 60; omega) ?_
  refine z_aload_n (i := 0) dX0_becomes_11 rfl rfl ?_
  refine z_iload_n (i := 2) dX0_becomes_12 rfl rfl ?_
  refine z_putfi dX0_becomes_13 f_X0_18 fp_X0_3 (by first | decide | assumption | omega) rfl (by exact Nat.le_of_ble_eq_true rfl) rfl ?_
  refine z_ret (r := 0) dX0_becomes_16 (hQ _ ?_ ?_ (fun i hi => ?_) (fun k a b => ?_)) rfl rfl
  · rw [zup_s, pk_us]
  · rw [zup_s, pk_un (by decide), zup_n (by decide)]
  · rw [zup_n (by decide), zup_s, hpm]
    show va_cpy (c 3) (c 18) 0 0 m i = _
    unfold va_cpy
    rw [if_pos (by omega)]
    congr 1
    omega
  · rw [zup_n a, zup_n b]
theorem s_becomes20_6 {m : Nat} (hm : m ≤ 60) (hd : 2 ≤ d) (hQ : ∀ c', c' 20 3 = nI m → c' 20 0 = c 20 0 → (∀ i, i < m → c' 21 i = c 6 i) → (∀ k, k ≠ 20 → k ≠ 21 → c' k = c k) → Qf 0 c') : zCl l E ad mX0_becomes d [.ref (ad 20), .ref (ad 6), .int (nI m)] c Qf := by
  have hpm : (nI m).toNatClampNeg = m := pn_nI (by omega)
  have h0 := nI_pos' (n := m) (by omega)
  refine z_enter (own := RX0) [some (.ref (ad 20)), some (.ref (ad 6)), some (.int (nI m))] (by decide +kernel) rfl rfl rfl (Nat.le_of_ble_eq_true rfl) ?_
  refine z_aload_n (i := 1) dX0_becomes_0 rfl rfl ?_
  refine z_iconst (v := 0) dX0_becomes_1 (by decide) ?_
  refine z_aload_n (i := 0) dX0_becomes_2 rfl rfl ?_
  refine z_getf dX0_becomes_3 f_X0_9 (by first | decide | assumption | omega) rfl (by rfl) ?_
  refine z_iconst (v := 0) dX0_becomes_6 (by decide) ?_
  refine z_iload_n (i := 2) dX0_becomes_7 rfl rfl ?_
  refine z_copy dX0_becomes_8 (by omega) (Nat.le_of_ble_eq_true rfl) l_X0_29 w_acN w_acS w_sysI (by first | decide | assumption | omega) (by first | decide | assumption | omega) rfl (fun _ => rfl) (by decide) (by decide) (by intro q; grind) (by rw [hpm]; show 0 + m ≤ 60; omega) (by rw [hpm]; show 0 + m ≤ 60; omega) ?_
  refine z_aload_n (i := 0) dX0_becomes_11 rfl rfl ?_
  refine z_iload_n (i := 2) dX0_becomes_12 rfl rfl ?_
  refine z_putfi dX0_becomes_13 f_X0_18 fp_X0_3 (by first | decide | assumption | omega) rfl (by exact Nat.le_of_ble_eq_true rfl) rfl ?_
  refine z_ret (r := 0) dX0_becomes_16 (hQ _ ?_ ?_ (fun i hi => ?_) (fun k a b => ?_)) rfl rfl
  · rw [zup_s, pk_us]
  · rw [zup_s, pk_un (by decide), zup_n (by decide)]
  · rw [zup_n (by decide), zup_s, hpm]
    show va_cpy (c 6) (c 21) 0 0 m i = _
    unfold va_cpy
    rw [if_pos (by omega)]
    congr 1
    omega
  · rw [zup_n a, zup_n b]
theorem s_becomes2_18 {m : Nat} (hm : m ≤ 60) (hd : 2 ≤ d) (hQ : ∀ c', c' 2 3 = nI m → c' 2 0 = c 2 0 → (∀ i, i < m → c' 3 i = c 18 i) → (∀ k, k ≠ 2 → k ≠ 3 → c' k = c k) → Qf 0 c') : zCl l E ad mX0_becomes d [.ref (ad 2), .ref (ad 18), .int (nI m)] c Qf := by
  have hpm : (nI m).toNatClampNeg = m := pn_nI (by omega)
  have h0 := nI_pos' (n := m) (by omega)
  refine z_enter (own := RX0) [some (.ref (ad 2)), some (.ref (ad 18)), some (.int (nI m))] (by decide +kernel) rfl rfl rfl (Nat.le_of_ble_eq_true rfl) ?_
  refine z_aload_n (i := 1) dX0_becomes_0 rfl rfl ?_
  refine z_iconst (v := 0) dX0_becomes_1 (by decide) ?_
  refine z_aload_n (i := 0) dX0_becomes_2 rfl rfl ?_
  refine z_getf dX0_becomes_3 f_X0_9 (by first | decide | assumption | omega) rfl (by rfl) ?_
  refine z_iconst (v := 0) dX0_becomes_6 (by decide) ?_
  refine z_iload_n (i := 2) dX0_becomes_7 rfl rfl ?_
  refine z_copy dX0_becomes_8 (by omega) (Nat.le_of_ble_eq_true rfl) l_X0_29 w_acN w_acS w_sysI (by first | decide | assumption | omega) (by first | decide | assumption | omega) rfl (fun _ => rfl) (by decide) (by decide) (by intro q; grind) (by rw [hpm]; show 0 + m ≤ 60; omega) (by rw [hpm]; show 0 + m ≤ 60; omega) ?_
  refine z_aload_n (i := 0) dX0_becomes_11 rfl rfl ?_
  refine z_iload_n (i := 2) dX0_becomes_12 rfl rfl ?_
  refine z_putfi dX0_becomes_13 f_X0_18 fp_X0_3 (by first | decide | assumption | omega) rfl (by exact Nat.le_of_ble_eq_true rfl) rfl ?_
  refine z_ret (r := 0) dX0_becomes_16 (hQ _ ?_ ?_ (fun i hi => ?_) (fun k a b => ?_)) rfl rfl
  · rw [zup_s, pk_us]
  · rw [zup_s, pk_un (by decide), zup_n (by decide)]
  · rw [zup_n (by decide), zup_s, hpm]
    show va_cpy (c 18) (c 3) 0 0 m i = _
    unfold va_cpy
    rw [if_pos (by omega)]
    congr 1
    omega
  · rw [zup_n a, zup_n b]
theorem s_becomes5_21 {m : Nat} (hm : m ≤ 60) (hd : 2 ≤ d) (hQ : ∀ c', c' 5 3 = nI m → c' 5 0 = c 5 0 → (∀ i, i < m → c' 6 i = c 21 i) → (∀ k, k ≠ 5 → k ≠ 6 → c' k = c k) → Qf 0 c') : zCl l E ad mX0_becomes d [.ref (ad 5), .ref (ad 21), .int (nI m)] c Qf := by
  have hpm : (nI m).toNatClampNeg = m := pn_nI (by omega)
  have h0 := nI_pos' (n := m) (by omega)
  refine z_enter (own := RX0) [some (.ref (ad 5)), some (.ref (ad 21)), some (.int (nI m))] (by decide +kernel) rfl rfl rfl (Nat.le_of_ble_eq_true rfl) ?_
  refine z_aload_n (i := 1) dX0_becomes_0 rfl rfl ?_
  refine z_iconst (v := 0) dX0_becomes_1 (by decide) ?_
  refine z_aload_n (i := 0) dX0_becomes_2 rfl rfl ?_
  refine z_getf dX0_becomes_3 f_X0_9 (by first | decide | assumption | omega) rfl (by rfl) ?_
  refine z_iconst (v := 0) dX0_becomes_6 (by decide) ?_
  refine z_iload_n (i := 2) dX0_becomes_7 rfl rfl ?_
  refine z_copy dX0_becomes_8 (by omega) (Nat.le_of_ble_eq_true rfl) l_X0_29 w_acN w_acS w_sysI (by first | decide | assumption | omega) (by first | decide | assumption | omega) rfl (fun _ => rfl) (by decide) (by decide) (by intro q; grind) (by rw [hpm]; show 0 + m ≤ 60; omega) (by rw [hpm]; show 0 + m ≤ 60; omega) ?_
  refine z_aload_n (i := 0) dX0_becomes_11 rfl rfl ?_
  refine z_iload_n (i := 2) dX0_becomes_12 rfl rfl ?_
  refine z_putfi dX0_becomes_13 f_X0_18 fp_X0_3 (by first | decide | assumption | omega) rfl (by exact Nat.le_of_ble_eq_true rfl) rfl ?_
  refine z_ret (r := 0) dX0_becomes_16 (hQ _ ?_ ?_ (fun i hi => ?_) (fun k a b => ?_)) rfl rfl
  · rw [zup_s, pk_us]
  · rw [zup_s, pk_un (by decide), zup_n (by decide)]
  · rw [zup_n (by decide), zup_s, hpm]
    show va_cpy (c 21) (c 6) 0 0 m i = _
    unfold va_cpy
    rw [if_pos (by omega)]
    congr 1
    omega
  · rw [zup_n a, zup_n b]
theorem s_lawcopies17_2 {m : Nat} (hm : m ≤ 60) (hc : c 2 3 = nI m) (hd : 3 ≤ d) (hQ : ∀ c', c' 17 3 = nI m → c' 17 0 = c 17 0 → (∀ i, i < m → c' 18 i = c 3 i) → (∀ k, k ≠ 17 → k ≠ 18 → c' k = c k) → Qf 0 c') : zCl l E ad mX0_copies d [.ref (ad 17), .ref (ad 2)] c Qf := by
  refine z_enter (own := RX0) [some (.ref (ad 17)), some (.ref (ad 2))] (by decide +kernel) rfl rfl rfl (Nat.le_of_ble_eq_true rfl) ?_
  refine z_aload_n (i := 0) dX0_copies_0 rfl rfl ?_
  refine z_aload_n (i := 1) dX0_copies_1 rfl rfl ?_
  refine z_getf dX0_copies_2 f_X0_9 (by first | decide | assumption | omega) rfl (by rfl) ?_
  refine z_aload_n (i := 1) dX0_copies_5 rfl rfl ?_
  refine z_getf dX0_copies_6 f_X0_18 (by first | decide | assumption | omega) rfl (by rfl) ?_
  rw [hc]
  refine z_Vv (As := [_, _]) dX0_copies_9 (by rfl) v_X0_becomes l_X0_25 (by first | decide | assumption | omega) rfl rfl rfl (by omega) (by decide) (Nat.le_of_ble_eq_true rfl) ?_
  refine s_becomes17_3 hm (by omega) (fun c' h1 h2 h3 h4 => ?_)
  exact z_ret (r := 0) dX0_copies_12 (hQ c' h1 h2 h3 h4) rfl rfl
theorem s_lawcopies20_5 {m : Nat} (hm : m ≤ 60) (hc : c 5 3 = nI m) (hd : 3 ≤ d) (hQ : ∀ c', c' 20 3 = nI m → c' 20 0 = c 20 0 → (∀ i, i < m → c' 21 i = c 6 i) → (∀ k, k ≠ 20 → k ≠ 21 → c' k = c k) → Qf 0 c') : zCl l E ad mX0_copies d [.ref (ad 20), .ref (ad 5)] c Qf := by
  refine z_enter (own := RX0) [some (.ref (ad 20)), some (.ref (ad 5))] (by decide +kernel) rfl rfl rfl (Nat.le_of_ble_eq_true rfl) ?_
  refine z_aload_n (i := 0) dX0_copies_0 rfl rfl ?_
  refine z_aload_n (i := 1) dX0_copies_1 rfl rfl ?_
  refine z_getf dX0_copies_2 f_X0_9 (by first | decide | assumption | omega) rfl (by rfl) ?_
  refine z_aload_n (i := 1) dX0_copies_5 rfl rfl ?_
  refine z_getf dX0_copies_6 f_X0_18 (by first | decide | assumption | omega) rfl (by rfl) ?_
  rw [hc]
  refine z_Vv (As := [_, _]) dX0_copies_9 (by rfl) v_X0_becomes l_X0_25 (by first | decide | assumption | omega) rfl rfl rfl (by omega) (by decide) (Nat.le_of_ble_eq_true rfl) ?_
  refine s_becomes20_6 hm (by omega) (fun c' h1 h2 h3 h4 => ?_)
  exact z_ret (r := 0) dX0_copies_12 (hQ c' h1 h2 h3 h4) rfl rfl
theorem s_lawcopies2_17 {m : Nat} (hm : m ≤ 60) (hc : c 17 3 = nI m) (hd : 3 ≤ d) (hQ : ∀ c', c' 2 3 = nI m → c' 2 0 = c 2 0 → (∀ i, i < m → c' 3 i = c 18 i) → (∀ k, k ≠ 2 → k ≠ 3 → c' k = c k) → Qf 0 c') : zCl l E ad mX0_copies d [.ref (ad 2), .ref (ad 17)] c Qf := by
  refine z_enter (own := RX0) [some (.ref (ad 2)), some (.ref (ad 17))] (by decide +kernel) rfl rfl rfl (Nat.le_of_ble_eq_true rfl) ?_
  refine z_aload_n (i := 0) dX0_copies_0 rfl rfl ?_
  refine z_aload_n (i := 1) dX0_copies_1 rfl rfl ?_
  refine z_getf dX0_copies_2 f_X0_9 (by first | decide | assumption | omega) rfl (by rfl) ?_
  refine z_aload_n (i := 1) dX0_copies_5 rfl rfl ?_
  refine z_getf dX0_copies_6 f_X0_18 (by first | decide | assumption | omega) rfl (by rfl) ?_
  rw [hc]
  refine z_Vv (As := [_, _]) dX0_copies_9 (by rfl) v_X0_becomes l_X0_25 (by first | decide | assumption | omega) rfl rfl rfl (by omega) (by decide) (Nat.le_of_ble_eq_true rfl) ?_
  refine s_becomes2_18 hm (by omega) (fun c' h1 h2 h3 h4 => ?_)
  exact z_ret (r := 0) dX0_copies_12 (hQ c' h1 h2 h3 h4) rfl rfl
theorem s_lawcopies5_20 {m : Nat} (hm : m ≤ 60) (hc : c 20 3 = nI m) (hd : 3 ≤ d) (hQ : ∀ c', c' 5 3 = nI m → c' 5 0 = c 5 0 → (∀ i, i < m → c' 6 i = c 21 i) → (∀ k, k ≠ 5 → k ≠ 6 → c' k = c k) → Qf 0 c') : zCl l E ad mX0_copies d [.ref (ad 5), .ref (ad 20)] c Qf := by
  refine z_enter (own := RX0) [some (.ref (ad 5)), some (.ref (ad 20))] (by decide +kernel) rfl rfl rfl (Nat.le_of_ble_eq_true rfl) ?_
  refine z_aload_n (i := 0) dX0_copies_0 rfl rfl ?_
  refine z_aload_n (i := 1) dX0_copies_1 rfl rfl ?_
  refine z_getf dX0_copies_2 f_X0_9 (by first | decide | assumption | omega) rfl (by rfl) ?_
  refine z_aload_n (i := 1) dX0_copies_5 rfl rfl ?_
  refine z_getf dX0_copies_6 f_X0_18 (by first | decide | assumption | omega) rfl (by rfl) ?_
  rw [hc]
  refine z_Vv (As := [_, _]) dX0_copies_9 (by rfl) v_X0_becomes l_X0_25 (by first | decide | assumption | omega) rfl rfl rfl (by omega) (by decide) (Nat.le_of_ble_eq_true rfl) ?_
  refine s_becomes5_21 hm (by omega) (fun c' h1 h2 h3 h4 => ?_)
  exact z_ret (r := 0) dX0_copies_12 (hQ c' h1 h2 h3 h4) rfl rfl
end LB
