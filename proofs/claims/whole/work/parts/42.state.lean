/-! the class: a State copied -/
/-- a State of the class at T, its Pass at P, its laws at L0, L1 with codes C0, C1, its tape at A, its waits at W -/
def ST (c : zS) (T P L0 C0 L1 C1 A W n t m : Nat) (f : zN) : Prop := PR c P n f ∧ LR c L0 C0 0 f ∧ LR c L1 C1 1 f ∧ c T 4 = nI t ∧ c T 6 = nI m ∧ c T 7 = f 2 ∧ (∀ i, i < t → c A i = f (288 + i)) ∧ ∀ i, i < m → c W i = f (348 + i)
section SC
variable {l : Launch} {E : zE} {ad : Nat → Nat} {c : zS} {Qf : Int32 → zS → Prop} {d n t m : Nat}
theorem s_stcopies16_1 {f : zN} (h : ST c 1 8 2 3 5 6 14 15 n t m f) (hv : vaF f n) (hb : ∀ i, i < n → f (8 + 5 * i + 4) = 0 ∨ f (8 + 5 * i + 4) = 1) (ht : t ≤ 60) (hm : m ≤ 24) (hu0 : c 17 0 = nI 0) (hu1 : c 20 0 = nI 1) (hd : 5 ≤ d) (hQ : ∀ c', ST c' 16 23 17 18 20 21 29 30 n t m f → (∀ k, k < 16 ∨ 30 < k → c' k = c k) → Qf 0 c') : zCl l E ad mX4_copies d [.ref (ad 16), .ref (ad 1)] c Qf := by
  obtain ⟨hR, hL0, hL1, h4, h6, h7, hA, hW⟩ := h
  obtain ⟨hn, hn6, ⟨m0, hm0, e0, _⟩, ⟨m1, hm1, e1, _⟩⟩ := hv
  have p0 : pn (f (38 + 125 * 0)) = m0 := by rw [e0]; exact pn_nI (by omega)
  have p1 : pn (f (38 + 125 * 1)) = m1 := by rw [e1]; exact pn_nI (by omega)
  refine z_enter (own := RX4) [some (.ref (ad 16)), some (.ref (ad 1))] (by decide +kernel) rfl rfl rfl (Nat.le_of_ble_eq_true rfl) ?_
  refine z_aload_n (i := 0) dX4_copies_0 rfl rfl ?_
  refine z_getf dX4_copies_1 f_X4_14 (by first | decide | assumption | omega) rfl (by rfl) ?_
  refine z_aload_n (i := 1) dX4_copies_4 rfl rfl ?_
  refine z_getf dX4_copies_5 f_X4_14 (by first | decide | assumption | omega) rfl (by rfl) ?_
  refine z_Vv (As := [_]) dX4_copies_8 (by rfl) v_X0_copies l_X4_49 (by first | decide | assumption | omega) rfl rfl rfl (by omega) (by decide) (Nat.le_of_ble_eq_true rfl) ?_
  refine s_lawcopies17_2 hm0 (hL0.2.1.trans e0) (by omega) (fun c1 a1 a2 a3 a4 => ?_)
  refine z_aload_n (i := 0) dX4_copies_11 rfl rfl ?_
  refine z_getf dX4_copies_12 f_X4_20 (by first | decide | assumption | omega) rfl (by rfl) ?_
  refine z_aload_n (i := 1) dX4_copies_15 rfl rfl ?_
  refine z_getf dX4_copies_16 f_X4_20 (by first | decide | assumption | omega) rfl (by rfl) ?_
  refine z_Vv (As := [_]) dX4_copies_19 (by rfl) v_X0_copies l_X4_49 (by first | decide | assumption | omega) rfl rfl rfl (by omega) (by decide) (Nat.le_of_ble_eq_true rfl) ?_
  refine s_lawcopies20_5 hm1 (by rw [a4 5 (by decide) (by decide)]; exact hL1.2.1.trans e1) (by omega) (fun c2 b1 b2 b3 b4 => ?_)
  refine z_aload_n (i := 0) dX4_copies_22 rfl rfl ?_
  refine z_getf dX4_copies_23 f_X4_28 (by first | decide | assumption | omega) rfl (by rfl) ?_
  refine z_aload_n (i := 1) dX4_copies_26 rfl rfl ?_
  refine z_getf dX4_copies_27 f_X4_28 (by first | decide | assumption | omega) rfl (by rfl) ?_
  refine z_Vv (As := [_]) dX4_copies_30 (by rfl) v_X1_copies l_X4_53 (by first | decide | assumption | omega) rfl rfl rfl (by omega) (by decide) (Nat.le_of_ble_eq_true rfl) ?_
  refine s_copies23_8 (f := f) (PR_cg hR (fun k x y => by rw [b4 k (by omega) (by omega), a4 k (by omega) (by omega)])) hn6 hb (fun c3 hR3 f3 => ?_)
  have hc3 : ∀ k, k ≠ 17 → k ≠ 18 → k ≠ 20 → k ≠ 21 → (k < 23 ∨ 28 < k) → c3 k = c k := fun k x y z w v => by rw [f3 k v, b4 k z w, a4 k x y]
  refine z_aload_n (i := 1) dX4_copies_33 rfl rfl ?_
  refine z_getf dX4_copies_34 f_X4_32 (by first | decide | assumption | omega) rfl (by rfl) ?_
  refine z_iconst (v := 0) dX4_copies_37 (by decide) ?_
  refine z_aload_n (i := 0) dX4_copies_38 rfl rfl ?_
  refine z_getf dX4_copies_39 f_X4_32 (by first | decide | assumption | omega) rfl (by rfl) ?_
  refine z_iconst (v := 0) dX4_copies_42 (by decide) ?_
  refine z_bipush (v := 60) dX4_copies_43 (by decide) ?_
  refine z_copy dX4_copies_45 (by omega) (Nat.le_of_ble_eq_true rfl) l_X4_56 w_acN w_acS w_sysI (by first | decide | assumption | omega) (by first | decide | assumption | omega) rfl (fun _ => rfl) (by decide) (by decide) (by decide) (by decide) (by decide) ?_
  refine z_aload_n (i := 0) dX4_copies_48 rfl rfl ?_
  refine z_aload_n (i := 1) dX4_copies_49 rfl rfl ?_
  refine z_getf dX4_copies_50 f_X4_36 (by first | decide | assumption | omega) rfl (by rfl) ?_
  refine z_putfi dX4_copies_53 f_X4_36 fp_X4_4 (by first | decide | assumption | omega) rfl (by exact Nat.le_of_ble_eq_true rfl) rfl ?_
  refine z_aload_n (i := 1) dX4_copies_56 rfl rfl ?_
  refine z_getf dX4_copies_57 f_X4_40 (by first | decide | assumption | omega) rfl (by rfl) ?_
  refine z_iconst (v := 0) dX4_copies_60 (by decide) ?_
  refine z_aload_n (i := 0) dX4_copies_61 rfl rfl ?_
  refine z_getf dX4_copies_62 f_X4_40 (by first | decide | assumption | omega) rfl (by rfl) ?_
  refine z_iconst (v := 0) dX4_copies_65 (by decide) ?_
  refine z_bipush (v := 24) dX4_copies_66 (by decide) ?_
  refine z_copy dX4_copies_68 (by omega) (Nat.le_of_ble_eq_true rfl) l_X4_56 w_acN w_acS w_sysI (by first | decide | assumption | omega) (by first | decide | assumption | omega) rfl (fun _ => rfl) (by decide) (by decide) (by decide) (by decide) (by decide) ?_
  refine z_aload_n (i := 0) dX4_copies_71 rfl rfl ?_
  refine z_aload_n (i := 1) dX4_copies_72 rfl rfl ?_
  refine z_getf dX4_copies_73 f_X4_43 (by first | decide | assumption | omega) rfl (by rfl) ?_
  refine z_putfi dX4_copies_76 f_X4_43 fp_X4_6 (by first | decide | assumption | omega) rfl (by exact Nat.le_of_ble_eq_true rfl) rfl ?_
  refine z_aload_n (i := 0) dX4_copies_79 rfl rfl ?_
  refine z_aload_n (i := 1) dX4_copies_80 rfl rfl ?_
  refine z_getf dX4_copies_81 f_X4_46 (by first | decide | assumption | omega) rfl (by rfl) ?_
  refine z_putfi dX4_copies_84 f_X4_46 fp_X4_7 (by first | decide | assumption | omega) rfl (by exact Nat.le_of_ble_eq_true rfl) rfl ?_
  refine z_ret (r := 0) dX4_copies_87 (hQ _ ⟨PR_cg hR3 (fun k x y => by simp (disch := omega) only [zup_n]), ⟨?_, ?_, fun i hi => ?_⟩, ⟨?_, ?_, fun i hi => ?_⟩, ?_, ?_, ?_, fun i hi => ?_, fun i hi => ?_⟩ (fun k hk => ?_)) rfl rfl
  · simp (disch := omega) only [zup_n]
    rw [f3 17 (by omega), b4 17 (by decide) (by decide), a2, hu0]
  · simp (disch := omega) only [zup_n]
    rw [f3 17 (by omega), b4 17 (by decide) (by decide), a1, e0]
  · rw [p0] at hi
    simp (disch := omega) only [zup_n]
    rw [f3 18 (by omega), b4 18 (by decide) (by decide), a3 i hi]
    exact hL0.2.2 i (by rw [p0]; exact hi)
  · simp (disch := omega) only [zup_n]
    rw [f3 20 (by omega), b2, a4 20 (by decide) (by decide), hu1]
  · simp (disch := omega) only [zup_n]
    rw [f3 20 (by omega), b1, e1]
  · rw [p1] at hi
    simp (disch := omega) only [zup_n]
    rw [f3 21 (by omega), b3 i hi, a4 6 (by decide) (by decide)]
    exact hL1.2.2 i (by rw [p1]; exact hi)
  · simp (disch := omega) only [zup_n, zup_s, pk_us, pk_un (show (4 : Nat) ≠ 6 by decide), pk_un (show (4 : Nat) ≠ 7 by decide)]
    rw [hc3 1 (by decide) (by decide) (by decide) (by decide) (by omega), h4]
  · simp (disch := omega) only [zup_n, zup_s, pk_us, pk_un (show (6 : Nat) ≠ 7 by decide)]
    rw [hc3 1 (by decide) (by decide) (by decide) (by decide) (by omega), h6]
  · simp (disch := omega) only [zup_n, zup_s, pk_us]
    rw [hc3 1 (by decide) (by decide) (by decide) (by decide) (by omega), h7]
  · simp (disch := omega) only [zup_n, zup_s]
    show va_cpy (c3 14) (c3 29) 0 0 60 i = _
    unfold va_cpy
    rw [if_pos (by omega), hc3 14 (by decide) (by decide) (by decide) (by decide) (by omega), ← hA i hi]
    congr 1
    omega
  · simp (disch := omega) only [zup_n, zup_s]
    show va_cpy (c3 15) (c3 30) 0 0 24 i = _
    unfold va_cpy
    rw [if_pos (by omega), hc3 15 (by decide) (by decide) (by decide) (by decide) (by omega), ← hW i hi]
    congr 1
    omega
  · simp (disch := omega) only [zup_n]
    exact hc3 k (by omega) (by omega) (by omega) (by omega) (by omega)
theorem s_stcopies1_16 {f : zN} (h : ST c 16 23 17 18 20 21 29 30 n t m f) (hv : vaF f n) (hb : ∀ i, i < n → f (8 + 5 * i + 4) = 0 ∨ f (8 + 5 * i + 4) = 1) (ht : t ≤ 60) (hm : m ≤ 24) (hu0 : c 2 0 = nI 0) (hu1 : c 5 0 = nI 1) (hd : 5 ≤ d) (hQ : ∀ c', ST c' 1 8 2 3 5 6 14 15 n t m f → (∀ k, k = 0 ∨ 16 ≤ k → c' k = c k) → Qf 0 c') : zCl l E ad mX4_copies d [.ref (ad 1), .ref (ad 16)] c Qf := by
  obtain ⟨hR, hL0, hL1, h4, h6, h7, hA, hW⟩ := h
  obtain ⟨hn, hn6, ⟨m0, hm0, e0, _⟩, ⟨m1, hm1, e1, _⟩⟩ := hv
  have p0 : pn (f (38 + 125 * 0)) = m0 := by rw [e0]; exact pn_nI (by omega)
  have p1 : pn (f (38 + 125 * 1)) = m1 := by rw [e1]; exact pn_nI (by omega)
  refine z_enter (own := RX4) [some (.ref (ad 1)), some (.ref (ad 16))] (by decide +kernel) rfl rfl rfl (Nat.le_of_ble_eq_true rfl) ?_
  refine z_aload_n (i := 0) dX4_copies_0 rfl rfl ?_
  refine z_getf dX4_copies_1 f_X4_14 (by first | decide | assumption | omega) rfl (by rfl) ?_
  refine z_aload_n (i := 1) dX4_copies_4 rfl rfl ?_
  refine z_getf dX4_copies_5 f_X4_14 (by first | decide | assumption | omega) rfl (by rfl) ?_
  refine z_Vv (As := [_]) dX4_copies_8 (by rfl) v_X0_copies l_X4_49 (by first | decide | assumption | omega) rfl rfl rfl (by omega) (by decide) (Nat.le_of_ble_eq_true rfl) ?_
  refine s_lawcopies2_17 hm0 (hL0.2.1.trans e0) (by omega) (fun c1 a1 a2 a3 a4 => ?_)
  refine z_aload_n (i := 0) dX4_copies_11 rfl rfl ?_
  refine z_getf dX4_copies_12 f_X4_20 (by first | decide | assumption | omega) rfl (by rfl) ?_
  refine z_aload_n (i := 1) dX4_copies_15 rfl rfl ?_
  refine z_getf dX4_copies_16 f_X4_20 (by first | decide | assumption | omega) rfl (by rfl) ?_
  refine z_Vv (As := [_]) dX4_copies_19 (by rfl) v_X0_copies l_X4_49 (by first | decide | assumption | omega) rfl rfl rfl (by omega) (by decide) (Nat.le_of_ble_eq_true rfl) ?_
  refine s_lawcopies5_20 hm1 (by rw [a4 20 (by decide) (by decide)]; exact hL1.2.1.trans e1) (by omega) (fun c2 b1 b2 b3 b4 => ?_)
  refine z_aload_n (i := 0) dX4_copies_22 rfl rfl ?_
  refine z_getf dX4_copies_23 f_X4_28 (by first | decide | assumption | omega) rfl (by rfl) ?_
  refine z_aload_n (i := 1) dX4_copies_26 rfl rfl ?_
  refine z_getf dX4_copies_27 f_X4_28 (by first | decide | assumption | omega) rfl (by rfl) ?_
  refine z_Vv (As := [_]) dX4_copies_30 (by rfl) v_X1_copies l_X4_53 (by first | decide | assumption | omega) rfl rfl rfl (by omega) (by decide) (Nat.le_of_ble_eq_true rfl) ?_
  refine s_copies8_23 (f := f) (PR_cg hR (fun k x y => by rw [b4 k (by omega) (by omega), a4 k (by omega) (by omega)])) hn6 hb (fun c3 hR3 f3 => ?_)
  have hc3 : ∀ k, k ≠ 2 → k ≠ 3 → k ≠ 5 → k ≠ 6 → (k < 8 ∨ 13 < k) → c3 k = c k := fun k x y z w v => by rw [f3 k v, b4 k z w, a4 k x y]
  refine z_aload_n (i := 1) dX4_copies_33 rfl rfl ?_
  refine z_getf dX4_copies_34 f_X4_32 (by first | decide | assumption | omega) rfl (by rfl) ?_
  refine z_iconst (v := 0) dX4_copies_37 (by decide) ?_
  refine z_aload_n (i := 0) dX4_copies_38 rfl rfl ?_
  refine z_getf dX4_copies_39 f_X4_32 (by first | decide | assumption | omega) rfl (by rfl) ?_
  refine z_iconst (v := 0) dX4_copies_42 (by decide) ?_
  refine z_bipush (v := 60) dX4_copies_43 (by decide) ?_
  refine z_copy dX4_copies_45 (by omega) (Nat.le_of_ble_eq_true rfl) l_X4_56 w_acN w_acS w_sysI (by first | decide | assumption | omega) (by first | decide | assumption | omega) rfl (fun _ => rfl) (by decide) (by decide) (by decide) (by decide) (by decide) ?_
  refine z_aload_n (i := 0) dX4_copies_48 rfl rfl ?_
  refine z_aload_n (i := 1) dX4_copies_49 rfl rfl ?_
  refine z_getf dX4_copies_50 f_X4_36 (by first | decide | assumption | omega) rfl (by rfl) ?_
  refine z_putfi dX4_copies_53 f_X4_36 fp_X4_4 (by first | decide | assumption | omega) rfl (by exact Nat.le_of_ble_eq_true rfl) rfl ?_
  refine z_aload_n (i := 1) dX4_copies_56 rfl rfl ?_
  refine z_getf dX4_copies_57 f_X4_40 (by first | decide | assumption | omega) rfl (by rfl) ?_
  refine z_iconst (v := 0) dX4_copies_60 (by decide) ?_
  refine z_aload_n (i := 0) dX4_copies_61 rfl rfl ?_
  refine z_getf dX4_copies_62 f_X4_40 (by first | decide | assumption | omega) rfl (by rfl) ?_
  refine z_iconst (v := 0) dX4_copies_65 (by decide) ?_
  refine z_bipush (v := 24) dX4_copies_66 (by decide) ?_
  refine z_copy dX4_copies_68 (by omega) (Nat.le_of_ble_eq_true rfl) l_X4_56 w_acN w_acS w_sysI (by first | decide | assumption | omega) (by first | decide | assumption | omega) rfl (fun _ => rfl) (by decide) (by decide) (by decide) (by decide) (by decide) ?_
  refine z_aload_n (i := 0) dX4_copies_71 rfl rfl ?_
  refine z_aload_n (i := 1) dX4_copies_72 rfl rfl ?_
  refine z_getf dX4_copies_73 f_X4_43 (by first | decide | assumption | omega) rfl (by rfl) ?_
  refine z_putfi dX4_copies_76 f_X4_43 fp_X4_6 (by first | decide | assumption | omega) rfl (by exact Nat.le_of_ble_eq_true rfl) rfl ?_
  refine z_aload_n (i := 0) dX4_copies_79 rfl rfl ?_
  refine z_aload_n (i := 1) dX4_copies_80 rfl rfl ?_
  refine z_getf dX4_copies_81 f_X4_46 (by first | decide | assumption | omega) rfl (by rfl) ?_
  refine z_putfi dX4_copies_84 f_X4_46 fp_X4_7 (by first | decide | assumption | omega) rfl (by exact Nat.le_of_ble_eq_true rfl) rfl ?_
  refine z_ret (r := 0) dX4_copies_87 (hQ _ ⟨PR_cg hR3 (fun k x y => by simp (disch := omega) only [zup_n]), ⟨?_, ?_, fun i hi => ?_⟩, ⟨?_, ?_, fun i hi => ?_⟩, ?_, ?_, ?_, fun i hi => ?_, fun i hi => ?_⟩ (fun k hk => ?_)) rfl rfl
  · simp (disch := omega) only [zup_n]
    rw [f3 2 (by omega), b4 2 (by decide) (by decide), a2, hu0]
  · simp (disch := omega) only [zup_n]
    rw [f3 2 (by omega), b4 2 (by decide) (by decide), a1, e0]
  · rw [p0] at hi
    simp (disch := omega) only [zup_n]
    rw [f3 3 (by omega), b4 3 (by decide) (by decide), a3 i hi]
    exact hL0.2.2 i (by rw [p0]; exact hi)
  · simp (disch := omega) only [zup_n]
    rw [f3 5 (by omega), b2, a4 5 (by decide) (by decide), hu1]
  · simp (disch := omega) only [zup_n]
    rw [f3 5 (by omega), b1, e1]
  · rw [p1] at hi
    simp (disch := omega) only [zup_n]
    rw [f3 6 (by omega), b3 i hi, a4 21 (by decide) (by decide)]
    exact hL1.2.2 i (by rw [p1]; exact hi)
  · simp (disch := omega) only [zup_n, zup_s, pk_us, pk_un (show (4 : Nat) ≠ 6 by decide), pk_un (show (4 : Nat) ≠ 7 by decide)]
    rw [hc3 16 (by decide) (by decide) (by decide) (by decide) (by omega), h4]
  · simp (disch := omega) only [zup_n, zup_s, pk_us, pk_un (show (6 : Nat) ≠ 7 by decide)]
    rw [hc3 16 (by decide) (by decide) (by decide) (by decide) (by omega), h6]
  · simp (disch := omega) only [zup_n, zup_s, pk_us]
    rw [hc3 16 (by decide) (by decide) (by decide) (by decide) (by omega), h7]
  · simp (disch := omega) only [zup_n, zup_s]
    show va_cpy (c3 29) (c3 14) 0 0 60 i = _
    unfold va_cpy
    rw [if_pos (by omega), hc3 29 (by decide) (by decide) (by decide) (by decide) (by omega), ← hA i hi]
    congr 1
    omega
  · simp (disch := omega) only [zup_n, zup_s]
    show va_cpy (c3 30) (c3 15) 0 0 24 i = _
    unfold va_cpy
    rw [if_pos (by omega), hc3 30 (by decide) (by decide) (by decide) (by decide) (by omega), ← hW i hi]
    congr 1
    omega
  · simp (disch := omega) only [zup_n]
    exact hc3 k (by omega) (by omega) (by omega) (by omega) (by omega)
end SC
