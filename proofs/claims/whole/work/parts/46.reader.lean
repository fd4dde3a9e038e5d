/-! the class: its reader's small methods -/
theorem i2b_255 : ∀ j, j < 256 → ((nI j).toInt8.toInt32 = 99 ↔ j = 99) ∧ ((nI j).toInt8.toInt32 = 115 ↔ j = 115) ∧ ((nI j).toInt8.toInt32 = 104 ↔ j = 104) ∧ ((nI j).toInt8.toInt32 = 109 ↔ j = 109) ∧ ((nI j).toInt8.toInt32 = 107 ↔ j = 107) ∧ ((nI j).toUInt32 % 65536).toInt32 = nI j := by decide +kernel
theorem lk_def {ps : List (Int × Int)} {dflt k : Int} (h : ∀ q ∈ ps.map Prod.fst, q ≠ k) : Op.lookupswitch.offset ps dflt k = dflt := by
  refine Op.lookupswitch.offset_none (List.find?_eq_none.mpr (fun p hp => ?_))
  have h1 := h p.1 (List.mem_map.mpr ⟨p, hp, rfl⟩)
  simpa using h1
/-- where a byte stands among the three names -/
def nxF (k : Nat) (b : Int32) : Int32 := if b = 99 then 0 else if b = (if k = 1 then 115 else 109) then 1 else if b = (if k = 1 then 104 else 107) then 2 else -1
section RA
variable {l : Launch} {E : zE} {ad : Nat → Nat} {c : zS} {Qf : Int32 → zS → Prop} {d n : Nat}
theorem s_J0_coder {k : Nat} (hk : k < 3) (hQ : Qf 0 c) : zCl l E ad mJ0_coder_7d493 d [.ref (ad (64 + k))] c Qf := by
  refine z_enter (own := RJ0) [some (.ref (ad (64 + k)))] (by decide +kernel) rfl rfl rfl (Nat.le_of_ble_eq_true rfl) ?_
  refine z_gsCompact dJ0_coder_7d493_0 f_J0_38 ?_
  refine z_if_eq 13 dJ0_coder_7d493_3 (by decide) (fun h_3 => ?_) (fun h_3 => ?_)
  · exact absurd h_3 (by decide)
  refine z_aload_n (i := 0) dJ0_coder_7d493_6 rfl rfl ?_
  refine z_scoder dJ0_coder_7d493_7 (by assumption) f_J0_15 ?_
  refine z_goto 14 dJ0_coder_7d493_10 (by decide) ?_
  exact z_ret (r := 0) dJ0_coder_7d493_14 hQ (by rfl) rfl
theorem s_J0_isLatin1 {k : Nat} (hk : k < 3) (hQ : Qf 1 c) : zCl l E ad mJ0_isLatin1_aae02 d [.ref (ad (64 + k))] c Qf := by
  refine z_enter (own := RJ0) [some (.ref (ad (64 + k)))] (by decide +kernel) rfl rfl rfl (Nat.le_of_ble_eq_true rfl) ?_
  refine z_gsCompact dJ0_isLatin1_aae02_0 f_J0_38 ?_
  refine z_if_eq 17 dJ0_isLatin1_aae02_3 (by decide) (fun h_3 => ?_) (fun h_3 => ?_)
  · exact absurd h_3 (by decide)
  refine z_aload_n (i := 0) dJ0_isLatin1_aae02_6 rfl rfl ?_
  refine z_scoder dJ0_isLatin1_aae02_7 (by assumption) f_J0_15 ?_
  refine z_if_ne 17 dJ0_isLatin1_aae02_10 (by decide) (fun h_10 => ?_) (fun h_10 => ?_)
  · exact absurd rfl h_10
  refine z_iconst (v := 1) dJ0_isLatin1_aae02_13 (by decide) ?_
  refine z_goto 18 dJ0_isLatin1_aae02_14 (by decide) ?_
  exact z_ret (r := 1) dJ0_isLatin1_aae02_18 hQ (by rfl) rfl
theorem s_J0_length {k : Nat} (hk : k < 3) (h1 : k = 1 ∨ k = 2) (hd : 1 ≤ d) (hQ : Qf 3 c) : zCl l E ad mJ0_length_8abf5 d [.ref (ad (64 + k))] c Qf := by
  refine z_enter (own := RJ0) [some (.ref (ad (64 + k)))] (by decide +kernel) rfl rfl rfl (Nat.le_of_ble_eq_true rfl) ?_
  have e3 : Int32.ofNat (([0, 3, 3] : List Nat).getD k 0) = 3 := by rcases h1 with rfl | rfl <;> rfl
  refine z_aload_n (i := 0) dJ0_length_8abf5_0 rfl rfl ?_
  refine z_svalue dJ0_length_8abf5_1 (by assumption) f_J0_9 ?_
  refine z_sblen dJ0_length_8abf5_4 (by assumption) e3 ?_
  refine z_aload_n (i := 0) dJ0_length_8abf5_5 rfl rfl ?_
  refine z_call (rk' := 4) (As := []) (b := _) dJ0_length_8abf5_6 (by rfl) v_J0_coder_7d493 l_J0_335 (z_recS (by assumption)) rfl (by omega) (by decide) (Nat.le_of_ble_eq_true rfl) ?_
  refine s_J0_coder hk ?_
  refine z_ishr dJ0_length_8abf5_9 ?_
  exact z_ret (r := 3) dJ0_length_8abf5_10 hQ trivial rfl
theorem s_J1_canEncode {j : Nat} (hj : j < 256) (hQ : Qf 1 c) : zCl l E ad mJ1_canEncode_9a6ad d [.int (nI j)] c Qf := by
  have h0 := nI_pos' (n := j) (by omega)
  have h255 := nI_leI (a := j) (b := 255) (by omega) (by omega)
  refine z_enter (own := RJ1) [some (.int (nI j))] (by decide +kernel) rfl rfl rfl (Nat.le_of_ble_eq_true rfl) ?_
  refine z_iload_n (i := 0) dJ1_canEncode_9a6ad_0 rfl rfl ?_
  refine z_if_lt 15 dJ1_canEncode_9a6ad_1 (by decide) (fun h_1 => ?_) (fun h_1 => ?_)
  · exfalso; grind
  refine z_iload_n (i := 0) dJ1_canEncode_9a6ad_4 rfl rfl ?_
  refine z_sipush (v := 255) dJ1_canEncode_9a6ad_5 (by decide) ?_
  refine z_icmp_gt 15 dJ1_canEncode_9a6ad_8 (by decide) (fun h_8 => ?_) (fun h_8 => ?_)
  · exfalso; have h9 : nI j ≤ (255 : Int32) := h255.mpr (by omega); grind
  refine z_iconst (v := 1) dJ1_canEncode_9a6ad_11 (by decide) ?_
  refine z_goto 16 dJ1_canEncode_9a6ad_12 (by decide) ?_
  exact z_ret (r := 1) dJ1_canEncode_9a6ad_16 hQ (by rfl) rfl
theorem s_J1_indexOfChar {k j : Nat} (hk : k < 3) (h1 : k = 1 ∨ k = 2) (hj : j < 256) (hQ : Qf (nxF k (nI j)) c) : zCl l E ad mJ1_indexOfChar_4cfef d [.ref (ad (67 + k)), .int (nI j), .int 0, .int 3] c Qf := by
  obtain ⟨b1, b2, b3, b4, b5, b6⟩ := i2b_255 j hj
  have a1 : nI j = 99 ↔ j = 99 := nI_eq (a := j) (b := 99) (by omega) (by omega)
  have a2 : nI j = 115 ↔ j = 115 := nI_eq (a := j) (b := 115) (by omega) (by omega)
  have a3 : nI j = 104 ↔ j = 104 := nI_eq (a := j) (b := 104) (by omega) (by omega)
  have a4 : nI j = 109 ↔ j = 109 := nI_eq (a := j) (b := 109) (by omega) (by omega)
  have a5 : nI j = 107 ↔ j = 107 := nI_eq (a := j) (b := 107) (by omega) (by omega)
  unfold nxF at hQ
  refine z_enter (own := RJ1) [some (.ref (ad (67 + k))), some (.int (nI j)), some (.int 0), some (.int 3), none, none] (by decide +kernel) rfl rfl rfl (Nat.le_of_ble_eq_true rfl) ?_
  have step : ∀ (i : Nat) (v : Int32), i < 3 → ([0, 3, 3] : List Nat).getD k 0 = 3 → (([[], [99, 115, 104], [99, 109, 107]] : List (List Int32)).getD k []).getD i 0 = v → (v = (nI j).toInt8.toInt32 → Qf (nI i) c) → (¬ v = (nI j).toInt8.toInt32 → zW l E ad RJ1 cJ1_indexOfChar_4cfef 6 1 d Qf 7 [some (.ref (ad (67 + k))), some (.int (nI j)), some (.int 0), some (.int 3), some (.int (nI j).toInt8.toInt32), some (.int (nI (i + 1)))] [] c) → zW l E ad RJ1 cJ1_indexOfChar_4cfef 6 1 d Qf 7 [some (.ref (ad (67 + k))), some (.int (nI j)), some (.int 0), some (.int 3), some (.int (nI j).toInt8.toInt32), some (.int (nI i))] [] c := by
    intro i v hi e3 ev q1 q2
    have hlt := nI_leI (a := 3) (b := i) (by omega) (by omega)
    refine z_iload (i := 5) dJ1_indexOfChar_4cfef_7 rfl ?_
    refine z_iload_n (i := 3) dJ1_indexOfChar_4cfef_9 rfl rfl ?_
    refine z_icmp_ge 31 dJ1_indexOfChar_4cfef_10 (by decide) (fun h_10 => ?_) (fun h_10 => ?_)
    · exfalso; have := hlt.mp h_10; omega
    refine z_aload_n (i := 0) dJ1_indexOfChar_4cfef_13 rfl rfl ?_
    refine z_iload (i := 5) dJ1_indexOfChar_4cfef_14 rfl ?_
    refine z_sbyte (k := k) (j := i) (v := v) dJ1_indexOfChar_4cfef_16 hk e3 (by rfl) hi (by decide) ev ?_
    refine z_iload (i := 4) dJ1_indexOfChar_4cfef_17 rfl ?_
    refine z_icmp_ne 25 dJ1_indexOfChar_4cfef_19 (by decide) (fun h_19 => ?_) (fun h_19 => ?_)
    · refine z_iinc (i := 5) (v := 1) [_, _, _, _, _, _] dJ1_indexOfChar_4cfef_25 rfl (by decide) (by decide) rfl rfl ?_
      refine z_goto 7 dJ1_indexOfChar_4cfef_28 (by decide) ?_
      rw [nI_1]
      exact q2 (by first | exact h_19 | assumption)
    · refine z_iload (i := 5) dJ1_indexOfChar_4cfef_22 rfl ?_
      exact z_ret dJ1_indexOfChar_4cfef_24 (q1 (by first | exact h_19 | exact Classical.not_not.mp h_19)) trivial rfl
  have at3 : Qf (-1) c → zW l E ad RJ1 cJ1_indexOfChar_4cfef 6 1 d Qf 7 [some (.ref (ad (67 + k))), some (.int (nI j)), some (.int 0), some (.int 3), some (.int (nI j).toInt8.toInt32), some (.int (nI 3))] [] c := by
    intro q
    refine z_iload (i := 5) dJ1_indexOfChar_4cfef_7 rfl ?_
    refine z_iload_n (i := 3) dJ1_indexOfChar_4cfef_9 rfl rfl ?_
    refine z_icmp_ge 31 dJ1_indexOfChar_4cfef_10 (by decide) (fun h_10 => ?_) (fun h_10 => ?_)
    rotate_left
    · exact absurd (by decide) h_10
    refine z_iconst (v := (-1)) dJ1_indexOfChar_4cfef_31 (by decide) ?_
    exact z_ret dJ1_indexOfChar_4cfef_32 q trivial rfl
  refine z_iload_n (i := 1) dJ1_indexOfChar_4cfef_0 rfl rfl ?_
  refine z_i2b dJ1_indexOfChar_4cfef_1 ?_
  refine z_istore (i := 4) [_, _, _, _, _, _] dJ1_indexOfChar_4cfef_2 (by decide) rfl rfl ?_
  refine z_iload_n (i := 2) dJ1_indexOfChar_4cfef_4 rfl rfl ?_
  refine z_istore (i := 5) [_, _, _, _, _, _] dJ1_indexOfChar_4cfef_5 (by decide) rfl rfl ?_
  rcases h1 with rfl | rfl
  · refine step 0 99 (by decide) rfl rfl (fun e => ?_) (fun e => step 1 115 (by decide) rfl rfl (fun e1 => ?_) (fun e1 => step 2 104 (by decide) rfl rfl (fun e2 => ?_) (fun e2 => at3 ?_)))
    · rw [if_pos (a1.mpr (b1.mp e.symm))] at hQ; exact hQ
    · rw [if_neg (fun w => e (b1.mpr (a1.mp w)).symm), if_pos (by rw [if_pos rfl]; exact a2.mpr (b2.mp e1.symm))] at hQ; exact hQ
    · rw [if_neg (fun w => e (b1.mpr (a1.mp w)).symm), if_neg (fun w => e1 (b2.mpr (a2.mp (by rw [if_pos rfl] at w; exact w))).symm), if_pos (by rw [if_pos rfl]; exact a3.mpr (b3.mp e2.symm))] at hQ; exact hQ
    · rw [if_neg (fun w => e (b1.mpr (a1.mp w)).symm), if_neg (fun w => e1 (b2.mpr (a2.mp (by rw [if_pos rfl] at w; exact w))).symm), if_neg (fun w => e2 (b3.mpr (a3.mp (by rw [if_pos rfl] at w; exact w))).symm)] at hQ; exact hQ
  · refine step 0 99 (by decide) rfl rfl (fun e => ?_) (fun e => step 1 109 (by decide) rfl rfl (fun e1 => ?_) (fun e1 => step 2 107 (by decide) rfl rfl (fun e2 => ?_) (fun e2 => at3 ?_)))
    · rw [if_pos (a1.mpr (b1.mp e.symm))] at hQ; exact hQ
    · rw [if_neg (fun w => e (b1.mpr (a1.mp w)).symm), if_pos (by rw [if_neg (by decide)]; exact a4.mpr (b4.mp e1.symm))] at hQ; exact hQ
    · rw [if_neg (fun w => e (b1.mpr (a1.mp w)).symm), if_neg (fun w => e1 (b4.mpr (a4.mp (by rw [if_neg (by decide)] at w; exact w))).symm), if_pos (by rw [if_neg (by decide)]; exact a5.mpr (b5.mp e2.symm))] at hQ; exact hQ
    · rw [if_neg (fun w => e (b1.mpr (a1.mp w)).symm), if_neg (fun w => e1 (b4.mpr (a4.mp (by rw [if_neg (by decide)] at w; exact w))).symm), if_neg (fun w => e2 (b5.mpr (a5.mp (by rw [if_neg (by decide)] at w; exact w))).symm)] at hQ; exact hQ
theorem s_J1_indexOf {k j : Nat} (hk : k < 3) (h1 : k = 1 ∨ k = 2) (hj : j < 256) (hd : 1 ≤ d) (hQ : Qf (nxF k (nI j)) c) : zCl l E ad mJ1_indexOf_4cfef d [.ref (ad (67 + k)), .int (nI j), .int 0, .int 3] c Qf := by
  have e3 : Int32.ofNat (([0, 3, 3] : List Nat).getD k 0) = 3 := by rcases h1 with rfl | rfl <;> rfl
  refine z_enter (own := RJ1) [some (.ref (ad (67 + k))), some (.int (nI j)), some (.int 0), some (.int 3)] (by decide +kernel) rfl rfl rfl (Nat.le_of_ble_eq_true rfl) ?_
  refine z_iload_n (i := 1) dJ1_indexOf_4cfef_0 rfl rfl ?_
  refine z_Sb (As := [_]) dJ1_indexOf_4cfef_1 (by rfl) v_J1_canEncode_9a6ad l_J1_88 rfl (by omega) (by decide) (Nat.le_of_ble_eq_true rfl) ?_
  refine s_J1_canEncode hj ?_
  refine z_if_ne 9 dJ1_indexOf_4cfef_4 (by decide) (fun h_4 => ?_) (fun h_4 => ?_)
  rotate_left
  · exact absurd h_4 (by decide)
  refine z_iload_n (i := 2) dJ1_indexOf_4cfef_9 rfl rfl ?_
  refine z_iconst (v := 0) dJ1_indexOf_4cfef_10 (by decide) ?_
  refine z_max dJ1_indexOf_4cfef_11 (by omega) (Nat.le_of_ble_eq_true rfl) l_J1_92 w_maxS w_mathI w_maxC ?_
  refine z_istore_n (i := 2) [_, _, _, _] dJ1_indexOf_4cfef_14 rfl (by decide) rfl rfl ?_
  refine z_iload_n (i := 3) dJ1_indexOf_4cfef_15 rfl rfl ?_
  refine z_aload_n (i := 0) dJ1_indexOf_4cfef_16 rfl rfl ?_
  refine z_sblen dJ1_indexOf_4cfef_17 (by assumption) e3 ?_
  refine z_min dJ1_indexOf_4cfef_18 (by omega) (Nat.le_of_ble_eq_true rfl) l_J1_38 w_minS w_mathI w_minC ?_
  refine z_istore_n (i := 3) [_, _, _, _] dJ1_indexOf_4cfef_21 rfl (by decide) rfl rfl ?_
  refine z_iload_n (i := 2) dJ1_indexOf_4cfef_22 rfl rfl ?_
  refine z_iload_n (i := 3) dJ1_indexOf_4cfef_23 rfl rfl ?_
  refine z_icmp_lt 29 dJ1_indexOf_4cfef_24 (by decide) (fun h_24 => ?_) (fun h_24 => ?_)
  rotate_left
  · exact absurd (by decide) h_24
  refine z_aload_n (i := 0) dJ1_indexOf_4cfef_29 rfl rfl ?_
  refine z_iload_n (i := 1) dJ1_indexOf_4cfef_30 rfl rfl ?_
  refine z_iload_n (i := 2) dJ1_indexOf_4cfef_31 rfl rfl ?_
  refine z_iload_n (i := 3) dJ1_indexOf_4cfef_32 rfl rfl ?_
  refine z_Si (As := [_, _, _, _]) dJ1_indexOf_4cfef_33 (by rfl) v_J1_indexOfChar_4cfef l_J1_95 rfl (by omega) (by decide) (Nat.le_of_ble_eq_true rfl) ?_
  refine s_J1_indexOfChar hk h1 hj ?_
  exact z_ret dJ1_indexOf_4cfef_36 hQ trivial rfl
theorem s_J0_indexOf2 {k j : Nat} (hk : k < 3) (h1 : k = 1 ∨ k = 2) (hj : j < 256) (hd : 2 ≤ d) (hQ : Qf (nxF k (nI j)) c) : zCl l E ad mJ0_indexOf_7cf53 d [.ref (ad (64 + k)), .int (nI j), .int 0] c Qf := by
  refine z_enter (own := RJ0) [some (.ref (ad (64 + k))), some (.int (nI j)), some (.int 0)] (by decide +kernel) rfl rfl rfl (Nat.le_of_ble_eq_true rfl) ?_
  refine z_aload_n (i := 0) dJ0_indexOf_7cf53_0 rfl rfl ?_
  refine z_call (rk' := 3) (As := []) (b := _) dJ0_indexOf_7cf53_1 (by rfl) v_J0_isLatin1_aae02 l_J0_492 (z_recS (by assumption)) rfl (by omega) (by decide) (Nat.le_of_ble_eq_true rfl) ?_
  refine s_J0_isLatin1 hk ?_
  refine z_if_eq 23 dJ0_indexOf_7cf53_4 (by decide) (fun h_4 => ?_) (fun h_4 => ?_)
  · exact absurd h_4 (by decide)
  refine z_aload_n (i := 0) dJ0_indexOf_7cf53_7 rfl rfl ?_
  refine z_svalue dJ0_indexOf_7cf53_8 (by assumption) f_J0_9 ?_
  refine z_iload_n (i := 1) dJ0_indexOf_7cf53_11 rfl rfl ?_
  refine z_iload_n (i := 2) dJ0_indexOf_7cf53_12 rfl rfl ?_
  refine z_aload_n (i := 0) dJ0_indexOf_7cf53_13 rfl rfl ?_
  refine z_call (rk' := 1) (As := []) (b := _) dJ0_indexOf_7cf53_14 (by rfl) v_J0_length_8abf5 l_J0_505 (z_recS (by assumption)) rfl (by omega) (by decide) (Nat.le_of_ble_eq_true rfl) ?_
  refine s_J0_length hk h1 (by omega) ?_
  refine z_Si (As := [_, _, _, _]) dJ0_indexOf_7cf53_17 (by rfl) v_J1_indexOf_4cfef l_J0_637 rfl (by omega) (by decide) (Nat.le_of_ble_eq_true rfl) ?_
  refine s_J1_indexOf hk h1 hj (by omega) ?_
  refine z_goto 36 dJ0_indexOf_7cf53_20 (by decide) ?_
  exact z_ret dJ0_indexOf_7cf53_36 hQ trivial rfl
theorem s_J0_indexOf {k j : Nat} (hk : k < 3) (h1 : k = 1 ∨ k = 2) (hj : j < 256) (hd : 3 ≤ d) (hQ : Qf (nxF k (nI j)) c) : zCl l E ad mJ0_indexOf_0f7a4 d [.ref (ad (64 + k)), .int (nI j)] c Qf := by
  refine z_enter (own := RJ0) [some (.ref (ad (64 + k))), some (.int (nI j))] (by decide +kernel) rfl rfl rfl (Nat.le_of_ble_eq_true rfl) ?_
  refine z_aload_n (i := 0) dJ0_indexOf_0f7a4_0 rfl rfl ?_
  refine z_iload_n (i := 1) dJ0_indexOf_0f7a4_1 rfl rfl ?_
  refine z_iconst (v := 0) dJ0_indexOf_0f7a4_2 (by decide) ?_
  refine z_call (rk' := 1) (As := [_, _]) (b := _) dJ0_indexOf_0f7a4_3 (by rfl) v_J0_indexOf_7cf53 l_J0_633 (z_recS (by assumption)) rfl (by omega) (by decide) (Nat.le_of_ble_eq_true rfl) ?_
  refine s_J0_indexOf2 hk h1 hj (by omega) ?_
  exact z_ret dJ0_indexOf_0f7a4_6 hQ trivial rfl
theorem s_X2_isDigit {b : Int32} (hQ : Qf (if 48 ≤ b ∧ b ≤ 57 then 1 else 0) c) : zCl l E ad mX2_isDigit d [.int b] c Qf := by
  refine z_enter (own := RX2) [some (.int b)] (by decide +kernel) rfl rfl rfl (Nat.le_of_ble_eq_true rfl) ?_
  refine z_iload_n (i := 0) dX2_isDigit_0 rfl rfl ?_
  refine z_bipush (v := 48) dX2_isDigit_1 (by decide) ?_
  refine z_icmp_lt 16 dX2_isDigit_3 (by decide) (fun h_3 => ?_) (fun h_3 => ?_)
  · refine z_iconst (v := 0) dX2_isDigit_16 (by decide) ?_
    exact z_ret dX2_isDigit_17 (by grind) (by rfl) rfl
  · refine z_iload_n (i := 0) dX2_isDigit_6 rfl rfl ?_
    refine z_bipush (v := 57) dX2_isDigit_7 (by decide) ?_
    refine z_icmp_gt 16 dX2_isDigit_9 (by decide) (fun h_9 => ?_) (fun h_9 => ?_)
    · refine z_iconst (v := 0) dX2_isDigit_16 (by decide) ?_
      exact z_ret dX2_isDigit_17 (by grind) (by rfl) rfl
    · refine z_iconst (v := 1) dX2_isDigit_12 (by decide) ?_
      refine z_goto 17 dX2_isDigit_13 (by decide) ?_
      exact z_ret dX2_isDigit_17 (by grind) (by rfl) rfl
theorem s_X2_rankOf {b : Int32} (hQ : Qf (if rkF b < 9 then nI (rkF b) else -1) c) : zCl l E ad mX2_rankOf d [.int b] c Qf := by
  have hr : ∀ k : Nat, rkF b = k → k < 9 → Qf (nI k) c := fun k e h => by rw [e, if_pos h] at hQ; exact hQ
  refine z_enter (own := RX2) [some (.int b)] (by decide +kernel) rfl rfl rfl (Nat.le_of_ble_eq_true rfl) ?_
  refine z_iload_n (i := 0) dX2_rankOf_0 rfl rfl ?_
  by_cases h_1_37 : b = 37
  · refine z_lookup 100 dX2_rankOf_1 rfl (by first | (rw [h_1_37]; rfl) | rw [h_1_37]) (by decide) ?_
    refine z_iconst (v := 4) dX2_rankOf_100 (by decide) ?_
    exact z_ret dX2_rankOf_101 (hr 4 (by unfold rkF; grind) (by decide)) trivial rfl
  by_cases h_1_38 : b = 38
  · refine z_lookup 94 dX2_rankOf_1 rfl (by first | (rw [h_1_38]; rfl) | rw [h_1_38]) (by decide) ?_
    refine z_iconst (v := 1) dX2_rankOf_94 (by decide) ?_
    exact z_ret dX2_rankOf_95 (hr 1 (by unfold rkF; grind) (by decide)) trivial rfl
  by_cases h_1_42 : b = 42
  · refine z_lookup 100 dX2_rankOf_1 rfl (by first | (rw [h_1_42]; rfl) | rw [h_1_42]) (by decide) ?_
    refine z_iconst (v := 4) dX2_rankOf_100 (by decide) ?_
    exact z_ret dX2_rankOf_101 (hr 4 (by unfold rkF; grind) (by decide)) trivial rfl
  by_cases h_1_43 : b = 43
  · refine z_lookup 98 dX2_rankOf_1 rfl (by first | (rw [h_1_43]; rfl) | rw [h_1_43]) (by decide) ?_
    refine z_iconst (v := 3) dX2_rankOf_98 (by decide) ?_
    exact z_ret dX2_rankOf_99 (hr 3 (by unfold rkF; grind) (by decide)) trivial rfl
  by_cases h_1_45 : b = 45
  · refine z_lookup 98 dX2_rankOf_1 rfl (by first | (rw [h_1_45]; rfl) | rw [h_1_45]) (by decide) ?_
    refine z_iconst (v := 3) dX2_rankOf_98 (by decide) ?_
    exact z_ret dX2_rankOf_99 (hr 3 (by unfold rkF; grind) (by decide)) trivial rfl
  by_cases h_1_47 : b = 47
  · refine z_lookup 100 dX2_rankOf_1 rfl (by first | (rw [h_1_47]; rfl) | rw [h_1_47]) (by decide) ?_
    refine z_iconst (v := 4) dX2_rankOf_100 (by decide) ?_
    exact z_ret dX2_rankOf_101 (hr 4 (by unfold rkF; grind) (by decide)) trivial rfl
  by_cases h_1_60 : b = 60
  · refine z_lookup 96 dX2_rankOf_1 rfl (by first | (rw [h_1_60]; rfl) | rw [h_1_60]) (by decide) ?_
    refine z_iconst (v := 2) dX2_rankOf_96 (by decide) ?_
    exact z_ret dX2_rankOf_97 (hr 2 (by unfold rkF; grind) (by decide)) trivial rfl
  by_cases h_1_61 : b = 61
  · refine z_lookup 96 dX2_rankOf_1 rfl (by first | (rw [h_1_61]; rfl) | rw [h_1_61]) (by decide) ?_
    refine z_iconst (v := 2) dX2_rankOf_96 (by decide) ?_
    exact z_ret dX2_rankOf_97 (hr 2 (by unfold rkF; grind) (by decide)) trivial rfl
  by_cases h_1_62 : b = 62
  · refine z_lookup 96 dX2_rankOf_1 rfl (by first | (rw [h_1_62]; rfl) | rw [h_1_62]) (by decide) ?_
    refine z_iconst (v := 2) dX2_rankOf_96 (by decide) ?_
    exact z_ret dX2_rankOf_97 (hr 2 (by unfold rkF; grind) (by decide)) trivial rfl
  by_cases h_1_124 : b = 124
  · refine z_lookup 92 dX2_rankOf_1 rfl (by first | (rw [h_1_124]; rfl) | rw [h_1_124]) (by decide) ?_
    refine z_iconst (v := 0) dX2_rankOf_92 (by decide) ?_
    exact z_ret dX2_rankOf_93 (hr 0 (by unfold rkF; grind) (by decide)) trivial rfl
  refine z_lookup 102 dX2_rankOf_1 rfl (lk_def (by intro q hq; have hq : q ∈ ([37, 38, 42, 43, 45, 47, 60, 61, 62, 124] : List Int) := hq; simp only [List.mem_cons, List.not_mem_nil, or_false] at hq; have a37 := zt_ne (k := 37) (by decide) h_1_37; have a38 := zt_ne (k := 38) (by decide) h_1_38; have a42 := zt_ne (k := 42) (by decide) h_1_42; have a43 := zt_ne (k := 43) (by decide) h_1_43; have a45 := zt_ne (k := 45) (by decide) h_1_45; have a47 := zt_ne (k := 47) (by decide) h_1_47; have a60 := zt_ne (k := 60) (by decide) h_1_60; have a61 := zt_ne (k := 61) (by decide) h_1_61; have a62 := zt_ne (k := 62) (by decide) h_1_62; have a124 := zt_ne (k := 124) (by decide) h_1_124; omega)) (by decide) ?_
  refine z_iconst (v := (-1)) dX2_rankOf_102 (by decide) ?_
  exact z_ret dX2_rankOf_103 (by rw [show rkF b = 9 by unfold rkF; grind, if_neg (by decide)] at hQ; exact hQ) trivial rfl
end RA
