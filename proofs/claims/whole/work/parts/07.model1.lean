/-! the reference's small methods -/
theorem zin_nI {j n : Nat} (h : j < n) (hn : n < 2147483648) : vp_in (nI j) n := vp_in_nI h (by omega)
theorem zi_its (j w : Nat) : 8 + 5 * nI j + nI w = nI (8 + 5 * j + w) := by
  show nI 8 + nI 5 * nI j + nI w = _
  rw [pk_mul, nI_add, nI_add]
theorem zcl (n : Nat) (h : n < 2147483648) : (nI n).toNatClampNeg = n := nI_clamp (by omega)
theorem zcl_add (n k : Nat) (h : n + k < 2147483648) : (nI n + nI k).toNatClampNeg = n + k := by rw [nI_add]; exact zcl _ h
/-- an int that is at least 0 and below n -/
theorem zj_of {x : Int32} {n : Nat} (h0 : 0 ≤ x) (h : x < nI n) (hn : n < 2147483648) : ∃ j : Nat, j < n ∧ x = nI j := by
  obtain ⟨j, hj, e⟩ := nI_of (x := x) (by grind)
  refine ⟨j, ?_, e⟩
  rw [e] at h
  exact (nI_ltI hj (by omega)).mp h
section M1
variable {l : Launch} {E : zE} {ad : Nat → Nat} {c : zS} {Qf : Int32 → zS → Prop} {d : Nat}
theorem s_X8_in {v lo hi : Int32} (hQ : Qf (if lo ≤ v ∧ v ≤ hi then 1 else 0) c) : zCl l E ad mX8_in d [.int v, .int lo, .int hi] c Qf := by
  refine z_enter (own := RX8) [some (.int v), some (.int lo), some (.int hi)] (by decide +kernel) rfl rfl rfl (Nat.le_of_ble_eq_true rfl) ?_
  refine z_iload_n (i := 0) dX8_in_0 rfl rfl ?_
  refine z_iload_n (i := 1) dX8_in_1 rfl rfl ?_
  refine z_icmp_lt 14 dX8_in_2 (by decide) (fun h_2 => ?_) (fun h_2 => ?_)
  · refine z_iconst (v := 0) dX8_in_14 (by decide) ?_
    exact z_ret dX8_in_15 (by grind) (by rfl) rfl
  · refine z_iload_n (i := 0) dX8_in_5 rfl rfl ?_
    refine z_iload_n (i := 2) dX8_in_6 rfl rfl ?_
    refine z_icmp_gt 14 dX8_in_7 (by decide) (fun h_7 => ?_) (fun h_7 => ?_)
    · refine z_iconst (v := 0) dX8_in_14 (by decide) ?_
      exact z_ret dX8_in_15 (by grind) (by rfl) rfl
    · refine z_iconst (v := 1) dX8_in_10 (by decide) ?_
      refine z_goto 15 dX8_in_11 (by decide) ?_
      exact z_ret dX8_in_15 (by grind) (by rfl) rfl
theorem s_X8_held {v lo hi : Int32} (hQ : Qf (if v < lo then lo else if v > hi then hi else v) c) : zCl l E ad mX8_held d [.int v, .int lo, .int hi] c Qf := by
  refine z_enter (own := RX8) [some (.int v), some (.int lo), some (.int hi)] (by decide +kernel) rfl rfl rfl (Nat.le_of_ble_eq_true rfl) ?_
  refine z_iload_n (i := 0) dX8_held_0 rfl rfl ?_
  refine z_iload_n (i := 1) dX8_held_1 rfl rfl ?_
  refine z_icmp_ge 9 dX8_held_2 (by decide) (fun h_2 => ?_) (fun h_2 => ?_)
  · refine z_iload_n (i := 0) dX8_held_9 rfl rfl ?_
    refine z_iload_n (i := 2) dX8_held_10 rfl rfl ?_
    refine z_icmp_le 18 dX8_held_11 (by decide) (fun h_11 => ?_) (fun h_11 => ?_)
    · refine z_iload_n (i := 0) dX8_held_18 rfl rfl ?_
      exact z_ret dX8_held_19 (by grind) trivial rfl
    · refine z_iload_n (i := 2) dX8_held_14 rfl rfl ?_
      refine z_goto 19 dX8_held_15 (by decide) ?_
      exact z_ret dX8_held_19 (by grind) trivial rfl
  · refine z_iload_n (i := 1) dX8_held_5 rfl rfl ?_
    refine z_goto 19 dX8_held_6 (by decide) ?_
    exact z_ret dX8_held_19 (by grind) trivial rfl
theorem s_X8_error {k : Int32} {j : Nat} (hk : k = nI j) (hj : j < 7) (hQ : Qf (-1000000000 - k) (zup c 55 (upd (c 55) j (c 55 j + 1)))) : zCl l E ad mX8_error d [.ref (ad 51), .int k] c Qf := by
  refine z_enter (own := RX8) [some (.ref (ad 51)), some (.int k)] (by decide +kernel) rfl rfl rfl (Nat.le_of_ble_eq_true rfl) ?_
  refine z_aload_n (i := 0) dX8_error_0 rfl rfl ?_
  refine z_getf dX8_error_1 f_X8_19 (by first | decide | assumption | omega) rfl (by rfl) ?_
  refine z_iload_n (i := 1) dX8_error_4 rfl rfl ?_
  refine z_dup2 dX8_error_5 rfl rfl ?_
  refine z_iald dX8_error_6 (by first | decide | assumption | omega) rfl hk hj (by first | decide | omega) ?_
  refine z_iconst (v := 1) dX8_error_7 (by decide) ?_
  refine z_iadd dX8_error_8 ?_
  refine z_iast dX8_error_9 (by first | decide | assumption | omega) (fun _ => rfl) hk hj (by first | decide | omega) ?_
  refine z_ldc dX8_error_10 k_X8_46 ?_
  refine z_iload_n (i := 1) dX8_error_12 rfl rfl ?_
  refine z_isub dX8_error_13 ?_
  exact z_ret dX8_error_14 (by exact hQ) trivial rfl
theorem s_X8_isPerson {p : Int32} (hd : 1 ≤ d) (hQ : Qf (if 0 ≤ p ∧ p ≤ c 52 5 - 1 then 1 else 0) c) : zCl l E ad mX8_isPerson d [.ref (ad 51), .int p] c Qf := by
  refine z_enter (own := RX8) [some (.ref (ad 51)), some (.int p)] (by decide +kernel) rfl rfl rfl (Nat.le_of_ble_eq_true rfl) ?_
  refine z_iload_n (i := 1) dX8_isPerson_0 rfl rfl ?_
  refine z_iconst (v := 0) dX8_isPerson_1 (by decide) ?_
  refine z_aload_n (i := 0) dX8_isPerson_2 rfl rfl ?_
  refine z_getf dX8_isPerson_3 f_X8_7 (by first | decide | assumption | omega) rfl (by rfl) ?_
  refine z_iconst (v := 5) dX8_isPerson_6 (by decide) ?_
  refine z_iald dX8_isPerson_7 (by first | decide | assumption | omega) rfl (by rfl) (by first | decide | omega) (by first | decide | omega) ?_
  refine z_iconst (v := 1) dX8_isPerson_8 (by decide) ?_
  refine z_isub dX8_isPerson_9 ?_
  refine z_Sb (As := [_, _, _]) dX8_isPerson_10 (by rfl) v_X8_in l_X8_47 rfl (by omega) (by decide) (Nat.le_of_ble_eq_true rfl) ?_
  refine s_X8_in ?_
  exact z_ret dX8_isPerson_13 (by exact hQ) (by show narrow _ _ = _; split <;> rfl) rfl
theorem s_X8_isCell {p : Int32} (hd : 1 ≤ d) (hQ : Qf (if 0 ≤ p ∧ p ≤ 15 then 1 else 0) c) : zCl l E ad mX8_isCell d [.int p] c Qf := by
  refine z_enter (own := RX8) [some (.int p)] (by decide +kernel) rfl rfl rfl (Nat.le_of_ble_eq_true rfl) ?_
  refine z_iload_n (i := 0) dX8_isCell_0 rfl rfl ?_
  refine z_iconst (v := 0) dX8_isCell_1 (by decide) ?_
  refine z_bipush (v := 15) dX8_isCell_2 (by decide) ?_
  refine z_Sb (As := [_, _, _]) dX8_isCell_4 (by rfl) v_X8_in l_X8_47 rfl (by omega) (by decide) (Nat.le_of_ble_eq_true rfl) ?_
  refine s_X8_in ?_
  exact z_ret dX8_isCell_7 (by exact hQ) (by show narrow _ _ = _; split <;> rfl) rfl
theorem s_X8_isKind {p : Int32} (hd : 1 ≤ d) (hQ : Qf (if 0 ≤ p ∧ p ≤ 69 then 1 else 0) c) : zCl l E ad mX8_isKind d [.int p] c Qf := by
  refine z_enter (own := RX8) [some (.int p)] (by decide +kernel) rfl rfl rfl (Nat.le_of_ble_eq_true rfl) ?_
  refine z_iload_n (i := 0) dX8_isKind_0 rfl rfl ?_
  refine z_iconst (v := 0) dX8_isKind_1 (by decide) ?_
  refine z_bipush (v := 69) dX8_isKind_2 (by decide) ?_
  refine z_Sb (As := [_, _, _]) dX8_isKind_4 (by rfl) v_X8_in l_X8_47 rfl (by omega) (by decide) (Nat.le_of_ble_eq_true rfl) ?_
  refine s_X8_in ?_
  exact z_ret dX8_isKind_7 (by exact hQ) (by show narrow _ _ = _; split <;> rfl) rfl
theorem s_X8_isSoon {p : Int32} (hd : 1 ≤ d) (hQ : Qf (if 0 ≤ p ∧ p ≤ 20 then 1 else 0) c) : zCl l E ad mX8_isSoon d [.int p] c Qf := by
  refine z_enter (own := RX8) [some (.int p)] (by decide +kernel) rfl rfl rfl (Nat.le_of_ble_eq_true rfl) ?_
  refine z_iload_n (i := 0) dX8_isSoon_0 rfl rfl ?_
  refine z_iconst (v := 0) dX8_isSoon_1 (by decide) ?_
  refine z_bipush (v := 20) dX8_isSoon_2 (by decide) ?_
  refine z_Sb (As := [_, _, _]) dX8_isSoon_4 (by rfl) v_X8_in l_X8_47 rfl (by omega) (by decide) (Nat.le_of_ble_eq_true rfl) ?_
  refine s_X8_in ?_
  exact z_ret dX8_isSoon_7 (by exact hQ) (by show narrow _ _ = _; split <;> rfl) rfl
theorem s_X8_isSheet {p : Int32} (hd : 1 ≤ d) (hQ : Qf (if 0 ≤ p ∧ p ≤ 3 then 1 else 0) c) : zCl l E ad mX8_isSheet d [.int p] c Qf := by
  refine z_enter (own := RX8) [some (.int p)] (by decide +kernel) rfl rfl rfl (Nat.le_of_ble_eq_true rfl) ?_
  refine z_iload_n (i := 0) dX8_isSheet_0 rfl rfl ?_
  refine z_iconst (v := 0) dX8_isSheet_1 (by decide) ?_
  refine z_iconst (v := 3) dX8_isSheet_2 (by decide) ?_
  refine z_Sb (As := [_, _, _]) dX8_isSheet_3 (by rfl) v_X8_in l_X8_47 rfl (by omega) (by decide) (Nat.le_of_ble_eq_true rfl) ?_
  refine s_X8_in ?_
  exact z_ret dX8_isSheet_6 (by exact hQ) (by show narrow _ _ = _; split <;> rfl) rfl
theorem s_X8_its {p w : Int32} {i : Nat} (hi : 8 + 5 * p + w = nI i) (h : i < 372) (hQ : Qf (c 52 i) c) : zCl l E ad mX8_its d [.ref (ad 51), .int p, .int w] c Qf := by
  refine z_enter (own := RX8) [some (.ref (ad 51)), some (.int p), some (.int w)] (by decide +kernel) rfl rfl rfl (Nat.le_of_ble_eq_true rfl) ?_
  refine z_aload_n (i := 0) dX8_its_0 rfl rfl ?_
  refine z_getf dX8_its_1 f_X8_7 (by first | decide | assumption | omega) rfl (by rfl) ?_
  refine z_bipush (v := 8) dX8_its_4 (by decide) ?_
  refine z_iconst (v := 5) dX8_its_6 (by decide) ?_
  refine z_iload_n (i := 1) dX8_its_7 rfl rfl ?_
  refine z_imul dX8_its_8 ?_
  refine z_iadd dX8_its_9 ?_
  refine z_iload_n (i := 2) dX8_its_10 rfl rfl ?_
  refine z_iadd dX8_its_11 ?_
  refine z_iald dX8_its_12 (by first | decide | assumption | omega) rfl hi h (by first | decide | omega) ?_
  exact z_ret dX8_its_13 (by exact hQ) trivial rfl
theorem s_X8_its0 {j : Nat} (hj : j < 6) (hQ : Qf (c 52 (8 + 5 * j)) c) : zCl l E ad mX8_its d [.ref (ad 51), .int (nI j), .int 0] c Qf := s_X8_its (zi_its j 0) (by omega) hQ
theorem s_X8_its1 {j : Nat} (hj : j < 6) (hQ : Qf (c 52 (8 + 5 * j + 1)) c) : zCl l E ad mX8_its d [.ref (ad 51), .int (nI j), .int 1] c Qf := s_X8_its (zi_its j 1) (by omega) hQ
theorem s_X8_its2 {j : Nat} (hj : j < 6) (hQ : Qf (c 52 (8 + 5 * j + 2)) c) : zCl l E ad mX8_its d [.ref (ad 51), .int (nI j), .int 2] c Qf := s_X8_its (zi_its j 2) (by omega) hQ
theorem s_X8_its3 {j : Nat} (hj : j < 6) (hQ : Qf (c 52 (8 + 5 * j + 3)) c) : zCl l E ad mX8_its d [.ref (ad 51), .int (nI j), .int 3] c Qf := s_X8_its (zi_its j 3) (by omega) hQ
theorem s_X8_its4 {j : Nat} (hj : j < 6) (hQ : Qf (c 52 (8 + 5 * j + 4)) c) : zCl l E ad mX8_its d [.ref (ad 51), .int (nI j), .int 4] c Qf := s_X8_its (zi_its j 4) (by omega) hQ
theorem s_X8_lays1 {p w v : Int32} {i : Nat} (hi : 8 + 5 * p + w = nI i) (h : i < 372) (hQ : Qf 0 (zup c 52 (upd (c 52) i v))) : zCl l E ad mX8_lays1 d [.ref (ad 51), .int p, .int w, .int v] c Qf := by
  refine z_enter (own := RX8) [some (.ref (ad 51)), some (.int p), some (.int w), some (.int v)] (by decide +kernel) rfl rfl rfl (Nat.le_of_ble_eq_true rfl) ?_
  refine z_aload_n (i := 0) dX8_lays1_0 rfl rfl ?_
  refine z_getf dX8_lays1_1 f_X8_7 (by first | decide | assumption | omega) rfl (by rfl) ?_
  refine z_bipush (v := 8) dX8_lays1_4 (by decide) ?_
  refine z_iconst (v := 5) dX8_lays1_6 (by decide) ?_
  refine z_iload_n (i := 1) dX8_lays1_7 rfl rfl ?_
  refine z_imul dX8_lays1_8 ?_
  refine z_iadd dX8_lays1_9 ?_
  refine z_iload_n (i := 2) dX8_lays1_10 rfl rfl ?_
  refine z_iadd dX8_lays1_11 ?_
  refine z_iload_n (i := 3) dX8_lays1_12 rfl rfl ?_
  refine z_iast dX8_lays1_13 (by first | decide | assumption | omega) (fun _ => rfl) hi h (by first | decide | omega) ?_
  exact z_ret (r := 0) dX8_lays1_14 (by exact hQ) rfl rfl
theorem s_X8_lays10 {j : Nat} {v : Int32} (hj : j < 6) (hQ : Qf 0 (zup c 52 (upd (c 52) (8 + 5 * j) v))) : zCl l E ad mX8_lays1 d [.ref (ad 51), .int (nI j), .int 0, .int v] c Qf := s_X8_lays1 (zi_its j 0) (by omega) hQ
theorem s_X8_lays11 {j : Nat} {v : Int32} (hj : j < 6) (hQ : Qf 0 (zup c 52 (upd (c 52) (8 + 5 * j + 1) v))) : zCl l E ad mX8_lays1 d [.ref (ad 51), .int (nI j), .int 1, .int v] c Qf := s_X8_lays1 (zi_its j 1) (by omega) hQ
theorem s_X8_lays12 {j : Nat} {v : Int32} (hj : j < 6) (hQ : Qf 0 (zup c 52 (upd (c 52) (8 + 5 * j + 2) v))) : zCl l E ad mX8_lays1 d [.ref (ad 51), .int (nI j), .int 2, .int v] c Qf := s_X8_lays1 (zi_its j 2) (by omega) hQ
theorem s_X8_lays13 {j : Nat} {v : Int32} (hj : j < 6) (hQ : Qf 0 (zup c 52 (upd (c 52) (8 + 5 * j + 3) v))) : zCl l E ad mX8_lays1 d [.ref (ad 51), .int (nI j), .int 3, .int v] c Qf := s_X8_lays1 (zi_its j 3) (by omega) hQ
theorem s_X8_lays14 {j : Nat} {v : Int32} (hj : j < 6) (hQ : Qf 0 (zup c 52 (upd (c 52) (8 + 5 * j + 4) v))) : zCl l E ad mX8_lays1 d [.ref (ad 51), .int (nI j), .int 4, .int v] c Qf := s_X8_lays1 (zi_its j 4) (by omega) hQ
theorem s_X8_change1 {to v : Int32} {i : Nat} (hi : to = nI i) (h : i < 372) (hQ : Qf (c 52 i) (zup c 52 (upd (c 52) i v))) : zCl l E ad mX8_change1 d [.ref (ad 51), .int to, .int v] c Qf := by
  refine z_enter (own := RX8) [some (.ref (ad 51)), some (.int to), some (.int v), none] (by decide +kernel) rfl rfl rfl (Nat.le_of_ble_eq_true rfl) ?_
  subst hi
  refine z_aload_n (i := 0) dX8_change1_0 rfl rfl ?_
  refine z_getf dX8_change1_1 f_X8_7 (by first | decide | assumption | omega) rfl (by rfl) ?_
  refine z_iload_n (i := 1) dX8_change1_4 rfl rfl ?_
  refine z_iald dX8_change1_5 (by first | decide | assumption | omega) rfl (by rfl) (by first | decide | omega) (by first | decide | omega) ?_
  refine z_istore_n (i := 3) [_, _, _, _] dX8_change1_6 rfl (by decide) rfl rfl ?_
  refine z_aload_n (i := 0) dX8_change1_7 rfl rfl ?_
  refine z_getf dX8_change1_8 f_X8_7 (by first | decide | assumption | omega) rfl (by rfl) ?_
  refine z_iload_n (i := 1) dX8_change1_11 rfl rfl ?_
  refine z_iload_n (i := 2) dX8_change1_12 rfl rfl ?_
  refine z_iast dX8_change1_13 (by first | decide | assumption | omega) (fun _ => rfl) (by rfl) (by first | decide | omega) (by first | decide | omega) ?_
  refine z_iload_n (i := 3) dX8_change1_14 rfl rfl ?_
  exact z_ret dX8_change1_15 (by exact hQ) trivial rfl
theorem s_X8_isDrop {p : Int32} (hQ : Qf (if (c 52 1 >>> (p &&& 31)) &&& 1 = 1 then 1 else 0) c) : zCl l E ad mX8_isDrop d [.ref (ad 51), .int p] c Qf := by
  refine z_enter (own := RX8) [some (.ref (ad 51)), some (.int p)] (by decide +kernel) rfl rfl rfl (Nat.le_of_ble_eq_true rfl) ?_
  refine z_aload_n (i := 0) dX8_isDrop_0 rfl rfl ?_
  refine z_getf dX8_isDrop_1 f_X8_7 (by first | decide | assumption | omega) rfl (by rfl) ?_
  refine z_iconst (v := 1) dX8_isDrop_4 (by decide) ?_
  refine z_iald dX8_isDrop_5 (by first | decide | assumption | omega) rfl (by rfl) (by first | decide | omega) (by first | decide | omega) ?_
  refine z_iload_n (i := 1) dX8_isDrop_6 rfl rfl ?_
  refine z_ishr dX8_isDrop_7 ?_
  refine z_iconst (v := 1) dX8_isDrop_8 (by decide) ?_
  refine z_iand dX8_isDrop_9 ?_
  refine z_iconst (v := 1) dX8_isDrop_10 (by decide) ?_
  refine z_icmp_ne 18 dX8_isDrop_11 (by decide) (fun h_11 => ?_) (fun h_11 => ?_)
  · refine z_iconst (v := 0) dX8_isDrop_18 (by decide) ?_
    exact z_ret dX8_isDrop_19 (by grind) (by rfl) rfl
  · refine z_iconst (v := 1) dX8_isDrop_14 (by decide) ?_
    refine z_goto 19 dX8_isDrop_15 (by decide) ?_
    exact z_ret dX8_isDrop_19 (by grind) (by rfl) rfl
theorem s_X8_look {at' n : Nat} (ha : c 51 5 = nI at') (hn : c 52 3 = nI n) (hn6 : n ≤ 60) (ha6 : at' ≤ 60) (hQ : Qf (if at' < n then c 52 (288 + at') else -1) c) : zCl l E ad mX8_look d [.ref (ad 51)] c Qf := by
  refine z_enter (own := RX8) [some (.ref (ad 51))] (by decide +kernel) rfl rfl rfl (Nat.le_of_ble_eq_true rfl) ?_
  refine z_aload_n (i := 0) dX8_look_0 rfl rfl ?_
  refine z_getf dX8_look_1 f_X8_57 (by first | decide | assumption | omega) rfl (by rfl) ?_
  refine z_aload_n (i := 0) dX8_look_4 rfl rfl ?_
  refine z_getf dX8_look_5 f_X8_7 (by first | decide | assumption | omega) rfl (by rfl) ?_
  refine z_iconst (v := 3) dX8_look_8 (by decide) ?_
  refine z_iald dX8_look_9 (by first | decide | assumption | omega) rfl (by rfl) (by first | decide | omega) (by first | decide | omega) ?_
  refine z_icmp_ge 29 dX8_look_10 (by decide) (fun h_10 => ?_) (fun h_10 => ?_)
  · refine z_iconst (v := (-1)) dX8_look_29 (by decide) ?_
    exact z_ret dX8_look_30 (by grind [nI_leI]) trivial rfl
  · refine z_aload_n (i := 0) dX8_look_13 rfl rfl ?_
    refine z_getf dX8_look_14 f_X8_7 (by first | decide | assumption | omega) rfl (by rfl) ?_
    refine z_sipush (v := 288) dX8_look_17 (by decide) ?_
    refine z_aload_n (i := 0) dX8_look_20 rfl rfl ?_
    refine z_getf dX8_look_21 f_X8_57 (by first | decide | assumption | omega) rfl (by rfl) ?_
    refine z_iadd dX8_look_24 ?_
    refine z_iald (j := 288 + at') dX8_look_25 (by first | decide | assumption | omega) rfl (by rw [ha]; show nI 288 + nI at' = _; rw [nI_add]) (by first | decide | omega) (by first | decide | omega) ?_
    refine z_goto 30 dX8_look_26 (by decide) ?_
    exact z_ret dX8_look_30 (by grind [nI_leI]) trivial rfl
theorem s_X8_draw (hQ : Qf (((c 52 2 * 1103515245 + 12345).toUInt32 >>> ((8 : Int32).toUInt32 &&& Int32.toUInt32 31)).toInt32) (zup c 52 (upd (c 52) 2 (c 52 2 * 1103515245 + 12345)))) : zCl l E ad mX8_draw d [.ref (ad 51)] c Qf := by
  refine z_enter (own := RX8) [some (.ref (ad 51))] (by decide +kernel) rfl rfl rfl (Nat.le_of_ble_eq_true rfl) ?_
  refine z_aload_n (i := 0) dX8_draw_0 rfl rfl ?_
  refine z_getf dX8_draw_1 f_X8_7 (by first | decide | assumption | omega) rfl (by rfl) ?_
  refine z_iconst (v := 2) dX8_draw_4 (by decide) ?_
  refine z_aload_n (i := 0) dX8_draw_5 rfl rfl ?_
  refine z_getf dX8_draw_6 f_X8_7 (by first | decide | assumption | omega) rfl (by rfl) ?_
  refine z_iconst (v := 2) dX8_draw_9 (by decide) ?_
  refine z_iald dX8_draw_10 (by first | decide | assumption | omega) rfl (by rfl) (by first | decide | omega) (by first | decide | omega) ?_
  refine z_ldc dX8_draw_11 k_X8_153 ?_
  refine z_imul dX8_draw_13 ?_
  refine z_sipush (v := 12345) dX8_draw_14 (by decide) ?_
  refine z_iadd dX8_draw_17 ?_
  refine z_iast dX8_draw_18 (by first | decide | assumption | omega) (fun _ => rfl) (by rfl) (by first | decide | omega) (by first | decide | omega) ?_
  refine z_aload_n (i := 0) dX8_draw_19 rfl rfl ?_
  refine z_getf dX8_draw_20 f_X8_7 (by first | decide | assumption | omega) rfl (by rfl) ?_
  refine z_iconst (v := 2) dX8_draw_23 (by decide) ?_
  refine z_iald dX8_draw_24 (by first | decide | assumption | omega) rfl (by rfl) (by first | decide | omega) (by first | decide | omega) ?_
  refine z_bipush (v := 8) dX8_draw_25 (by decide) ?_
  refine z_iushr dX8_draw_27 ?_
  exact z_ret dX8_draw_28 (by exact hQ) trivial rfl
theorem zup_zup {c : zS} {k : Nat} {f g : Nat → Int32} : zup (zup c k f) k g = zup c k g := by
  funext j
  simp only [zup]
  split <;> rfl
theorem zup_id {c : zS} {k : Nat} : zup c k (c k) = c := by
  funext j
  simp only [zup]
  split
  · next h => rw [h]
  · rfl
/-- all of s is kept in laid -/
theorem s_X8_layDown (hQ : ∀ g : Nat → Int32, (∀ k, k < 38 → g k = c 52 k) → Qf 0 (zup c 54 g)) : zCl l E ad mX8_layDown d [.ref (ad 51)] c Qf := by
  refine z_enter (own := RX8) [some (.ref (ad 51)), none] (by decide +kernel) rfl rfl rfl (Nat.le_of_ble_eq_true rfl) ?_
  have loop : ∀ (m i : Nat) (g : Nat → Int32), 38 - i < m → i ≤ 38 → (∀ k, k < i → g k = c 52 k) → zW l E ad RX8 cX8_layDown 2 0 d Qf 2 [some (.ref (ad 51)), some (.int (nI i))] [] (zup c 54 g) := by
    intro m
    induction m with
    | zero => intro i g hm; omega
    | succ m ih =>
      intro i g hm hi hg
      have hlt := nI_leI (a := 38) (b := i) (by omega) (by omega)
      refine z_iload_n (i := 1) dX8_layDown_2 rfl rfl ?_
      refine z_bipush (v := 38) dX8_layDown_3 (by decide) ?_
      refine z_icmp_ge 26 dX8_layDown_5 (by decide) (fun h_5 => ?_) (fun h_5 => ?_)
      · exact z_ret (r := 0) dX8_layDown_26 (hQ g (fun k hk => hg k (by have := hlt.mp h_5; omega))) rfl rfl
      · have hi2 : i < 38 := by have := mt hlt.mpr h_5; omega
        refine z_aload_n (i := 0) dX8_layDown_8 rfl rfl ?_
        refine z_getf dX8_layDown_9 f_X8_16 (by first | decide | assumption | omega) rfl (by rfl) ?_
        refine z_iload_n (i := 1) dX8_layDown_12 rfl rfl ?_
        refine z_aload_n (i := 0) dX8_layDown_13 rfl rfl ?_
        refine z_getf dX8_layDown_14 f_X8_7 (by first | decide | assumption | omega) rfl (by rfl) ?_
        refine z_iload_n (i := 1) dX8_layDown_17 rfl rfl ?_
        refine z_iald dX8_layDown_18 (by first | decide | assumption | omega) rfl (by rfl) (by first | decide | omega) (by first | decide | omega) ?_
        refine z_iast dX8_layDown_19 (by first | decide | assumption | omega) (fun _ => rfl) (by rfl) (by first | decide | omega) (by first | decide | omega) ?_
        refine z_iinc (i := 1) (v := 1) [_, _] dX8_layDown_20 rfl (by decide) (by decide) rfl rfl ?_
        refine z_goto 2 dX8_layDown_23 (by decide) ?_
        rw [nI_1, zup_zup]; exact ih (i + 1) _ (by omega) (by omega) (fun k hk => by rcases Nat.lt_or_eq_of_le (Nat.lt_succ_iff.mp hk) with q | q; exact (pk_un (by omega)).trans (hg k q); subst q; exact pk_us)
  refine z_iconst (v := 0) dX8_layDown_0 (by decide) ?_
  refine z_istore_n (i := 1) [_, _] dX8_layDown_1 rfl (by decide) rfl rfl ?_
  have := loop 39 0 (c 54) (by omega) (by omega) (fun k hk => absurd hk (by omega)); rw [zup_id] at this; exact this
theorem s_X8_layBack (hQ : ∀ g : Nat → Int32, (∀ k, k < 38 → g k = c 54 k) → (∀ k, 38 ≤ k → g k = c 52 k) → Qf 0 (zup c 52 g)) : zCl l E ad mX8_layBack d [.ref (ad 51)] c Qf := by
  refine z_enter (own := RX8) [some (.ref (ad 51)), none] (by decide +kernel) rfl rfl rfl (Nat.le_of_ble_eq_true rfl) ?_
  have loop : ∀ (m i : Nat) (g : Nat → Int32), 38 - i < m → i ≤ 38 → (∀ k, k < i → g k = c 54 k) → (∀ k, 38 ≤ k → g k = c 52 k) → zW l E ad RX8 cX8_layBack 2 0 d Qf 2 [some (.ref (ad 51)), some (.int (nI i))] [] (zup c 52 g) := by
    intro m
    induction m with
    | zero => intro i g hm; omega
    | succ m ih =>
      intro i g hm hi hg hg2
      have hlt := nI_leI (a := 38) (b := i) (by omega) (by omega)
      refine z_iload_n (i := 1) dX8_layBack_2 rfl rfl ?_
      refine z_bipush (v := 38) dX8_layBack_3 (by decide) ?_
      refine z_icmp_ge 26 dX8_layBack_5 (by decide) (fun h_5 => ?_) (fun h_5 => ?_)
      · exact z_ret (r := 0) dX8_layBack_26 (hQ g (fun k hk => hg k (by have := hlt.mp h_5; omega)) hg2) rfl rfl
      · have hi2 : i < 38 := by have := mt hlt.mpr h_5; omega
        refine z_aload_n (i := 0) dX8_layBack_8 rfl rfl ?_
        refine z_getf dX8_layBack_9 f_X8_7 (by first | decide | assumption | omega) rfl (by rfl) ?_
        refine z_iload_n (i := 1) dX8_layBack_12 rfl rfl ?_
        refine z_aload_n (i := 0) dX8_layBack_13 rfl rfl ?_
        refine z_getf dX8_layBack_14 f_X8_16 (by first | decide | assumption | omega) rfl (by rfl) ?_
        refine z_iload_n (i := 1) dX8_layBack_17 rfl rfl ?_
        refine z_iald dX8_layBack_18 (by first | decide | assumption | omega) rfl (by rfl) (by first | decide | omega) (by first | decide | omega) ?_
        refine z_iast dX8_layBack_19 (by first | decide | assumption | omega) (fun _ => rfl) (by rfl) (by first | decide | omega) (by first | decide | omega) ?_
        refine z_iinc (i := 1) (v := 1) [_, _] dX8_layBack_20 rfl (by decide) (by decide) rfl rfl ?_
        refine z_goto 2 dX8_layBack_23 (by decide) ?_
        rw [nI_1, zup_zup]; exact ih (i + 1) _ (by omega) (by omega) (fun k hk => by rcases Nat.lt_or_eq_of_le (Nat.lt_succ_iff.mp hk) with q | q; exact (pk_un (by omega)).trans (hg k q); subst q; exact pk_us) (fun k hk => (pk_un (by omega)).trans (hg2 k hk))
  refine z_iconst (v := 0) dX8_layBack_0 (by decide) ?_
  refine z_istore_n (i := 1) [_, _] dX8_layBack_1 rfl (by decide) rfl rfl ?_
  have := loop 39 0 (c 52) (by omega) (by omega) (fun k hk => absurd hk (by omega)) (fun _ _ => rfl); rw [zup_id] at this; exact this
theorem s_X8_copyAll {a b : Nat} (ha : ∀ f, zen E ad a f = .inl (E.2.1.1, 372, .inl f)) (hb : ∀ f, zen E ad b f = .inl (E.2.1.1, 372, .inl f)) (ha6 : a < 64) (hb6 : b < 64) (hab : a ≠ b) (hQ : ∀ g : Nat → Int32, (∀ k, k < 372 → g k = c a k) → (∀ k, 372 ≤ k → g k = c b k) → Qf 0 (zup c b g)) : zCl l E ad mX8_copyAll d [.ref (ad a), .ref (ad b)] c Qf := by
  refine z_enter (own := RX8) [some (.ref (ad a)), some (.ref (ad b)), none] (by decide +kernel) rfl rfl rfl (Nat.le_of_ble_eq_true rfl) ?_
  have loop : ∀ (m i : Nat) (g : Nat → Int32), 372 - i < m → i ≤ 372 → (∀ k, k < i → g k = c a k) → (∀ k, 372 ≤ k → g k = c b k) → zW l E ad RX8 cX8_copyAll 3 0 d Qf 2 [some (.ref (ad a)), some (.ref (ad b)), some (.int (nI i))] [] (zup c b g) := by
    intro m
    induction m with
    | zero => intro i g hm; omega
    | succ m ih =>
      intro i g hm hi hg hg2
      have hlt := nI_leI (a := 372) (b := i) (by omega) (by omega)
      refine z_iload_n (i := 2) dX8_copyAll_2 rfl rfl ?_
      refine z_sipush (v := 372) dX8_copyAll_3 (by decide) ?_
      refine z_icmp_ge 21 dX8_copyAll_6 (by decide) (fun h_6 => ?_) (fun h_6 => ?_)
      · exact z_ret (r := 0) dX8_copyAll_21 (hQ g (fun k hk => hg k (by have := hlt.mp h_6; omega)) hg2) rfl rfl
      · have hi2 : i < 372 := by have := mt hlt.mpr h_6; omega
        refine z_aload_n (i := 1) dX8_copyAll_9 rfl rfl ?_
        refine z_iload_n (i := 2) dX8_copyAll_10 rfl rfl ?_
        refine z_aload_n (i := 0) dX8_copyAll_11 rfl rfl ?_
        refine z_iload_n (i := 2) dX8_copyAll_12 rfl rfl ?_
        refine z_iald dX8_copyAll_13 (by first | decide | assumption | omega) (by first | rfl | exact ha _ | exact hb _) (by rfl) (by first | decide | omega) (by first | decide | omega) ?_
        refine z_iast dX8_copyAll_14 (by first | decide | assumption | omega) (fun _ => by first | rfl | exact ha _ | exact hb _) (by rfl) (by first | decide | omega) (by first | decide | omega) ?_
        refine z_iinc (i := 2) (v := 1) [_, _, _] dX8_copyAll_15 rfl (by decide) (by decide) rfl rfl ?_
        refine z_goto 2 dX8_copyAll_18 (by decide) ?_
        rw [nI_1, zup_zup]; exact ih (i + 1) _ (by omega) (by omega) (fun k hk => by rcases Nat.lt_or_eq_of_le (Nat.lt_succ_iff.mp hk) with q | q; exact (pk_un (by omega)).trans ((congrFun (zup_s _ _ _) _).trans (hg k q)); subst q; exact pk_us.trans (congrFun (zup_n hab) _)) (fun k hk => (pk_un (by omega)).trans ((congrFun (zup_s _ _ _) _).trans (hg2 k hk)))
  refine z_iconst (v := 0) dX8_copyAll_0 (by decide) ?_
  refine z_istore_n (i := 2) [_, _, _] dX8_copyAll_1 rfl (by decide) rfl rfl ?_
  have := loop 373 0 (c b) (by omega) (by omega) (fun k hk => absurd hk (by omega)) (fun _ _ => rfl); rw [zup_id] at this; exact this
end M1
