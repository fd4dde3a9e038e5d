/-! the class: its sheets -/
theorem rows_z {E : zE} {ad : Nat → Nat} {j : Nat} (hj : j < 4) : ∀ f, zen E ad (46 + j) f = .inl (E.2.1.1, 24, .inl f) := by
  intro f
  rcases (show j = 0 ∨ j = 1 ∨ j = 2 ∨ j = 3 by omega) with rfl | rfl | rfl | rfl <;> rfl
section SH
variable {l : Launch} {E : zE} {ad : Nat → Nat} {c : zS} {Qf : Int32 → zS → Prop} {d n : Nat}
theorem s_isMissing {j : Nat} (hj : j < 4) (hQ : Qf (if c 43 j = 0 then 1 else 0) c) : zCl l E ad mX3_isMissing d [.ref (ad 42), .int (nI j)] c Qf := by
  refine z_enter (own := RX3) [some (.ref (ad 42)), some (.int (nI j))] (by decide +kernel) rfl rfl rfl (Nat.le_of_ble_eq_true rfl) ?_
  refine z_aload_n (i := 0) dX3_isMissing_0 rfl rfl ?_
  refine z_getf dX3_isMissing_1 f_X3_9 (by first | decide | assumption | omega) rfl (by rfl) ?_
  refine z_iload_n (i := 1) dX3_isMissing_4 rfl rfl ?_
  refine z_iald (j := j) dX3_isMissing_5 (by first | decide | assumption | omega) rfl (by rfl) (by first | decide | omega) (by first | decide | omega) ?_
  refine z_if_ne 13 dX3_isMissing_6 (by decide) (fun h_6 => ?_) (fun h_6 => ?_)
  · refine z_iconst (v := 0) dX3_isMissing_13 (by decide) ?_
    first
    | (rw [if_pos (by first | exact h_6 | exact Classical.not_not.mp h_6)] at hQ
       exact z_ret (r := 1) dX3_isMissing_14 hQ (by rfl) rfl)
    | (rw [if_neg h_6] at hQ
       exact z_ret (r := 0) dX3_isMissing_14 hQ (by rfl) rfl)
  · refine z_iconst (v := 1) dX3_isMissing_9 (by decide) ?_
    refine z_goto 14 dX3_isMissing_10 (by decide) ?_
    first
    | (rw [if_pos (by first | exact h_6 | exact Classical.not_not.mp h_6)] at hQ
       exact z_ret (r := 1) dX3_isMissing_14 hQ (by rfl) rfl)
    | (rw [if_neg h_6] at hQ
       exact z_ret (r := 0) dX3_isMissing_14 hQ (by rfl) rfl)
theorem s_lowest {j : Nat} {v : Int32} (hj : j < 4) (hQ : Qf (if c 43 j = 8 then v.toInt8.toInt32 else if c 43 j = 16 then v.toInt16.toInt32 else v) c) : zCl l E ad mX3_lowest d [.ref (ad 42), .int (nI j), .int v] c Qf := by
  refine z_enter (own := RX3) [some (.ref (ad 42)), some (.int (nI j)), some (.int v)] (by decide +kernel) rfl rfl rfl (Nat.le_of_ble_eq_true rfl) ?_
  refine z_aload_n (i := 0) dX3_lowest_0 rfl rfl ?_
  refine z_getf dX3_lowest_1 f_X3_9 (by first | decide | assumption | omega) rfl (by rfl) ?_
  refine z_iload_n (i := 1) dX3_lowest_4 rfl rfl ?_
  refine z_iald (j := j) dX3_lowest_5 (by first | decide | assumption | omega) rfl (by rfl) (by first | decide | omega) (by first | decide | omega) ?_
  by_cases h_6_8 : c 43 j = 8
  · refine z_lookup 32 dX3_lowest_6 rfl (by first | (rw [h_6_8]; rfl) | rw [h_6_8]) (by decide) ?_
    refine z_iload_n (i := 2) dX3_lowest_32 rfl rfl ?_
    refine z_i2b dX3_lowest_33 ?_
    exact z_ret dX3_lowest_34 (by grind) trivial rfl
  by_cases h_6_16 : c 43 j = 16
  · refine z_lookup 35 dX3_lowest_6 rfl (by first | (rw [h_6_16]; rfl) | rw [h_6_16]) (by decide) ?_
    refine z_iload_n (i := 2) dX3_lowest_35 rfl rfl ?_
    refine z_i2s dX3_lowest_36 ?_
    exact z_ret dX3_lowest_37 (by grind) trivial rfl
  refine z_lookup 38 dX3_lowest_6 rfl (lk_def (by intro q hq; have hq : q ∈ ([8, 16] : List Int) := hq; simp only [List.mem_cons, List.not_mem_nil, or_false] at hq; have a8 := zt_ne (k := 8) (by decide) h_6_8; have a16 := zt_ne (k := 16) (by decide) h_6_16; omega)) (by decide) ?_
  refine z_iload_n (i := 2) dX3_lowest_38 rfl rfl ?_
  exact z_ret dX3_lowest_39 (by grind) trivial rfl
theorem s_holds {j : Nat} {i m : Int32} (hj : j < 4) (hQ : Qf (if 0 ≤ m ∧ 0 ≤ i ∧ i ≤ c 44 j - m then 1 else 0) c) : zCl l E ad mX3_holds d [.ref (ad 42), .int (nI j), .int i, .int m] c Qf := by
  refine z_enter (own := RX3) [some (.ref (ad 42)), some (.int (nI j)), some (.int i), some (.int m)] (by decide +kernel) rfl rfl rfl (Nat.le_of_ble_eq_true rfl) ?_
  refine z_iload_n (i := 3) dX3_holds_0 rfl rfl ?_
  refine z_if_lt 24 dX3_holds_1 (by decide) (fun h_1 => ?_) (fun h_1 => ?_)
  · refine z_iconst (v := 0) dX3_holds_24 (by decide) ?_
    exact z_ret dX3_holds_25 (by grind) (by rfl) rfl
  · refine z_iload_n (i := 2) dX3_holds_4 rfl rfl ?_
    refine z_if_lt 24 dX3_holds_5 (by decide) (fun h_5 => ?_) (fun h_5 => ?_)
    · refine z_iconst (v := 0) dX3_holds_24 (by decide) ?_
      exact z_ret dX3_holds_25 (by grind) (by rfl) rfl
    · refine z_iload_n (i := 2) dX3_holds_8 rfl rfl ?_
      refine z_aload_n (i := 0) dX3_holds_9 rfl rfl ?_
      refine z_getf dX3_holds_10 f_X3_13 (by first | decide | assumption | omega) rfl (by rfl) ?_
      refine z_iload_n (i := 1) dX3_holds_13 rfl rfl ?_
      refine z_iald (j := j) dX3_holds_14 (by first | decide | assumption | omega) rfl (by rfl) (by first | decide | omega) (by first | decide | omega) ?_
      refine z_iload_n (i := 3) dX3_holds_15 rfl rfl ?_
      refine z_isub dX3_holds_16 ?_
      refine z_icmp_gt 24 dX3_holds_17 (by decide) (fun h_17 => ?_) (fun h_17 => ?_)
      · refine z_iconst (v := 0) dX3_holds_24 (by decide) ?_
        exact z_ret dX3_holds_25 (by grind) (by rfl) rfl
      · refine z_iconst (v := 1) dX3_holds_20 (by decide) ?_
        refine z_goto 25 dX3_holds_21 (by decide) ?_
        exact z_ret dX3_holds_25 (by grind) (by rfl) rfl
theorem s_lays {j m : Nat} {b : Int32} (hj : j < 4) (hm : m ≤ 24) (hQ : ∀ c', c' 43 = upd (c 43) j b → c' 44 = upd (c 44) j (nI m) → (∀ i, i < m → c' (46 + j) i = 0) → (∀ k, k ≠ 43 → k ≠ 44 → k ≠ 46 + j → c' k = c k) → Qf 0 c') : zCl l E ad mX3_lays d [.ref (ad 42), .int (nI j), .int b, .int (nI m)] c Qf := by
  have hrz := rows_z (E := E) (ad := ad) hj
  refine z_enter (own := RX3) [some (.ref (ad 42)), some (.int (nI j)), some (.int b), some (.int (nI m)), none] (by decide +kernel) rfl rfl rfl (Nat.le_of_ble_eq_true rfl) ?_
  have loop : ∀ (r i : Nat) (c1 : zS), m - i < r → i ≤ m → c1 43 = upd (c 43) j b → c1 44 = upd (c 44) j (nI m) → (∀ i', i' < i → c1 (46 + j) i' = 0) → (∀ k, k ≠ 43 → k ≠ 44 → k ≠ 46 + j → c1 k = c k) → zW l E ad RX3 cX3_lays 5 0 d Qf 17 [some (.ref (ad 42)), some (.int (nI j)), some (.int b), some (.int (nI m)), some (.int (nI i))] [] c1 := by
    intro r
    induction r with
    | zero => intro i c1 h; omega
    | succ r ih =>
      intro i c1 hr hi h43 h44 h0 hf
      have hlt := nI_leI (a := m) (b := i) (by omega) (by omega)
      refine z_iload (i := 4) dX3_lays_17 rfl ?_
      refine z_iload_n (i := 3) dX3_lays_19 rfl rfl ?_
      refine z_icmp_ge 39 dX3_lays_20 (by decide) (fun h_20 => ?_) (fun h_20 => ?_)
      · have him : i = m := by have := hlt.mp h_20; omega
        subst him
        exact z_ret (r := 0) dX3_lays_39 (hQ c1 h43 h44 h0 hf) rfl rfl
      · have him : i < m := by have := mt hlt.mpr h_20; omega
        refine z_aload_n (i := 0) dX3_lays_23 rfl rfl ?_
        refine z_getf dX3_lays_24 f_X3_18 (by first | decide | assumption | omega) (by first | rfl | exact hrz _) (by rfl) ?_
        refine z_iload_n (i := 1) dX3_lays_27 rfl rfl ?_
        refine z_aald (j := j) dX3_lays_28 (by rfl) (by first | decide | omega) (by first | decide | omega) ?_
        refine z_iload (i := 4) dX3_lays_29 rfl ?_
        refine z_iconst (v := 0) dX3_lays_31 (by decide) ?_
        refine z_iast (j := i) dX3_lays_32 (by first | decide | assumption | omega) (fun _ => by first | rfl | exact hrz _) (by rfl) (by first | decide | omega) (by first | decide | omega) ?_
        refine z_iinc (i := 4) (v := 1) [_, _, _, _, _] dX3_lays_33 rfl (by decide) (by decide) rfl rfl ?_
        refine z_goto 17 dX3_lays_36 (by decide) ?_
        rw [nI_1]
        refine ih (i + 1) _ (by omega) (by omega) (by rw [zup_n (by omega)]; exact h43) (by rw [zup_n (by omega)]; exact h44) (fun i' hi' => ?_) (fun k a b e => by rw [zup_n e]; exact hf k a b e)
        rw [zup_s]
        unfold upd
        split
        · rfl
        · exact h0 i' (by omega)
  refine z_aload_n (i := 0) dX3_lays_0 rfl rfl ?_
  refine z_getf dX3_lays_1 f_X3_9 (by first | decide | assumption | omega) rfl (by rfl) ?_
  refine z_iload_n (i := 1) dX3_lays_4 rfl rfl ?_
  refine z_iload_n (i := 2) dX3_lays_5 rfl rfl ?_
  refine z_iast (j := j) dX3_lays_6 (by first | decide | assumption | omega) (fun _ => rfl) (by rfl) (by first | decide | omega) (by first | decide | omega) ?_
  refine z_aload_n (i := 0) dX3_lays_7 rfl rfl ?_
  refine z_getf dX3_lays_8 f_X3_13 (by first | decide | assumption | omega) rfl (by rfl) ?_
  refine z_iload_n (i := 1) dX3_lays_11 rfl rfl ?_
  refine z_iload_n (i := 3) dX3_lays_12 rfl rfl ?_
  refine z_iast (j := j) dX3_lays_13 (by first | decide | assumption | omega) (fun _ => rfl) (by rfl) (by first | decide | omega) (by first | decide | omega) ?_
  refine z_iconst (v := 0) dX3_lays_14 (by decide) ?_
  refine z_istore (i := 4) [_, _, _, _, _] dX3_lays_15 (by decide) rfl rfl ?_
  refine loop (m + 1) 0 _ (by omega) (by omega) ?_ ?_ (fun i hi => absurd hi (Nat.not_lt_zero _)) (fun k a b e => ?_)
  · rw [zup_n (by decide), zup_s]
  · rw [zup_s, zup_n (by decide)]
  · rw [zup_n b, zup_n a]
end SH
