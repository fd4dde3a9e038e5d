/-! the reader of TEXTS, the reference's methods -/
def zps (c : zS) (q : pS) (c' : zS) : Prop := c' 51 5 = nI q.1 ∧ c' 51 7 = nI q.2.1 ∧ (∀ i, i < 2 * q.2.1 → c' 56 i = q.2.2 i) ∧ (∀ k, k ≠ 51 → k ≠ 56 → c' k = c k) ∧ (∀ i, i ≠ 5 → i ≠ 6 → i ≠ 7 → c' 51 i = c 51 i)
def zpe (tp : zN) (len u : Nat) (c : zS) : Prop := (∀ i, i < len → c 52 (288 + i) = tp i) ∧ c 52 3 = nI len ∧ c 51 8 = nI u ∧ len ≤ 60 ∧ u < 2
theorem zps_tr {c0 c1 c2 : zS} {q q2 : pS} (h : zps c0 q c1) (h2 : zps c1 q2 c2) : zps c0 q2 c2 :=
  ⟨h2.1, h2.2.1, h2.2.2.1, fun k a b => (h2.2.2.2.1 k a b).trans (h.2.2.2.1 k a b), fun i a b e => (h2.2.2.2.2 i a b e).trans (h.2.2.2.2 i a b e)⟩
theorem zpe_tr {tp : zN} {len u : Nat} {c0 c1 : zS} {q : pS} (h : zpe tp len u c0) (h2 : zps c0 q c1) : zpe tp len u c1 := by
  have e := h2.2.2.2.1 52 (by decide) (by decide)
  exact ⟨fun i hi => by rw [e]; exact h.1 i hi, by rw [e]; exact h.2.1, (h2.2.2.2.2 8 (by decide) (by decide) (by decide)).trans h.2.2.1, h.2.2.2⟩
theorem zps_adv {c : zS} {q : pS} {x : Int32} (h : zps c q c) (hx : x = nI (q.1 + 1)) : zps c (adv q) (zup c 51 (upd (c 51) 5 x)) := by
  subst hx
  refine ⟨by rw [zup_s, pk_us]; rfl, by rw [zup_s, pk_un (by decide)]; exact h.2.1, fun i hi => by rw [zup_n (by decide)]; exact h.2.2.1 i hi, fun k a b => zup_n a, fun i a b e => by rw [zup_s, pk_un a]⟩
theorem zps_open {c : zS} {q : pS} {x : Int32} (h : zps c q c) : zps c q (zup c 51 (upd (c 51) 6 x)) := by
  refine ⟨by rw [zup_s, pk_un (by decide)]; exact h.1, by rw [zup_s, pk_un (by decide)]; exact h.2.1, fun i hi => by rw [zup_n (by decide)]; exact h.2.2.1 i hi, fun k a b => zup_n a, fun i a b e => by rw [zup_s, pk_un b]⟩
theorem zps_stp {c : zS} {q : pS} {w v : Int32} (h : zps c q c) : zps c (stp w v q) (zup (zup c 56 (upd (upd (c 56) (2 * q.2.1) w) (2 * q.2.1 + 1) v)) 51 (upd (c 51) 7 (nI (q.2.1 + 1)))) := by
  refine ⟨by rw [zup_s, pk_un (by decide)]; exact h.1, by rw [zup_s, pk_us]; rfl, fun i hi => ?_, fun k a b => by rw [zup_n a, zup_n b], fun i a b e => by rw [zup_s, pk_un e]⟩
  have hi : i < 2 * (q.2.1 + 1) := hi
  rw [zup_n (by decide), zup_s]
  unfold stp upd
  dsimp only
  by_cases e1 : i = 2 * q.2.1 + 1
  · rw [if_pos e1, if_pos e1]
  · rw [if_neg e1, if_neg e1]
    by_cases e2 : i = 2 * q.2.1
    · rw [if_pos e2, if_pos e2]
    · rw [if_neg e2, if_neg e2]
      exact h.2.2.1 i (by omega)
section P2
variable {l : Launch} {E : zE} {ad : Nat → Nat} {c : zS} {Qf : Int32 → zS → Prop} {d n : Nat}
theorem zps_self {c0 : zS} {q : pS} (h : zps c0 q c) : zps c q c := ⟨h.1, h.2.1, h.2.2.1, fun _ _ _ => rfl, fun _ _ _ _ => rfl⟩
theorem s_X8_step1 {w v : Int32} {k : Nat} (hk : c 51 7 = nI k) (hk6 : k < 60) (hQ : Qf 0 (zup (zup c 56 (upd (upd (c 56) (2 * k) w) (2 * k + 1) v)) 51 (upd (c 51) 7 (nI (k + 1))))) : zCl l E ad mX8_step1 d [.ref (ad 51), .int w, .int v] c Qf := by
  have e2 : (2 : Int32) * nI k = nI (2 * k) := by show nI 2 * nI k = _; rw [pk_mul]
  refine z_enter (own := RX8) [some (.ref (ad 51)), some (.int w), some (.int v)] (by decide +kernel) rfl rfl rfl (Nat.le_of_ble_eq_true rfl) ?_
  refine z_aload_n (i := 0) dX8_step1_0 rfl rfl ?_
  refine z_getf dX8_step1_1 f_X8_22 (by first | decide | assumption | omega) rfl (by rfl) ?_
  refine z_iconst (v := 2) dX8_step1_4 (by decide) ?_
  refine z_aload_n (i := 0) dX8_step1_5 rfl rfl ?_
  refine z_getf dX8_step1_6 f_X8_64 (by first | decide | assumption | omega) rfl (by rfl) ?_
  rw [hk]
  refine z_imul dX8_step1_9 ?_
  refine z_iload_n (i := 1) dX8_step1_10 rfl rfl ?_
  refine z_iast (j := 2 * k) dX8_step1_11 (by first | decide | assumption | omega) (fun _ => rfl) (by exact e2) (by first | decide | omega) (by first | decide | omega) ?_
  refine z_aload_n (i := 0) dX8_step1_12 rfl rfl ?_
  refine z_getf dX8_step1_13 f_X8_22 (by first | decide | assumption | omega) rfl (by rfl) ?_
  refine z_iconst (v := 2) dX8_step1_16 (by decide) ?_
  refine z_aload_n (i := 0) dX8_step1_17 rfl rfl ?_
  refine z_getf dX8_step1_18 f_X8_64 (by first | decide | assumption | omega) rfl (by rfl) ?_
  rw [show zup c 56 (upd (c 56) (2 * k) w) 51 = c 51 from rfl, hk]
  refine z_imul dX8_step1_21 ?_
  refine z_iconst (v := 1) dX8_step1_22 (by decide) ?_
  refine z_iadd dX8_step1_23 ?_
  refine z_iload_n (i := 2) dX8_step1_24 rfl rfl ?_
  refine z_iast (j := 2 * k + 1) dX8_step1_25 (by first | decide | assumption | omega) (fun _ => rfl) (by rw [e2, nI_1]) (by first | decide | omega) (by first | decide | omega) ?_
  refine z_aload_n (i := 0) dX8_step1_26 rfl rfl ?_
  refine z_dup dX8_step1_27 rfl ?_
  refine z_getf dX8_step1_28 f_X8_64 (by first | decide | assumption | omega) rfl (by rfl) ?_
  refine z_iconst (v := 1) dX8_step1_31 (by decide) ?_
  refine z_iadd dX8_step1_32 ?_
  refine z_putfi dX8_step1_33 f_X8_64 fp_X8_7 (by first | decide | assumption | omega) rfl (by exact Nat.le_of_ble_eq_true rfl) rfl ?_
  refine z_ret (r := 0) dX8_step1_36 ?_ rfl rfl
  simp only [zup_s, zup_zup, zup_n (show (51 : Nat) ≠ 56 by decide), hk, nI_1]
  exact hQ
theorem s_X8_isName {b : Int32} {u : Nat} (hu : c 51 8 = nI u) (hu2 : u < 2) (hQ : Qf (if nmB u b then 1 else 0) c) : zCl l E ad mX8_isName d [.ref (ad 51), .int b] c Qf := by
  have hu0 : nI u = 0 ↔ u = 0 := nI_eq (a := u) (b := 0) (by omega) (by omega)
  unfold nmB at hQ
  refine z_enter (own := RX8) [some (.ref (ad 51)), some (.int b)] (by decide +kernel) rfl rfl rfl (Nat.le_of_ble_eq_true rfl) ?_
  rcases (show u = 0 ∨ u = 1 by omega) with rfl | rfl
  · rw [if_pos rfl, if_pos rfl] at hQ
    refine z_iload_n (i := 1) dX8_isName_0 rfl rfl ?_
    refine z_bipush (v := 99) dX8_isName_1 (by decide) ?_
    refine z_icmp_ne 8 dX8_isName_3 (by decide) (fun h_3 => ?_) (fun h_3 => ?_)
    · refine z_aload_n (i := 0) dX8_isName_8 rfl rfl ?_
      refine z_getf dX8_isName_9 f_X8_61 (by first | decide | assumption | omega) rfl (by rfl) ?_
      refine z_if_ne 35 dX8_isName_12 (by decide) (fun h_12 => ?_) (fun h_12 => ?_)
      · exfalso; rw [hu] at h_12; exact h_12 rfl
      refine z_iload_n (i := 1) dX8_isName_15 rfl rfl ?_
      refine z_bipush (v := 115) dX8_isName_16 (by decide) ?_
      refine z_icmp_eq 27 dX8_isName_18 (by decide) (fun h_18 => ?_) (fun h_18 => ?_)
      · refine z_iconst (v := 1) dX8_isName_27 (by decide) ?_
        refine z_goto 52 dX8_isName_28 (by decide) ?_
        exact z_ret dX8_isName_52 (by grind) (by rfl) rfl
      · refine z_iload_n (i := 1) dX8_isName_21 rfl rfl ?_
        refine z_bipush (v := 104) dX8_isName_22 (by decide) ?_
        refine z_icmp_ne 31 dX8_isName_24 (by decide) (fun h_24 => ?_) (fun h_24 => ?_)
        · refine z_iconst (v := 0) dX8_isName_31 (by decide) ?_
          refine z_goto 52 dX8_isName_32 (by decide) ?_
          exact z_ret dX8_isName_52 (by grind) (by rfl) rfl
        · refine z_iconst (v := 1) dX8_isName_27 (by decide) ?_
          refine z_goto 52 dX8_isName_28 (by decide) ?_
          exact z_ret dX8_isName_52 (by grind) (by rfl) rfl
    · refine z_iconst (v := 1) dX8_isName_6 (by decide) ?_
      exact z_ret dX8_isName_7 (by grind) (by rfl) rfl
  · rw [if_neg (show ¬ (1 : Nat) = 0 by decide), if_neg (show ¬ (1 : Nat) = 0 by decide)] at hQ
    refine z_iload_n (i := 1) dX8_isName_0 rfl rfl ?_
    refine z_bipush (v := 99) dX8_isName_1 (by decide) ?_
    refine z_icmp_ne 8 dX8_isName_3 (by decide) (fun h_3 => ?_) (fun h_3 => ?_)
    · refine z_aload_n (i := 0) dX8_isName_8 rfl rfl ?_
      refine z_getf dX8_isName_9 f_X8_61 (by first | decide | assumption | omega) rfl (by rfl) ?_
      refine z_if_ne 35 dX8_isName_12 (by decide) (fun h_12 => ?_) (fun h_12 => ?_)
      rotate_left
      · exfalso; rw [hu] at h_12; revert h_12; decide
      refine z_iload_n (i := 1) dX8_isName_35 rfl rfl ?_
      refine z_bipush (v := 109) dX8_isName_36 (by decide) ?_
      refine z_icmp_eq 47 dX8_isName_38 (by decide) (fun h_38 => ?_) (fun h_38 => ?_)
      · refine z_iconst (v := 1) dX8_isName_47 (by decide) ?_
        refine z_goto 52 dX8_isName_48 (by decide) ?_
        exact z_ret dX8_isName_52 (by grind) (by rfl) rfl
      · refine z_iload_n (i := 1) dX8_isName_41 rfl rfl ?_
        refine z_bipush (v := 107) dX8_isName_42 (by decide) ?_
        refine z_icmp_ne 51 dX8_isName_44 (by decide) (fun h_44 => ?_) (fun h_44 => ?_)
        · refine z_iconst (v := 0) dX8_isName_51 (by decide) ?_
          exact z_ret dX8_isName_52 (by grind) (by rfl) rfl
        · refine z_iconst (v := 1) dX8_isName_47 (by decide) ?_
          refine z_goto 52 dX8_isName_48 (by decide) ?_
          exact z_ret dX8_isName_52 (by grind) (by rfl) rfl
    · refine z_iconst (v := 1) dX8_isName_6 (by decide) ?_
      exact z_ret dX8_isName_7 (by grind) (by rfl) rfl
theorem s_X8_opens {o a : Nat} (ho : c 51 6 = nI o) (ha : c 51 5 = nI a) (ho5 : o ≤ 5) (ha6 : a ≤ 60) (hQ : if o = 5 then Qf 0 c else Qf 1 (zup c 51 (upd (upd (c 51) 6 (nI (o + 1))) 5 (nI (a + 1))))) : zCl l E ad mX8_opens d [.ref (ad 51)] c Qf := by
  have e5 : nI o = 5 ↔ o = 5 := nI_eq (a := o) (b := 5) (by omega) (by omega)
  refine z_enter (own := RX8) [some (.ref (ad 51))] (by decide +kernel) rfl rfl rfl (Nat.le_of_ble_eq_true rfl) ?_
  by_cases h5 : o = 5
  · rw [if_pos h5] at hQ
    refine z_aload_n (i := 0) dX8_opens_0 rfl rfl ?_
    refine z_getf dX8_opens_1 f_X8_91 (by first | decide | assumption | omega) rfl (by rfl) ?_
    refine z_iconst (v := 5) dX8_opens_4 (by decide) ?_
    refine z_icmp_ne 10 dX8_opens_5 (by decide) (fun h_5 => ?_) (fun h_5 => ?_)
    · exfalso; grind
    refine z_iconst (v := 0) dX8_opens_8 (by decide) ?_
    exact z_ret dX8_opens_9 hQ (by rfl) rfl
  · rw [if_neg h5] at hQ
    refine z_aload_n (i := 0) dX8_opens_0 rfl rfl ?_
    refine z_getf dX8_opens_1 f_X8_91 (by first | decide | assumption | omega) rfl (by rfl) ?_
    refine z_iconst (v := 5) dX8_opens_4 (by decide) ?_
    refine z_icmp_ne 10 dX8_opens_5 (by decide) (fun h_5 => ?_) (fun h_5 => ?_)
    rotate_left
    · exfalso; grind
    refine z_aload_n (i := 0) dX8_opens_10 rfl rfl ?_
    refine z_dup dX8_opens_11 rfl ?_
    refine z_getf dX8_opens_12 f_X8_91 (by first | decide | assumption | omega) rfl (by rfl) ?_
    refine z_iconst (v := 1) dX8_opens_15 (by decide) ?_
    refine z_iadd dX8_opens_16 ?_
    refine z_putfi dX8_opens_17 f_X8_91 fp_X8_6 (by first | decide | assumption | omega) rfl (by exact Nat.le_of_ble_eq_true rfl) rfl ?_
    refine z_aload_n (i := 0) dX8_opens_20 rfl rfl ?_
    refine z_dup dX8_opens_21 rfl ?_
    refine z_getf dX8_opens_22 f_X8_57 (by first | decide | assumption | omega) rfl (by rfl) ?_
    refine z_iconst (v := 1) dX8_opens_25 (by decide) ?_
    refine z_iadd dX8_opens_26 ?_
    refine z_putfi dX8_opens_27 f_X8_57 fp_X8_5 (by first | decide | assumption | omega) rfl (by exact Nat.le_of_ble_eq_true rfl) rfl ?_
    refine z_iconst (v := 1) dX8_opens_30 (by decide) ?_
    refine z_ret dX8_opens_31 ?_ (by rfl) rfl
    simp only [zup_s, zup_zup, pk_un (show (5 : Nat) ≠ 6 by decide), ho, ha, nI_1]
    exact hQ
def prC (l : Launch) (E : zE) (ad : Nat → Nat) (tp : zN) (len u f r : Nat) (key : zM) : Prop := ∀ (c : zS) (o d : Nat) (q : pS) (Qf : Int32 → zS → Prop), 8 * (60 - q.1) + (6 - r) ≤ f → q.1 ≤ len → o ≤ 5 → q.2.1 ≤ q.1 → 6 * (5 - o) + (5 - r) + 2 ≤ d → zps c q c → c 51 6 = nI o → zpe tp len u c → (∀ c', zps c (prF (lkF tp len) u f r o q).2 c' → ((prF (lkF tp len) u f r o q).1 = true → c' 51 6 = nI o) → Qf (if (prF (lkF tp len) u f r o q).1 = true then 1 else 0) c') → zCl l E ad key d [.ref (ad 51)] c Qf
theorem t_look {tp : zN} {len u : Nat} {q : pS} (hq : zps c q c) (he : zpe tp len u c) (hq6 : q.1 ≤ len) (hQ : Qf (lkF tp len q.1) c) : zCl l E ad mX8_look d [.ref (ad 51)] c Qf := by
  refine s_X8_look (n := len) hq.1 he.2.1 he.2.2.2.1 (by have := he.2.2.2.1; omega) ?_
  have : (if q.1 < len then c 52 (288 + q.1) else -1) = lkF tp len q.1 := by
    unfold lkF
    split
    · next h => exact he.1 _ h
    · rfl
  rw [this]
  exact hQ
end P2
