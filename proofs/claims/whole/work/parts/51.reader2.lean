/-! the class: its reader of TEXTS -/
def zqs (u : Nat) (c : zS) (q : pS) (c' : zS) : Prop := c' 31 4 = nI q.1 ∧ c' 31 2 = nI q.2.1 ∧ (∀ k, k < q.2.1 → c' 32 k = enc u (q.2.2 (2 * k)) (q.2.2 (2 * k + 1))) ∧ (∀ k, k ≠ 31 → k ≠ 32 → c' k = c k) ∧ (∀ i, i ≠ 2 → i ≠ 4 → c' 31 i = c 31 i)
def zqe (tp : zN) (len u : Nat) (c : zS) : Prop := (∀ i, i < len → c 14 i = tp i) ∧ c 31 3 = nI len ∧ c 31 5 = nI (u + 1) ∧ len ≤ 60 ∧ u < 2 ∧ ∀ i, i < len → ∃ b : Nat, b < 256 ∧ tp i = nI b
theorem zqs_tr {u : Nat} {c0 c1 c2 : zS} {q q2 : pS} (h : zqs u c0 q c1) (h2 : zqs u c1 q2 c2) : zqs u c0 q2 c2 :=
  ⟨h2.1, h2.2.1, h2.2.2.1, fun k a b => (h2.2.2.2.1 k a b).trans (h.2.2.2.1 k a b), fun i a b => (h2.2.2.2.2 i a b).trans (h.2.2.2.2 i a b)⟩
theorem zqe_tr {tp : zN} {len u : Nat} {c0 c1 : zS} {q : pS} (h : zqe tp len u c0) (h2 : zqs u c0 q c1) : zqe tp len u c1 := by
  have e := h2.2.2.2.1 14 (by decide) (by decide)
  exact ⟨fun i hi => by rw [e]; exact h.1 i hi, (h2.2.2.2.2 3 (by decide) (by decide)).trans h.2.1, (h2.2.2.2.2 5 (by decide) (by decide)).trans h.2.2.1, h.2.2.2⟩
theorem zqs_self {u : Nat} {c0 c : zS} {q : pS} (h : zqs u c0 q c) : zqs u c q c := ⟨h.1, h.2.1, h.2.2.1, fun _ _ _ => rfl, fun _ _ _ => rfl⟩
theorem zqs_adv {u : Nat} {c : zS} {q : pS} (h : zqs u c q c) : zqs u c (adv q) (zup c 31 (upd (c 31) 4 (c 31 4 + 1))) := by
  refine ⟨by rw [zup_s, pk_us, h.1, nI_1]; rfl, by rw [zup_s, pk_un (by decide)]; exact h.2.1, fun i hi => by rw [zup_n (by decide)]; exact h.2.2.1 i hi, fun k a b => zup_n a, fun i a b => by rw [zup_s, pk_un b]⟩
theorem zqs_stp {u : Nat} {c : zS} {q : pS} {w v x : Int32} (h : zqs u c q c) (hx : x = enc u w v) : zqs u c (stp w v q) (zup (zup c 32 (upd (c 32) q.2.1 x)) 31 (upd (c 31) 2 (nI (q.2.1 + 1)))) := by
  subst hx
  refine ⟨by rw [zup_s, pk_un (by decide)]; exact h.1, by rw [zup_s, pk_us]; rfl, fun i hi => ?_, fun k a b => by rw [zup_n a, zup_n b], fun i a b => by rw [zup_s, pk_un a]⟩
  have hi : i < q.2.1 + 1 := hi
  rw [zup_n (by decide), zup_s]
  unfold stp upd
  dsimp only
  by_cases e2 : i = q.2.1
  · subst e2
    rw [if_pos rfl, if_neg (by omega), if_pos rfl, if_pos rfl]
  · rw [if_neg e2, if_neg (by omega), if_neg (by omega), if_neg (by omega), if_neg (by omega)]
    exact h.2.2.1 i (by omega)
section RB
variable {l : Launch} {E : zE} {ad : Nat → Nat} {c : zS} {Qf : Int32 → zS → Prop} {d n : Nat} {tp : zN} {len u : Nat}
theorem s_next {q : pS} (hq : zqs u c q c) (he : zqe tp len u c) (hq6 : q.1 ≤ len) (hQ : Qf (lkF tp len q.1) c) : zCl l E ad mX2_next d [.ref (ad 31)] c Qf := by
  have hl6 := he.2.2.2.1
  have hlt := nI_leI (a := len) (b := q.1) (by omega) (by omega)
  unfold lkF at hQ
  refine z_enter (own := RX2) [some (.ref (ad 31))] (by decide +kernel) rfl rfl rfl (Nat.le_of_ble_eq_true rfl) ?_
  refine z_aload_n (i := 0) dX2_next_0 rfl rfl ?_
  refine z_getf dX2_next_1 f_X2_22 (by first | decide | assumption | omega) rfl (by rfl) ?_
  refine z_aload_n (i := 0) dX2_next_4 rfl rfl ?_
  refine z_getf dX2_next_5 f_X2_19 (by first | decide | assumption | omega) rfl (by rfl) ?_
  rw [hq.1, he.2.1]
  refine z_icmp_ge 23 dX2_next_8 (by decide) (fun h_8 => ?_) (fun h_8 => ?_)
  · refine z_iconst (v := (-1)) dX2_next_23 (by decide) ?_
    first
    | (rw [if_neg (by have := hlt.mp h_8; omega)] at hQ
       exact z_ret dX2_next_24 hQ trivial rfl)
    | (rw [if_pos (by have := mt hlt.mpr h_8; omega)] at hQ
       rw [he.1 q.1 (by have := mt hlt.mpr h_8; omega)]
       exact z_ret dX2_next_24 hQ trivial rfl)
  · have hlt2 : q.1 < len := by have := mt hlt.mpr h_8; omega
    refine z_aload_n (i := 0) dX2_next_11 rfl rfl ?_
    refine z_getf dX2_next_12 f_X2_31 (by first | decide | assumption | omega) rfl (by rfl) ?_
    refine z_aload_n (i := 0) dX2_next_15 rfl rfl ?_
    refine z_getf dX2_next_16 f_X2_22 (by first | decide | assumption | omega) rfl (by rfl) ?_
    rw [hq.1]
    refine z_iald (j := q.1) dX2_next_19 (by first | decide | assumption | omega) rfl (by rfl) (by first | decide | omega) (by first | decide | omega) ?_
    refine z_goto 24 dX2_next_20 (by decide) ?_
    first
    | (rw [if_neg (by have := hlt.mp h_8; omega)] at hQ
       exact z_ret dX2_next_24 hQ trivial rfl)
    | (rw [if_pos (by have := mt hlt.mpr h_8; omega)] at hQ
       rw [he.1 q.1 (by have := mt hlt.mpr h_8; omega)]
       exact z_ret dX2_next_24 hQ trivial rfl)
theorem s_writes {q : pS} {x : Int32} (hq : zqs u c q c) (h6 : q.2.1 < 60) (hQ : Qf 0 (zup (zup c 32 (upd (c 32) q.2.1 x)) 31 (upd (c 31) 2 (nI (q.2.1 + 1))))) : zCl l E ad mX2_writes d [.ref (ad 31), .int x] c Qf := by
  have hlt := nI_leI (a := 60) (b := q.2.1) (by omega) (by omega)
  refine z_enter (own := RX2) [some (.ref (ad 31)), some (.int x)] (by decide +kernel) rfl rfl rfl (Nat.le_of_ble_eq_true rfl) ?_
  refine z_aload_n (i := 0) dX2_writes_0 rfl rfl ?_
  refine z_getf dX2_writes_1 f_X2_15 (by first | decide | assumption | omega) rfl (by rfl) ?_
  refine z_bipush (v := 60) dX2_writes_4 (by decide) ?_
  rw [hq.2.1]
  refine z_icmp_ge 29 dX2_writes_6 (by decide) (fun h_6 => ?_) (fun h_6 => ?_)
  · exfalso; have := hlt.mp h_6; omega
  refine z_aload_n (i := 0) dX2_writes_9 rfl rfl ?_
  refine z_getf dX2_writes_10 f_X2_9 (by first | decide | assumption | omega) rfl (by rfl) ?_
  refine z_aload_n (i := 0) dX2_writes_13 rfl rfl ?_
  refine z_getf dX2_writes_14 f_X2_15 (by first | decide | assumption | omega) rfl (by rfl) ?_
  rw [hq.2.1]
  refine z_iload_n (i := 1) dX2_writes_17 rfl rfl ?_
  refine z_iast (j := q.2.1) dX2_writes_18 (by first | decide | assumption | omega) (fun _ => rfl) (by rfl) (by first | decide | omega) (by first | decide | omega) ?_
  refine z_aload_n (i := 0) dX2_writes_19 rfl rfl ?_
  refine z_dup dX2_writes_20 rfl ?_
  refine z_getf dX2_writes_21 f_X2_15 (by first | decide | assumption | omega) rfl (by rfl) ?_
  refine z_iconst (v := 1) dX2_writes_24 (by decide) ?_
  refine z_iadd dX2_writes_25 ?_
  refine z_putfi dX2_writes_26 f_X2_15 fp_X2_2 (by first | decide | assumption | omega) rfl (by exact Nat.le_of_ble_eq_true rfl) rfl ?_
  refine z_ret (r := 0) dX2_writes_29 ?_ rfl rfl
  rw [show zup c 32 (upd (c 32) q.2.1 x) 31 = c 31 from rfl, hq.2.1, nI_1]
  exact hQ
theorem nb_nI {tp : zN} {len i : Nat} (he : ∀ i, i < len → ∃ b : Nat, b < 256 ∧ tp i = nI b) : lkF tp len i = -1 ∨ ∃ b : Nat, b < 256 ∧ lkF tp len i = nI b := by
  unfold lkF
  split
  · next h => exact Or.inr (he i h)
  · exact Or.inl rfl
theorem s_readsNumber {q : pS} (hq : zqs u c q c) (he : zqe tp len u c) (hq6 : q.1 ≤ len) (hn : q.2.1 < 60) (hd : 1 ≤ d) (hQ : ∀ c', zqs u c (nbF (lkF tp len) 4 0 q) c' → Qf 1 c') : zCl l E ad mX2_readsNumber d [.ref (ad 31)] c Qf := by
  refine z_enter (own := RX2) [some (.ref (ad 31)), none, none] (by decide +kernel) rfl rfl rfl (Nat.le_of_ble_eq_true rfl) ?_
  have nb : ∀ (k i : Nat) (v : Int32) (q1 : pS) (c1 : zS), i + k = 4 → q1.1 ≤ len → q1.2.1 < 60 → zqs u c q1 c1 → (∀ c', zqs u c (nbF (lkF tp len) k v q1) c' → Qf 1 c') → zW l E ad RX2 cX2_readsNumber 3 3 d Qf 4 [some (.ref (ad 31)), some (.int v), some (.int (nI i))] [] c1 := by
    have out : ∀ (v i : Int32) (q1 : pS) (c1 : zS), q1.2.1 < 60 → zqs u c q1 c1 → (∀ c', zqs u c (stp 0 v q1) c' → Qf 1 c') → zW l E ad RX2 cX2_readsNumber 3 3 d Qf 48 [some (.ref (ad 31)), some (.int v), some (.int i)] [] c1 := by
      intro v i q1 c1 hn1 hz1 hq1
      refine z_aload_n (i := 0) dX2_readsNumber_48 rfl rfl ?_
      refine z_iload_n (i := 1) dX2_readsNumber_49 rfl rfl ?_
      refine z_Vv (As := [_]) dX2_readsNumber_50 (by rfl) v_X2_writes l_X2_54 (by first | decide | assumption | omega) rfl rfl rfl (by omega) (by decide) (Nat.le_of_ble_eq_true rfl) ?_
      refine s_writes (zqs_self hz1) hn1 ?_
      refine z_iconst (v := 1) dX2_readsNumber_53 (by decide) ?_
      exact z_ret dX2_readsNumber_54 (hq1 _ (zqs_tr hz1 (zqs_stp (zqs_self hz1) (by unfold enc; rw [if_pos rfl])))) (by rfl) rfl
    intro k
    induction k with
    | zero =>
      intro i v q1 c1 hi hq1 hn1 hz1 hQ1
      have hi4 : i = 4 := by omega
      subst hi4
      refine z_iload_n (i := 2) dX2_readsNumber_4 rfl rfl ?_
      refine z_iconst (v := 4) dX2_readsNumber_5 (by decide) ?_
      refine z_icmp_ge 48 dX2_readsNumber_6 (by decide) (fun h_6 => ?_) (fun h_6 => ?_)
      rotate_left
      · exact absurd (by decide) h_6
      exact out v _ q1 c1 hn1 hz1 hQ1
    | succ k ih =>
      intro i v q1 c1 hi hq1 hn1 hz1 hQ1
      have hlt : (4 : Int32) ≤ nI i ↔ 4 ≤ i := nI_leI (a := 4) (b := i) (by omega) (by omega)
      have he1 := zqe_tr he hz1
      unfold nbF at hQ1
      refine z_iload_n (i := 2) dX2_readsNumber_4 rfl rfl ?_
      refine z_iconst (v := 4) dX2_readsNumber_5 (by decide) ?_
      refine z_icmp_ge 48 dX2_readsNumber_6 (by decide) (fun h_6 => ?_) (fun h_6 => ?_)
      · exfalso; have := hlt.mp h_6; omega
      refine z_aload_n (i := 0) dX2_readsNumber_9 rfl rfl ?_
      refine z_Vi (As := []) dX2_readsNumber_10 (by rfl) v_X2_next l_X2_46 (by first | decide | assumption | omega) rfl rfl rfl (by omega) (by decide) (Nat.le_of_ble_eq_true rfl) ?_
      refine s_next (zqs_self hz1) he1 hq1 ?_
      refine z_Sb (As := [_]) dX2_readsNumber_13 (by rfl) v_X2_isDigit l_X2_58 rfl (by omega) (by decide) (Nat.le_of_ble_eq_true rfl) ?_
      refine s_X2_isDigit ?_
      refine z_if_eq 48 dX2_readsNumber_16 (by decide) (fun h_16 => ?_) (fun h_16 => ?_)
      · rw [if_neg (bite.mp h_16)] at hQ1
        exact out v _ q1 c1 hn1 hz1 hQ1
      · have hdg : 48 ≤ lkF tp len q1.1 ∧ lkF tp len q1.1 ≤ 57 := Classical.byContradiction (fun w => h_16 (bite.mpr w))
        rw [if_pos hdg] at hQ1
        have hp := lk_lt (tp := tp) (len := len) (i := q1.1) (fun e => by rw [e] at hdg; exact absurd hdg.1 (by decide))
        refine z_iload_n (i := 1) dX2_readsNumber_19 rfl rfl ?_
        refine z_bipush (v := 10) dX2_readsNumber_20 (by decide) ?_
        refine z_imul dX2_readsNumber_22 ?_
        refine z_aload_n (i := 0) dX2_readsNumber_23 rfl rfl ?_
        refine z_Vi (As := []) dX2_readsNumber_24 (by rfl) v_X2_next l_X2_46 (by first | decide | assumption | omega) rfl rfl rfl (by omega) (by decide) (Nat.le_of_ble_eq_true rfl) ?_
        refine s_next (zqs_self hz1) he1 hq1 ?_
        refine z_iadd dX2_readsNumber_27 ?_
        refine z_bipush (v := 48) dX2_readsNumber_28 (by decide) ?_
        refine z_isub dX2_readsNumber_30 ?_
        refine z_istore_n (i := 1) [_, _, _] dX2_readsNumber_31 rfl (by decide) rfl rfl ?_
        refine z_aload_n (i := 0) dX2_readsNumber_32 rfl rfl ?_
        refine z_dup dX2_readsNumber_33 rfl ?_
        refine z_getf dX2_readsNumber_34 f_X2_22 (by first | decide | assumption | omega) rfl (by rfl) ?_
        refine z_iconst (v := 1) dX2_readsNumber_37 (by decide) ?_
        refine z_iadd dX2_readsNumber_38 ?_
        refine z_putfi dX2_readsNumber_39 f_X2_22 fp_X2_4 (by first | decide | assumption | omega) rfl (by exact Nat.le_of_ble_eq_true rfl) rfl ?_
        refine z_iinc (i := 2) (v := 1) [_, _, _] dX2_readsNumber_42 rfl (by decide) (by decide) rfl rfl ?_
        refine z_goto 4 dX2_readsNumber_45 (by decide) ?_
        rw [nI_1]
        have hv10 : v * 10 + lkF tp len q1.1 - 48 = 10 * v + lkF tp len q1.1 - 48 := by generalize lkF tp len q1.1 = y; grind
        rw [hv10]
        refine ih (i + 1) _ (adv q1) _ (by omega) (by show q1.1 + 1 ≤ len; omega) hn1 (zqs_tr hz1 (zqs_adv (zqs_self hz1))) hQ1
  refine z_iconst (v := 0) dX2_readsNumber_0 (by decide) ?_
  refine z_istore_n (i := 1) [_, _, _] dX2_readsNumber_1 rfl (by decide) rfl rfl ?_
  refine z_iconst (v := 0) dX2_readsNumber_2 (by decide) ?_
  refine z_istore_n (i := 2) [_, _, _] dX2_readsNumber_3 rfl (by decide) rfl rfl ?_
  exact nb 4 0 0 q c (by omega) hq6 hn hq hQ
def rdC (l : Launch) (E : zE) (ad : Nat → Nat) (tp : zN) (len u f r : Nat) : Prop := ∀ (c : zS) (o d : Nat) (q : pS) (Qf : Int32 → zS → Prop), 8 * (60 - q.1) + (6 - r) ≤ f → q.1 ≤ len → o ≤ 5 → q.2.1 ≤ q.1 → 8 * (5 - o) + (5 - r) + 7 ≤ d → zqs u c q c → zqe tp len u c → (∀ c', zqs u c (prF (lkF tp len) u f r o q).2 c' → Qf (if (prF (lkF tp len) u f r o q).1 = true then 1 else 0) c') → zCl l E ad mX2_reads d [.ref (ad 31), .int (nI r), .int (nI o)] c Qf
def ruC (l : Launch) (E : zE) (ad : Nat → Nat) (tp : zN) (len u f : Nat) : Prop := ∀ (c : zS) (o d : Nat) (q : pS) (Qf : Int32 → zS → Prop), 8 * (60 - q.1) + 1 ≤ f → q.1 ≤ len → o ≤ 5 → q.2.1 ≤ q.1 → 8 * (5 - o) + 6 ≤ d → zqs u c q c → zqe tp len u c → (∀ c', zqs u c (prF (lkF tp len) u f 5 o q).2 c' → Qf (if (prF (lkF tp len) u f 5 o q).1 = true then 1 else 0) c') → zCl l E ad mX2_readsUnit d [.ref (ad 31), .int (nI o)] c Qf
theorem s_rd5 {f : Nat} (H : ruC l E ad tp len u f) : rdC l E ad tp len u f 5 := by
  intro c o d q Qf hm hq ho hn hd hz he hQ
  refine z_enter (own := RX2) [some (.ref (ad 31)), some (.int (nI 5)), some (.int (nI o)), none, none] (by decide +kernel) rfl rfl rfl (Nat.le_of_ble_eq_true rfl) ?_
  refine z_iload_n (i := 1) dX2_reads_0 rfl rfl ?_
  refine z_iconst (v := 5) dX2_reads_1 (by decide) ?_
  refine z_icmp_lt 11 dX2_reads_2 (by decide) (fun h_2 => ?_) (fun h_2 => ?_)
  · exact absurd h_2 (by decide)
  refine z_aload_n (i := 0) dX2_reads_5 rfl rfl ?_
  refine z_iload_n (i := 2) dX2_reads_6 rfl rfl ?_
  refine z_Vb (As := [_]) dX2_reads_7 (by rfl) v_X2_readsUnit l_X2_42 (by first | decide | assumption | omega) rfl rfl rfl (by omega) (by decide) (Nat.le_of_ble_eq_true rfl) ?_
  refine H c o _ q _ (by omega) hq ho hn (by omega) hz he (fun c2 hz2 => ?_)
  exact z_ret dX2_reads_10 (hQ c2 hz2) (by show narrow _ _ = _; split <;> rfl) rfl
theorem nx_v {u : Nat} {b : Int32} (hu : u < 2) : (nmB u b → 0 ≤ nxF (u + 1) b ∧ 10000 + nxF (u + 1) b = enc u 1 b) ∧ (¬ nmB u b → nxF (u + 1) b = -1) := by
  unfold nmB nxF enc
  rcases (show u = 0 ∨ u = 1 by omega) with rfl | rfl
  · constructor
    · intro h; grind
    · intro h; grind
  · constructor
    · intro h; grind
    · intro h; grind
end RB
