/-! the class: its voices -/
def bdyF (v : Nat) : Nat → Int32 → Int32
  | 0, _ => 0
  | f + 1, k => if k < 0 then 0 else if zBodies.getD (4 * pn k + v) 0 = 0 then bdyF v f (zAbove.getD (pn k) 0) else zBodies.getD (4 * pn k + v) 0
def kOk (k : Int32) : Prop := k = -1 ∨ ∃ K : Nat, K < 7 ∧ k = nI K
theorem kOk_up : ∀ K, K < 7 → kOk (zAbove.getD K 0) := by
  intro K hK
  rcases (show K = 0 ∨ K = 1 ∨ K = 2 ∨ K = 3 ∨ K = 4 ∨ K = 5 ∨ K = 6 by omega) with rfl | rfl | rfl | rfl | rfl | rfl | rfl
  · exact Or.inl rfl
  · exact Or.inr ⟨0, by omega, rfl⟩
  · exact Or.inr ⟨0, by omega, rfl⟩
  · exact Or.inr ⟨0, by omega, rfl⟩
  · exact Or.inr ⟨1, by omega, rfl⟩
  · exact Or.inr ⟨2, by omega, rfl⟩
  · exact Or.inr ⟨0, by omega, rfl⟩
/-- the store c, but for the trace and whether it parted -/
def zxo (c : zS) (t : vT) (c' : zS) : Prop := c' 40 1 = t.1 ∧ c' 41 = t.2 ∧ (∀ k, k ≠ 40 → k ≠ 41 → c' k = c k) ∧ (∀ i, i ≠ 1 → i ≠ 2 → c' 40 i = c 40 i)
theorem zxo_tr {c0 c1 c2 : zS} {t t2 : vT} (h : zxo c0 t c1) (h2 : zxo c1 t2 c2) : zxo c0 t2 c2 := ⟨h2.1, h2.2.1, fun k a b => (h2.2.2.1 k a b).trans (h.2.2.1 k a b), fun i a b => (h2.2.2.2 i a b).trans (h.2.2.2 i a b)⟩
theorem zxo_self {c0 c : zS} {t : vT} (h : zxo c0 t c) : zxo c t c := ⟨h.1, h.2.1, fun _ _ _ => rfl, fun _ _ _ => rfl⟩
def zxe (k m : Int32) (K : Nat) (c : zS) : Prop := K ≤ 6 ∧ c 40 3 = nI K ∧ c 40 4 = k ∧ c 40 5 = m
theorem zxe_tr {k m : Int32} {K : Nat} {c c1 : zS} {t : vT} (h : zxe k m K c) (h2 : zxo c t c1) : zxe k m K c1 := ⟨h.1, (h2.2.2.2 3 (by decide) (by decide)).trans h.2.1, (h2.2.2.2 4 (by decide) (by decide)).trans h.2.2.1, (h2.2.2.2 5 (by decide) (by decide)).trans h.2.2.2⟩
section VC
variable {l : Launch} {E : zE} {ad : Nat → Nat} {c : zS} {Qf : Int32 → zS → Prop} {d n : Nat}
theorem s_bodyFrom {v : Nat} {k x : Int32} (hk : kOk k) (hv : v < 4) (hx : bdyF v 7 k = x) (hQ : Qf x c) : zCl l E ad mX6_bodyFrom d [.int k, .int (nI v)] c Qf := by
  subst hx
  refine z_enter (own := RX6) [some (.int k), some (.int (nI v)), none, none, none] (by decide +kernel) rfl rfl rfl (Nat.le_of_ble_eq_true rfl) ?_
  have loop : ∀ (f i : Nat) (k1 : Int32) (x4 : Option Value), f + i = 7 → kOk k1 → bdyF v f k1 = bdyF v 7 k → zW l E ad RX6 cX6_bodyFrom 5 1 d Qf 4 [some (.int k), some (.int (nI v)), some (.int k1), some (.int (nI i)), x4] [] c := by
    intro f
    induction f with
    | zero =>
      intro i k1 x4 hi hk1 e
      have hi7 : i = 7 := by omega
      subst hi7
      refine z_iload_n (i := 3) dX6_bodyFrom_4 rfl rfl ?_
      refine z_bipush (v := 7) dX6_bodyFrom_5 (by decide) ?_
      refine z_icmp_ge 45 dX6_bodyFrom_7 (by decide) (fun h_7 => ?_) (fun h_7 => ?_)
      rotate_left
      · exact absurd (by decide) h_7
      refine z_iconst (v := 0) dX6_bodyFrom_45 (by decide) ?_
      exact z_ret dX6_bodyFrom_46 (by rw [show (0 : Int32) = bdyF v 0 k1 from rfl, e]; exact hQ) trivial rfl
    | succ f ih =>
      intro i k1 x4 hi hk1 e
      have hlt := nI_leI (a := 7) (b := i) (by omega) (by omega)
      rw [show bdyF v (f + 1) k1 = if k1 < 0 then 0 else if zBodies.getD (4 * pn k1 + v) 0 = 0 then bdyF v f (zAbove.getD (pn k1) 0) else zBodies.getD (4 * pn k1 + v) 0 from rfl] at e
      by_cases hn : k1 < 0
      · rw [if_pos hn] at e
        refine z_iload_n (i := 3) dX6_bodyFrom_4 rfl rfl ?_
        refine z_bipush (v := 7) dX6_bodyFrom_5 (by decide) ?_
        refine z_icmp_ge 45 dX6_bodyFrom_7 (by decide) (fun h_7 => ?_) (fun h_7 => ?_)
        · exfalso; have := hlt.mp h_7; omega
        refine z_iload_n (i := 2) dX6_bodyFrom_10 rfl rfl ?_
        refine z_if_lt 45 dX6_bodyFrom_11 (by decide) (fun h_11 => ?_) (fun h_11 => ?_)
        rotate_left
        · exact absurd hn h_11
        refine z_iconst (v := 0) dX6_bodyFrom_45 (by decide) ?_
        exact z_ret dX6_bodyFrom_46 (by rw [e]; exact hQ) trivial rfl
      · rw [if_neg hn] at e
        obtain ⟨K, hK, rfl⟩ : ∃ K : Nat, K < 7 ∧ k1 = nI K := by
          rcases hk1 with rfl | h
          · exact absurd (by decide) hn
          · exact h
        have epK : pn (nI K) = K := pn_nI (by omega)
        rw [epK] at e
        have e4 : (4 : Int32) * nI K + nI v = nI (4 * K + v) := by show nI 4 * nI K + nI v = _; rw [pk_mul, nI_add]
        refine z_iload_n (i := 3) dX6_bodyFrom_4 rfl rfl ?_
        refine z_bipush (v := 7) dX6_bodyFrom_5 (by decide) ?_
        refine z_icmp_ge 45 dX6_bodyFrom_7 (by decide) (fun h_7 => ?_) (fun h_7 => ?_)
        · exfalso; have := hlt.mp h_7; omega
        refine z_iload_n (i := 2) dX6_bodyFrom_10 rfl rfl ?_
        refine z_if_lt 45 dX6_bodyFrom_11 (by decide) (fun h_11 => ?_) (fun h_11 => ?_)
        · exact absurd h_11 hn
        refine z_gsBodies dX6_bodyFrom_14 f_X6_60 ?_
        refine z_iconst (v := 4) dX6_bodyFrom_17 (by decide) ?_
        refine z_iload_n (i := 2) dX6_bodyFrom_18 rfl rfl ?_
        refine z_imul dX6_bodyFrom_19 ?_
        refine z_iload_n (i := 1) dX6_bodyFrom_20 rfl rfl ?_
        refine z_iadd dX6_bodyFrom_21 ?_
        refine z_bodies (j := 4 * K + v) dX6_bodyFrom_22 e4 (by omega) (by decide) rfl ?_
        refine z_istore (i := 4) [_, _, _, _, _] dX6_bodyFrom_23 (by decide) rfl rfl ?_
        refine z_iload (i := 4) dX6_bodyFrom_25 rfl ?_
        refine z_if_eq 33 dX6_bodyFrom_27 (by decide) (fun h_27 => ?_) (fun h_27 => ?_)
        · refine z_gsAboveN dX6_bodyFrom_33 rfl ?_
          refine z_iload_n (i := 2) dX6_bodyFrom_36 rfl rfl ?_
          refine z_above (j := K) dX6_bodyFrom_37 rfl (by omega) (by decide) rfl ?_
          refine z_istore_n (i := 2) [_, _, _, _, _] dX6_bodyFrom_38 rfl (by decide) rfl rfl ?_
          refine z_iinc (i := 3) (v := 1) [_, _, _, _, _] dX6_bodyFrom_39 rfl (by decide) (by decide) rfl rfl ?_
          refine z_goto 4 dX6_bodyFrom_42 (by decide) ?_
          rw [nI_1]
          rw [if_pos (by first | exact h_27 | exact Classical.not_not.mp h_27)] at e
          exact ih (i + 1) _ _ (by omega) (kOk_up K hK) e
        · refine z_iload (i := 4) dX6_bodyFrom_30 rfl ?_
          rw [if_neg (by first | exact h_27 | assumption)] at e
          exact z_ret dX6_bodyFrom_32 (by rw [e]; exact hQ) trivial rfl
  refine z_iload_n (i := 0) dX6_bodyFrom_0 rfl rfl ?_
  refine z_istore_n (i := 2) [_, _, _, _, _] dX6_bodyFrom_1 rfl (by decide) rfl rfl ?_
  refine z_iconst (v := 0) dX6_bodyFrom_2 (by decide) ?_
  refine z_istore_n (i := 3) [_, _, _, _, _] dX6_bodyFrom_3 rfl (by decide) rfl rfl ?_
  exact loop 7 0 k none (by omega) hk rfl
theorem s_begins {b : Int32} {t : vT} (ht : vok t) (hz : zxo c t c) (hQ : ∀ c', zxo c (vb b t) c' → c' 40 2 = c 40 2 → Qf 0 c') : zCl l E ad mX6_begins d [.ref (ad 40), .int b] c Qf := by
  obtain ⟨a, ha, e⟩ := ht
  have e1 := hz.1
  have hlt : (30 : Int32) ≤ nI a ↔ 30 ≤ a := nI_leI (a := 30) (b := a) (by omega) (by omega)
  have hltn : nI a < (30 : Int32) ↔ a < 30 := nI_ltI (a := a) (b := 30) (by omega) (by omega)
  refine z_enter (own := RX6) [some (.ref (ad 40)), some (.int b)] (by decide +kernel) rfl rfl rfl (Nat.le_of_ble_eq_true rfl) ?_
  refine z_aload_n (i := 0) dX6_begins_0 rfl rfl ?_
  refine z_getf dX6_begins_1 f_X6_15 (by first | decide | assumption | omega) rfl (by rfl) ?_
  refine z_bipush (v := 30) dX6_begins_4 (by decide) ?_
  refine z_icmp_ge 29 dX6_begins_6 (by decide) (fun h_6 => ?_) (fun h_6 => ?_)
  · first
    | (have ha3 : ¬ a < 30 := by rw [e1, e] at h_6; have := hlt.mp h_6; omega
       exact z_ret (r := 0) dX6_begins_29 (hQ c (by unfold vb; rw [e, if_neg (by rw [hltn]; exact ha3)]; exact hz) rfl) rfl rfl)
    | (refine z_ret (r := 0) dX6_begins_29 (hQ _ ?_ ?_) rfl rfl
       · unfold vb
         rw [if_pos (by rw [e, hltn]; exact ha3)]
         refine ⟨?_, ?_, fun k x y => by rw [zup_n x, zup_n y], fun i x y => by rw [zup_s, pk_un x]; rfl⟩
         · rw [zup_s, pk_us]
           show c 40 1 + 1 = t.1 + 1
           rw [e1]
         · rw [zup_n (by decide), zup_s, hz.2.1]
           show upd t.2 a b = upd t.2 (pn t.1) b
           rw [e, pn_nI (by omega)]
       · rw [zup_s, pk_un (by decide)]
         rfl)
  · have ha3 : a < 30 := by rw [e1, e] at h_6; have := mt hlt.mpr h_6; omega
    refine z_aload_n (i := 0) dX6_begins_9 rfl rfl ?_
    refine z_getf dX6_begins_10 f_X6_11 (by first | decide | assumption | omega) rfl (by rfl) ?_
    refine z_aload_n (i := 0) dX6_begins_13 rfl rfl ?_
    refine z_getf dX6_begins_14 f_X6_15 (by first | decide | assumption | omega) rfl (by rfl) ?_
    rw [e1, e]
    refine z_iload_n (i := 1) dX6_begins_17 rfl rfl ?_
    refine z_iast (j := a) dX6_begins_18 (by first | decide | assumption | omega) (fun _ => rfl) (by rfl) (by first | decide | omega) (by first | decide | omega) ?_
    refine z_aload_n (i := 0) dX6_begins_19 rfl rfl ?_
    refine z_dup dX6_begins_20 rfl ?_
    refine z_getf dX6_begins_21 f_X6_15 (by first | decide | assumption | omega) rfl (by rfl) ?_
    refine z_iconst (v := 1) dX6_begins_24 (by decide) ?_
    refine z_iadd dX6_begins_25 ?_
    refine z_putfi dX6_begins_26 f_X6_15 fp_X6_1 (by first | decide | assumption | omega) rfl (by exact Nat.le_of_ble_eq_true rfl) rfl ?_
    first
    | (have ha3 : ¬ a < 30 := by rw [e1, e] at h_6; have := hlt.mp h_6; omega
       exact z_ret (r := 0) dX6_begins_29 (hQ c (by unfold vb; rw [e, if_neg (by rw [hltn]; exact ha3)]; exact hz) rfl) rfl rfl)
    | (refine z_ret (r := 0) dX6_begins_29 (hQ _ ?_ ?_) rfl rfl
       · unfold vb
         rw [if_pos (by rw [e, hltn]; exact ha3)]
         refine ⟨?_, ?_, fun k x y => by rw [zup_n x, zup_n y], fun i x y => by rw [zup_s, pk_un x]; rfl⟩
         · rw [zup_s, pk_us]
           show c 40 1 + 1 = t.1 + 1
           rw [e1]
         · rw [zup_n (by decide), zup_s, hz.2.1]
           show upd t.2 a b = upd t.2 (pn t.1) b
           rw [e, pn_nI (by omega)]
       · rw [zup_s, pk_un (by decide)]
         rfl)
theorem s_partsBy {by' x : Int32} (hQ : Qf (if by' = 0 then 0 else if by' = -1 then -x else x / by') (if by' = 0 then zup c 40 (upd (c 40) 2 1) else c)) : zCl l E ad mX6_partsBy d [.ref (ad 40), .int by', .int x] c Qf := by
  refine z_enter (own := RX6) [some (.ref (ad 40)), some (.int by'), some (.int x)] (by decide +kernel) rfl rfl rfl (Nat.le_of_ble_eq_true rfl) ?_
  by_cases h0 : by' = 0
  · rw [if_pos h0, if_pos h0] at hQ
    refine z_iload_n (i := 1) dX6_partsBy_0 rfl rfl ?_
    refine z_if_ne 11 dX6_partsBy_1 (by decide) (fun h_1 => ?_) (fun h_1 => ?_)
    · exact absurd h0 h_1
    refine z_aload_n (i := 0) dX6_partsBy_4 rfl rfl ?_
    refine z_iconst (v := 1) dX6_partsBy_5 (by decide) ?_
    refine z_putfz dX6_partsBy_6 f_X6_19 fp_X6_2 (by first | decide | assumption | omega) rfl (by exact Nat.le_of_ble_eq_true rfl) rfl rfl rfl ?_
    refine z_iconst (v := 0) dX6_partsBy_9 (by decide) ?_
    exact z_ret dX6_partsBy_10 hQ trivial rfl
  · rw [if_neg h0, if_neg h0] at hQ
    have e1 := dv_m1 x
    refine z_iload_n (i := 1) dX6_partsBy_0 rfl rfl ?_
    refine z_if_ne 11 dX6_partsBy_1 (by decide) (fun h_1 => ?_) (fun h_1 => ?_)
    rotate_left
    · exact absurd h_1 h0
    refine z_iload_n (i := 2) dX6_partsBy_11 rfl rfl ?_
    refine z_iload_n (i := 1) dX6_partsBy_12 rfl rfl ?_
    refine z_idiv dX6_partsBy_13 h0 ?_
    exact z_ret dX6_partsBy_14 (by by_cases h1 : by' = -1; (rw [if_pos h1] at hQ; rw [h1, e1]; exact hQ); (rw [if_neg h1] at hQ; exact hQ)) trivial rfl
theorem w_no {b x dep : Int32} (hp : ¬ c 40 2 = 0) (hQ : Qf 0 c) : zCl l E ad mX6_worksOut d [.ref (ad 40), .int b, .int x, .int dep] c Qf := by
  refine z_enter (own := RX6) [some (.ref (ad 40)), some (.int b), some (.int x), some (.int dep), none] (by decide +kernel) rfl rfl rfl (Nat.le_of_ble_eq_true rfl) ?_
  refine z_aload_n (i := 0) dX6_worksOut_0 rfl rfl ?_
  refine z_getf dX6_worksOut_1 f_X6_19 (by first | decide | assumption | omega) rfl (by rfl) ?_
  refine z_if_ne 17 dX6_worksOut_4 (by decide) (fun h_4 => ?_) (fun h_4 => ?_)
  rotate_left
  · exact absurd (by first | exact h_4 | exact Classical.not_not.mp h_4) hp
  refine z_iconst (v := 0) dX6_worksOut_17 (by decide) ?_
  exact z_ret (r := 0) dX6_worksOut_18 hQ trivial rfl
theorem w_10 {k m x : Int32} {K D : Nat} {t : vT} (he : zxe k m K c) (ht : vok t) (hz : zxo c t c) (hp : c 40 2 = 0) (hD : D + 0 ≤ 20) (hd : 1 ≤ d) (hQ : ∀ c', zxo c (sa0 k x t).2 c' → c' 40 2 = 0 → Qf (sa0 k x t).1 c') : zCl l E ad mX6_worksOut d [.ref (ad 40), .int 10, .int x, .int (nI D)] c Qf := by
  have hlt := nI_leI (a := D) (b := 20) (by omega) (by omega)
  refine z_enter (own := RX6) [some (.ref (ad 40)), some (.int 10), some (.int x), some (.int (nI D)), none] (by decide +kernel) rfl rfl rfl (Nat.le_of_ble_eq_true rfl) ?_
  refine z_aload_n (i := 0) dX6_worksOut_0 rfl rfl ?_
  refine z_getf dX6_worksOut_1 f_X6_19 (by first | decide | assumption | omega) rfl (by rfl) ?_
  rw [hp]
  refine z_if_ne 17 dX6_worksOut_4 (by decide) (fun h_4 => ?_) (fun h_4 => ?_)
  · exact absurd rfl h_4
  refine z_iload_n (i := 1) dX6_worksOut_7 rfl rfl ?_
  refine z_if_eq 17 dX6_worksOut_8 (by decide) (fun h_8 => ?_) (fun h_8 => ?_)
  · exact absurd h_8 (by decide)
  refine z_iload_n (i := 3) dX6_worksOut_11 rfl rfl ?_
  refine z_bipush (v := 20) dX6_worksOut_12 (by decide) ?_
  refine z_icmp_le 19 dX6_worksOut_14 (by decide) (fun h_14 => ?_) (fun h_14 => ?_)
  rotate_left
  · exact absurd (hlt.mpr (by omega)) h_14
  refine z_aload_n (i := 0) dX6_worksOut_19 rfl rfl ?_
  refine z_iload_n (i := 1) dX6_worksOut_20 rfl rfl ?_
  refine z_Vv (As := [_]) dX6_worksOut_21 (by rfl) v_X6_begins l_X6_43 (by first | decide | assumption | omega) rfl rfl rfl (by omega) (by decide) (Nat.le_of_ble_eq_true rfl) ?_
  refine s_begins ht hz (fun c1 h1 hp1 => ?_)
  rw [hp] at hp1
  refine z_iload_n (i := 3) dX6_worksOut_24 rfl rfl ?_
  refine z_iconst (v := 1) dX6_worksOut_25 (by decide) ?_
  refine z_iadd dX6_worksOut_26 ?_
  rw [nI_1]
  refine z_istore (i := 4) [_, _, _, _, _] dX6_worksOut_27 (by decide) rfl rfl ?_
  refine z_iload_n (i := 1) dX6_worksOut_29 rfl rfl ?_
  by_cases h_30_10 : (10 : Int32) = 10
  · refine z_lookup 144 dX6_worksOut_30 rfl (by first | (rw [h_30_10]; rfl) | rw [h_30_10]) (by decide) ?_
    refine z_iload_n (i := 2) dX6_worksOut_144 rfl rfl ?_
    refine z_aload_n (i := 0) dX6_worksOut_145 rfl rfl ?_
    refine z_getf dX6_worksOut_146 f_X6_26 (by first | decide | assumption | omega) rfl (by rfl) ?_
    rw [(zxe_tr he h1).2.2.1]
    refine z_iadd dX6_worksOut_149 ?_
    exact z_ret dX6_worksOut_150 (hQ _ h1 hp1) trivial rfl
  exact absurd rfl h_30_10
theorem a_20_0 {k m x : Int32} {K D : Nat} {t : vT} (he : zxe k m K c) (ht : vok t) (hz : zxo c t c) (hp : c 40 2 = 0) (hD : D + 0 ≤ 20) (hd : 2 ≤ d) (hQ : ∀ c', zxo c (sa0 k x t).2 c' → c' 40 2 = 0 → Qf (sa0 k x t).1 c') : zCl l E ad mX6_above d [.ref (ad 40), .int 20, .int 0, .int x, .int (nI D)] c Qf := by
  refine z_enter (own := RX6) [some (.ref (ad 40)), some (.int 20), some (.int 0), some (.int x), some (.int (nI D))] (by decide +kernel) rfl rfl rfl (Nat.le_of_ble_eq_true rfl) ?_
  refine z_aload_n (i := 0) dX6_above_0 rfl rfl ?_
  refine z_gsAboveN dX6_above_1 rfl ?_
  refine z_iload_n (i := 1) dX6_above_4 rfl rfl ?_
  refine z_bipush (v := 10) dX6_above_5 (by decide) ?_
  refine z_idiv dX6_above_7 (by first | decide | assumption) ?_
  refine z_iconst (v := 1) dX6_above_8 (by decide) ?_
  refine z_isub dX6_above_9 ?_
  refine z_above (j := 1) dX6_above_10 (by rfl) (by decide) (by decide) rfl ?_
  refine z_iload_n (i := 2) dX6_above_11 rfl rfl ?_
  refine z_Si (As := [_, _]) dX6_above_12 (by rfl) v_X6_bodyFrom l_X6_32 rfl (by omega) (by decide) (Nat.le_of_ble_eq_true rfl) ?_
  refine s_bodyFrom (v := 0) (x := 10) (kOk_up 1 (by decide)) (by decide) (by decide) ?_
  refine z_iload_n (i := 3) dX6_above_15 rfl rfl ?_
  refine z_iload (i := 4) dX6_above_16 rfl ?_
  refine z_Vi (As := [_, _, _]) dX6_above_18 (by rfl) v_X6_worksOut l_X6_36 (by first | decide | assumption | omega) rfl rfl rfl (by omega) (by decide) (Nat.le_of_ble_eq_true rfl) ?_
  refine w_10 he ht hz hp (by omega) (by omega) ?_
  intro c2 h2 hp2
  exact z_ret dX6_above_21 (hQ c2 h2 hp2) trivial rfl
theorem w_20 {k m x : Int32} {K D : Nat} {t : vT} (he : zxe k m K c) (ht : vok t) (hz : zxo c t c) (hp : c 40 2 = 0) (hD : D + 1 ≤ 20) (hd : 3 ≤ d) (hQ : ∀ c', zxo c (sa1 k x t).2 c' → c' 40 2 = 0 → Qf (sa1 k x t).1 c') : zCl l E ad mX6_worksOut d [.ref (ad 40), .int 20, .int x, .int (nI D)] c Qf := by
  have hlt := nI_leI (a := D) (b := 20) (by omega) (by omega)
  refine z_enter (own := RX6) [some (.ref (ad 40)), some (.int 20), some (.int x), some (.int (nI D)), none] (by decide +kernel) rfl rfl rfl (Nat.le_of_ble_eq_true rfl) ?_
  refine z_aload_n (i := 0) dX6_worksOut_0 rfl rfl ?_
  refine z_getf dX6_worksOut_1 f_X6_19 (by first | decide | assumption | omega) rfl (by rfl) ?_
  rw [hp]
  refine z_if_ne 17 dX6_worksOut_4 (by decide) (fun h_4 => ?_) (fun h_4 => ?_)
  · exact absurd rfl h_4
  refine z_iload_n (i := 1) dX6_worksOut_7 rfl rfl ?_
  refine z_if_eq 17 dX6_worksOut_8 (by decide) (fun h_8 => ?_) (fun h_8 => ?_)
  · exact absurd h_8 (by decide)
  refine z_iload_n (i := 3) dX6_worksOut_11 rfl rfl ?_
  refine z_bipush (v := 20) dX6_worksOut_12 (by decide) ?_
  refine z_icmp_le 19 dX6_worksOut_14 (by decide) (fun h_14 => ?_) (fun h_14 => ?_)
  rotate_left
  · exact absurd (hlt.mpr (by omega)) h_14
  refine z_aload_n (i := 0) dX6_worksOut_19 rfl rfl ?_
  refine z_iload_n (i := 1) dX6_worksOut_20 rfl rfl ?_
  refine z_Vv (As := [_]) dX6_worksOut_21 (by rfl) v_X6_begins l_X6_43 (by first | decide | assumption | omega) rfl rfl rfl (by omega) (by decide) (Nat.le_of_ble_eq_true rfl) ?_
  refine s_begins ht hz (fun c1 h1 hp1 => ?_)
  rw [hp] at hp1
  refine z_iload_n (i := 3) dX6_worksOut_24 rfl rfl ?_
  refine z_iconst (v := 1) dX6_worksOut_25 (by decide) ?_
  refine z_iadd dX6_worksOut_26 ?_
  rw [nI_1]
  refine z_istore (i := 4) [_, _, _, _, _] dX6_worksOut_27 (by decide) rfl rfl ?_
  refine z_iload_n (i := 1) dX6_worksOut_29 rfl rfl ?_
  by_cases h_30_20 : (20 : Int32) = 20
  · refine z_lookup 189 dX6_worksOut_30 rfl (by first | (rw [h_30_20]; rfl) | rw [h_30_20]) (by decide) ?_
    refine z_aload_n (i := 0) dX6_worksOut_189 rfl rfl ?_
    refine z_iload_n (i := 1) dX6_worksOut_190 rfl rfl ?_
    refine z_iconst (v := 0) dX6_worksOut_191 (by decide) ?_
    refine z_iload_n (i := 2) dX6_worksOut_192 rfl rfl ?_
    refine z_iload (i := 4) dX6_worksOut_193 rfl ?_
    refine z_Vi (As := [_, _, _, _]) dX6_worksOut_195 (by rfl) v_X6_above l_X6_56 (by first | decide | assumption | omega) rfl rfl rfl (by omega) (by decide) (Nat.le_of_ble_eq_true rfl) ?_
    refine a_20_0 (x := x) (zxe_tr he h1) (vok_vb ht) (zxo_self h1) hp1 (by omega) (by omega) (fun c2 h2 hp2 => ?_)
    refine z_iconst (v := 4) dX6_worksOut_198 (by decide) ?_
    refine z_isub dX6_worksOut_199 ?_
    exact z_ret dX6_worksOut_200 (hQ _ (zxo_tr h1 h2) hp2) trivial rfl
  exact absurd rfl h_30_20
theorem a_50_0 {k m x : Int32} {K D : Nat} {t : vT} (he : zxe k m K c) (ht : vok t) (hz : zxo c t c) (hp : c 40 2 = 0) (hD : D + 1 ≤ 20) (hd : 4 ≤ d) (hQ : ∀ c', zxo c (sa1 k x t).2 c' → c' 40 2 = 0 → Qf (sa1 k x t).1 c') : zCl l E ad mX6_above d [.ref (ad 40), .int 50, .int 0, .int x, .int (nI D)] c Qf := by
  refine z_enter (own := RX6) [some (.ref (ad 40)), some (.int 50), some (.int 0), some (.int x), some (.int (nI D))] (by decide +kernel) rfl rfl rfl (Nat.le_of_ble_eq_true rfl) ?_
  refine z_aload_n (i := 0) dX6_above_0 rfl rfl ?_
  refine z_gsAboveN dX6_above_1 rfl ?_
  refine z_iload_n (i := 1) dX6_above_4 rfl rfl ?_
  refine z_bipush (v := 10) dX6_above_5 (by decide) ?_
  refine z_idiv dX6_above_7 (by first | decide | assumption) ?_
  refine z_iconst (v := 1) dX6_above_8 (by decide) ?_
  refine z_isub dX6_above_9 ?_
  refine z_above (j := 4) dX6_above_10 (by rfl) (by decide) (by decide) rfl ?_
  refine z_iload_n (i := 2) dX6_above_11 rfl rfl ?_
  refine z_Si (As := [_, _]) dX6_above_12 (by rfl) v_X6_bodyFrom l_X6_32 rfl (by omega) (by decide) (Nat.le_of_ble_eq_true rfl) ?_
  refine s_bodyFrom (v := 0) (x := 20) (kOk_up 4 (by decide)) (by decide) (by decide) ?_
  refine z_iload_n (i := 3) dX6_above_15 rfl rfl ?_
  refine z_iload (i := 4) dX6_above_16 rfl ?_
  refine z_Vi (As := [_, _, _]) dX6_above_18 (by rfl) v_X6_worksOut l_X6_36 (by first | decide | assumption | omega) rfl rfl rfl (by omega) (by decide) (Nat.le_of_ble_eq_true rfl) ?_
  refine w_20 he ht hz hp (by omega) (by omega) ?_
  intro c2 h2 hp2
  exact z_ret dX6_above_21 (hQ c2 h2 hp2) trivial rfl
theorem w_50 {k m x : Int32} {K D : Nat} {t : vT} (he : zxe k m K c) (ht : vok t) (hz : zxo c t c) (hp : c 40 2 = 0) (hD : D + 2 ≤ 20) (hd : 5 ≤ d) (hQ : ∀ c', zxo c (((sa1 k x (vb 50 t)).1 * 3, (sa1 k x (vb 50 t)).2)).2 c' → c' 40 2 = 0 → Qf (((sa1 k x (vb 50 t)).1 * 3, (sa1 k x (vb 50 t)).2)).1 c') : zCl l E ad mX6_worksOut d [.ref (ad 40), .int 50, .int x, .int (nI D)] c Qf := by
  have hlt := nI_leI (a := D) (b := 20) (by omega) (by omega)
  refine z_enter (own := RX6) [some (.ref (ad 40)), some (.int 50), some (.int x), some (.int (nI D)), none] (by decide +kernel) rfl rfl rfl (Nat.le_of_ble_eq_true rfl) ?_
  refine z_aload_n (i := 0) dX6_worksOut_0 rfl rfl ?_
  refine z_getf dX6_worksOut_1 f_X6_19 (by first | decide | assumption | omega) rfl (by rfl) ?_
  rw [hp]
  refine z_if_ne 17 dX6_worksOut_4 (by decide) (fun h_4 => ?_) (fun h_4 => ?_)
  · exact absurd rfl h_4
  refine z_iload_n (i := 1) dX6_worksOut_7 rfl rfl ?_
  refine z_if_eq 17 dX6_worksOut_8 (by decide) (fun h_8 => ?_) (fun h_8 => ?_)
  · exact absurd h_8 (by decide)
  refine z_iload_n (i := 3) dX6_worksOut_11 rfl rfl ?_
  refine z_bipush (v := 20) dX6_worksOut_12 (by decide) ?_
  refine z_icmp_le 19 dX6_worksOut_14 (by decide) (fun h_14 => ?_) (fun h_14 => ?_)
  rotate_left
  · exact absurd (hlt.mpr (by omega)) h_14
  refine z_aload_n (i := 0) dX6_worksOut_19 rfl rfl ?_
  refine z_iload_n (i := 1) dX6_worksOut_20 rfl rfl ?_
  refine z_Vv (As := [_]) dX6_worksOut_21 (by rfl) v_X6_begins l_X6_43 (by first | decide | assumption | omega) rfl rfl rfl (by omega) (by decide) (Nat.le_of_ble_eq_true rfl) ?_
  refine s_begins ht hz (fun c1 h1 hp1 => ?_)
  rw [hp] at hp1
  refine z_iload_n (i := 3) dX6_worksOut_24 rfl rfl ?_
  refine z_iconst (v := 1) dX6_worksOut_25 (by decide) ?_
  refine z_iadd dX6_worksOut_26 ?_
  rw [nI_1]
  refine z_istore (i := 4) [_, _, _, _, _] dX6_worksOut_27 (by decide) rfl rfl ?_
  refine z_iload_n (i := 1) dX6_worksOut_29 rfl rfl ?_
  by_cases h_30_50 : (50 : Int32) = 50
  · refine z_lookup 243 dX6_worksOut_30 rfl (by first | (rw [h_30_50]; rfl) | rw [h_30_50]) (by decide) ?_
    refine z_aload_n (i := 0) dX6_worksOut_243 rfl rfl ?_
    refine z_iload_n (i := 1) dX6_worksOut_244 rfl rfl ?_
    refine z_iconst (v := 0) dX6_worksOut_245 (by decide) ?_
    refine z_iload_n (i := 2) dX6_worksOut_246 rfl rfl ?_
    refine z_iload (i := 4) dX6_worksOut_247 rfl ?_
    refine z_Vi (As := [_, _, _, _]) dX6_worksOut_249 (by rfl) v_X6_above l_X6_56 (by first | decide | assumption | omega) rfl rfl rfl (by omega) (by decide) (Nat.le_of_ble_eq_true rfl) ?_
    refine a_50_0 (x := x) (zxe_tr he h1) (vok_vb ht) (zxo_self h1) hp1 (by omega) (by omega) (fun c2 h2 hp2 => ?_)
    refine z_iconst (v := 3) dX6_worksOut_252 (by decide) ?_
    refine z_imul dX6_worksOut_253 ?_
    exact z_ret dX6_worksOut_254 (hQ _ (zxo_tr h1 h2) hp2) trivial rfl
  exact absurd rfl h_30_50
theorem w_70 {k m x : Int32} {K D : Nat} {t : vT} (he : zxe k m K c) (ht : vok t) (hz : zxo c t c) (hp : c 40 2 = 0) (hD : D + 0 ≤ 20) (hd : 1 ≤ d) (hQ : ∀ c', zxo c (((9 : Int32), vb 70 t)).2 c' → c' 40 2 = 0 → Qf (((9 : Int32), vb 70 t)).1 c') : zCl l E ad mX6_worksOut d [.ref (ad 40), .int 70, .int x, .int (nI D)] c Qf := by
  have hlt := nI_leI (a := D) (b := 20) (by omega) (by omega)
  refine z_enter (own := RX6) [some (.ref (ad 40)), some (.int 70), some (.int x), some (.int (nI D)), none] (by decide +kernel) rfl rfl rfl (Nat.le_of_ble_eq_true rfl) ?_
  refine z_aload_n (i := 0) dX6_worksOut_0 rfl rfl ?_
  refine z_getf dX6_worksOut_1 f_X6_19 (by first | decide | assumption | omega) rfl (by rfl) ?_
  rw [hp]
  refine z_if_ne 17 dX6_worksOut_4 (by decide) (fun h_4 => ?_) (fun h_4 => ?_)
  · exact absurd rfl h_4
  refine z_iload_n (i := 1) dX6_worksOut_7 rfl rfl ?_
  refine z_if_eq 17 dX6_worksOut_8 (by decide) (fun h_8 => ?_) (fun h_8 => ?_)
  · exact absurd h_8 (by decide)
  refine z_iload_n (i := 3) dX6_worksOut_11 rfl rfl ?_
  refine z_bipush (v := 20) dX6_worksOut_12 (by decide) ?_
  refine z_icmp_le 19 dX6_worksOut_14 (by decide) (fun h_14 => ?_) (fun h_14 => ?_)
  rotate_left
  · exact absurd (hlt.mpr (by omega)) h_14
  refine z_aload_n (i := 0) dX6_worksOut_19 rfl rfl ?_
  refine z_iload_n (i := 1) dX6_worksOut_20 rfl rfl ?_
  refine z_Vv (As := [_]) dX6_worksOut_21 (by rfl) v_X6_begins l_X6_43 (by first | decide | assumption | omega) rfl rfl rfl (by omega) (by decide) (Nat.le_of_ble_eq_true rfl) ?_
  refine s_begins ht hz (fun c1 h1 hp1 => ?_)
  rw [hp] at hp1
  refine z_iload_n (i := 3) dX6_worksOut_24 rfl rfl ?_
  refine z_iconst (v := 1) dX6_worksOut_25 (by decide) ?_
  refine z_iadd dX6_worksOut_26 ?_
  rw [nI_1]
  refine z_istore (i := 4) [_, _, _, _, _] dX6_worksOut_27 (by decide) rfl rfl ?_
  refine z_iload_n (i := 1) dX6_worksOut_29 rfl rfl ?_
  by_cases h_30_70 : (70 : Int32) = 70
  · refine z_lookup 282 dX6_worksOut_30 rfl (by first | (rw [h_30_70]; rfl) | rw [h_30_70]) (by decide) ?_
    refine z_bipush (v := 9) dX6_worksOut_282 (by decide) ?_
    exact z_ret dX6_worksOut_284 (hQ _ h1 hp1) trivial rfl
  exact absurd rfl h_30_70
theorem q_says {kk : Nat} {k m x : Int32} {K D : Nat} {t : vT} (he : zxe k m K c) (ht : vok t) (hz : zxo c t c) (hp : c 40 2 = 0) (hkk : kk = K) (hD : D + 2 ≤ 20) (hd : 5 ≤ d) (hQ : ∀ c', zxo c (saF k kk x t).2 c' → c' 40 2 = 0 → Qf (saF k kk x t).1 c') : zCl l E ad mX6_worksOut d [.ref (ad 40), .int (bdyF 0 7 (nI kk)), .int x, .int (nI D)] c Qf := by
  subst hkk
  have hK := he.1
  rcases (show kk = 0 ∨ kk = 1 ∨ kk = 2 ∨ kk = 3 ∨ kk = 4 ∨ kk = 5 ∨ kk = 6 by omega) with rfl | rfl | rfl | rfl | rfl | rfl | rfl
  · rw [show bdyF 0 7 (nI 0) = 10 by decide]
    exact w_10 he ht hz hp (by omega) (by omega) hQ
  · rw [show bdyF 0 7 (nI 1) = 20 by decide]
    exact w_20 he ht hz hp (by omega) (by omega) hQ
  · rw [show bdyF 0 7 (nI 2) = 10 by decide]
    exact w_10 he ht hz hp (by omega) (by omega) hQ
  · rw [show bdyF 0 7 (nI 3) = 10 by decide]
    exact w_10 he ht hz hp (by omega) (by omega) hQ
  · rw [show bdyF 0 7 (nI 4) = 50 by decide]
    exact w_50 he ht hz hp (by omega) (by omega) hQ
  · rw [show bdyF 0 7 (nI 5) = 10 by decide]
    exact w_10 he ht hz hp (by omega) (by omega) hQ
  · rw [show bdyF 0 7 (nI 6) = 70 by decide]
    exact w_70 he ht hz hp (by omega) (by omega) hQ
theorem m_says {k m x : Int32} {K D : Nat} {t : vT} (he : zxe k m K c) (ht : vok t) (hz : zxo c t c) (hp : c 40 2 = 0) (hD : D + 2 ≤ 20) (hd : 6 ≤ d) (hQ : ∀ c', zxo c (saF k K x t).2 c' → c' 40 2 = 0 → Qf (saF k K x t).1 c') : zCl l E ad mX6_says d [.ref (ad 40), .int x, .int (nI D)] c Qf := by
  refine z_enter (own := RX6) [some (.ref (ad 40)), some (.int x), some (.int (nI D))] (by decide +kernel) rfl rfl rfl (Nat.le_of_ble_eq_true rfl) ?_
  have hK := he.1
  refine z_aload_n (i := 0) dX6_says_0 rfl rfl ?_
  refine z_aload_n (i := 0) dX6_says_1 rfl rfl ?_
  refine z_getf dX6_says_2 f_X6_23 (by first | decide | assumption | omega) rfl (by rfl) ?_
  rw [he.2.1]
  skip
  refine z_iconst (v := 0) dX6_says_5 (by decide) ?_
  refine z_Si (As := [_, _]) dX6_says_6 (by rfl) v_X6_bodyFrom l_X6_32 rfl (by omega) (by decide) (Nat.le_of_ble_eq_true rfl) ?_
  refine s_bodyFrom (v := 0) (Or.inr ⟨K, by omega, rfl⟩) (by decide) rfl ?_
  refine z_iload_n (i := 1) dX6_says_9 rfl rfl ?_
  refine z_iload_n (i := 2) dX6_says_10 rfl rfl ?_
  refine z_Vi (As := [_, _, _]) dX6_says_11 (by rfl) v_X6_worksOut l_X6_36 (by first | decide | assumption | omega) rfl rfl rfl (by omega) (by decide) (Nat.le_of_ble_eq_true rfl) ?_
  refine q_says he ht hz hp rfl (by omega) (by omega) (fun c2 h2 hp2 => ?_)
  exact z_ret dX6_says_14 (hQ c2 h2 hp2) trivial rfl
theorem w_11 {k m x : Int32} {K D : Nat} {t : vT} (he : zxe k m K c) (ht : vok t) (hz : zxo c t c) (hp : c 40 2 = 0) (hD : D + 3 ≤ 20) (hd : 7 ≤ d) (hQ : ∀ c', zxo c (se0 k K x t).2 c' → c' 40 2 = 0 → Qf (se0 k K x t).1 c') : zCl l E ad mX6_worksOut d [.ref (ad 40), .int 11, .int x, .int (nI D)] c Qf := by
  have hlt := nI_leI (a := D) (b := 20) (by omega) (by omega)
  refine z_enter (own := RX6) [some (.ref (ad 40)), some (.int 11), some (.int x), some (.int (nI D)), none] (by decide +kernel) rfl rfl rfl (Nat.le_of_ble_eq_true rfl) ?_
  refine z_aload_n (i := 0) dX6_worksOut_0 rfl rfl ?_
  refine z_getf dX6_worksOut_1 f_X6_19 (by first | decide | assumption | omega) rfl (by rfl) ?_
  rw [hp]
  refine z_if_ne 17 dX6_worksOut_4 (by decide) (fun h_4 => ?_) (fun h_4 => ?_)
  · exact absurd rfl h_4
  refine z_iload_n (i := 1) dX6_worksOut_7 rfl rfl ?_
  refine z_if_eq 17 dX6_worksOut_8 (by decide) (fun h_8 => ?_) (fun h_8 => ?_)
  · exact absurd h_8 (by decide)
  refine z_iload_n (i := 3) dX6_worksOut_11 rfl rfl ?_
  refine z_bipush (v := 20) dX6_worksOut_12 (by decide) ?_
  refine z_icmp_le 19 dX6_worksOut_14 (by decide) (fun h_14 => ?_) (fun h_14 => ?_)
  rotate_left
  · exact absurd (hlt.mpr (by omega)) h_14
  refine z_aload_n (i := 0) dX6_worksOut_19 rfl rfl ?_
  refine z_iload_n (i := 1) dX6_worksOut_20 rfl rfl ?_
  refine z_Vv (As := [_]) dX6_worksOut_21 (by rfl) v_X6_begins l_X6_43 (by first | decide | assumption | omega) rfl rfl rfl (by omega) (by decide) (Nat.le_of_ble_eq_true rfl) ?_
  refine s_begins ht hz (fun c1 h1 hp1 => ?_)
  rw [hp] at hp1
  refine z_iload_n (i := 3) dX6_worksOut_24 rfl rfl ?_
  refine z_iconst (v := 1) dX6_worksOut_25 (by decide) ?_
  refine z_iadd dX6_worksOut_26 ?_
  rw [nI_1]
  refine z_istore (i := 4) [_, _, _, _, _] dX6_worksOut_27 (by decide) rfl rfl ?_
  refine z_iload_n (i := 1) dX6_worksOut_29 rfl rfl ?_
  by_cases h_30_11 : (11 : Int32) = 11
  · refine z_lookup 151 dX6_worksOut_30 rfl (by first | (rw [h_30_11]; rfl) | rw [h_30_11]) (by decide) ?_
    refine z_aload_n (i := 0) dX6_worksOut_151 rfl rfl ?_
    refine z_iload_n (i := 2) dX6_worksOut_152 rfl rfl ?_
    refine z_iload (i := 4) dX6_worksOut_153 rfl ?_
    refine z_Vi (As := [_, _]) dX6_worksOut_155 (by rfl) v_X6_says l_X6_47 (by first | decide | assumption | omega) rfl rfl rfl (by omega) (by decide) (Nat.le_of_ble_eq_true rfl) ?_
    refine m_says (x := x) (zxe_tr he h1) (vok_vb ht) (zxo_self h1) hp1 (by omega) (by omega) (fun c2 h2 hp2 => ?_)
    refine z_iconst (v := 2) dX6_worksOut_158 (by decide) ?_
    refine z_imul dX6_worksOut_159 ?_
    exact z_ret dX6_worksOut_160 (hQ _ (zxo_tr h1 h2) hp2) trivial rfl
  exact absurd rfl h_30_11
theorem a_30_1 {k m x : Int32} {K D : Nat} {t : vT} (he : zxe k m K c) (ht : vok t) (hz : zxo c t c) (hp : c 40 2 = 0) (hD : D + 3 ≤ 20) (hd : 8 ≤ d) (hQ : ∀ c', zxo c (se0 k K x t).2 c' → c' 40 2 = 0 → Qf (se0 k K x t).1 c') : zCl l E ad mX6_above d [.ref (ad 40), .int 30, .int 1, .int x, .int (nI D)] c Qf := by
  refine z_enter (own := RX6) [some (.ref (ad 40)), some (.int 30), some (.int 1), some (.int x), some (.int (nI D))] (by decide +kernel) rfl rfl rfl (Nat.le_of_ble_eq_true rfl) ?_
  refine z_aload_n (i := 0) dX6_above_0 rfl rfl ?_
  refine z_gsAboveN dX6_above_1 rfl ?_
  refine z_iload_n (i := 1) dX6_above_4 rfl rfl ?_
  refine z_bipush (v := 10) dX6_above_5 (by decide) ?_
  refine z_idiv dX6_above_7 (by first | decide | assumption) ?_
  refine z_iconst (v := 1) dX6_above_8 (by decide) ?_
  refine z_isub dX6_above_9 ?_
  refine z_above (j := 2) dX6_above_10 (by rfl) (by decide) (by decide) rfl ?_
  refine z_iload_n (i := 2) dX6_above_11 rfl rfl ?_
  refine z_Si (As := [_, _]) dX6_above_12 (by rfl) v_X6_bodyFrom l_X6_32 rfl (by omega) (by decide) (Nat.le_of_ble_eq_true rfl) ?_
  refine s_bodyFrom (v := 1) (x := 11) (kOk_up 2 (by decide)) (by decide) (by decide) ?_
  refine z_iload_n (i := 3) dX6_above_15 rfl rfl ?_
  refine z_iload (i := 4) dX6_above_16 rfl ?_
  refine z_Vi (As := [_, _, _]) dX6_above_18 (by rfl) v_X6_worksOut l_X6_36 (by first | decide | assumption | omega) rfl rfl rfl (by omega) (by decide) (Nat.le_of_ble_eq_true rfl) ?_
  refine w_11 he ht hz hp (by omega) (by omega) ?_
  intro c2 h2 hp2
  exact z_ret dX6_above_21 (hQ c2 h2 hp2) trivial rfl
theorem w_30 {k m x : Int32} {K D : Nat} {t : vT} (he : zxe k m K c) (ht : vok t) (hz : zxo c t c) (hp : c 40 2 = 0) (hD : D + 4 ≤ 20) (hd : 9 ≤ d) (hQ : ∀ c', zxo c (se2 k K x t).2 c' → c' 40 2 = 0 → Qf (se2 k K x t).1 c') : zCl l E ad mX6_worksOut d [.ref (ad 40), .int 30, .int x, .int (nI D)] c Qf := by
  have hlt := nI_leI (a := D) (b := 20) (by omega) (by omega)
  refine z_enter (own := RX6) [some (.ref (ad 40)), some (.int 30), some (.int x), some (.int (nI D)), none] (by decide +kernel) rfl rfl rfl (Nat.le_of_ble_eq_true rfl) ?_
  refine z_aload_n (i := 0) dX6_worksOut_0 rfl rfl ?_
  refine z_getf dX6_worksOut_1 f_X6_19 (by first | decide | assumption | omega) rfl (by rfl) ?_
  rw [hp]
  refine z_if_ne 17 dX6_worksOut_4 (by decide) (fun h_4 => ?_) (fun h_4 => ?_)
  · exact absurd rfl h_4
  refine z_iload_n (i := 1) dX6_worksOut_7 rfl rfl ?_
  refine z_if_eq 17 dX6_worksOut_8 (by decide) (fun h_8 => ?_) (fun h_8 => ?_)
  · exact absurd h_8 (by decide)
  refine z_iload_n (i := 3) dX6_worksOut_11 rfl rfl ?_
  refine z_bipush (v := 20) dX6_worksOut_12 (by decide) ?_
  refine z_icmp_le 19 dX6_worksOut_14 (by decide) (fun h_14 => ?_) (fun h_14 => ?_)
  rotate_left
  · exact absurd (hlt.mpr (by omega)) h_14
  refine z_aload_n (i := 0) dX6_worksOut_19 rfl rfl ?_
  refine z_iload_n (i := 1) dX6_worksOut_20 rfl rfl ?_
  refine z_Vv (As := [_]) dX6_worksOut_21 (by rfl) v_X6_begins l_X6_43 (by first | decide | assumption | omega) rfl rfl rfl (by omega) (by decide) (Nat.le_of_ble_eq_true rfl) ?_
  refine s_begins ht hz (fun c1 h1 hp1 => ?_)
  rw [hp] at hp1
  refine z_iload_n (i := 3) dX6_worksOut_24 rfl rfl ?_
  refine z_iconst (v := 1) dX6_worksOut_25 (by decide) ?_
  refine z_iadd dX6_worksOut_26 ?_
  rw [nI_1]
  refine z_istore (i := 4) [_, _, _, _, _] dX6_worksOut_27 (by decide) rfl rfl ?_
  refine z_iload_n (i := 1) dX6_worksOut_29 rfl rfl ?_
  by_cases h_30_30 : (30 : Int32) = 30
  · refine z_lookup 219 dX6_worksOut_30 rfl (by first | (rw [h_30_30]; rfl) | rw [h_30_30]) (by decide) ?_
    refine z_iconst (v := 0) dX6_worksOut_219 (by decide) ?_
    refine z_aload_n (i := 0) dX6_worksOut_220 rfl rfl ?_
    refine z_iload_n (i := 1) dX6_worksOut_221 rfl rfl ?_
    refine z_iconst (v := 1) dX6_worksOut_222 (by decide) ?_
    refine z_iload_n (i := 2) dX6_worksOut_223 rfl rfl ?_
    refine z_iload (i := 4) dX6_worksOut_224 rfl ?_
    refine z_Vi (As := [_, _, _, _]) dX6_worksOut_226 (by rfl) v_X6_above l_X6_56 (by first | decide | assumption | omega) rfl rfl rfl (by omega) (by decide) (Nat.le_of_ble_eq_true rfl) ?_
    refine a_30_1 (x := x) (zxe_tr he h1) (vok_vb ht) (zxo_self h1) hp1 (by omega) (by omega) (fun c2 h2 hp2 => ?_)
    refine z_isub dX6_worksOut_229 ?_
    exact z_ret dX6_worksOut_230 (hQ _ (zxo_tr h1 h2) hp2) trivial rfl
  exact absurd rfl h_30_30
theorem a_60_1 {k m x : Int32} {K D : Nat} {t : vT} (he : zxe k m K c) (ht : vok t) (hz : zxo c t c) (hp : c 40 2 = 0) (hD : D + 4 ≤ 20) (hd : 10 ≤ d) (hQ : ∀ c', zxo c (se2 k K x t).2 c' → c' 40 2 = 0 → Qf (se2 k K x t).1 c') : zCl l E ad mX6_above d [.ref (ad 40), .int 60, .int 1, .int x, .int (nI D)] c Qf := by
  refine z_enter (own := RX6) [some (.ref (ad 40)), some (.int 60), some (.int 1), some (.int x), some (.int (nI D))] (by decide +kernel) rfl rfl rfl (Nat.le_of_ble_eq_true rfl) ?_
  refine z_aload_n (i := 0) dX6_above_0 rfl rfl ?_
  refine z_gsAboveN dX6_above_1 rfl ?_
  refine z_iload_n (i := 1) dX6_above_4 rfl rfl ?_
  refine z_bipush (v := 10) dX6_above_5 (by decide) ?_
  refine z_idiv dX6_above_7 (by first | decide | assumption) ?_
  refine z_iconst (v := 1) dX6_above_8 (by decide) ?_
  refine z_isub dX6_above_9 ?_
  refine z_above (j := 5) dX6_above_10 (by rfl) (by decide) (by decide) rfl ?_
  refine z_iload_n (i := 2) dX6_above_11 rfl rfl ?_
  refine z_Si (As := [_, _]) dX6_above_12 (by rfl) v_X6_bodyFrom l_X6_32 rfl (by omega) (by decide) (Nat.le_of_ble_eq_true rfl) ?_
  refine s_bodyFrom (v := 1) (x := 30) (kOk_up 5 (by decide)) (by decide) (by decide) ?_
  refine z_iload_n (i := 3) dX6_above_15 rfl rfl ?_
  refine z_iload (i := 4) dX6_above_16 rfl ?_
  refine z_Vi (As := [_, _, _]) dX6_above_18 (by rfl) v_X6_worksOut l_X6_36 (by first | decide | assumption | omega) rfl rfl rfl (by omega) (by decide) (Nat.le_of_ble_eq_true rfl) ?_
  refine w_30 he ht hz hp (by omega) (by omega) ?_
  intro c2 h2 hp2
  exact z_ret dX6_above_21 (hQ c2 h2 hp2) trivial rfl
theorem w_60 {k m x : Int32} {K D : Nat} {t : vT} (he : zxe k m K c) (ht : vok t) (hz : zxo c t c) (hp : c 40 2 = 0) (hD : D + 5 ≤ 20) (hd : 11 ≤ d) (hQ : ∀ c', zxo c (se2 k K (x + 1) (vb 60 t)).2 c' → c' 40 2 = 0 → Qf (se2 k K (x + 1) (vb 60 t)).1 c') : zCl l E ad mX6_worksOut d [.ref (ad 40), .int 60, .int x, .int (nI D)] c Qf := by
  have hlt := nI_leI (a := D) (b := 20) (by omega) (by omega)
  refine z_enter (own := RX6) [some (.ref (ad 40)), some (.int 60), some (.int x), some (.int (nI D)), none] (by decide +kernel) rfl rfl rfl (Nat.le_of_ble_eq_true rfl) ?_
  refine z_aload_n (i := 0) dX6_worksOut_0 rfl rfl ?_
  refine z_getf dX6_worksOut_1 f_X6_19 (by first | decide | assumption | omega) rfl (by rfl) ?_
  rw [hp]
  refine z_if_ne 17 dX6_worksOut_4 (by decide) (fun h_4 => ?_) (fun h_4 => ?_)
  · exact absurd rfl h_4
  refine z_iload_n (i := 1) dX6_worksOut_7 rfl rfl ?_
  refine z_if_eq 17 dX6_worksOut_8 (by decide) (fun h_8 => ?_) (fun h_8 => ?_)
  · exact absurd h_8 (by decide)
  refine z_iload_n (i := 3) dX6_worksOut_11 rfl rfl ?_
  refine z_bipush (v := 20) dX6_worksOut_12 (by decide) ?_
  refine z_icmp_le 19 dX6_worksOut_14 (by decide) (fun h_14 => ?_) (fun h_14 => ?_)
  rotate_left
  · exact absurd (hlt.mpr (by omega)) h_14
  refine z_aload_n (i := 0) dX6_worksOut_19 rfl rfl ?_
  refine z_iload_n (i := 1) dX6_worksOut_20 rfl rfl ?_
  refine z_Vv (As := [_]) dX6_worksOut_21 (by rfl) v_X6_begins l_X6_43 (by first | decide | assumption | omega) rfl rfl rfl (by omega) (by decide) (Nat.le_of_ble_eq_true rfl) ?_
  refine s_begins ht hz (fun c1 h1 hp1 => ?_)
  rw [hp] at hp1
  refine z_iload_n (i := 3) dX6_worksOut_24 rfl rfl ?_
  refine z_iconst (v := 1) dX6_worksOut_25 (by decide) ?_
  refine z_iadd dX6_worksOut_26 ?_
  rw [nI_1]
  refine z_istore (i := 4) [_, _, _, _, _] dX6_worksOut_27 (by decide) rfl rfl ?_
  refine z_iload_n (i := 1) dX6_worksOut_29 rfl rfl ?_
  by_cases h_30_60 : (60 : Int32) = 60
  · refine z_lookup 270 dX6_worksOut_30 rfl (by first | (rw [h_30_60]; rfl) | rw [h_30_60]) (by decide) ?_
    refine z_aload_n (i := 0) dX6_worksOut_270 rfl rfl ?_
    refine z_iload_n (i := 1) dX6_worksOut_271 rfl rfl ?_
    refine z_iconst (v := 1) dX6_worksOut_272 (by decide) ?_
    refine z_iload_n (i := 2) dX6_worksOut_273 rfl rfl ?_
    refine z_iconst (v := 1) dX6_worksOut_274 (by decide) ?_
    refine z_iadd dX6_worksOut_275 ?_
    refine z_iload (i := 4) dX6_worksOut_276 rfl ?_
    refine z_Vi (As := [_, _, _, _]) dX6_worksOut_278 (by rfl) v_X6_above l_X6_56 (by first | decide | assumption | omega) rfl rfl rfl (by omega) (by decide) (Nat.le_of_ble_eq_true rfl) ?_
    refine a_60_1 (x := x + 1) (zxe_tr he h1) (vok_vb ht) (zxo_self h1) hp1 (by omega) (by omega) (fun c2 h2 hp2 => ?_)
    exact z_ret dX6_worksOut_281 (hQ _ (zxo_tr h1 h2) hp2) trivial rfl
  exact absurd rfl h_30_60
theorem a_71_1 {k m x : Int32} {K D : Nat} {t : vT} (he : zxe k m K c) (ht : vok t) (hz : zxo c t c) (hp : c 40 2 = 0) (hD : D + 3 ≤ 20) (hd : 8 ≤ d) (hQ : ∀ c', zxo c (se0 k K x t).2 c' → c' 40 2 = 0 → Qf (se0 k K x t).1 c') : zCl l E ad mX6_above d [.ref (ad 40), .int 71, .int 1, .int x, .int (nI D)] c Qf := by
  refine z_enter (own := RX6) [some (.ref (ad 40)), some (.int 71), some (.int 1), some (.int x), some (.int (nI D))] (by decide +kernel) rfl rfl rfl (Nat.le_of_ble_eq_true rfl) ?_
  refine z_aload_n (i := 0) dX6_above_0 rfl rfl ?_
  refine z_gsAboveN dX6_above_1 rfl ?_
  refine z_iload_n (i := 1) dX6_above_4 rfl rfl ?_
  refine z_bipush (v := 10) dX6_above_5 (by decide) ?_
  refine z_idiv dX6_above_7 (by first | decide | assumption) ?_
  refine z_iconst (v := 1) dX6_above_8 (by decide) ?_
  refine z_isub dX6_above_9 ?_
  refine z_above (j := 6) dX6_above_10 (by rfl) (by decide) (by decide) rfl ?_
  refine z_iload_n (i := 2) dX6_above_11 rfl rfl ?_
  refine z_Si (As := [_, _]) dX6_above_12 (by rfl) v_X6_bodyFrom l_X6_32 rfl (by omega) (by decide) (Nat.le_of_ble_eq_true rfl) ?_
  refine s_bodyFrom (v := 1) (x := 11) (kOk_up 6 (by decide)) (by decide) (by decide) ?_
  refine z_iload_n (i := 3) dX6_above_15 rfl rfl ?_
  refine z_iload (i := 4) dX6_above_16 rfl ?_
  refine z_Vi (As := [_, _, _]) dX6_above_18 (by rfl) v_X6_worksOut l_X6_36 (by first | decide | assumption | omega) rfl rfl rfl (by omega) (by decide) (Nat.le_of_ble_eq_true rfl) ?_
  refine w_11 he ht hz hp (by omega) (by omega) ?_
  intro c2 h2 hp2
  exact z_ret dX6_above_21 (hQ c2 h2 hp2) trivial rfl
theorem w_71 {k m x : Int32} {K D : Nat} {t : vT} (he : zxe k m K c) (ht : vok t) (hz : zxo c t c) (hp : c 40 2 = 0) (hD : D + 4 ≤ 20) (hd : 9 ≤ d) (hQ : ∀ c', zxo c (((se0 k K x (vb 71 t)).1 + m, (se0 k K x (vb 71 t)).2)).2 c' → c' 40 2 = 0 → Qf (((se0 k K x (vb 71 t)).1 + m, (se0 k K x (vb 71 t)).2)).1 c') : zCl l E ad mX6_worksOut d [.ref (ad 40), .int 71, .int x, .int (nI D)] c Qf := by
  have hlt := nI_leI (a := D) (b := 20) (by omega) (by omega)
  refine z_enter (own := RX6) [some (.ref (ad 40)), some (.int 71), some (.int x), some (.int (nI D)), none] (by decide +kernel) rfl rfl rfl (Nat.le_of_ble_eq_true rfl) ?_
  refine z_aload_n (i := 0) dX6_worksOut_0 rfl rfl ?_
  refine z_getf dX6_worksOut_1 f_X6_19 (by first | decide | assumption | omega) rfl (by rfl) ?_
  rw [hp]
  refine z_if_ne 17 dX6_worksOut_4 (by decide) (fun h_4 => ?_) (fun h_4 => ?_)
  · exact absurd rfl h_4
  refine z_iload_n (i := 1) dX6_worksOut_7 rfl rfl ?_
  refine z_if_eq 17 dX6_worksOut_8 (by decide) (fun h_8 => ?_) (fun h_8 => ?_)
  · exact absurd h_8 (by decide)
  refine z_iload_n (i := 3) dX6_worksOut_11 rfl rfl ?_
  refine z_bipush (v := 20) dX6_worksOut_12 (by decide) ?_
  refine z_icmp_le 19 dX6_worksOut_14 (by decide) (fun h_14 => ?_) (fun h_14 => ?_)
  rotate_left
  · exact absurd (hlt.mpr (by omega)) h_14
  refine z_aload_n (i := 0) dX6_worksOut_19 rfl rfl ?_
  refine z_iload_n (i := 1) dX6_worksOut_20 rfl rfl ?_
  refine z_Vv (As := [_]) dX6_worksOut_21 (by rfl) v_X6_begins l_X6_43 (by first | decide | assumption | omega) rfl rfl rfl (by omega) (by decide) (Nat.le_of_ble_eq_true rfl) ?_
  refine s_begins ht hz (fun c1 h1 hp1 => ?_)
  rw [hp] at hp1
  refine z_iload_n (i := 3) dX6_worksOut_24 rfl rfl ?_
  refine z_iconst (v := 1) dX6_worksOut_25 (by decide) ?_
  refine z_iadd dX6_worksOut_26 ?_
  rw [nI_1]
  refine z_istore (i := 4) [_, _, _, _, _] dX6_worksOut_27 (by decide) rfl rfl ?_
  refine z_iload_n (i := 1) dX6_worksOut_29 rfl rfl ?_
  by_cases h_30_71 : (71 : Int32) = 71
  · refine z_lookup 285 dX6_worksOut_30 rfl (by first | (rw [h_30_71]; rfl) | rw [h_30_71]) (by decide) ?_
    refine z_aload_n (i := 0) dX6_worksOut_285 rfl rfl ?_
    refine z_iload_n (i := 1) dX6_worksOut_286 rfl rfl ?_
    refine z_iconst (v := 1) dX6_worksOut_287 (by decide) ?_
    refine z_iload_n (i := 2) dX6_worksOut_288 rfl rfl ?_
    refine z_iload (i := 4) dX6_worksOut_289 rfl ?_
    refine z_Vi (As := [_, _, _, _]) dX6_worksOut_291 (by rfl) v_X6_above l_X6_56 (by first | decide | assumption | omega) rfl rfl rfl (by omega) (by decide) (Nat.le_of_ble_eq_true rfl) ?_
    refine a_71_1 (x := x) (zxe_tr he h1) (vok_vb ht) (zxo_self h1) hp1 (by omega) (by omega) (fun c2 h2 hp2 => ?_)
    refine z_aload_n (i := 0) dX6_worksOut_294 rfl rfl ?_
    refine z_getf dX6_worksOut_295 f_X6_29 (by first | decide | assumption | omega) rfl (by rfl) ?_
    rw [(zxe_tr (zxe_tr he h1) h2).2.2.2]
    refine z_iadd dX6_worksOut_298 ?_
    exact z_ret dX6_worksOut_299 (hQ _ (zxo_tr h1 h2) hp2) trivial rfl
  exact absurd rfl h_30_71
theorem q_sees {kk : Nat} {k m x : Int32} {K D : Nat} {t : vT} (he : zxe k m K c) (ht : vok t) (hz : zxo c t c) (hp : c 40 2 = 0) (hkk : kk = K) (hD : D + 5 ≤ 20) (hd : 11 ≤ d) (hQ : ∀ c', zxo c (seV k m K kk x t).2 c' → c' 40 2 = 0 → Qf (seV k m K kk x t).1 c') : zCl l E ad mX6_worksOut d [.ref (ad 40), .int (bdyF 1 7 (nI kk)), .int x, .int (nI D)] c Qf := by
  subst hkk
  have hK := he.1
  rcases (show kk = 0 ∨ kk = 1 ∨ kk = 2 ∨ kk = 3 ∨ kk = 4 ∨ kk = 5 ∨ kk = 6 by omega) with rfl | rfl | rfl | rfl | rfl | rfl | rfl
  · rw [show bdyF 1 7 (nI 0) = 11 by decide]
    exact w_11 he ht hz hp (by omega) (by omega) hQ
  · rw [show bdyF 1 7 (nI 1) = 11 by decide]
    exact w_11 he ht hz hp (by omega) (by omega) hQ
  · rw [show bdyF 1 7 (nI 2) = 30 by decide]
    exact w_30 he ht hz hp (by omega) (by omega) hQ
  · rw [show bdyF 1 7 (nI 3) = 11 by decide]
    exact w_11 he ht hz hp (by omega) (by omega) hQ
  · rw [show bdyF 1 7 (nI 4) = 11 by decide]
    exact w_11 he ht hz hp (by omega) (by omega) hQ
  · rw [show bdyF 1 7 (nI 5) = 60 by decide]
    exact w_60 he ht hz hp (by omega) (by omega) hQ
  · rw [show bdyF 1 7 (nI 6) = 71 by decide]
    exact w_71 he ht hz hp (by omega) (by omega) hQ
theorem m_sees {k m x : Int32} {K D : Nat} {t : vT} (he : zxe k m K c) (ht : vok t) (hz : zxo c t c) (hp : c 40 2 = 0) (hD : D + 5 ≤ 20) (hd : 12 ≤ d) (hQ : ∀ c', zxo c (seV k m K K x t).2 c' → c' 40 2 = 0 → Qf (seV k m K K x t).1 c') : zCl l E ad mX6_sees d [.ref (ad 40), .int x, .int (nI D)] c Qf := by
  refine z_enter (own := RX6) [some (.ref (ad 40)), some (.int x), some (.int (nI D))] (by decide +kernel) rfl rfl rfl (Nat.le_of_ble_eq_true rfl) ?_
  have hK := he.1
  refine z_aload_n (i := 0) dX6_sees_0 rfl rfl ?_
  refine z_aload_n (i := 0) dX6_sees_1 rfl rfl ?_
  refine z_getf dX6_sees_2 f_X6_23 (by first | decide | assumption | omega) rfl (by rfl) ?_
  rw [he.2.1]
  skip
  refine z_iconst (v := 1) dX6_sees_5 (by decide) ?_
  refine z_Si (As := [_, _]) dX6_sees_6 (by rfl) v_X6_bodyFrom l_X6_32 rfl (by omega) (by decide) (Nat.le_of_ble_eq_true rfl) ?_
  refine s_bodyFrom (v := 1) (Or.inr ⟨K, by omega, rfl⟩) (by decide) rfl ?_
  refine z_iload_n (i := 1) dX6_sees_9 rfl rfl ?_
  refine z_iload_n (i := 2) dX6_sees_10 rfl rfl ?_
  refine z_Vi (As := [_, _, _]) dX6_sees_11 (by rfl) v_X6_worksOut l_X6_36 (by first | decide | assumption | omega) rfl rfl rfl (by omega) (by decide) (Nat.le_of_ble_eq_true rfl) ?_
  refine q_sees he ht hz hp rfl (by omega) (by omega) (fun c2 h2 hp2 => ?_)
  exact z_ret dX6_sees_14 (hQ c2 h2 hp2) trivial rfl
theorem w_12 {k m x : Int32} {K D : Nat} {t : vT} (he : zxe k m K c) (ht : vok t) (hz : zxo c t c) (hp : c 40 2 = 0) (hD : D + 6 ≤ 20) (hd : 13 ≤ d) (hQ : ∀ c', zxo c (wa0 k m K x t).2 c' → c' 40 2 = 0 → Qf (wa0 k m K x t).1 c') : zCl l E ad mX6_worksOut d [.ref (ad 40), .int 12, .int x, .int (nI D)] c Qf := by
  have hlt := nI_leI (a := D) (b := 20) (by omega) (by omega)
  refine z_enter (own := RX6) [some (.ref (ad 40)), some (.int 12), some (.int x), some (.int (nI D)), none] (by decide +kernel) rfl rfl rfl (Nat.le_of_ble_eq_true rfl) ?_
  refine z_aload_n (i := 0) dX6_worksOut_0 rfl rfl ?_
  refine z_getf dX6_worksOut_1 f_X6_19 (by first | decide | assumption | omega) rfl (by rfl) ?_
  rw [hp]
  refine z_if_ne 17 dX6_worksOut_4 (by decide) (fun h_4 => ?_) (fun h_4 => ?_)
  · exact absurd rfl h_4
  refine z_iload_n (i := 1) dX6_worksOut_7 rfl rfl ?_
  refine z_if_eq 17 dX6_worksOut_8 (by decide) (fun h_8 => ?_) (fun h_8 => ?_)
  · exact absurd h_8 (by decide)
  refine z_iload_n (i := 3) dX6_worksOut_11 rfl rfl ?_
  refine z_bipush (v := 20) dX6_worksOut_12 (by decide) ?_
  refine z_icmp_le 19 dX6_worksOut_14 (by decide) (fun h_14 => ?_) (fun h_14 => ?_)
  rotate_left
  · exact absurd (hlt.mpr (by omega)) h_14
  refine z_aload_n (i := 0) dX6_worksOut_19 rfl rfl ?_
  refine z_iload_n (i := 1) dX6_worksOut_20 rfl rfl ?_
  refine z_Vv (As := [_]) dX6_worksOut_21 (by rfl) v_X6_begins l_X6_43 (by first | decide | assumption | omega) rfl rfl rfl (by omega) (by decide) (Nat.le_of_ble_eq_true rfl) ?_
  refine s_begins ht hz (fun c1 h1 hp1 => ?_)
  rw [hp] at hp1
  refine z_iload_n (i := 3) dX6_worksOut_24 rfl rfl ?_
  refine z_iconst (v := 1) dX6_worksOut_25 (by decide) ?_
  refine z_iadd dX6_worksOut_26 ?_
  rw [nI_1]
  refine z_istore (i := 4) [_, _, _, _, _] dX6_worksOut_27 (by decide) rfl rfl ?_
  refine z_iload_n (i := 1) dX6_worksOut_29 rfl rfl ?_
  by_cases h_30_12 : (12 : Int32) = 12
  · refine z_lookup 161 dX6_worksOut_30 rfl (by first | (rw [h_30_12]; rfl) | rw [h_30_12]) (by decide) ?_
    refine z_aload_n (i := 0) dX6_worksOut_161 rfl rfl ?_
    refine z_iload_n (i := 2) dX6_worksOut_162 rfl rfl ?_
    refine z_iload (i := 4) dX6_worksOut_163 rfl ?_
    refine z_Vi (As := [_, _]) dX6_worksOut_165 (by rfl) v_X6_sees l_X6_50 (by first | decide | assumption | omega) rfl rfl rfl (by omega) (by decide) (Nat.le_of_ble_eq_true rfl) ?_
    refine m_sees (x := x) (zxe_tr he h1) (vok_vb ht) (zxo_self h1) hp1 (by omega) (by omega) (fun c2 h2 hp2 => ?_)
    refine z_aload_n (i := 0) dX6_worksOut_168 rfl rfl ?_
    refine z_getf dX6_worksOut_169 f_X6_29 (by first | decide | assumption | omega) rfl (by rfl) ?_
    rw [(zxe_tr (zxe_tr he h1) h2).2.2.2]
    refine z_isub dX6_worksOut_172 ?_
    exact z_ret dX6_worksOut_173 (hQ _ (zxo_tr h1 h2) hp2) trivial rfl
  exact absurd rfl h_30_12
theorem a_40_2 {k m x : Int32} {K D : Nat} {t : vT} (he : zxe k m K c) (ht : vok t) (hz : zxo c t c) (hp : c 40 2 = 0) (hD : D + 6 ≤ 20) (hd : 14 ≤ d) (hQ : ∀ c', zxo c (wa0 k m K x t).2 c' → c' 40 2 = 0 → Qf (wa0 k m K x t).1 c') : zCl l E ad mX6_above d [.ref (ad 40), .int 40, .int 2, .int x, .int (nI D)] c Qf := by
  refine z_enter (own := RX6) [some (.ref (ad 40)), some (.int 40), some (.int 2), some (.int x), some (.int (nI D))] (by decide +kernel) rfl rfl rfl (Nat.le_of_ble_eq_true rfl) ?_
  refine z_aload_n (i := 0) dX6_above_0 rfl rfl ?_
  refine z_gsAboveN dX6_above_1 rfl ?_
  refine z_iload_n (i := 1) dX6_above_4 rfl rfl ?_
  refine z_bipush (v := 10) dX6_above_5 (by decide) ?_
  refine z_idiv dX6_above_7 (by first | decide | assumption) ?_
  refine z_iconst (v := 1) dX6_above_8 (by decide) ?_
  refine z_isub dX6_above_9 ?_
  refine z_above (j := 3) dX6_above_10 (by rfl) (by decide) (by decide) rfl ?_
  refine z_iload_n (i := 2) dX6_above_11 rfl rfl ?_
  refine z_Si (As := [_, _]) dX6_above_12 (by rfl) v_X6_bodyFrom l_X6_32 rfl (by omega) (by decide) (Nat.le_of_ble_eq_true rfl) ?_
  refine s_bodyFrom (v := 2) (x := 12) (kOk_up 3 (by decide)) (by decide) (by decide) ?_
  refine z_iload_n (i := 3) dX6_above_15 rfl rfl ?_
  refine z_iload (i := 4) dX6_above_16 rfl ?_
  refine z_Vi (As := [_, _, _]) dX6_above_18 (by rfl) v_X6_worksOut l_X6_36 (by first | decide | assumption | omega) rfl rfl rfl (by omega) (by decide) (Nat.le_of_ble_eq_true rfl) ?_
  refine w_12 he ht hz hp (by omega) (by omega) ?_
  intro c2 h2 hp2
  exact z_ret dX6_above_21 (hQ c2 h2 hp2) trivial rfl
theorem w_40 {k m x : Int32} {K D : Nat} {t : vT} (he : zxe k m K c) (ht : vok t) (hz : zxo c t c) (hp : c 40 2 = 0) (hD : D + 7 ≤ 20) (hd : 15 ≤ d) (hQ : ∀ c', zxo c (wa0 k m K (x / 2) (vb 40 t)).2 c' → c' 40 2 = 0 → Qf (wa0 k m K (x / 2) (vb 40 t)).1 c') : zCl l E ad mX6_worksOut d [.ref (ad 40), .int 40, .int x, .int (nI D)] c Qf := by
  have hlt := nI_leI (a := D) (b := 20) (by omega) (by omega)
  refine z_enter (own := RX6) [some (.ref (ad 40)), some (.int 40), some (.int x), some (.int (nI D)), none] (by decide +kernel) rfl rfl rfl (Nat.le_of_ble_eq_true rfl) ?_
  refine z_aload_n (i := 0) dX6_worksOut_0 rfl rfl ?_
  refine z_getf dX6_worksOut_1 f_X6_19 (by first | decide | assumption | omega) rfl (by rfl) ?_
  rw [hp]
  refine z_if_ne 17 dX6_worksOut_4 (by decide) (fun h_4 => ?_) (fun h_4 => ?_)
  · exact absurd rfl h_4
  refine z_iload_n (i := 1) dX6_worksOut_7 rfl rfl ?_
  refine z_if_eq 17 dX6_worksOut_8 (by decide) (fun h_8 => ?_) (fun h_8 => ?_)
  · exact absurd h_8 (by decide)
  refine z_iload_n (i := 3) dX6_worksOut_11 rfl rfl ?_
  refine z_bipush (v := 20) dX6_worksOut_12 (by decide) ?_
  refine z_icmp_le 19 dX6_worksOut_14 (by decide) (fun h_14 => ?_) (fun h_14 => ?_)
  rotate_left
  · exact absurd (hlt.mpr (by omega)) h_14
  refine z_aload_n (i := 0) dX6_worksOut_19 rfl rfl ?_
  refine z_iload_n (i := 1) dX6_worksOut_20 rfl rfl ?_
  refine z_Vv (As := [_]) dX6_worksOut_21 (by rfl) v_X6_begins l_X6_43 (by first | decide | assumption | omega) rfl rfl rfl (by omega) (by decide) (Nat.le_of_ble_eq_true rfl) ?_
  refine s_begins ht hz (fun c1 h1 hp1 => ?_)
  rw [hp] at hp1
  refine z_iload_n (i := 3) dX6_worksOut_24 rfl rfl ?_
  refine z_iconst (v := 1) dX6_worksOut_25 (by decide) ?_
  refine z_iadd dX6_worksOut_26 ?_
  rw [nI_1]
  refine z_istore (i := 4) [_, _, _, _, _] dX6_worksOut_27 (by decide) rfl rfl ?_
  refine z_iload_n (i := 1) dX6_worksOut_29 rfl rfl ?_
  by_cases h_30_40 : (40 : Int32) = 40
  · refine z_lookup 231 dX6_worksOut_30 rfl (by first | (rw [h_30_40]; rfl) | rw [h_30_40]) (by decide) ?_
    refine z_aload_n (i := 0) dX6_worksOut_231 rfl rfl ?_
    refine z_iload_n (i := 1) dX6_worksOut_232 rfl rfl ?_
    refine z_iconst (v := 2) dX6_worksOut_233 (by decide) ?_
    refine z_iload_n (i := 2) dX6_worksOut_234 rfl rfl ?_
    refine z_iconst (v := 2) dX6_worksOut_235 (by decide) ?_
    refine z_idiv dX6_worksOut_236 (by first | decide | assumption) ?_
    refine z_iload (i := 4) dX6_worksOut_237 rfl ?_
    refine z_Vi (As := [_, _, _, _]) dX6_worksOut_239 (by rfl) v_X6_above l_X6_56 (by first | decide | assumption | omega) rfl rfl rfl (by omega) (by decide) (Nat.le_of_ble_eq_true rfl) ?_
    refine a_40_2 (x := x / 2) (zxe_tr he h1) (vok_vb ht) (zxo_self h1) hp1 (by omega) (by omega) (fun c2 h2 hp2 => ?_)
    exact z_ret dX6_worksOut_242 (hQ _ (zxo_tr h1 h2) hp2) trivial rfl
  exact absurd rfl h_30_40
theorem a_51_2 {k m x : Int32} {K D : Nat} {t : vT} (he : zxe k m K c) (ht : vok t) (hz : zxo c t c) (hp : c 40 2 = 0) (hD : D + 6 ≤ 20) (hd : 14 ≤ d) (hQ : ∀ c', zxo c (wa0 k m K x t).2 c' → c' 40 2 = 0 → Qf (wa0 k m K x t).1 c') : zCl l E ad mX6_above d [.ref (ad 40), .int 51, .int 2, .int x, .int (nI D)] c Qf := by
  refine z_enter (own := RX6) [some (.ref (ad 40)), some (.int 51), some (.int 2), some (.int x), some (.int (nI D))] (by decide +kernel) rfl rfl rfl (Nat.le_of_ble_eq_true rfl) ?_
  refine z_aload_n (i := 0) dX6_above_0 rfl rfl ?_
  refine z_gsAboveN dX6_above_1 rfl ?_
  refine z_iload_n (i := 1) dX6_above_4 rfl rfl ?_
  refine z_bipush (v := 10) dX6_above_5 (by decide) ?_
  refine z_idiv dX6_above_7 (by first | decide | assumption) ?_
  refine z_iconst (v := 1) dX6_above_8 (by decide) ?_
  refine z_isub dX6_above_9 ?_
  refine z_above (j := 4) dX6_above_10 (by rfl) (by decide) (by decide) rfl ?_
  refine z_iload_n (i := 2) dX6_above_11 rfl rfl ?_
  refine z_Si (As := [_, _]) dX6_above_12 (by rfl) v_X6_bodyFrom l_X6_32 rfl (by omega) (by decide) (Nat.le_of_ble_eq_true rfl) ?_
  refine s_bodyFrom (v := 2) (x := 12) (kOk_up 4 (by decide)) (by decide) (by decide) ?_
  refine z_iload_n (i := 3) dX6_above_15 rfl rfl ?_
  refine z_iload (i := 4) dX6_above_16 rfl ?_
  refine z_Vi (As := [_, _, _]) dX6_above_18 (by rfl) v_X6_worksOut l_X6_36 (by first | decide | assumption | omega) rfl rfl rfl (by omega) (by decide) (Nat.le_of_ble_eq_true rfl) ?_
  refine w_12 he ht hz hp (by omega) (by omega) ?_
  intro c2 h2 hp2
  exact z_ret dX6_above_21 (hQ c2 h2 hp2) trivial rfl
theorem w_51 {k m x : Int32} {K D : Nat} {t : vT} (he : zxe k m K c) (ht : vok t) (hz : zxo c t c) (hp : c 40 2 = 0) (hD : D + 7 ≤ 20) (hd : 15 ≤ d) (hQ : ∀ c', zxo c (((wa0 k m K x (vb 51 t)).1 ^^^ k, (wa0 k m K x (vb 51 t)).2)).2 c' → c' 40 2 = 0 → Qf (((wa0 k m K x (vb 51 t)).1 ^^^ k, (wa0 k m K x (vb 51 t)).2)).1 c') : zCl l E ad mX6_worksOut d [.ref (ad 40), .int 51, .int x, .int (nI D)] c Qf := by
  have hlt := nI_leI (a := D) (b := 20) (by omega) (by omega)
  refine z_enter (own := RX6) [some (.ref (ad 40)), some (.int 51), some (.int x), some (.int (nI D)), none] (by decide +kernel) rfl rfl rfl (Nat.le_of_ble_eq_true rfl) ?_
  refine z_aload_n (i := 0) dX6_worksOut_0 rfl rfl ?_
  refine z_getf dX6_worksOut_1 f_X6_19 (by first | decide | assumption | omega) rfl (by rfl) ?_
  rw [hp]
  refine z_if_ne 17 dX6_worksOut_4 (by decide) (fun h_4 => ?_) (fun h_4 => ?_)
  · exact absurd rfl h_4
  refine z_iload_n (i := 1) dX6_worksOut_7 rfl rfl ?_
  refine z_if_eq 17 dX6_worksOut_8 (by decide) (fun h_8 => ?_) (fun h_8 => ?_)
  · exact absurd h_8 (by decide)
  refine z_iload_n (i := 3) dX6_worksOut_11 rfl rfl ?_
  refine z_bipush (v := 20) dX6_worksOut_12 (by decide) ?_
  refine z_icmp_le 19 dX6_worksOut_14 (by decide) (fun h_14 => ?_) (fun h_14 => ?_)
  rotate_left
  · exact absurd (hlt.mpr (by omega)) h_14
  refine z_aload_n (i := 0) dX6_worksOut_19 rfl rfl ?_
  refine z_iload_n (i := 1) dX6_worksOut_20 rfl rfl ?_
  refine z_Vv (As := [_]) dX6_worksOut_21 (by rfl) v_X6_begins l_X6_43 (by first | decide | assumption | omega) rfl rfl rfl (by omega) (by decide) (Nat.le_of_ble_eq_true rfl) ?_
  refine s_begins ht hz (fun c1 h1 hp1 => ?_)
  rw [hp] at hp1
  refine z_iload_n (i := 3) dX6_worksOut_24 rfl rfl ?_
  refine z_iconst (v := 1) dX6_worksOut_25 (by decide) ?_
  refine z_iadd dX6_worksOut_26 ?_
  rw [nI_1]
  refine z_istore (i := 4) [_, _, _, _, _] dX6_worksOut_27 (by decide) rfl rfl ?_
  refine z_iload_n (i := 1) dX6_worksOut_29 rfl rfl ?_
  by_cases h_30_51 : (51 : Int32) = 51
  · refine z_lookup 255 dX6_worksOut_30 rfl (by first | (rw [h_30_51]; rfl) | rw [h_30_51]) (by decide) ?_
    refine z_aload_n (i := 0) dX6_worksOut_255 rfl rfl ?_
    refine z_iload_n (i := 1) dX6_worksOut_256 rfl rfl ?_
    refine z_iconst (v := 2) dX6_worksOut_257 (by decide) ?_
    refine z_iload_n (i := 2) dX6_worksOut_258 rfl rfl ?_
    refine z_iload (i := 4) dX6_worksOut_259 rfl ?_
    refine z_Vi (As := [_, _, _, _]) dX6_worksOut_261 (by rfl) v_X6_above l_X6_56 (by first | decide | assumption | omega) rfl rfl rfl (by omega) (by decide) (Nat.le_of_ble_eq_true rfl) ?_
    refine a_51_2 (x := x) (zxe_tr he h1) (vok_vb ht) (zxo_self h1) hp1 (by omega) (by omega) (fun c2 h2 hp2 => ?_)
    refine z_aload_n (i := 0) dX6_worksOut_264 rfl rfl ?_
    refine z_getf dX6_worksOut_265 f_X6_26 (by first | decide | assumption | omega) rfl (by rfl) ?_
    rw [(zxe_tr (zxe_tr he h1) h2).2.2.1]
    refine z_ixor dX6_worksOut_268 ?_
    exact z_ret dX6_worksOut_269 (hQ _ (zxo_tr h1 h2) hp2) trivial rfl
  exact absurd rfl h_30_51
def paP (k m : Int32) : Int32 := if m - k = 0 then 1 else 0
theorem w_13 {k m x : Int32} {K D : Nat} {t : vT} (he : zxe k m K c) (ht : vok t) (hz : zxo c t c) (hp : c 40 2 = 0) (hD : D ≤ 20) (hd : 1 ≤ d) (hQ : ∀ c', zxo c (pa0 k m x t).2 c' → c' 40 2 = paP k m → Qf (pa0 k m x t).1 c') : zCl l E ad mX6_worksOut d [.ref (ad 40), .int 13, .int x, .int (nI D)] c Qf := by
  have hlt := nI_leI (a := D) (b := 20) (by omega) (by omega)
  unfold paP at hQ
  refine z_enter (own := RX6) [some (.ref (ad 40)), some (.int 13), some (.int x), some (.int (nI D)), none] (by decide +kernel) rfl rfl rfl (Nat.le_of_ble_eq_true rfl) ?_
  refine z_aload_n (i := 0) dX6_worksOut_0 rfl rfl ?_
  refine z_getf dX6_worksOut_1 f_X6_19 (by first | decide | assumption | omega) rfl (by rfl) ?_
  rw [hp]
  refine z_if_ne 17 dX6_worksOut_4 (by decide) (fun h_4 => ?_) (fun h_4 => ?_)
  · exact absurd rfl h_4
  refine z_iload_n (i := 1) dX6_worksOut_7 rfl rfl ?_
  refine z_if_eq 17 dX6_worksOut_8 (by decide) (fun h_8 => ?_) (fun h_8 => ?_)
  · exact absurd h_8 (by decide)
  refine z_iload_n (i := 3) dX6_worksOut_11 rfl rfl ?_
  refine z_bipush (v := 20) dX6_worksOut_12 (by decide) ?_
  refine z_icmp_le 19 dX6_worksOut_14 (by decide) (fun h_14 => ?_) (fun h_14 => ?_)
  rotate_left
  · exact absurd (hlt.mpr (by omega)) h_14
  refine z_aload_n (i := 0) dX6_worksOut_19 rfl rfl ?_
  refine z_iload_n (i := 1) dX6_worksOut_20 rfl rfl ?_
  refine z_Vv (As := [_]) dX6_worksOut_21 (by rfl) v_X6_begins l_X6_43 (by first | decide | assumption | omega) rfl rfl rfl (by omega) (by decide) (Nat.le_of_ble_eq_true rfl) ?_
  refine s_begins ht hz (fun c1 h1 hp1 => ?_)
  rw [hp] at hp1
  refine z_iload_n (i := 3) dX6_worksOut_24 rfl rfl ?_
  refine z_iconst (v := 1) dX6_worksOut_25 (by decide) ?_
  refine z_iadd dX6_worksOut_26 ?_
  refine z_istore (i := 4) [_, _, _, _, _] dX6_worksOut_27 (by decide) rfl rfl ?_
  refine z_iload_n (i := 1) dX6_worksOut_29 rfl rfl ?_
  by_cases h_30_13 : (13 : Int32) = 13
  · refine z_lookup 174 dX6_worksOut_30 rfl (by first | (rw [h_30_13]; rfl) | rw [h_30_13]) (by decide) ?_
    refine z_aload_n (i := 0) dX6_worksOut_174 rfl rfl ?_
    refine z_aload_n (i := 0) dX6_worksOut_175 rfl rfl ?_
    refine z_getf dX6_worksOut_176 f_X6_29 (by first | decide | assumption | omega) rfl (by rfl) ?_
    rw [(zxe_tr he h1).2.2.2]
    refine z_aload_n (i := 0) dX6_worksOut_179 rfl rfl ?_
    refine z_getf dX6_worksOut_180 f_X6_26 (by first | decide | assumption | omega) rfl (by rfl) ?_
    rw [(zxe_tr he h1).2.2.1]
    refine z_isub dX6_worksOut_183 ?_
    refine z_iload_n (i := 2) dX6_worksOut_184 rfl rfl ?_
    refine z_Vi (As := [_, _]) dX6_worksOut_185 (by rfl) v_X6_partsBy l_X6_53 (by first | decide | assumption | omega) rfl rfl rfl (by omega) (by decide) (Nat.le_of_ble_eq_true rfl) ?_
    refine s_partsBy ?_
    refine z_ret dX6_worksOut_188 (hQ _ ?_ ?_) trivial rfl
    · by_cases h0 : m - k = 0
      · rw [if_pos h0]
        exact ⟨by rw [zup_s, pk_un (by decide)]; exact h1.1, h1.2.1, fun i a b => by rw [zup_n a]; exact h1.2.2.1 i a b, fun i a b => by rw [zup_s, pk_un b]; exact h1.2.2.2 i a b⟩
      · rw [if_neg h0]
        exact h1
    · by_cases h0 : m - k = 0
      · rw [if_pos h0, if_pos h0, zup_s, pk_us]
      · rw [if_neg h0, if_neg h0]
        exact hp1
  exact absurd rfl h_30_13
theorem a_21_3 {k m x : Int32} {K D : Nat} {t : vT} (he : zxe k m K c) (ht : vok t) (hz : zxo c t c) (hp : c 40 2 = 0) (hD : D ≤ 20) (hd : 2 ≤ d) (hQ : ∀ c', zxo c (pa0 k m x t).2 c' → c' 40 2 = paP k m → Qf (pa0 k m x t).1 c') : zCl l E ad mX6_above d [.ref (ad 40), .int 21, .int 3, .int x, .int (nI D)] c Qf := by
  refine z_enter (own := RX6) [some (.ref (ad 40)), some (.int 21), some (.int 3), some (.int x), some (.int (nI D))] (by decide +kernel) rfl rfl rfl (Nat.le_of_ble_eq_true rfl) ?_
  refine z_aload_n (i := 0) dX6_above_0 rfl rfl ?_
  refine z_gsAboveN dX6_above_1 rfl ?_
  refine z_iload_n (i := 1) dX6_above_4 rfl rfl ?_
  refine z_bipush (v := 10) dX6_above_5 (by decide) ?_
  refine z_idiv dX6_above_7 (by first | decide | assumption) ?_
  refine z_iconst (v := 1) dX6_above_8 (by decide) ?_
  refine z_isub dX6_above_9 ?_
  refine z_above (j := 1) dX6_above_10 (by rfl) (by decide) (by decide) rfl ?_
  refine z_iload_n (i := 2) dX6_above_11 rfl rfl ?_
  refine z_Si (As := [_, _]) dX6_above_12 (by rfl) v_X6_bodyFrom l_X6_32 rfl (by omega) (by decide) (Nat.le_of_ble_eq_true rfl) ?_
  refine s_bodyFrom (v := 3) (x := 13) (kOk_up 1 (by decide)) (by decide) (by decide) ?_
  refine z_iload_n (i := 3) dX6_above_15 rfl rfl ?_
  refine z_iload (i := 4) dX6_above_16 rfl ?_
  refine z_Vi (As := [_, _, _]) dX6_above_18 (by rfl) v_X6_worksOut l_X6_36 (by first | decide | assumption | omega) rfl rfl rfl (by omega) (by decide) (Nat.le_of_ble_eq_true rfl) ?_
  refine w_13 he ht hz hp (by omega) (by omega) ?_
  intro c2 h2 hp2
  exact z_ret dX6_above_21 (hQ c2 h2 hp2) trivial rfl
theorem m_seesNo {x : Int32} {K D : Nat} (hK : K ≤ 6) (h3 : c 40 3 = nI K) (hp : ¬ c 40 2 = 0) (hd : 2 ≤ d) (hQ : Qf 0 c) : zCl l E ad mX6_sees d [.ref (ad 40), .int x, .int (nI D)] c Qf := by
  refine z_enter (own := RX6) [some (.ref (ad 40)), some (.int x), some (.int (nI D))] (by decide +kernel) rfl rfl rfl (Nat.le_of_ble_eq_true rfl) ?_
  refine z_aload_n (i := 0) dX6_sees_0 rfl rfl ?_
  refine z_aload_n (i := 0) dX6_sees_1 rfl rfl ?_
  refine z_getf dX6_sees_2 f_X6_23 (by first | decide | assumption | omega) rfl (by rfl) ?_
  rw [h3]
  refine z_iconst (v := 1) dX6_sees_5 (by decide) ?_
  refine z_Si (As := [_, _]) dX6_sees_6 (by rfl) v_X6_bodyFrom l_X6_32 rfl (by omega) (by decide) (Nat.le_of_ble_eq_true rfl) ?_
  refine s_bodyFrom (v := 1) (Or.inr ⟨K, by omega, rfl⟩) (by decide) rfl ?_
  refine z_iload_n (i := 1) dX6_sees_9 rfl rfl ?_
  refine z_iload_n (i := 2) dX6_sees_10 rfl rfl ?_
  refine z_Vi (As := [_, _, _]) dX6_sees_11 (by rfl) v_X6_worksOut l_X6_36 (by first | decide | assumption | omega) rfl rfl rfl (by omega) (by decide) (Nat.le_of_ble_eq_true rfl) ?_
  refine w_no hp ?_
  exact z_ret dX6_sees_14 hQ trivial rfl
theorem w_21 {k m x : Int32} {K D : Nat} {t : vT} (he : zxe k m K c) (ht : vok t) (hz : zxo c t c) (hp : c 40 2 = 0) (hD : D + 6 ≤ 20) (hd : 13 ≤ d) (hQ : ∀ c', zxo c (pa1 k m K x t).2 c' → c' 40 2 = paP k m → Qf (pa1 k m K x t).1 c') : zCl l E ad mX6_worksOut d [.ref (ad 40), .int 21, .int x, .int (nI D)] c Qf := by
  have hlt := nI_leI (a := D) (b := 20) (by omega) (by omega)
  refine z_enter (own := RX6) [some (.ref (ad 40)), some (.int 21), some (.int x), some (.int (nI D)), none] (by decide +kernel) rfl rfl rfl (Nat.le_of_ble_eq_true rfl) ?_
  have vpa : ∀ {t1 : vT}, vok t1 → vok (pa0 k m x t1).2 := fun h => vok_vb h
  by_cases h0 : m - k = 0
  · have ep : paP k m = 1 := if_pos h0
    have e1 : pa1 k m K x t = (0, (pa0 k m x (vb 21 t)).2) := if_pos h0
    have e0 : (pa0 k m x (vb 21 t)).1 = 0 := if_pos h0
    rw [e1, ep] at hQ
    refine z_aload_n (i := 0) dX6_worksOut_0 rfl rfl ?_
    refine z_getf dX6_worksOut_1 f_X6_19 (by first | decide | assumption | omega) rfl (by rfl) ?_
    rw [hp]
    refine z_if_ne 17 dX6_worksOut_4 (by decide) (fun h_4 => ?_) (fun h_4 => ?_)
    · exact absurd rfl h_4
    refine z_iload_n (i := 1) dX6_worksOut_7 rfl rfl ?_
    refine z_if_eq 17 dX6_worksOut_8 (by decide) (fun h_8 => ?_) (fun h_8 => ?_)
    · exact absurd h_8 (by decide)
    refine z_iload_n (i := 3) dX6_worksOut_11 rfl rfl ?_
    refine z_bipush (v := 20) dX6_worksOut_12 (by decide) ?_
    refine z_icmp_le 19 dX6_worksOut_14 (by decide) (fun h_14 => ?_) (fun h_14 => ?_)
    rotate_left
    · exact absurd (hlt.mpr (by omega)) h_14
    refine z_aload_n (i := 0) dX6_worksOut_19 rfl rfl ?_
    refine z_iload_n (i := 1) dX6_worksOut_20 rfl rfl ?_
    refine z_Vv (As := [_]) dX6_worksOut_21 (by rfl) v_X6_begins l_X6_43 (by first | decide | assumption | omega) rfl rfl rfl (by omega) (by decide) (Nat.le_of_ble_eq_true rfl) ?_
    refine s_begins ht hz (fun c1 h1 hp1 => ?_)
    rw [hp] at hp1
    refine z_iload_n (i := 3) dX6_worksOut_24 rfl rfl ?_
    refine z_iconst (v := 1) dX6_worksOut_25 (by decide) ?_
    refine z_iadd dX6_worksOut_26 ?_
    rw [nI_1]
    refine z_istore (i := 4) [_, _, _, _, _] dX6_worksOut_27 (by decide) rfl rfl ?_
    refine z_iload_n (i := 1) dX6_worksOut_29 rfl rfl ?_
    by_cases h_30_21 : (21 : Int32) = 21
    · refine z_lookup 201 dX6_worksOut_30 rfl (by first | (rw [h_30_21]; rfl) | rw [h_30_21]) (by decide) ?_
      refine z_aload_n (i := 0) dX6_worksOut_201 rfl rfl ?_
      refine z_iload_n (i := 1) dX6_worksOut_202 rfl rfl ?_
      refine z_iconst (v := 3) dX6_worksOut_203 (by decide) ?_
      refine z_iload_n (i := 2) dX6_worksOut_204 rfl rfl ?_
      refine z_iload (i := 4) dX6_worksOut_205 rfl ?_
      refine z_Vi (As := [_, _, _, _]) dX6_worksOut_207 (by rfl) v_X6_above l_X6_56 (by first | decide | assumption | omega) rfl rfl rfl (by omega) (by decide) (Nat.le_of_ble_eq_true rfl) ?_
      refine a_21_3 (x := x) (zxe_tr he h1) (vok_vb ht) (zxo_self h1) hp1 (by omega) (by omega) (fun c2 h2 hp2 => ?_)
      rw [ep] at hp2
      refine z_aload_n (i := 0) dX6_worksOut_210 rfl rfl ?_
      refine z_iconst (v := 1) dX6_worksOut_211 (by decide) ?_
      refine z_iload (i := 4) dX6_worksOut_212 rfl ?_
      refine z_Vi (As := [_, _]) dX6_worksOut_214 (by rfl) v_X6_sees l_X6_50 (by first | decide | assumption | omega) rfl rfl rfl (by omega) (by decide) (Nat.le_of_ble_eq_true rfl) ?_
      refine m_seesNo he.1 (zxe_tr (zxe_tr he h1) h2).2.1 (by rw [hp2]; decide) (by omega) ?_
      rw [e0]
      refine z_iadd dX6_worksOut_217 ?_
      exact z_ret dX6_worksOut_218 (hQ _ (zxo_tr h1 h2) hp2) trivial rfl
    exact absurd rfl h_30_21
  · have ep : paP k m = 0 := if_neg h0
    have e1 : pa1 k m K x t = ((pa0 k m x (vb 21 t)).1 + (seV k m K K 1 (pa0 k m x (vb 21 t)).2).1, (seV k m K K 1 (pa0 k m x (vb 21 t)).2).2) := if_neg h0
    rw [e1, ep] at hQ
    refine z_aload_n (i := 0) dX6_worksOut_0 rfl rfl ?_
    refine z_getf dX6_worksOut_1 f_X6_19 (by first | decide | assumption | omega) rfl (by rfl) ?_
    rw [hp]
    refine z_if_ne 17 dX6_worksOut_4 (by decide) (fun h_4 => ?_) (fun h_4 => ?_)
    · exact absurd rfl h_4
    refine z_iload_n (i := 1) dX6_worksOut_7 rfl rfl ?_
    refine z_if_eq 17 dX6_worksOut_8 (by decide) (fun h_8 => ?_) (fun h_8 => ?_)
    · exact absurd h_8 (by decide)
    refine z_iload_n (i := 3) dX6_worksOut_11 rfl rfl ?_
    refine z_bipush (v := 20) dX6_worksOut_12 (by decide) ?_
    refine z_icmp_le 19 dX6_worksOut_14 (by decide) (fun h_14 => ?_) (fun h_14 => ?_)
    rotate_left
    · exact absurd (hlt.mpr (by omega)) h_14
    refine z_aload_n (i := 0) dX6_worksOut_19 rfl rfl ?_
    refine z_iload_n (i := 1) dX6_worksOut_20 rfl rfl ?_
    refine z_Vv (As := [_]) dX6_worksOut_21 (by rfl) v_X6_begins l_X6_43 (by first | decide | assumption | omega) rfl rfl rfl (by omega) (by decide) (Nat.le_of_ble_eq_true rfl) ?_
    refine s_begins ht hz (fun c1 h1 hp1 => ?_)
    rw [hp] at hp1
    refine z_iload_n (i := 3) dX6_worksOut_24 rfl rfl ?_
    refine z_iconst (v := 1) dX6_worksOut_25 (by decide) ?_
    refine z_iadd dX6_worksOut_26 ?_
    rw [nI_1]
    refine z_istore (i := 4) [_, _, _, _, _] dX6_worksOut_27 (by decide) rfl rfl ?_
    refine z_iload_n (i := 1) dX6_worksOut_29 rfl rfl ?_
    by_cases h_30_21 : (21 : Int32) = 21
    · refine z_lookup 201 dX6_worksOut_30 rfl (by first | (rw [h_30_21]; rfl) | rw [h_30_21]) (by decide) ?_
      refine z_aload_n (i := 0) dX6_worksOut_201 rfl rfl ?_
      refine z_iload_n (i := 1) dX6_worksOut_202 rfl rfl ?_
      refine z_iconst (v := 3) dX6_worksOut_203 (by decide) ?_
      refine z_iload_n (i := 2) dX6_worksOut_204 rfl rfl ?_
      refine z_iload (i := 4) dX6_worksOut_205 rfl ?_
      refine z_Vi (As := [_, _, _, _]) dX6_worksOut_207 (by rfl) v_X6_above l_X6_56 (by first | decide | assumption | omega) rfl rfl rfl (by omega) (by decide) (Nat.le_of_ble_eq_true rfl) ?_
      refine a_21_3 (x := x) (zxe_tr he h1) (vok_vb ht) (zxo_self h1) hp1 (by omega) (by omega) (fun c2 h2 hp2 => ?_)
      rw [ep] at hp2
      refine z_aload_n (i := 0) dX6_worksOut_210 rfl rfl ?_
      refine z_iconst (v := 1) dX6_worksOut_211 (by decide) ?_
      refine z_iload (i := 4) dX6_worksOut_212 rfl ?_
      refine z_Vi (As := [_, _]) dX6_worksOut_214 (by rfl) v_X6_sees l_X6_50 (by first | decide | assumption | omega) rfl rfl rfl (by omega) (by decide) (Nat.le_of_ble_eq_true rfl) ?_
      refine m_sees (x := 1) (zxe_tr (zxe_tr he h1) h2) (vpa (vok_vb ht)) (zxo_self h2) hp2 (by omega) (by omega) (fun c3 h3 hp3 => ?_)
      refine z_iadd dX6_worksOut_217 ?_
      exact z_ret dX6_worksOut_218 (hQ _ (zxo_tr (zxo_tr h1 h2) h3) hp3) trivial rfl
    exact absurd rfl h_30_21
theorem q_walks {kk : Nat} {k m x : Int32} {K D : Nat} {t : vT} (he : zxe k m K c) (ht : vok t) (hz : zxo c t c) (hp : c 40 2 = 0) (hkk : kk = K) (hD : D + 7 ≤ 20) (hd : 15 ≤ d) (hQ : ∀ c', zxo c (waV k m K kk x t).2 c' → c' 40 2 = 0 → Qf (waV k m K kk x t).1 c') : zCl l E ad mX6_worksOut d [.ref (ad 40), .int (bdyF 2 7 (nI kk)), .int x, .int (nI D)] c Qf := by
  subst hkk
  have hK := he.1
  rcases (show kk = 0 ∨ kk = 1 ∨ kk = 2 ∨ kk = 3 ∨ kk = 4 ∨ kk = 5 ∨ kk = 6 by omega) with rfl | rfl | rfl | rfl | rfl | rfl | rfl
  · rw [show bdyF 2 7 (nI 0) = 12 by decide]
    exact w_12 he ht hz hp (by omega) (by omega) hQ
  · rw [show bdyF 2 7 (nI 1) = 12 by decide]
    exact w_12 he ht hz hp (by omega) (by omega) hQ
  · rw [show bdyF 2 7 (nI 2) = 12 by decide]
    exact w_12 he ht hz hp (by omega) (by omega) hQ
  · rw [show bdyF 2 7 (nI 3) = 40 by decide]
    exact w_40 he ht hz hp (by omega) (by omega) hQ
  · rw [show bdyF 2 7 (nI 4) = 51 by decide]
    exact w_51 he ht hz hp (by omega) (by omega) hQ
  · rw [show bdyF 2 7 (nI 5) = 12 by decide]
    exact w_12 he ht hz hp (by omega) (by omega) hQ
  · rw [show bdyF 2 7 (nI 6) = 12 by decide]
    exact w_12 he ht hz hp (by omega) (by omega) hQ
theorem q_parts {kk : Nat} {k m x : Int32} {K D : Nat} {t : vT} (he : zxe k m K c) (ht : vok t) (hz : zxo c t c) (hp : c 40 2 = 0) (hkk : kk = K) (hD : D + 6 ≤ 20) (hd : 13 ≤ d) (hQ : ∀ c', zxo c (paV k m K kk x t).2 c' → c' 40 2 = paP k m → Qf (paV k m K kk x t).1 c') : zCl l E ad mX6_worksOut d [.ref (ad 40), .int (bdyF 3 7 (nI kk)), .int x, .int (nI D)] c Qf := by
  subst hkk
  have hK := he.1
  rcases (show kk = 0 ∨ kk = 1 ∨ kk = 2 ∨ kk = 3 ∨ kk = 4 ∨ kk = 5 ∨ kk = 6 by omega) with rfl | rfl | rfl | rfl | rfl | rfl | rfl
  · rw [show bdyF 3 7 (nI 0) = 13 by decide]
    exact w_13 he ht hz hp (by omega) (by omega) hQ
  · rw [show bdyF 3 7 (nI 1) = 21 by decide]
    exact w_21 he ht hz hp (by omega) (by omega) hQ
  · rw [show bdyF 3 7 (nI 2) = 13 by decide]
    exact w_13 he ht hz hp (by omega) (by omega) hQ
  · rw [show bdyF 3 7 (nI 3) = 13 by decide]
    exact w_13 he ht hz hp (by omega) (by omega) hQ
  · rw [show bdyF 3 7 (nI 4) = 21 by decide]
    exact w_21 he ht hz hp (by omega) (by omega) hQ
  · rw [show bdyF 3 7 (nI 5) = 13 by decide]
    exact w_13 he ht hz hp (by omega) (by omega) hQ
  · rw [show bdyF 3 7 (nI 6) = 13 by decide]
    exact w_13 he ht hz hp (by omega) (by omega) hQ
def voP (k m v : Int32) : Int32 := if v = 3 then paP k m else 0
theorem s_speaks {k m x : Int32} {K v : Nat} (hK : K ≤ 6) (hv : v ≤ 3) (hd : 17 ≤ d) (hQ : ∀ c', c' 40 1 = (voV k m K (nI v) x (0, c 41)).2.1 → c' 41 = (voV k m K (nI v) x (0, c 41)).2.2 → (∀ i, i ≠ 40 → i ≠ 41 → c' i = c i) → c' 40 2 = voP k m (nI v) → Qf (voV k m K (nI v) x (0, c 41)).1 c') : zCl l E ad mX6_speaks d [.ref (ad 40), .int (nI K), .int k, .int m, .int (nI v), .int x] c Qf := by
  refine z_enter (own := RX6) [some (.ref (ad 40)), some (.int (nI K)), some (.int k), some (.int m), some (.int (nI v)), some (.int x)] (by decide +kernel) rfl rfl rfl (Nat.le_of_ble_eq_true rfl) ?_
  have ht : vok (0, c 41) := ⟨0, by omega, rfl⟩
  have key : ∀ S : zS, zxe k m K S → zxo S (0, c 41) S → S 40 2 = 0 → (∀ i, i ≠ 40 → i ≠ 41 → S i = c i) → zW l E ad RX6 cX6_speaks 6 1 d Qf 25 [some (.ref (ad 40)), some (.int (nI K)), some (.int k), some (.int m), some (.int (nI v)), some (.int x)] [] S := by
    intro S he hz hp hf
    rcases (show v = 0 ∨ v = 1 ∨ v = 2 ∨ v = 3 by omega) with rfl | rfl | rfl | rfl
    · skip
      refine z_aload_n (i := 0) dX6_speaks_25 rfl rfl ?_
      refine z_iload_n (i := 1) dX6_speaks_26 rfl rfl ?_
      refine z_iload (i := 4) dX6_speaks_27 rfl ?_
      refine z_Si (As := [_, _]) dX6_speaks_29 (by rfl) v_X6_bodyFrom l_X6_32 rfl (by omega) (by decide) (Nat.le_of_ble_eq_true rfl) ?_
      refine s_bodyFrom (v := 0) (Or.inr ⟨K, by omega, rfl⟩) (by decide) rfl ?_
      refine z_iload (i := 5) dX6_speaks_32 rfl ?_
      refine z_iconst (v := 0) dX6_speaks_34 (by decide) ?_
      refine z_Vi (As := [_, _, _]) dX6_speaks_35 (by rfl) v_X6_worksOut l_X6_36 (by first | decide | assumption | omega) rfl rfl rfl (by omega) (by decide) (Nat.le_of_ble_eq_true rfl) ?_
      refine q_says (D := 0) he ht hz hp rfl (by omega) (by omega) (fun c2 h2 hp2 => ?_)
      exact z_ret dX6_speaks_38 (hQ c2 h2.1 h2.2.1 (fun i a b => (h2.2.2.1 i a b).trans (hf i a b)) hp2) trivial rfl
    · skip
      refine z_aload_n (i := 0) dX6_speaks_25 rfl rfl ?_
      refine z_iload_n (i := 1) dX6_speaks_26 rfl rfl ?_
      refine z_iload (i := 4) dX6_speaks_27 rfl ?_
      refine z_Si (As := [_, _]) dX6_speaks_29 (by rfl) v_X6_bodyFrom l_X6_32 rfl (by omega) (by decide) (Nat.le_of_ble_eq_true rfl) ?_
      refine s_bodyFrom (v := 1) (Or.inr ⟨K, by omega, rfl⟩) (by decide) rfl ?_
      refine z_iload (i := 5) dX6_speaks_32 rfl ?_
      refine z_iconst (v := 0) dX6_speaks_34 (by decide) ?_
      refine z_Vi (As := [_, _, _]) dX6_speaks_35 (by rfl) v_X6_worksOut l_X6_36 (by first | decide | assumption | omega) rfl rfl rfl (by omega) (by decide) (Nat.le_of_ble_eq_true rfl) ?_
      refine q_sees (D := 0) he ht hz hp rfl (by omega) (by omega) (fun c2 h2 hp2 => ?_)
      exact z_ret dX6_speaks_38 (hQ c2 h2.1 h2.2.1 (fun i a b => (h2.2.2.1 i a b).trans (hf i a b)) hp2) trivial rfl
    · skip
      refine z_aload_n (i := 0) dX6_speaks_25 rfl rfl ?_
      refine z_iload_n (i := 1) dX6_speaks_26 rfl rfl ?_
      refine z_iload (i := 4) dX6_speaks_27 rfl ?_
      refine z_Si (As := [_, _]) dX6_speaks_29 (by rfl) v_X6_bodyFrom l_X6_32 rfl (by omega) (by decide) (Nat.le_of_ble_eq_true rfl) ?_
      refine s_bodyFrom (v := 2) (Or.inr ⟨K, by omega, rfl⟩) (by decide) rfl ?_
      refine z_iload (i := 5) dX6_speaks_32 rfl ?_
      refine z_iconst (v := 0) dX6_speaks_34 (by decide) ?_
      refine z_Vi (As := [_, _, _]) dX6_speaks_35 (by rfl) v_X6_worksOut l_X6_36 (by first | decide | assumption | omega) rfl rfl rfl (by omega) (by decide) (Nat.le_of_ble_eq_true rfl) ?_
      refine q_walks (D := 0) he ht hz hp rfl (by omega) (by omega) (fun c2 h2 hp2 => ?_)
      exact z_ret dX6_speaks_38 (hQ c2 h2.1 h2.2.1 (fun i a b => (h2.2.2.1 i a b).trans (hf i a b)) hp2) trivial rfl
    · skip
      refine z_aload_n (i := 0) dX6_speaks_25 rfl rfl ?_
      refine z_iload_n (i := 1) dX6_speaks_26 rfl rfl ?_
      refine z_iload (i := 4) dX6_speaks_27 rfl ?_
      refine z_Si (As := [_, _]) dX6_speaks_29 (by rfl) v_X6_bodyFrom l_X6_32 rfl (by omega) (by decide) (Nat.le_of_ble_eq_true rfl) ?_
      refine s_bodyFrom (v := 3) (Or.inr ⟨K, by omega, rfl⟩) (by decide) rfl ?_
      refine z_iload (i := 5) dX6_speaks_32 rfl ?_
      refine z_iconst (v := 0) dX6_speaks_34 (by decide) ?_
      refine z_Vi (As := [_, _, _]) dX6_speaks_35 (by rfl) v_X6_worksOut l_X6_36 (by first | decide | assumption | omega) rfl rfl rfl (by omega) (by decide) (Nat.le_of_ble_eq_true rfl) ?_
      refine q_parts (D := 0) he ht hz hp rfl (by omega) (by omega) (fun c2 h2 hp2 => ?_)
      exact z_ret dX6_speaks_38 (hQ c2 h2.1 h2.2.1 (fun i a b => (h2.2.2.1 i a b).trans (hf i a b)) (hp2.trans (if_pos rfl).symm)) trivial rfl
  refine z_aload_n (i := 0) dX6_speaks_0 rfl rfl ?_
  refine z_iload_n (i := 1) dX6_speaks_1 rfl rfl ?_
  refine z_putfi dX6_speaks_2 f_X6_23 fp_X6_3 (by first | decide | assumption | omega) rfl (by exact Nat.le_of_ble_eq_true rfl) rfl ?_
  refine z_aload_n (i := 0) dX6_speaks_5 rfl rfl ?_
  refine z_iload_n (i := 2) dX6_speaks_6 rfl rfl ?_
  refine z_putfi dX6_speaks_7 f_X6_26 fp_X6_4 (by first | decide | assumption | omega) rfl (by exact Nat.le_of_ble_eq_true rfl) rfl ?_
  refine z_aload_n (i := 0) dX6_speaks_10 rfl rfl ?_
  refine z_iload_n (i := 3) dX6_speaks_11 rfl rfl ?_
  refine z_putfi dX6_speaks_12 f_X6_29 fp_X6_5 (by first | decide | assumption | omega) rfl (by exact Nat.le_of_ble_eq_true rfl) rfl ?_
  refine z_aload_n (i := 0) dX6_speaks_15 rfl rfl ?_
  refine z_iconst (v := 0) dX6_speaks_16 (by decide) ?_
  refine z_putfi dX6_speaks_17 f_X6_15 fp_X6_1 (by first | decide | assumption | omega) rfl (by exact Nat.le_of_ble_eq_true rfl) rfl ?_
  refine z_aload_n (i := 0) dX6_speaks_20 rfl rfl ?_
  refine z_iconst (v := 0) dX6_speaks_21 (by decide) ?_
  refine z_putfz dX6_speaks_22 f_X6_19 fp_X6_2 (by first | decide | assumption | omega) rfl (by exact Nat.le_of_ble_eq_true rfl) rfl rfl rfl ?_
  refine key _ ⟨hK, ?_, ?_, ?_⟩ ⟨?_, ?_, fun _ _ _ => rfl, fun _ _ _ => rfl⟩ ?_ (fun i a b => ?_)
  · simp (disch := decide) only [zup_s, zup_zup, pk_us, pk_un]
  · simp (disch := decide) only [zup_s, zup_zup, pk_us, pk_un]
  · simp (disch := decide) only [zup_s, zup_zup, pk_us, pk_un]
  · simp (disch := decide) only [zup_s, zup_zup, pk_us, pk_un]
  · simp (disch := decide) only [zup_n]
  · simp (disch := decide) only [zup_s, zup_zup, pk_us, pk_un]
  · simp only [zup_zup, zup_n a]
end VC
