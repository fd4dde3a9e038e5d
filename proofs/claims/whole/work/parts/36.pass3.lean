/-! the class: passes copied, one taken in, who is through -/
theorem PR_ext {c : zS} {P n : Nat} {f : zN} {v x : Int32} (h : PR c P n f) (hx : x = nI (n + 1)) (e : c (P + 1) n = f (8 + 5 * n) ∧ c (P + 2) n = f (8 + 5 * n + 1) ∧ c (P + 3) n = f (8 + 5 * n + 2) ∧ c (P + 4) n = f (8 + 5 * n + 3) ∧ c (P + 5) n = f (8 + 5 * n + 4)) : PR (zup c P (upd (c P) 7 x)) P (n + 1) (upd f 5 v) := by
  subst hx
  obtain ⟨h1, h2, h3, h4⟩ := h
  refine ⟨by rw [zup_s, pk_us], by rw [zup_s, pk_un (by decide), pk_un (by decide)]; exact h2, by rw [zup_s, pk_un (by decide), pk_un (by decide)]; exact h3, fun i hi => ?_⟩
  rw [zup_n (by omega), zup_n (by omega), zup_n (by omega), zup_n (by omega), zup_n (by omega), pk_un (by omega), pk_un (by omega), pk_un (by omega), pk_un (by omega), pk_un (by omega)]
  rcases Nat.lt_or_eq_of_le (Nat.le_of_lt_succ hi) with q | q
  · exact h4 i q
  · subst q
    exact e
theorem nar_b {x : Int32} (h : x = 0 ∨ x = 1) : vp_nar .boolean x = x := by
  rcases h with rfl | rfl <;> rfl
def hmF (a b : zN) (z n : Nat) : Nat → Nat → Nat
  | 0, i => i
  | m + 1, i => if i < z ∧ i < n ∧ b i = a i then hmF a b z n m (i + 1) else i
section PC
variable {l : Launch} {E : zE} {ad : Nat → Nat} {c : zS} {Qf : Int32 → zS → Prop} {d n : Nat}
theorem s_standsX {p : Nat} {v : Int32} (hp : p < 6) (hQ : Qf 0 (zup (zup c 12 (upd (c 12) p v)) 13 (upd (c 13) p 0))) : zCl l E ad mX1_stands d [.ref (ad 8), .int (nI p), .int v] c Qf := by
  refine z_enter (own := RX1) [some (.ref (ad 8)), some (.int (nI p)), some (.int v)] (by decide +kernel) rfl rfl rfl (Nat.le_of_ble_eq_true rfl) ?_
  refine z_aload_n (i := 0) dX1_stands_0 rfl rfl ?_
  refine z_getf dX1_stands_1 f_X1_21 (by first | decide | assumption | omega) rfl (by rfl) ?_
  refine z_iload_n (i := 1) dX1_stands_4 rfl rfl ?_
  refine z_iload_n (i := 2) dX1_stands_5 rfl rfl ?_
  refine z_iast (j := p) dX1_stands_6 (by first | decide | assumption | omega) (fun _ => rfl) (by rfl) (by first | decide | omega) (by first | decide | omega) ?_
  refine z_aload_n (i := 0) dX1_stands_7 rfl rfl ?_
  refine z_getf dX1_stands_8 f_X1_24 (by first | decide | assumption | omega) rfl (by rfl) ?_
  refine z_iload_n (i := 1) dX1_stands_11 rfl rfl ?_
  refine z_iconst (v := 0) dX1_stands_12 (by decide) ?_
  refine z_zast (j := p) dX1_stands_13 (by first | decide | assumption | omega) (fun _ => rfl) (by rfl) (by first | decide | omega) (by first | decide | omega) rfl ?_
  exact z_ret (r := 0) dX1_stands_14 hQ rfl rfl
theorem s_takesIn {kind m sure v : Int32} {f : zN} (hR : PR c 8 n f) (hn6 : n < 6) (hd : 1 ≤ d) (hQ : ∀ c', PR c' 8 (n + 1) (upd (upd (upd (upd (upd (upd f (8 + 5 * n) kind) (8 + 5 * n + 1) m) (8 + 5 * n + 2) sure) (8 + 5 * n + 3) 0) (8 + 5 * n + 4) 0) 5 v) → (∀ k, k < 8 ∨ 13 < k → c' k = c k) → Qf (nI n) c') : zCl l E ad mX1_takesIn d [.ref (ad 8), .int kind, .int m, .int sure] c Qf := by
  refine z_enter (own := RX1) [some (.ref (ad 8)), some (.int kind), some (.int m), some (.int sure), none] (by decide +kernel) rfl rfl rfl (Nat.le_of_ble_eq_true rfl) ?_
  have h1 := PR_up (p := n) (v := kind) 0 hR (by omega)
  have h2 := PR_up (p := n) (v := m) 1 h1 (by omega)
  have h3 := PR_up (p := n) (v := sure) 2 h2 (by omega)
  have h4 := PR_up (p := n) (v := 0) 3 h3 (by omega)
  have h5 := PR_up (p := n) (v := 0) 4 h4 (by omega)
  refine z_aload_n (i := 0) dX1_takesIn_0 rfl rfl ?_
  refine z_getf dX1_takesIn_1 f_X1_28 (by first | decide | assumption | omega) rfl (by rfl) ?_
  rw [hR.1]
  refine z_istore (i := 4) [_, _, _, _, _] dX1_takesIn_4 (by decide) rfl rfl ?_
  refine z_aload_n (i := 0) dX1_takesIn_6 rfl rfl ?_
  refine z_getf dX1_takesIn_7 f_X1_9 (by first | decide | assumption | omega) rfl (by rfl) ?_
  refine z_iload (i := 4) dX1_takesIn_10 rfl ?_
  refine z_iload_n (i := 1) dX1_takesIn_12 rfl rfl ?_
  refine z_iast (j := n) dX1_takesIn_13 (by first | decide | assumption | omega) (fun _ => rfl) (by rfl) (by first | decide | omega) (by first | decide | omega) ?_
  refine z_aload_n (i := 0) dX1_takesIn_14 rfl rfl ?_
  refine z_getf dX1_takesIn_15 f_X1_15 (by first | decide | assumption | omega) rfl (by rfl) ?_
  refine z_iload (i := 4) dX1_takesIn_18 rfl ?_
  refine z_iload_n (i := 2) dX1_takesIn_20 rfl rfl ?_
  refine z_iast (j := n) dX1_takesIn_21 (by first | decide | assumption | omega) (fun _ => rfl) (by rfl) (by first | decide | omega) (by first | decide | omega) ?_
  refine z_aload_n (i := 0) dX1_takesIn_22 rfl rfl ?_
  refine z_getf dX1_takesIn_23 f_X1_18 (by first | decide | assumption | omega) rfl (by rfl) ?_
  refine z_iload (i := 4) dX1_takesIn_26 rfl ?_
  refine z_iload_n (i := 3) dX1_takesIn_28 rfl rfl ?_
  refine z_iast (j := n) dX1_takesIn_29 (by first | decide | assumption | omega) (fun _ => rfl) (by rfl) (by first | decide | omega) (by first | decide | omega) ?_
  refine z_aload_n (i := 0) dX1_takesIn_30 rfl rfl ?_
  refine z_iload (i := 4) dX1_takesIn_31 rfl ?_
  refine z_iconst (v := 0) dX1_takesIn_33 (by decide) ?_
  refine z_Vv (As := [_, _]) dX1_takesIn_34 (by rfl) v_X1_stands l_X1_45 (by first | decide | assumption | omega) rfl rfl rfl (by omega) (by decide) (Nat.le_of_ble_eq_true rfl) ?_
  refine s_standsX (p := n) hn6 ?_
  refine z_aload_n (i := 0) dX1_takesIn_37 rfl rfl ?_
  refine z_dup dX1_takesIn_38 rfl ?_
  refine z_getf dX1_takesIn_39 f_X1_28 (by first | decide | assumption | omega) rfl (by rfl) ?_
  refine z_iconst (v := 1) dX1_takesIn_42 (by decide) ?_
  refine z_iadd dX1_takesIn_43 ?_
  refine z_putfi dX1_takesIn_44 f_X1_28 fp_X1_7 (by first | decide | assumption | omega) rfl (by exact Nat.le_of_ble_eq_true rfl) rfl ?_
  refine z_iload (i := 4) dX1_takesIn_47 rfl ?_
  refine z_ret dX1_takesIn_49 (hQ _ (PR_ext h5 (by show c 8 7 + 1 = _; rw [hR.1, nI_1]) ⟨?_, ?_, ?_, ?_, ?_⟩) (fun k hk => ?_)) trivial rfl
  · simp (disch := omega) only [zup_n, zup_s, pk_us, pk_un]
  · simp (disch := omega) only [zup_n, zup_s, pk_us, pk_un]
  · simp (disch := omega) only [zup_n, zup_s, pk_us, pk_un]
  · simp (disch := omega) only [zup_n, zup_s, pk_us, pk_un]
  · simp (disch := omega) only [zup_n, zup_s, pk_us, pk_un]
  · simp (disch := omega) only [zup_n]
theorem s_through {f : zN} (hR : PR c 8 n f) (hn6 : n ≤ 6) (hQ : Qf (thN f n) c) : zCl l E ad mX1_through d [.ref (ad 8)] c Qf := by
  have hP := hR.2.2.2
  refine z_enter (own := RX1) [some (.ref (ad 8)), none, none] (by decide +kernel) rfl rfl rfl (Nat.le_of_ble_eq_true rfl) ?_
  have loop : ∀ (r i : Nat), n - i < r → i ≤ n → zW l E ad RX1 cX1_through 3 1 d Qf 4 [some (.ref (ad 8)), some (.int (thN f i)), some (.int (nI i))] [] c := by
    intro r
    induction r with
    | zero => intro i h; omega
    | succ r ih =>
      intro i hr hi
      have hlt := nI_leI (a := n) (b := i) (by omega) (by omega)
      have cut29 : ∀ x : Int32, i < n → x = thN f (i + 1) → zW l E ad RX1 cX1_through 3 1 d Qf 29 [some (.ref (ad 8)), some (.int x), some (.int (nI i))] [] c := by
        intro x hin hx
        refine z_iinc (i := 2) (v := 1) [_, _, _] dX1_through_29 rfl (by decide) (by decide) rfl rfl ?_
        refine z_goto 4 dX1_through_32 (by decide) ?_
        rw [nI_1, hx]
        exact ih (i + 1) (by omega) (by omega)
      refine z_iload_n (i := 2) dX1_through_4 rfl rfl ?_
      refine z_aload_n (i := 0) dX1_through_5 rfl rfl ?_
      refine z_getf dX1_through_6 f_X1_28 (by first | decide | assumption | omega) rfl (by rfl) ?_
      refine z_icmp_ge 35 dX1_through_9 (by decide) (fun h_9 => ?_) (fun h_9 => ?_)
      · refine z_iload_n (i := 1) dX1_through_35 rfl rfl ?_
        have hin : i = n := by rw [hR.1] at h_9; have := hlt.mp h_9; omega
        subst hin
        exact z_ret dX1_through_36 hQ trivial rfl
      · have hin : i < n := by rw [hR.1] at h_9; have := mt hlt.mpr h_9; omega
        have e1 : c 12 i = f (8 + 5 * i + 3) := (hP i hin).2.2.2.1
        have hs : thN f (i + 1) = thN f i ||| (if f (8 + 5 * i + 3) = 15 then 1 <<< (nI i &&& 31) else 0) := rfl
        refine z_aload_n (i := 0) dX1_through_12 rfl rfl ?_
        refine z_getf dX1_through_13 f_X1_21 (by first | decide | assumption | omega) rfl (by rfl) ?_
        refine z_iload_n (i := 2) dX1_through_16 rfl rfl ?_
        refine z_iald (j := i) dX1_through_17 (by first | decide | assumption | omega) rfl (by rfl) (by first | decide | omega) (by first | decide | omega) ?_
        refine z_bipush (v := 15) dX1_through_18 (by decide) ?_
        refine z_icmp_ne 29 dX1_through_20 (by decide) (fun h_20 => ?_) (fun h_20 => ?_)
        · first
          | (refine cut29 _ hin ?_
             rw [hs, if_pos (by rw [← e1]; first | exact h_20 | exact Classical.not_not.mp h_20)])
          | (refine cut29 _ hin ?_
             rw [hs, if_neg (by rw [← e1]; exact h_20), Int32.or_zero])
        · refine z_iload_n (i := 1) dX1_through_23 rfl rfl ?_
          refine z_iconst (v := 1) dX1_through_24 (by decide) ?_
          refine z_iload_n (i := 2) dX1_through_25 rfl rfl ?_
          refine z_ishl dX1_through_26 ?_
          refine z_ior dX1_through_27 ?_
          refine z_istore_n (i := 1) [_, _, _] dX1_through_28 rfl (by decide) rfl rfl ?_
          first
          | (refine cut29 _ hin ?_
             rw [hs, if_pos (by rw [← e1]; first | exact h_20 | exact Classical.not_not.mp h_20)])
          | (refine cut29 _ hin ?_
             rw [hs, if_neg (by rw [← e1]; exact h_20), Int32.or_zero])
  refine z_iconst (v := 0) dX1_through_0 (by decide) ?_
  refine z_istore_n (i := 1) [_, _, _] dX1_through_1 rfl (by decide) rfl rfl ?_
  refine z_iconst (v := 0) dX1_through_2 (by decide) ?_
  refine z_istore_n (i := 2) [_, _, _] dX1_through_3 rfl (by decide) rfl rfl ?_
  exact loop (n + 1) 0 (by omega) (by omega)
theorem s_howMany {e R z : Nat} (he6 : e < 64) (hR6 : R < 64) (hes : ∀ f, zen E ad e f = .inl (E.2.1.1, 6, .inl f)) (hRs : ∀ f, zen E ad R f = .inl (E.2.1.1, 24, .inl f)) (hn : c 8 7 = nI n) (hn6 : n ≤ 6) (hz : z ≤ 24) (hQ : Qf (nI (hmF (c e) (c R) z n 25 0)) c) : zCl l E ad mX1_howManyAre d [.ref (ad 8), .ref (ad e), .ref (ad R), .int (nI z)] c Qf := by
  refine z_enter (own := RX1) [some (.ref (ad 8)), some (.ref (ad e)), some (.ref (ad R)), some (.int (nI z)), none] (by decide +kernel) rfl rfl rfl (Nat.le_of_ble_eq_true rfl) ?_
  obtain ⟨W, hW⟩ : ∃ W, hmF (c e) (c R) z n 25 0 = W := ⟨_, rfl⟩
  rw [hW] at hQ
  have loop : ∀ (r i : Nat), z - i < r → i ≤ z → hmF (c e) (c R) z n (25 - i) i = W → zW l E ad RX1 cX1_howManyAre 5 1 d Qf 3 [some (.ref (ad 8)), some (.ref (ad e)), some (.ref (ad R)), some (.int (nI z)), some (.int (nI i))] [] c := by
    intro r
    induction r with
    | zero => intro i h; omega
    | succ r ih =>
      intro i hr hi ew
      have hlz := nI_leI (a := z) (b := i) (by omega) (by omega)
      have hln := nI_leI (a := n) (b := i) (by omega) (by omega)
      rw [show 25 - i = 24 - i + 1 by omega] at ew
      unfold hmF at ew
      refine z_iload (i := 4) dX1_howManyAre_3 rfl ?_
      refine z_iload_n (i := 3) dX1_howManyAre_5 rfl rfl ?_
      refine z_icmp_ge 35 dX1_howManyAre_6 (by decide) (fun h_6 => ?_) (fun h_6 => ?_)
      · refine z_iload (i := 4) dX1_howManyAre_35 rfl ?_
        first
        | (rw [if_neg (fun q => h_26 q.2.2)] at ew
           rw [ew]
           exact z_ret dX1_howManyAre_37 hQ trivial rfl)
        | (rw [if_neg (fun q => by rw [hn] at h_15; have := hln.mp h_15; omega)] at ew
           rw [ew]
           exact z_ret dX1_howManyAre_37 hQ trivial rfl)
        | (rw [if_neg (fun q => by have := hlz.mp h_6; omega)] at ew
           rw [ew]
           exact z_ret dX1_howManyAre_37 hQ trivial rfl)
      · have hiz : i < z := by have := mt hlz.mpr h_6; omega
        refine z_iload (i := 4) dX1_howManyAre_9 rfl ?_
        refine z_aload_n (i := 0) dX1_howManyAre_11 rfl rfl ?_
        refine z_getf dX1_howManyAre_12 f_X1_28 (by first | decide | assumption | omega) (by first | rfl | exact hes _ | exact hRs _) (by rfl) ?_
        refine z_icmp_ge 35 dX1_howManyAre_15 (by decide) (fun h_15 => ?_) (fun h_15 => ?_)
        · refine z_iload (i := 4) dX1_howManyAre_35 rfl ?_
          first
          | (rw [if_neg (fun q => h_26 q.2.2)] at ew
             rw [ew]
             exact z_ret dX1_howManyAre_37 hQ trivial rfl)
          | (rw [if_neg (fun q => by rw [hn] at h_15; have := hln.mp h_15; omega)] at ew
             rw [ew]
             exact z_ret dX1_howManyAre_37 hQ trivial rfl)
          | (rw [if_neg (fun q => by have := hlz.mp h_6; omega)] at ew
             rw [ew]
             exact z_ret dX1_howManyAre_37 hQ trivial rfl)
        · have hin : i < n := by rw [hn] at h_15; have := mt hln.mpr h_15; omega
          refine z_aload_n (i := 2) dX1_howManyAre_18 rfl rfl ?_
          refine z_iload (i := 4) dX1_howManyAre_19 rfl ?_
          refine z_iald (j := i) dX1_howManyAre_21 (by first | decide | assumption | omega) (by first | rfl | exact hes _ | exact hRs _) (by rfl) (by first | decide | omega) (by first | decide | omega) ?_
          refine z_aload_n (i := 1) dX1_howManyAre_22 rfl rfl ?_
          refine z_iload (i := 4) dX1_howManyAre_23 rfl ?_
          refine z_iald (j := i) dX1_howManyAre_25 (by first | decide | assumption | omega) (by first | rfl | exact hes _ | exact hRs _) (by rfl) (by first | decide | omega) (by first | decide | omega) ?_
          refine z_icmp_ne 35 dX1_howManyAre_26 (by decide) (fun h_26 => ?_) (fun h_26 => ?_)
          · refine z_iload (i := 4) dX1_howManyAre_35 rfl ?_
            first
            | (rw [if_neg (fun q => h_26 q.2.2)] at ew
               rw [ew]
               exact z_ret dX1_howManyAre_37 hQ trivial rfl)
            | (rw [if_neg (fun q => by rw [hn] at h_15; have := hln.mp h_15; omega)] at ew
               rw [ew]
               exact z_ret dX1_howManyAre_37 hQ trivial rfl)
            | (rw [if_neg (fun q => by have := hlz.mp h_6; omega)] at ew
               rw [ew]
               exact z_ret dX1_howManyAre_37 hQ trivial rfl)
          · refine z_iinc (i := 4) (v := 1) [_, _, _, _, _] dX1_howManyAre_29 rfl (by decide) (by decide) rfl rfl ?_
            refine z_goto 3 dX1_howManyAre_32 (by decide) ?_
            rw [nI_1]
            refine ih (i + 1) (by omega) (by omega) ?_
            rw [show 25 - (i + 1) = 24 - i by omega, ← ew, if_pos ⟨hiz, hin, by first | exact h_26 | exact Classical.not_not.mp h_26⟩]
  refine z_iconst (v := 0) dX1_howManyAre_0 (by decide) ?_
  refine z_istore (i := 4) [_, _, _, _, _] dX1_howManyAre_1 (by decide) rfl rfl ?_
  exact loop (z + 1) 0 (by omega) (by omega) hW
theorem s_copies34_8 {f : zN} (hR : PR c 8 n f) (hn6 : n ≤ 6) (hb : ∀ i, i < n → f (8 + 5 * i + 4) = 0 ∨ f (8 + 5 * i + 4) = 1) (hQ : ∀ c', PR c' 34 n f → (∀ k, k < 34 ∨ 39 < k → c' k = c k) → Qf 0 c') : zCl l E ad mX1_copies d [.ref (ad 34), .ref (ad 8)] c Qf := by
  obtain ⟨r7, r8, r9, rP⟩ := hR
  refine z_enter (own := RX1) [some (.ref (ad 34)), some (.ref (ad 8)), none] (by decide +kernel) rfl rfl rfl (Nat.le_of_ble_eq_true rfl) ?_
  have loop : ∀ (r i : Nat) (c1 : zS), n - i < r → i ≤ n → c1 34 7 = nI n → c1 34 8 = f 1 → c1 34 9 = f 0 → (∀ j, j < i → c1 35 j = f (8 + 5 * j) ∧ c1 36 j = f (8 + 5 * j + 1) ∧ c1 37 j = f (8 + 5 * j + 2) ∧ c1 38 j = f (8 + 5 * j + 3) ∧ c1 39 j = f (8 + 5 * j + 4)) → (∀ k, k < 34 ∨ 39 < k → c1 k = c k) → zW l E ad RX1 cX1_copies 3 0 d Qf 26 [some (.ref (ad 34)), some (.ref (ad 8)), some (.int (nI i))] [] c1 := by
    intro r
    induction r with
    | zero => intro i c1 h; omega
    | succ r ih =>
      intro i c1 hr hi s7 s8 s9 sP hf
      have hlt := nI_leI (a := n) (b := i) (by omega) (by omega)
      refine z_iload_n (i := 2) dX1_copies_26 rfl rfl ?_
      refine z_aload_n (i := 0) dX1_copies_27 rfl rfl ?_
      refine z_getf dX1_copies_28 f_X1_28 (by first | decide | assumption | omega) rfl (by rfl) ?_
      refine z_icmp_ge 100 dX1_copies_31 (by decide) (fun h_31 => ?_) (fun h_31 => ?_)
      · have hin : i = n := by rw [s7] at h_31; have := hlt.mp h_31; omega
        subst hin
        exact z_ret (r := 0) dX1_copies_100 (hQ c1 ⟨s7, s8, s9, sP⟩ hf) rfl rfl
      · have hin : i < n := by rw [s7] at h_31; have := mt hlt.mpr h_31; omega
        have e1 : c1 9 i = f (8 + 5 * i) := by rw [hf 9 (by omega)]; exact (rP i hin).1
        have e2 : c1 10 i = f (8 + 5 * i + 1) := by rw [hf 10 (by omega)]; exact (rP i hin).2.1
        have e3 : c1 11 i = f (8 + 5 * i + 2) := by rw [hf 11 (by omega)]; exact (rP i hin).2.2.1
        have e4 : c1 12 i = f (8 + 5 * i + 3) := by rw [hf 12 (by omega)]; exact (rP i hin).2.2.2.1
        have e5 : c1 13 i = f (8 + 5 * i + 4) := by rw [hf 13 (by omega)]; exact (rP i hin).2.2.2.2
        refine z_aload_n (i := 0) dX1_copies_34 rfl rfl ?_
        refine z_getf dX1_copies_35 f_X1_9 (by first | decide | assumption | omega) rfl (by rfl) ?_
        refine z_iload_n (i := 2) dX1_copies_38 rfl rfl ?_
        refine z_aload_n (i := 1) dX1_copies_39 rfl rfl ?_
        refine z_getf dX1_copies_40 f_X1_9 (by first | decide | assumption | omega) rfl (by rfl) ?_
        refine z_iload_n (i := 2) dX1_copies_43 rfl rfl ?_
        refine z_iald (j := i) dX1_copies_44 (by first | decide | assumption | omega) rfl (by rfl) (by first | decide | omega) (by first | decide | omega) ?_
        rw [e1]
        refine z_iast (j := i) dX1_copies_45 (by first | decide | assumption | omega) (fun _ => rfl) (by rfl) (by first | decide | omega) (by first | decide | omega) ?_
        refine z_aload_n (i := 0) dX1_copies_46 rfl rfl ?_
        refine z_getf dX1_copies_47 f_X1_15 (by first | decide | assumption | omega) rfl (by rfl) ?_
        refine z_iload_n (i := 2) dX1_copies_50 rfl rfl ?_
        refine z_aload_n (i := 1) dX1_copies_51 rfl rfl ?_
        refine z_getf dX1_copies_52 f_X1_15 (by first | decide | assumption | omega) rfl (by rfl) ?_
        refine z_iload_n (i := 2) dX1_copies_55 rfl rfl ?_
        refine z_iald (j := i) dX1_copies_56 (by first | decide | assumption | omega) rfl (by rfl) (by first | decide | omega) (by first | decide | omega) ?_
        rw [show zup c1 35 (upd (c1 35) i (f (8 + 5 * i))) 10 = c1 10 from rfl, e2]
        refine z_iast (j := i) dX1_copies_57 (by first | decide | assumption | omega) (fun _ => rfl) (by rfl) (by first | decide | omega) (by first | decide | omega) ?_
        refine z_aload_n (i := 0) dX1_copies_58 rfl rfl ?_
        refine z_getf dX1_copies_59 f_X1_18 (by first | decide | assumption | omega) rfl (by rfl) ?_
        refine z_iload_n (i := 2) dX1_copies_62 rfl rfl ?_
        refine z_aload_n (i := 1) dX1_copies_63 rfl rfl ?_
        refine z_getf dX1_copies_64 f_X1_18 (by first | decide | assumption | omega) rfl (by rfl) ?_
        refine z_iload_n (i := 2) dX1_copies_67 rfl rfl ?_
        refine z_iald (j := i) dX1_copies_68 (by first | decide | assumption | omega) rfl (by rfl) (by first | decide | omega) (by first | decide | omega) ?_
        simp (disch := omega) only [zup_n, e3]
        refine z_iast (j := i) dX1_copies_69 (by first | decide | assumption | omega) (fun _ => rfl) (by rfl) (by first | decide | omega) (by first | decide | omega) ?_
        refine z_aload_n (i := 0) dX1_copies_70 rfl rfl ?_
        refine z_getf dX1_copies_71 f_X1_21 (by first | decide | assumption | omega) rfl (by rfl) ?_
        refine z_iload_n (i := 2) dX1_copies_74 rfl rfl ?_
        refine z_aload_n (i := 1) dX1_copies_75 rfl rfl ?_
        refine z_getf dX1_copies_76 f_X1_21 (by first | decide | assumption | omega) rfl (by rfl) ?_
        refine z_iload_n (i := 2) dX1_copies_79 rfl rfl ?_
        refine z_iald (j := i) dX1_copies_80 (by first | decide | assumption | omega) rfl (by rfl) (by first | decide | omega) (by first | decide | omega) ?_
        simp (disch := omega) only [zup_n, e4]
        refine z_iast (j := i) dX1_copies_81 (by first | decide | assumption | omega) (fun _ => rfl) (by rfl) (by first | decide | omega) (by first | decide | omega) ?_
        refine z_aload_n (i := 0) dX1_copies_82 rfl rfl ?_
        refine z_getf dX1_copies_83 f_X1_24 (by first | decide | assumption | omega) rfl (by rfl) ?_
        refine z_iload_n (i := 2) dX1_copies_86 rfl rfl ?_
        refine z_aload_n (i := 1) dX1_copies_87 rfl rfl ?_
        refine z_getf dX1_copies_88 f_X1_24 (by first | decide | assumption | omega) rfl (by rfl) ?_
        refine z_iload_n (i := 2) dX1_copies_91 rfl rfl ?_
        refine z_zald (j := i) dX1_copies_92 (by first | decide | assumption | omega) rfl (by rfl) (by first | decide | omega) (by first | decide | omega) ?_
        simp (disch := omega) only [zup_n, e5]
        refine z_zast (j := i) dX1_copies_93 (by first | decide | assumption | omega) (fun _ => rfl) (by rfl) (by first | decide | omega) (by first | decide | omega) rfl ?_
        rw [nar_b (hb i hin)]
        refine z_iinc (i := 2) (v := 1) [_, _, _] dX1_copies_94 rfl (by decide) (by decide) rfl rfl ?_
        refine z_goto 26 dX1_copies_97 (by decide) ?_
        rw [nI_1]
        refine ih (i + 1) _ (by omega) (by omega) ?_ ?_ ?_ (fun j hj => ?_) (fun k hk => ?_)
        · simp (disch := omega) only [zup_n, s7]
        · simp (disch := omega) only [zup_n, s8]
        · simp (disch := omega) only [zup_n, s9]
        · by_cases w : j = i
          · subst w
            refine ⟨?_, ?_, ?_, ?_, ?_⟩ <;> simp (disch := omega) only [zup_n, zup_s, pk_us]
          · simp (disch := omega) only [zup_n, zup_s, pk_un w]
            exact sP j (by omega)
        · simp (disch := omega) only [zup_n]
          exact hf k hk
  refine z_aload_n (i := 0) dX1_copies_0 rfl rfl ?_
  refine z_aload_n (i := 1) dX1_copies_1 rfl rfl ?_
  refine z_getf dX1_copies_2 f_X1_28 (by first | decide | assumption | omega) rfl (by rfl) ?_
  refine z_putfi dX1_copies_5 f_X1_28 fp_X1_7 (by first | decide | assumption | omega) rfl (by exact Nat.le_of_ble_eq_true rfl) rfl ?_
  refine z_aload_n (i := 0) dX1_copies_8 rfl rfl ?_
  refine z_aload_n (i := 1) dX1_copies_9 rfl rfl ?_
  refine z_getf dX1_copies_10 f_X1_32 (by first | decide | assumption | omega) rfl (by rfl) ?_
  refine z_putfi dX1_copies_13 f_X1_32 fp_X1_8 (by first | decide | assumption | omega) rfl (by exact Nat.le_of_ble_eq_true rfl) rfl ?_
  refine z_aload_n (i := 0) dX1_copies_16 rfl rfl ?_
  refine z_aload_n (i := 1) dX1_copies_17 rfl rfl ?_
  refine z_getf dX1_copies_18 f_X1_35 (by first | decide | assumption | omega) rfl (by rfl) ?_
  refine z_putfi dX1_copies_21 f_X1_35 fp_X1_9 (by first | decide | assumption | omega) rfl (by exact Nat.le_of_ble_eq_true rfl) rfl ?_
  refine z_iconst (v := 0) dX1_copies_24 (by decide) ?_
  refine z_istore_n (i := 2) [_, _, _] dX1_copies_25 rfl (by decide) rfl rfl ?_
  refine loop (n + 1) 0 _ (by omega) (by omega) ?_ ?_ ?_ (fun j hj => absurd hj (Nat.not_lt_zero _)) (fun k hk => ?_)
  · simp (disch := omega) only [zup_s, zup_n, pk_us, pk_un (show (7 : Nat) ≠ 8 by decide), pk_un (show (7 : Nat) ≠ 9 by decide), r7]
  · simp (disch := omega) only [zup_s, zup_n, pk_us, pk_un (show (8 : Nat) ≠ 7 by decide), pk_un (show (8 : Nat) ≠ 9 by decide), r8]
  · simp (disch := omega) only [zup_s, zup_n, pk_us, pk_un (show (9 : Nat) ≠ 8 by decide), pk_un (show (9 : Nat) ≠ 7 by decide), r9]
  · simp (disch := omega) only [zup_n]
theorem s_copies23_8 {f : zN} (hR : PR c 8 n f) (hn6 : n ≤ 6) (hb : ∀ i, i < n → f (8 + 5 * i + 4) = 0 ∨ f (8 + 5 * i + 4) = 1) (hQ : ∀ c', PR c' 23 n f → (∀ k, k < 23 ∨ 28 < k → c' k = c k) → Qf 0 c') : zCl l E ad mX1_copies d [.ref (ad 23), .ref (ad 8)] c Qf := by
  obtain ⟨r7, r8, r9, rP⟩ := hR
  refine z_enter (own := RX1) [some (.ref (ad 23)), some (.ref (ad 8)), none] (by decide +kernel) rfl rfl rfl (Nat.le_of_ble_eq_true rfl) ?_
  have loop : ∀ (r i : Nat) (c1 : zS), n - i < r → i ≤ n → c1 23 7 = nI n → c1 23 8 = f 1 → c1 23 9 = f 0 → (∀ j, j < i → c1 24 j = f (8 + 5 * j) ∧ c1 25 j = f (8 + 5 * j + 1) ∧ c1 26 j = f (8 + 5 * j + 2) ∧ c1 27 j = f (8 + 5 * j + 3) ∧ c1 28 j = f (8 + 5 * j + 4)) → (∀ k, k < 23 ∨ 28 < k → c1 k = c k) → zW l E ad RX1 cX1_copies 3 0 d Qf 26 [some (.ref (ad 23)), some (.ref (ad 8)), some (.int (nI i))] [] c1 := by
    intro r
    induction r with
    | zero => intro i c1 h; omega
    | succ r ih =>
      intro i c1 hr hi s7 s8 s9 sP hf
      have hlt := nI_leI (a := n) (b := i) (by omega) (by omega)
      refine z_iload_n (i := 2) dX1_copies_26 rfl rfl ?_
      refine z_aload_n (i := 0) dX1_copies_27 rfl rfl ?_
      refine z_getf dX1_copies_28 f_X1_28 (by first | decide | assumption | omega) rfl (by rfl) ?_
      refine z_icmp_ge 100 dX1_copies_31 (by decide) (fun h_31 => ?_) (fun h_31 => ?_)
      · have hin : i = n := by rw [s7] at h_31; have := hlt.mp h_31; omega
        subst hin
        exact z_ret (r := 0) dX1_copies_100 (hQ c1 ⟨s7, s8, s9, sP⟩ hf) rfl rfl
      · have hin : i < n := by rw [s7] at h_31; have := mt hlt.mpr h_31; omega
        have e1 : c1 9 i = f (8 + 5 * i) := by rw [hf 9 (by omega)]; exact (rP i hin).1
        have e2 : c1 10 i = f (8 + 5 * i + 1) := by rw [hf 10 (by omega)]; exact (rP i hin).2.1
        have e3 : c1 11 i = f (8 + 5 * i + 2) := by rw [hf 11 (by omega)]; exact (rP i hin).2.2.1
        have e4 : c1 12 i = f (8 + 5 * i + 3) := by rw [hf 12 (by omega)]; exact (rP i hin).2.2.2.1
        have e5 : c1 13 i = f (8 + 5 * i + 4) := by rw [hf 13 (by omega)]; exact (rP i hin).2.2.2.2
        refine z_aload_n (i := 0) dX1_copies_34 rfl rfl ?_
        refine z_getf dX1_copies_35 f_X1_9 (by first | decide | assumption | omega) rfl (by rfl) ?_
        refine z_iload_n (i := 2) dX1_copies_38 rfl rfl ?_
        refine z_aload_n (i := 1) dX1_copies_39 rfl rfl ?_
        refine z_getf dX1_copies_40 f_X1_9 (by first | decide | assumption | omega) rfl (by rfl) ?_
        refine z_iload_n (i := 2) dX1_copies_43 rfl rfl ?_
        refine z_iald (j := i) dX1_copies_44 (by first | decide | assumption | omega) rfl (by rfl) (by first | decide | omega) (by first | decide | omega) ?_
        rw [e1]
        refine z_iast (j := i) dX1_copies_45 (by first | decide | assumption | omega) (fun _ => rfl) (by rfl) (by first | decide | omega) (by first | decide | omega) ?_
        refine z_aload_n (i := 0) dX1_copies_46 rfl rfl ?_
        refine z_getf dX1_copies_47 f_X1_15 (by first | decide | assumption | omega) rfl (by rfl) ?_
        refine z_iload_n (i := 2) dX1_copies_50 rfl rfl ?_
        refine z_aload_n (i := 1) dX1_copies_51 rfl rfl ?_
        refine z_getf dX1_copies_52 f_X1_15 (by first | decide | assumption | omega) rfl (by rfl) ?_
        refine z_iload_n (i := 2) dX1_copies_55 rfl rfl ?_
        refine z_iald (j := i) dX1_copies_56 (by first | decide | assumption | omega) rfl (by rfl) (by first | decide | omega) (by first | decide | omega) ?_
        rw [show zup c1 24 (upd (c1 24) i (f (8 + 5 * i))) 10 = c1 10 from rfl, e2]
        refine z_iast (j := i) dX1_copies_57 (by first | decide | assumption | omega) (fun _ => rfl) (by rfl) (by first | decide | omega) (by first | decide | omega) ?_
        refine z_aload_n (i := 0) dX1_copies_58 rfl rfl ?_
        refine z_getf dX1_copies_59 f_X1_18 (by first | decide | assumption | omega) rfl (by rfl) ?_
        refine z_iload_n (i := 2) dX1_copies_62 rfl rfl ?_
        refine z_aload_n (i := 1) dX1_copies_63 rfl rfl ?_
        refine z_getf dX1_copies_64 f_X1_18 (by first | decide | assumption | omega) rfl (by rfl) ?_
        refine z_iload_n (i := 2) dX1_copies_67 rfl rfl ?_
        refine z_iald (j := i) dX1_copies_68 (by first | decide | assumption | omega) rfl (by rfl) (by first | decide | omega) (by first | decide | omega) ?_
        simp (disch := omega) only [zup_n, e3]
        refine z_iast (j := i) dX1_copies_69 (by first | decide | assumption | omega) (fun _ => rfl) (by rfl) (by first | decide | omega) (by first | decide | omega) ?_
        refine z_aload_n (i := 0) dX1_copies_70 rfl rfl ?_
        refine z_getf dX1_copies_71 f_X1_21 (by first | decide | assumption | omega) rfl (by rfl) ?_
        refine z_iload_n (i := 2) dX1_copies_74 rfl rfl ?_
        refine z_aload_n (i := 1) dX1_copies_75 rfl rfl ?_
        refine z_getf dX1_copies_76 f_X1_21 (by first | decide | assumption | omega) rfl (by rfl) ?_
        refine z_iload_n (i := 2) dX1_copies_79 rfl rfl ?_
        refine z_iald (j := i) dX1_copies_80 (by first | decide | assumption | omega) rfl (by rfl) (by first | decide | omega) (by first | decide | omega) ?_
        simp (disch := omega) only [zup_n, e4]
        refine z_iast (j := i) dX1_copies_81 (by first | decide | assumption | omega) (fun _ => rfl) (by rfl) (by first | decide | omega) (by first | decide | omega) ?_
        refine z_aload_n (i := 0) dX1_copies_82 rfl rfl ?_
        refine z_getf dX1_copies_83 f_X1_24 (by first | decide | assumption | omega) rfl (by rfl) ?_
        refine z_iload_n (i := 2) dX1_copies_86 rfl rfl ?_
        refine z_aload_n (i := 1) dX1_copies_87 rfl rfl ?_
        refine z_getf dX1_copies_88 f_X1_24 (by first | decide | assumption | omega) rfl (by rfl) ?_
        refine z_iload_n (i := 2) dX1_copies_91 rfl rfl ?_
        refine z_zald (j := i) dX1_copies_92 (by first | decide | assumption | omega) rfl (by rfl) (by first | decide | omega) (by first | decide | omega) ?_
        simp (disch := omega) only [zup_n, e5]
        refine z_zast (j := i) dX1_copies_93 (by first | decide | assumption | omega) (fun _ => rfl) (by rfl) (by first | decide | omega) (by first | decide | omega) rfl ?_
        rw [nar_b (hb i hin)]
        refine z_iinc (i := 2) (v := 1) [_, _, _] dX1_copies_94 rfl (by decide) (by decide) rfl rfl ?_
        refine z_goto 26 dX1_copies_97 (by decide) ?_
        rw [nI_1]
        refine ih (i + 1) _ (by omega) (by omega) ?_ ?_ ?_ (fun j hj => ?_) (fun k hk => ?_)
        · simp (disch := omega) only [zup_n, s7]
        · simp (disch := omega) only [zup_n, s8]
        · simp (disch := omega) only [zup_n, s9]
        · by_cases w : j = i
          · subst w
            refine ⟨?_, ?_, ?_, ?_, ?_⟩ <;> simp (disch := omega) only [zup_n, zup_s, pk_us]
          · simp (disch := omega) only [zup_n, zup_s, pk_un w]
            exact sP j (by omega)
        · simp (disch := omega) only [zup_n]
          exact hf k hk
  refine z_aload_n (i := 0) dX1_copies_0 rfl rfl ?_
  refine z_aload_n (i := 1) dX1_copies_1 rfl rfl ?_
  refine z_getf dX1_copies_2 f_X1_28 (by first | decide | assumption | omega) rfl (by rfl) ?_
  refine z_putfi dX1_copies_5 f_X1_28 fp_X1_7 (by first | decide | assumption | omega) rfl (by exact Nat.le_of_ble_eq_true rfl) rfl ?_
  refine z_aload_n (i := 0) dX1_copies_8 rfl rfl ?_
  refine z_aload_n (i := 1) dX1_copies_9 rfl rfl ?_
  refine z_getf dX1_copies_10 f_X1_32 (by first | decide | assumption | omega) rfl (by rfl) ?_
  refine z_putfi dX1_copies_13 f_X1_32 fp_X1_8 (by first | decide | assumption | omega) rfl (by exact Nat.le_of_ble_eq_true rfl) rfl ?_
  refine z_aload_n (i := 0) dX1_copies_16 rfl rfl ?_
  refine z_aload_n (i := 1) dX1_copies_17 rfl rfl ?_
  refine z_getf dX1_copies_18 f_X1_35 (by first | decide | assumption | omega) rfl (by rfl) ?_
  refine z_putfi dX1_copies_21 f_X1_35 fp_X1_9 (by first | decide | assumption | omega) rfl (by exact Nat.le_of_ble_eq_true rfl) rfl ?_
  refine z_iconst (v := 0) dX1_copies_24 (by decide) ?_
  refine z_istore_n (i := 2) [_, _, _] dX1_copies_25 rfl (by decide) rfl rfl ?_
  refine loop (n + 1) 0 _ (by omega) (by omega) ?_ ?_ ?_ (fun j hj => absurd hj (Nat.not_lt_zero _)) (fun k hk => ?_)
  · simp (disch := omega) only [zup_s, zup_n, pk_us, pk_un (show (7 : Nat) ≠ 8 by decide), pk_un (show (7 : Nat) ≠ 9 by decide), r7]
  · simp (disch := omega) only [zup_s, zup_n, pk_us, pk_un (show (8 : Nat) ≠ 7 by decide), pk_un (show (8 : Nat) ≠ 9 by decide), r8]
  · simp (disch := omega) only [zup_s, zup_n, pk_us, pk_un (show (9 : Nat) ≠ 8 by decide), pk_un (show (9 : Nat) ≠ 7 by decide), r9]
  · simp (disch := omega) only [zup_n]
theorem s_copies8_23 {f : zN} (hR : PR c 23 n f) (hn6 : n ≤ 6) (hb : ∀ i, i < n → f (8 + 5 * i + 4) = 0 ∨ f (8 + 5 * i + 4) = 1) (hQ : ∀ c', PR c' 8 n f → (∀ k, k < 8 ∨ 13 < k → c' k = c k) → Qf 0 c') : zCl l E ad mX1_copies d [.ref (ad 8), .ref (ad 23)] c Qf := by
  obtain ⟨r7, r8, r9, rP⟩ := hR
  refine z_enter (own := RX1) [some (.ref (ad 8)), some (.ref (ad 23)), none] (by decide +kernel) rfl rfl rfl (Nat.le_of_ble_eq_true rfl) ?_
  have loop : ∀ (r i : Nat) (c1 : zS), n - i < r → i ≤ n → c1 8 7 = nI n → c1 8 8 = f 1 → c1 8 9 = f 0 → (∀ j, j < i → c1 9 j = f (8 + 5 * j) ∧ c1 10 j = f (8 + 5 * j + 1) ∧ c1 11 j = f (8 + 5 * j + 2) ∧ c1 12 j = f (8 + 5 * j + 3) ∧ c1 13 j = f (8 + 5 * j + 4)) → (∀ k, k < 8 ∨ 13 < k → c1 k = c k) → zW l E ad RX1 cX1_copies 3 0 d Qf 26 [some (.ref (ad 8)), some (.ref (ad 23)), some (.int (nI i))] [] c1 := by
    intro r
    induction r with
    | zero => intro i c1 h; omega
    | succ r ih =>
      intro i c1 hr hi s7 s8 s9 sP hf
      have hlt := nI_leI (a := n) (b := i) (by omega) (by omega)
      refine z_iload_n (i := 2) dX1_copies_26 rfl rfl ?_
      refine z_aload_n (i := 0) dX1_copies_27 rfl rfl ?_
      refine z_getf dX1_copies_28 f_X1_28 (by first | decide | assumption | omega) rfl (by rfl) ?_
      refine z_icmp_ge 100 dX1_copies_31 (by decide) (fun h_31 => ?_) (fun h_31 => ?_)
      · have hin : i = n := by rw [s7] at h_31; have := hlt.mp h_31; omega
        subst hin
        exact z_ret (r := 0) dX1_copies_100 (hQ c1 ⟨s7, s8, s9, sP⟩ hf) rfl rfl
      · have hin : i < n := by rw [s7] at h_31; have := mt hlt.mpr h_31; omega
        have e1 : c1 24 i = f (8 + 5 * i) := by rw [hf 24 (by omega)]; exact (rP i hin).1
        have e2 : c1 25 i = f (8 + 5 * i + 1) := by rw [hf 25 (by omega)]; exact (rP i hin).2.1
        have e3 : c1 26 i = f (8 + 5 * i + 2) := by rw [hf 26 (by omega)]; exact (rP i hin).2.2.1
        have e4 : c1 27 i = f (8 + 5 * i + 3) := by rw [hf 27 (by omega)]; exact (rP i hin).2.2.2.1
        have e5 : c1 28 i = f (8 + 5 * i + 4) := by rw [hf 28 (by omega)]; exact (rP i hin).2.2.2.2
        refine z_aload_n (i := 0) dX1_copies_34 rfl rfl ?_
        refine z_getf dX1_copies_35 f_X1_9 (by first | decide | assumption | omega) rfl (by rfl) ?_
        refine z_iload_n (i := 2) dX1_copies_38 rfl rfl ?_
        refine z_aload_n (i := 1) dX1_copies_39 rfl rfl ?_
        refine z_getf dX1_copies_40 f_X1_9 (by first | decide | assumption | omega) rfl (by rfl) ?_
        refine z_iload_n (i := 2) dX1_copies_43 rfl rfl ?_
        refine z_iald (j := i) dX1_copies_44 (by first | decide | assumption | omega) rfl (by rfl) (by first | decide | omega) (by first | decide | omega) ?_
        rw [e1]
        refine z_iast (j := i) dX1_copies_45 (by first | decide | assumption | omega) (fun _ => rfl) (by rfl) (by first | decide | omega) (by first | decide | omega) ?_
        refine z_aload_n (i := 0) dX1_copies_46 rfl rfl ?_
        refine z_getf dX1_copies_47 f_X1_15 (by first | decide | assumption | omega) rfl (by rfl) ?_
        refine z_iload_n (i := 2) dX1_copies_50 rfl rfl ?_
        refine z_aload_n (i := 1) dX1_copies_51 rfl rfl ?_
        refine z_getf dX1_copies_52 f_X1_15 (by first | decide | assumption | omega) rfl (by rfl) ?_
        refine z_iload_n (i := 2) dX1_copies_55 rfl rfl ?_
        refine z_iald (j := i) dX1_copies_56 (by first | decide | assumption | omega) rfl (by rfl) (by first | decide | omega) (by first | decide | omega) ?_
        rw [show zup c1 9 (upd (c1 9) i (f (8 + 5 * i))) 25 = c1 25 from rfl, e2]
        refine z_iast (j := i) dX1_copies_57 (by first | decide | assumption | omega) (fun _ => rfl) (by rfl) (by first | decide | omega) (by first | decide | omega) ?_
        refine z_aload_n (i := 0) dX1_copies_58 rfl rfl ?_
        refine z_getf dX1_copies_59 f_X1_18 (by first | decide | assumption | omega) rfl (by rfl) ?_
        refine z_iload_n (i := 2) dX1_copies_62 rfl rfl ?_
        refine z_aload_n (i := 1) dX1_copies_63 rfl rfl ?_
        refine z_getf dX1_copies_64 f_X1_18 (by first | decide | assumption | omega) rfl (by rfl) ?_
        refine z_iload_n (i := 2) dX1_copies_67 rfl rfl ?_
        refine z_iald (j := i) dX1_copies_68 (by first | decide | assumption | omega) rfl (by rfl) (by first | decide | omega) (by first | decide | omega) ?_
        simp (disch := omega) only [zup_n, e3]
        refine z_iast (j := i) dX1_copies_69 (by first | decide | assumption | omega) (fun _ => rfl) (by rfl) (by first | decide | omega) (by first | decide | omega) ?_
        refine z_aload_n (i := 0) dX1_copies_70 rfl rfl ?_
        refine z_getf dX1_copies_71 f_X1_21 (by first | decide | assumption | omega) rfl (by rfl) ?_
        refine z_iload_n (i := 2) dX1_copies_74 rfl rfl ?_
        refine z_aload_n (i := 1) dX1_copies_75 rfl rfl ?_
        refine z_getf dX1_copies_76 f_X1_21 (by first | decide | assumption | omega) rfl (by rfl) ?_
        refine z_iload_n (i := 2) dX1_copies_79 rfl rfl ?_
        refine z_iald (j := i) dX1_copies_80 (by first | decide | assumption | omega) rfl (by rfl) (by first | decide | omega) (by first | decide | omega) ?_
        simp (disch := omega) only [zup_n, e4]
        refine z_iast (j := i) dX1_copies_81 (by first | decide | assumption | omega) (fun _ => rfl) (by rfl) (by first | decide | omega) (by first | decide | omega) ?_
        refine z_aload_n (i := 0) dX1_copies_82 rfl rfl ?_
        refine z_getf dX1_copies_83 f_X1_24 (by first | decide | assumption | omega) rfl (by rfl) ?_
        refine z_iload_n (i := 2) dX1_copies_86 rfl rfl ?_
        refine z_aload_n (i := 1) dX1_copies_87 rfl rfl ?_
        refine z_getf dX1_copies_88 f_X1_24 (by first | decide | assumption | omega) rfl (by rfl) ?_
        refine z_iload_n (i := 2) dX1_copies_91 rfl rfl ?_
        refine z_zald (j := i) dX1_copies_92 (by first | decide | assumption | omega) rfl (by rfl) (by first | decide | omega) (by first | decide | omega) ?_
        simp (disch := omega) only [zup_n, e5]
        refine z_zast (j := i) dX1_copies_93 (by first | decide | assumption | omega) (fun _ => rfl) (by rfl) (by first | decide | omega) (by first | decide | omega) rfl ?_
        rw [nar_b (hb i hin)]
        refine z_iinc (i := 2) (v := 1) [_, _, _] dX1_copies_94 rfl (by decide) (by decide) rfl rfl ?_
        refine z_goto 26 dX1_copies_97 (by decide) ?_
        rw [nI_1]
        refine ih (i + 1) _ (by omega) (by omega) ?_ ?_ ?_ (fun j hj => ?_) (fun k hk => ?_)
        · simp (disch := omega) only [zup_n, s7]
        · simp (disch := omega) only [zup_n, s8]
        · simp (disch := omega) only [zup_n, s9]
        · by_cases w : j = i
          · subst w
            refine ⟨?_, ?_, ?_, ?_, ?_⟩ <;> simp (disch := omega) only [zup_n, zup_s, pk_us]
          · simp (disch := omega) only [zup_n, zup_s, pk_un w]
            exact sP j (by omega)
        · simp (disch := omega) only [zup_n]
          exact hf k hk
  refine z_aload_n (i := 0) dX1_copies_0 rfl rfl ?_
  refine z_aload_n (i := 1) dX1_copies_1 rfl rfl ?_
  refine z_getf dX1_copies_2 f_X1_28 (by first | decide | assumption | omega) rfl (by rfl) ?_
  refine z_putfi dX1_copies_5 f_X1_28 fp_X1_7 (by first | decide | assumption | omega) rfl (by exact Nat.le_of_ble_eq_true rfl) rfl ?_
  refine z_aload_n (i := 0) dX1_copies_8 rfl rfl ?_
  refine z_aload_n (i := 1) dX1_copies_9 rfl rfl ?_
  refine z_getf dX1_copies_10 f_X1_32 (by first | decide | assumption | omega) rfl (by rfl) ?_
  refine z_putfi dX1_copies_13 f_X1_32 fp_X1_8 (by first | decide | assumption | omega) rfl (by exact Nat.le_of_ble_eq_true rfl) rfl ?_
  refine z_aload_n (i := 0) dX1_copies_16 rfl rfl ?_
  refine z_aload_n (i := 1) dX1_copies_17 rfl rfl ?_
  refine z_getf dX1_copies_18 f_X1_35 (by first | decide | assumption | omega) rfl (by rfl) ?_
  refine z_putfi dX1_copies_21 f_X1_35 fp_X1_9 (by first | decide | assumption | omega) rfl (by exact Nat.le_of_ble_eq_true rfl) rfl ?_
  refine z_iconst (v := 0) dX1_copies_24 (by decide) ?_
  refine z_istore_n (i := 2) [_, _, _] dX1_copies_25 rfl (by decide) rfl rfl ?_
  refine loop (n + 1) 0 _ (by omega) (by omega) ?_ ?_ ?_ (fun j hj => absurd hj (Nat.not_lt_zero _)) (fun k hk => ?_)
  · simp (disch := omega) only [zup_s, zup_n, pk_us, pk_un (show (7 : Nat) ≠ 8 by decide), pk_un (show (7 : Nat) ≠ 9 by decide), r7]
  · simp (disch := omega) only [zup_s, zup_n, pk_us, pk_un (show (8 : Nat) ≠ 7 by decide), pk_un (show (8 : Nat) ≠ 9 by decide), r8]
  · simp (disch := omega) only [zup_s, zup_n, pk_us, pk_un (show (9 : Nat) ≠ 8 by decide), pk_un (show (9 : Nat) ≠ 7 by decide), r9]
  · simp (disch := omega) only [zup_n]
end PC
