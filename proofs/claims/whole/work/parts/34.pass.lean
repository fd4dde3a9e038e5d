/-! the class: its passes -/
theorem and1 (y : Int32) : y &&& 1 = 0 ∨ y &&& 1 = 1 := by
  have h : (y &&& 1).toBitVec.toNat = y.toBitVec.toNat % 2 := by
    rw [Int32.toBitVec_and, BitVec.toNat_and]
    exact Nat.and_one_is_mod _
  rcases Nat.mod_two_eq_zero_or_one y.toBitVec.toNat with q | q
  · left
    apply Int32.toBitVec_inj.mp
    apply BitVec.eq_of_toNat_eq
    rw [h, q]
    rfl
  · right
    apply Int32.toBitVec_inj.mp
    apply BitVec.eq_of_toNat_eq
    rw [h, q]
    rfl
theorem d3 (x : Int32) : (if 3 < x then x - 3 else 0) = (if x < 3 then 0 else x - 3) := by
  by_cases h : x = 3
  · subst h
    decide
  · have : ¬ x < 3 → 3 < x := by
      intro q
      grind
    grind
theorem upd_id {f : zN} {i : Nat} {v : Int32} (h : f i = v) : upd f i v = f := by
  funext k
  unfold upd
  split
  · next e => rw [e, h]
  · rfl
def PR (c : zS) (P n : Nat) (f : zN) : Prop := c P 7 = nI n ∧ c P 8 = f 1 ∧ c P 9 = f 0 ∧ ∀ i, i < n → c (P + 1) i = f (8 + 5 * i) ∧ c (P + 2) i = f (8 + 5 * i + 1) ∧ c (P + 3) i = f (8 + 5 * i + 2) ∧ c (P + 4) i = f (8 + 5 * i + 3) ∧ c (P + 5) i = f (8 + 5 * i + 4)
theorem PR_cg {c c' : zS} {P n : Nat} {f : zN} (h : PR c P n f) (e : ∀ k, P ≤ k → k ≤ P + 5 → c' k = c k) : PR c' P n f := by
  unfold PR
  rw [e P (by omega) (by omega), e (P + 1) (by omega) (by omega), e (P + 2) (by omega) (by omega), e (P + 3) (by omega) (by omega), e (P + 4) (by omega) (by omega), e (P + 5) (by omega) (by omega)]
  exact h
theorem PR_up {c : zS} {P n p : Nat} {f : zN} {v : Int32} (w : Nat) (h : PR c P n f) (hw : w < 5) : PR (zup c (P + 1 + w) (upd (c (P + 1 + w)) p v)) P n (upd f (8 + 5 * p + w) v) := by
  obtain ⟨h1, h2, h3, h4⟩ := h
  have key : ∀ (i w' : Nat), w' < 5 → c (P + 1 + w') i = f (8 + 5 * i + w') → zup c (P + 1 + w) (upd (c (P + 1 + w)) p v) (P + 1 + w') i = upd f (8 + 5 * p + w) v (8 + 5 * i + w') := by
    intro i w' hw' e
    by_cases q : w' = w
    · subst q
      rw [zup_s]
      unfold upd
      by_cases q2 : i = p
      · rw [if_pos q2, if_pos (by omega)]
      · rw [if_neg q2, if_neg (by omega), e]
    · rw [zup_n (by omega), e]
      unfold upd
      rw [if_neg (by omega)]
  refine ⟨by rw [zup_n (by omega)]; exact h1, by rw [zup_n (by omega), pk_un (by omega)]; exact h2, by rw [zup_n (by omega), pk_un (by omega)]; exact h3, fun i hi => ?_⟩
  have h5 := h4 i hi
  exact ⟨key i 0 (by omega) h5.1, key i 1 (by omega) h5.2.1, key i 2 (by omega) h5.2.2.1, key i 3 (by omega) h5.2.2.2.1, key i 4 (by omega) h5.2.2.2.2⟩
theorem PR_hr {c : zS} {P n : Nat} {f : zN} {v : Int32} (h : PR c P n f) : PR (zup c P (upd (c P) 9 v)) P n (upd f 0 v) := by
  obtain ⟨h1, h2, h3, h4⟩ := h
  refine ⟨by rw [zup_s, pk_un (by decide)]; exact h1, by rw [zup_s, pk_un (by decide), pk_un (by decide)]; exact h2, by rw [zup_s, pk_us, pk_us], fun i hi => ?_⟩
  rw [zup_n (by omega), zup_n (by omega), zup_n (by omega), zup_n (by omega), zup_n (by omega), pk_un (by omega), pk_un (by omega), pk_un (by omega), pk_un (by omega), pk_un (by omega)]
  exact h4 i hi
theorem PR_dr {c : zS} {P n : Nat} {f : zN} {v : Int32} (h : PR c P n f) : PR (zup c P (upd (c P) 8 v)) P n (upd f 1 v) := by
  obtain ⟨h1, h2, h3, h4⟩ := h
  refine ⟨by rw [zup_s, pk_un (by decide)]; exact h1, by rw [zup_s, pk_us, pk_us], by rw [zup_s, pk_un (by decide), pk_un (by decide)]; exact h3, fun i hi => ?_⟩
  rw [zup_n (by omega), zup_n (by omega), zup_n (by omega), zup_n (by omega), zup_n (by omega), pk_un (by omega), pk_un (by omega), pk_un (by omega), pk_un (by omega), pk_un (by omega)]
  exact h4 i hi
/-- the two laws hold the TEXTS of the row -/
def LW (c : zS) (f : zN) : Prop := LR c 2 3 0 f ∧ LR c 5 6 1 f ∧ stG f 0 ∧ stG f 1
theorem LW_cg {c c' : zS} {f g : zN} (h : LW c f) (e : ∀ k, 38 ≤ k → g k = f k) (e2 : c' 2 = c 2) (e3 : c' 3 = c 3) (e5 : c' 5 = c 5) (e6 : c' 6 = c 6) : LW c' g := by
  unfold LW LR stG at *
  simp only [e2, e3, e5, e6]
  have a1 : g (38 + 125 * 0) = f (38 + 125 * 0) := e _ (by omega)
  have a2 : g (38 + 125 * 1) = f (38 + 125 * 1) := e _ (by omega)
  simp only [a1, a2]
  obtain ⟨⟨h1, h2, h3⟩, ⟨h4, h5, h6⟩, h7, h8⟩ := h
  refine ⟨⟨h1, h2, fun i hi => ?_⟩, ⟨h4, h5, fun i hi => ?_⟩, fun i hi => ?_, fun i hi => ?_⟩
  · rw [e _ (by omega), e _ (by omega)]; exact h3 i hi
  · rw [e _ (by omega), e _ (by omega)]; exact h6 i hi
  · rw [e _ (by omega), e _ (by omega)]; exact h7 i hi
  · rw [e _ (by omega), e _ (by omega)]; exact h8 i hi
/-- the first i of PEOPLE go, or of them only one -/
def hrA (all : Bool) (p : Nat) (f : zN) : Nat → zN
  | 0 => f
  | i + 1 => if hrA all p f i (8 + 5 * i + 4) = 0 ∧ (all = true ∨ i = p) then wkF i (faF (hrA all p f i) i) (stF (hrA all p f i) i) (hrA all p f i) else hrA all p f i
def hrB (all : Bool) (p : Nat) (f : zN) (n : Nat) : zN := upd (hrA all p f n) 0 (hrA all p f n 0 + 1)
theorem vaF_hrA {n p : Nat} {all : Bool} {f : zN} (h : vaF f n) : ∀ {i : Nat}, i ≤ n → vaF (hrA all p f i) n
  | 0, _ => h
  | i + 1, hi => by
    have h6 := h.2.1
    unfold hrA
    split
    · exact vaF_wk (by omega) (vaF_hrA h (by omega))
    · exact vaF_hrA h (by omega)
theorem hrA_hi {n p k : Nat} {all : Bool} {f : zN} (hn : n ≤ 6) (hk : 38 ≤ k) : ∀ {i : Nat}, i ≤ n → hrA all p f i k = f k
  | 0, _ => rfl
  | i + 1, hi => by
    unfold hrA
    split
    · rw [wkF_hi (by omega) hk, hrA_hi hn hk (by omega)]
    · exact hrA_hi hn hk (by omega)
section PA
variable {l : Launch} {E : zE} {ad : Nat → Nat} {c : zS} {Qf : Int32 → zS → Prop} {d n : Nat}
theorem s_stands8 {p : Nat} {v : Int32} {f : zN} (hR : PR c 8 n f) (hn6 : n ≤ 6) (hp : p < 6) (hQ : ∀ c', PR c' 8 n (upd (upd f (8 + 5 * p + 3) v) (8 + 5 * p + 4) 0) → (∀ k, k ≠ 12 → k ≠ 13 → c' k = c k) → Qf 0 c') : zCl l E ad mX1_stands d [.ref (ad 8), .int (nI p), .int v] c Qf := by
  refine z_enter (own := RX1) [some (.ref (ad 8)), some (.int (nI p)), some (.int v)] (by decide +kernel) rfl rfl rfl (Nat.le_of_ble_eq_true rfl) ?_
  refine z_aload_n (i := 0) dX1_stands_0 rfl rfl ?_
  refine z_getf dX1_stands_1 f_X1_21 (by first | decide | assumption | omega) rfl (by rfl) ?_
  refine z_iload_n (i := 1) dX1_stands_4 rfl rfl ?_
  refine z_iload_n (i := 2) dX1_stands_5 rfl rfl ?_
  refine z_iast (j := p) dX1_stands_6 (by first | decide | assumption | omega) (fun _ => rfl) (by rfl) (by first | decide | omega) (by first | decide | omega) ?_
  refine z_aload_n (i := 0) dX1_stands_7 rfl rfl ?_
  refine z_getf dX1_stands_8 f_X1_24 (by first | decide | assumption | omega) rfl (by rfl) ?_
  refine z_iload_n (i := 1) dX1_stands_11 rfl rfl ?_
  refine z_iconst (v := 0) dX1_stands_12 (by decide) ?_
  refine z_zast (j := p) dX1_stands_13 (by first | decide | assumption | omega) (fun _ => rfl) (by rfl) (by first | decide | omega) (by first | decide | omega) rfl ?_
  exact z_ret (r := 0) dX1_stands_14 (hQ _ (PR_up 4 (PR_up 3 hR (by omega)) (by omega)) (fun k a b => by rw [zup_n b, zup_n a])) rfl rfl
theorem s_together8 {p : Nat} {f : zN} (hR : PR c 8 n f) (hn6 : n ≤ 6) (hp : p < n) (hQ : Qf (togN f p n) c) : zCl l E ad mX1_together d [.ref (ad 8), .int (nI p)] c Qf := by
  have hP := hR.2.2.2
  refine z_enter (own := RX1) [some (.ref (ad 8)), some (.int (nI p)), none, none] (by decide +kernel) rfl rfl rfl (Nat.le_of_ble_eq_true rfl) ?_
  have loop : ∀ (r i : Nat), n - i < r → i ≤ n → zW l E ad RX1 cX1_together 4 1 d Qf 4 [some (.ref (ad 8)), some (.int (nI p)), some (.int (togN f p i)), some (.int (nI i))] [] c := by
    intro r
    induction r with
    | zero => intro i h; omega
    | succ r ih =>
      intro i hr hi
      have hlt := nI_leI (a := n) (b := i) (by omega) (by omega)
      have hip := nI_eq (a := i) (b := p) (by omega) (by omega)
      have cut44 : ∀ x : Int32, i < n → x = togN f p (i + 1) → zW l E ad RX1 cX1_together 4 1 d Qf 44 [some (.ref (ad 8)), some (.int (nI p)), some (.int x), some (.int (nI i))] [] c := by
        intro x hin hx
        refine z_iinc (i := 3) (v := 1) [_, _, _, _] dX1_together_44 rfl (by decide) (by decide) rfl rfl ?_
        refine z_goto 4 dX1_together_47 (by decide) ?_
        rw [nI_1, hx]
        exact ih (i + 1) (by omega) (by omega)
      refine z_iload_n (i := 3) dX1_together_4 rfl rfl ?_
      refine z_aload_n (i := 0) dX1_together_5 rfl rfl ?_
      refine z_getf dX1_together_6 f_X1_28 (by first | decide | assumption | omega) rfl (by rfl) ?_
      refine z_icmp_ge 50 dX1_together_9 (by decide) (fun h_9 => ?_) (fun h_9 => ?_)
      · refine z_iload_n (i := 2) dX1_together_50 rfl rfl ?_
        have hin : i = n := by rw [hR.1] at h_9; have := hlt.mp h_9; omega
        subst hin
        exact z_ret dX1_together_51 hQ trivial rfl
      · have hin : i < n := by rw [hR.1] at h_9; have := mt hlt.mpr h_9; omega
        refine z_iload_n (i := 3) dX1_together_12 rfl rfl ?_
        refine z_iload_n (i := 1) dX1_together_13 rfl rfl ?_
        refine z_icmp_eq 44 dX1_together_14 (by decide) (fun h_14 => ?_) (fun h_14 => ?_)
        · first
          | (refine cut44 _ hin ?_
             have e1 : c 12 i = f (8 + 5 * i + 3) := (hP i hin).2.2.2.1
             have e2 : c 13 i = f (8 + 5 * i + 4) := (hP i hin).2.2.2.2
             have e3 : c 12 p = f (8 + 5 * p + 3) := (hP p hp).2.2.2.1
             simp only [togN]
             grind)
        · refine z_aload_n (i := 0) dX1_together_17 rfl rfl ?_
          refine z_getf dX1_together_18 f_X1_21 (by first | decide | assumption | omega) rfl (by rfl) ?_
          refine z_iload_n (i := 3) dX1_together_21 rfl rfl ?_
          refine z_iald (j := i) dX1_together_22 (by first | decide | assumption | omega) rfl (by rfl) (by first | decide | omega) (by first | decide | omega) ?_
          refine z_aload_n (i := 0) dX1_together_23 rfl rfl ?_
          refine z_getf dX1_together_24 f_X1_21 (by first | decide | assumption | omega) rfl (by rfl) ?_
          refine z_iload_n (i := 1) dX1_together_27 rfl rfl ?_
          refine z_iald (j := p) dX1_together_28 (by first | decide | assumption | omega) rfl (by rfl) (by first | decide | omega) (by first | decide | omega) ?_
          refine z_icmp_ne 44 dX1_together_29 (by decide) (fun h_29 => ?_) (fun h_29 => ?_)
          · first
            | (refine cut44 _ hin ?_
               have e1 : c 12 i = f (8 + 5 * i + 3) := (hP i hin).2.2.2.1
               have e2 : c 13 i = f (8 + 5 * i + 4) := (hP i hin).2.2.2.2
               have e3 : c 12 p = f (8 + 5 * p + 3) := (hP p hp).2.2.2.1
               simp only [togN]
               grind)
          · refine z_aload_n (i := 0) dX1_together_32 rfl rfl ?_
            refine z_getf dX1_together_33 f_X1_24 (by first | decide | assumption | omega) rfl (by rfl) ?_
            refine z_iload_n (i := 3) dX1_together_36 rfl rfl ?_
            refine z_zald (j := i) dX1_together_37 (by first | decide | assumption | omega) rfl (by rfl) (by first | decide | omega) (by first | decide | omega) ?_
            refine z_if_ne 44 dX1_together_38 (by decide) (fun h_38 => ?_) (fun h_38 => ?_)
            · first
              | (refine cut44 _ hin ?_
                 have e1 : c 12 i = f (8 + 5 * i + 3) := (hP i hin).2.2.2.1
                 have e2 : c 13 i = f (8 + 5 * i + 4) := (hP i hin).2.2.2.2
                 have e3 : c 12 p = f (8 + 5 * p + 3) := (hP p hp).2.2.2.1
                 simp only [togN]
                 grind)
            · refine z_iinc (i := 2) (v := 1) [_, _, _, _] dX1_together_41 rfl (by decide) (by decide) rfl rfl ?_
              first
              | (refine cut44 _ hin ?_
                 have e1 : c 12 i = f (8 + 5 * i + 3) := (hP i hin).2.2.2.1
                 have e2 : c 13 i = f (8 + 5 * i + 4) := (hP i hin).2.2.2.2
                 have e3 : c 12 p = f (8 + 5 * p + 3) := (hP p hp).2.2.2.1
                 simp only [togN]
                 grind)
  refine z_iconst (v := 0) dX1_together_0 (by decide) ?_
  refine z_istore_n (i := 2) [_, _, _, _] dX1_together_1 rfl (by decide) rfl rfl ?_
  refine z_iconst (v := 0) dX1_together_2 (by decide) ?_
  refine z_istore_n (i := 3) [_, _, _, _] dX1_together_3 rfl (by decide) rfl rfl ?_
  exact loop (n + 1) 0 (by omega) (by omega)
theorem s_sees8 {p : Nat} {f : zN} (hR : PR c 8 n f) (hv : vaF f n) (hp : p < n) (hd : 1 ≤ d) (hQ : Qf (seF f p) c) : zCl l E ad mX1_sees d [.ref (ad 8), .int (nI p)] c Qf := by
  have hn6 := hv.2.1
  have hpn : pn (f 5) = n := by rw [hv.1]; exact pn_nI (by omega)
  have eK : c 9 p = f (8 + 5 * p) := (hR.2.2.2 p hp).1
  have eN : c 10 p = f (8 + 5 * p + 1) := (hR.2.2.2 p hp).2.1
  have eS : c 11 p = f (8 + 5 * p + 2) := (hR.2.2.2 p hp).2.2.1
  have eH : c 8 9 = f 0 := hR.2.2.1
  unfold seF at hQ
  rw [hpn] at hQ
  dsimp only at hQ
  refine z_enter (own := RX1) [some (.ref (ad 8)), some (.int (nI p)), none, none] (by decide +kernel) rfl rfl rfl (Nat.le_of_ble_eq_true rfl) ?_
  refine z_aload_n (i := 0) dX1_sees_0 rfl rfl ?_
  refine z_getf dX1_sees_1 f_X1_18 (by first | decide | assumption | omega) rfl (by rfl) ?_
  refine z_iload_n (i := 1) dX1_sees_4 rfl rfl ?_
  refine z_iald (j := p) dX1_sees_5 (by first | decide | assumption | omega) rfl (by rfl) (by first | decide | omega) (by first | decide | omega) ?_
  rw [eS]
  refine z_bipush (v := 10) dX1_sees_6 (by decide) ?_
  refine z_idiv dX1_sees_8 (by first | decide | assumption) ?_
  refine z_istore_n (i := 2) [_, _, _, _] dX1_sees_9 rfl (by decide) rfl rfl ?_
  refine z_aload_n (i := 0) dX1_sees_10 rfl rfl ?_
  refine z_getf dX1_sees_11 f_X1_15 (by first | decide | assumption | omega) rfl (by rfl) ?_
  refine z_iload_n (i := 1) dX1_sees_14 rfl rfl ?_
  refine z_iald (j := p) dX1_sees_15 (by first | decide | assumption | omega) rfl (by rfl) (by first | decide | omega) (by first | decide | omega) ?_
  rw [eN]
  refine z_istore_n (i := 3) [_, _, _, _] dX1_sees_16 rfl (by decide) rfl rfl ?_
  refine z_aload_n (i := 0) dX1_sees_17 rfl rfl ?_
  refine z_getf dX1_sees_18 f_X1_9 (by first | decide | assumption | omega) rfl (by rfl) ?_
  refine z_iload_n (i := 1) dX1_sees_21 rfl rfl ?_
  refine z_iald (j := p) dX1_sees_22 (by first | decide | assumption | omega) rfl (by rfl) (by first | decide | omega) (by first | decide | omega) ?_
  rw [eK]
  by_cases h_23_1 : f (8 + 5 * p) = 1
  · refine z_table (v := 1) 60 dX1_sees_23 h_23_1 (by decide) (by decide) rfl (by decide) ?_
    refine z_iload_n (i := 2) dX1_sees_60 rfl rfl ?_
    refine z_iconst (v := 2) dX1_sees_61 (by decide) ?_
    refine z_idiv dX1_sees_62 (by first | decide | assumption) ?_
    first
    | exact z_ret dX1_sees_63 (by grind) trivial rfl
    | (have e3 := d3 (f (8 + 5 * p + 2) / 10)
       exact z_ret dX1_sees_63 (by grind) trivial rfl)
  by_cases h_23_2 : f (8 + 5 * p) = 2
  · refine z_table (v := 2) 64 dX1_sees_23 h_23_2 (by decide) (by decide) rfl (by decide) ?_
    refine z_iload_n (i := 2) dX1_sees_64 rfl rfl ?_
    refine z_iconst (v := 3) dX1_sees_65 (by decide) ?_
    refine z_icmp_ge 73 dX1_sees_66 (by decide) (fun h_66 => ?_) (fun h_66 => ?_)
    · refine z_iload_n (i := 2) dX1_sees_73 rfl rfl ?_
      refine z_iconst (v := 3) dX1_sees_74 (by decide) ?_
      refine z_isub dX1_sees_75 ?_
      first
      | exact z_ret dX1_sees_76 (by grind) trivial rfl
      | (have e3 := d3 (f (8 + 5 * p + 2) / 10)
         exact z_ret dX1_sees_76 (by grind) trivial rfl)
    · refine z_iconst (v := 0) dX1_sees_69 (by decide) ?_
      refine z_goto 76 dX1_sees_70 (by decide) ?_
      first
      | exact z_ret dX1_sees_76 (by grind) trivial rfl
      | (have e3 := d3 (f (8 + 5 * p + 2) / 10)
         exact z_ret dX1_sees_76 (by grind) trivial rfl)
  by_cases h_23_3 : f (8 + 5 * p) = 3
  · refine z_table (v := 3) 77 dX1_sees_23 h_23_3 (by decide) (by decide) rfl (by decide) ?_
    refine z_bipush (v := 9) dX1_sees_77 (by decide) ?_
    refine z_iload_n (i := 3) dX1_sees_79 rfl rfl ?_
    refine z_iadd dX1_sees_80 ?_
    first
    | exact z_ret dX1_sees_81 (by grind) trivial rfl
    | (have e3 := d3 (f (8 + 5 * p + 2) / 10)
       exact z_ret dX1_sees_81 (by grind) trivial rfl)
  by_cases h_23_4 : f (8 + 5 * p) = 4
  · refine z_table (v := 4) 82 dX1_sees_23 h_23_4 (by decide) (by decide) rfl (by decide) ?_
    refine z_iload_n (i := 2) dX1_sees_82 rfl rfl ?_
    refine z_iconst (v := 2) dX1_sees_83 (by decide) ?_
    refine z_idiv dX1_sees_84 (by first | decide | assumption) ?_
    refine z_aload_n (i := 0) dX1_sees_85 rfl rfl ?_
    refine z_iload_n (i := 1) dX1_sees_86 rfl rfl ?_
    refine z_Vi (As := [_]) dX1_sees_87 (by rfl) v_X1_together l_X1_59 (by first | decide | assumption | omega) rfl rfl rfl (by omega) (by decide) (Nat.le_of_ble_eq_true rfl) ?_
    refine s_together8 hR hn6 hp ?_
    refine z_iadd dX1_sees_90 ?_
    first
    | exact z_ret dX1_sees_91 (by grind) trivial rfl
    | (have e3 := d3 (f (8 + 5 * p + 2) / 10)
       exact z_ret dX1_sees_91 (by grind) trivial rfl)
  by_cases h_23_5 : f (8 + 5 * p) = 5
  · refine z_table (v := 5) 92 dX1_sees_23 h_23_5 (by decide) (by decide) rfl (by decide) ?_
    refine z_iconst (v := 1) dX1_sees_92 (by decide) ?_
    refine z_iload_n (i := 3) dX1_sees_93 rfl rfl ?_
    refine z_iconst (v := 2) dX1_sees_94 (by decide) ?_
    refine z_irem dX1_sees_95 (by first | decide | assumption) ?_
    refine z_iadd dX1_sees_96 ?_
    first
    | exact z_ret dX1_sees_97 (by grind) trivial rfl
    | (have e3 := d3 (f (8 + 5 * p + 2) / 10)
       exact z_ret dX1_sees_97 (by grind) trivial rfl)
  by_cases h_23_6 : f (8 + 5 * p) = 6
  · refine z_table (v := 6) 98 dX1_sees_23 h_23_6 (by decide) (by decide) rfl (by decide) ?_
    refine z_iload_n (i := 2) dX1_sees_98 rfl rfl ?_
    refine z_aload_n (i := 0) dX1_sees_99 rfl rfl ?_
    refine z_getf dX1_sees_100 f_X1_35 (by first | decide | assumption | omega) rfl (by rfl) ?_
    rw [eH]
    refine z_iconst (v := 5) dX1_sees_103 (by decide) ?_
    refine z_irem dX1_sees_104 (by first | decide | assumption) ?_
    refine z_iadd dX1_sees_105 ?_
    first
    | exact z_ret dX1_sees_106 (by grind) trivial rfl
    | (have e3 := d3 (f (8 + 5 * p + 2) / 10)
       exact z_ret dX1_sees_106 (by grind) trivial rfl)
  refine z_tableD 107 dX1_sees_23 (by have a1 := zt_ne (k := 1) (by decide) h_23_1; have a2 := zt_ne (k := 2) (by decide) h_23_2; have a3 := zt_ne (k := 3) (by decide) h_23_3; have a4 := zt_ne (k := 4) (by decide) h_23_4; have a5 := zt_ne (k := 5) (by decide) h_23_5; have a6 := zt_ne (k := 6) (by decide) h_23_6; omega) (by decide) ?_
  refine z_iload_n (i := 2) dX1_sees_107 rfl rfl ?_
  first
  | exact z_ret dX1_sees_108 (by grind) trivial rfl
  | (have e3 := d3 (f (8 + 5 * p + 2) / 10)
     exact z_ret dX1_sees_108 (by grind) trivial rfl)
theorem s_falls8 {p : Nat} {f : zN} (hR : PR c 8 n f) (hn6 : n ≤ 6) (hp : p < n) (hQ : Qf (if faF f p = true then 1 else 0) c) : zCl l E ad mX1_falls d [.ref (ad 8), .int (nI p)] c Qf := by
  have eK : c 9 p = f (8 + 5 * p) := (hR.2.2.2 p hp).1
  have eN : c 10 p = f (8 + 5 * p + 1) := (hR.2.2.2 p hp).2.1
  have eS : c 11 p = f (8 + 5 * p + 2) := (hR.2.2.2 p hp).2.2.1
  have eH : c 8 9 = f 0 := hR.2.2.1
  unfold faF at hQ
  dsimp only at hQ
  refine z_enter (own := RX1) [some (.ref (ad 8)), some (.int (nI p)), none] (by decide +kernel) rfl rfl rfl (Nat.le_of_ble_eq_true rfl) ?_
  refine z_aload_n (i := 0) dX1_falls_0 rfl rfl ?_
  refine z_getf dX1_falls_1 f_X1_15 (by first | decide | assumption | omega) rfl (by rfl) ?_
  refine z_iload_n (i := 1) dX1_falls_4 rfl rfl ?_
  refine z_iald (j := p) dX1_falls_5 (by first | decide | assumption | omega) rfl (by rfl) (by first | decide | omega) (by first | decide | omega) ?_
  rw [eN]
  refine z_istore_n (i := 2) [_, _, _] dX1_falls_6 rfl (by decide) rfl rfl ?_
  refine z_aload_n (i := 0) dX1_falls_7 rfl rfl ?_
  refine z_getf dX1_falls_8 f_X1_9 (by first | decide | assumption | omega) rfl (by rfl) ?_
  refine z_iload_n (i := 1) dX1_falls_11 rfl rfl ?_
  refine z_iald (j := p) dX1_falls_12 (by first | decide | assumption | omega) rfl (by rfl) (by first | decide | omega) (by first | decide | omega) ?_
  rw [eK]
  by_cases h_13_2 : f (8 + 5 * p) = 2
  · refine z_table (v := 2) 48 dX1_falls_13 h_13_2 (by decide) (by decide) rfl (by decide) ?_
    refine z_aload_n (i := 0) dX1_falls_48 rfl rfl ?_
    refine z_getf dX1_falls_49 f_X1_18 (by first | decide | assumption | omega) rfl (by rfl) ?_
    refine z_iload_n (i := 1) dX1_falls_52 rfl rfl ?_
    refine z_iald (j := p) dX1_falls_53 (by first | decide | assumption | omega) rfl (by rfl) (by first | decide | omega) (by first | decide | omega) ?_
    rw [eS]
    refine z_bipush (v := 10) dX1_falls_54 (by decide) ?_
    refine z_iload_n (i := 2) dX1_falls_56 rfl rfl ?_
    refine z_iadd dX1_falls_57 ?_
    refine z_icmp_ge 65 dX1_falls_58 (by decide) (fun h_58 => ?_) (fun h_58 => ?_)
    · refine z_iconst (v := 0) dX1_falls_65 (by decide) ?_
      exact z_ret dX1_falls_66 (by grind) (by rfl) rfl
    · refine z_iconst (v := 1) dX1_falls_61 (by decide) ?_
      refine z_goto 66 dX1_falls_62 (by decide) ?_
      exact z_ret dX1_falls_66 (by grind) (by rfl) rfl
  by_cases h_13_3 : f (8 + 5 * p) = 3
  · refine z_table (v := 3) 67 dX1_falls_13 h_13_3 (by decide) (by decide) rfl (by decide) ?_
    refine z_iconst (v := 1) dX1_falls_67 (by decide) ?_
    exact z_ret dX1_falls_68 (by grind) (by rfl) rfl
  by_cases h_13_4 : f (8 + 5 * p) = 4
  · refine z_table (v := 4) 89 dX1_falls_13 h_13_4 (by decide) (by decide) rfl (by decide) ?_
    refine z_iconst (v := 0) dX1_falls_89 (by decide) ?_
    exact z_ret dX1_falls_90 (by grind) (by rfl) rfl
  by_cases h_13_5 : f (8 + 5 * p) = 5
  · refine z_table (v := 5) 89 dX1_falls_13 h_13_5 (by decide) (by decide) rfl (by decide) ?_
    refine z_iconst (v := 0) dX1_falls_89 (by decide) ?_
    exact z_ret dX1_falls_90 (by grind) (by rfl) rfl
  by_cases h_13_6 : f (8 + 5 * p) = 6
  · refine z_table (v := 6) 69 dX1_falls_13 h_13_6 (by decide) (by decide) rfl (by decide) ?_
    refine z_aload_n (i := 0) dX1_falls_69 rfl rfl ?_
    refine z_getf dX1_falls_70 f_X1_35 (by first | decide | assumption | omega) rfl (by rfl) ?_
    rw [eH]
    refine z_bipush (v := 24) dX1_falls_73 (by decide) ?_
    refine z_irem dX1_falls_75 (by first | decide | assumption) ?_
    refine z_bipush (v := 20) dX1_falls_76 (by decide) ?_
    refine z_iload_n (i := 2) dX1_falls_78 rfl rfl ?_
    refine z_isub dX1_falls_79 ?_
    refine z_icmp_le 87 dX1_falls_80 (by decide) (fun h_80 => ?_) (fun h_80 => ?_)
    · refine z_iconst (v := 0) dX1_falls_87 (by decide) ?_
      exact z_ret dX1_falls_88 (by grind) (by rfl) rfl
    · refine z_iconst (v := 1) dX1_falls_83 (by decide) ?_
      refine z_goto 88 dX1_falls_84 (by decide) ?_
      exact z_ret dX1_falls_88 (by grind) (by rfl) rfl
  refine z_tableD 89 dX1_falls_13 (by have a2 := zt_ne (k := 2) (by decide) h_13_2; have a3 := zt_ne (k := 3) (by decide) h_13_3; have a4 := zt_ne (k := 4) (by decide) h_13_4; have a5 := zt_ne (k := 5) (by decide) h_13_5; have a6 := zt_ne (k := 6) (by decide) h_13_6; omega) (by decide) ?_
  refine z_iconst (v := 0) dX1_falls_89 (by decide) ?_
  exact z_ret dX1_falls_90 (by grind) (by rfl) rfl
theorem s_clearFor8 {p : Nat} {f : zN} (hR : PR c 8 n f) (hL : LW c f) (hv : vaF f n) (hp : p < n) (hd : 3 ≤ d) (hQ : ∀ g, Qf (cleF f p) (zup c 4 g)) : zCl l E ad mX1_clearFor d [.ref (ad 8), .int (nI p)] c Qf := by
  have hn6 := hv.2.1
  have eS : c 11 p = f (8 + 5 * p + 2) := (hR.2.2.2 p hp).2.2.1
  have eH : c 8 9 = f 0 := hR.2.2.1
  refine z_enter (own := RX1) [some (.ref (ad 8)), some (.int (nI p))] (by decide +kernel) rfl rfl rfl (Nat.le_of_ble_eq_true rfl) ?_
  refine z_aload_n (i := 0) dX1_clearFor_0 rfl rfl ?_
  refine z_getf dX1_clearFor_1 f_X1_38 (by first | decide | assumption | omega) rfl (by rfl) ?_
  refine z_aload_n (i := 0) dX1_clearFor_4 rfl rfl ?_
  refine z_iload_n (i := 1) dX1_clearFor_5 rfl rfl ?_
  refine z_Vi (As := [_]) dX1_clearFor_6 (by rfl) v_X1_sees l_X1_49 (by first | decide | assumption | omega) rfl rfl rfl (by omega) (by decide) (Nat.le_of_ble_eq_true rfl) ?_
  refine s_sees8 hR hv hp (by omega) ?_
  refine z_aload_n (i := 0) dX1_clearFor_9 rfl rfl ?_
  refine z_getf dX1_clearFor_10 f_X1_18 (by first | decide | assumption | omega) rfl (by rfl) ?_
  refine z_iload_n (i := 1) dX1_clearFor_13 rfl rfl ?_
  refine z_iald (j := p) dX1_clearFor_14 (by first | decide | assumption | omega) rfl (by rfl) (by first | decide | omega) (by first | decide | omega) ?_
  rw [eS]
  refine z_aload_n (i := 0) dX1_clearFor_15 rfl rfl ?_
  refine z_getf dX1_clearFor_16 f_X1_35 (by first | decide | assumption | omega) rfl (by rfl) ?_
  rw [eH]
  refine z_bipush (v := 24) dX1_clearFor_19 (by decide) ?_
  refine z_irem dX1_clearFor_21 (by first | decide | assumption) ?_
  refine z_Vi (As := [_, _, _]) dX1_clearFor_22 (by rfl) v_X0_gives l_X1_53 (by first | decide | assumption | omega) rfl rfl rfl (by omega) (by decide) (Nat.le_of_ble_eq_true rfl) ?_
  refine s_gives2 hL.1 hL.2.2.1 hv.2.2.1 (by omega) (fun g => ?_)
  exact z_ret dX1_clearFor_25 (by have := hQ g; unfold cleF at this; unfold lawF; rw [if_pos rfl]; exact this) trivial rfl
theorem s_paceOf8 {p : Nat} {x : Int32} {f : zN} (hR : PR c 8 n f) (hL : LW c f) (hv : vaF f n) (hp : p < n) (hd : 3 ≤ d) (hQ : ∀ g, Qf (paF f x (f (8 + 5 * p + 1)) (f (8 + 5 * p))) (zup c 7 g)) : zCl l E ad mX1_paceOf d [.ref (ad 8), .int (nI p), .int x] c Qf := by
  have hn6 := hv.2.1
  have eK : c 9 p = f (8 + 5 * p) := (hR.2.2.2 p hp).1
  have eN : c 10 p = f (8 + 5 * p + 1) := (hR.2.2.2 p hp).2.1
  refine z_enter (own := RX1) [some (.ref (ad 8)), some (.int (nI p)), some (.int x)] (by decide +kernel) rfl rfl rfl (Nat.le_of_ble_eq_true rfl) ?_
  refine z_aload_n (i := 0) dX1_paceOf_0 rfl rfl ?_
  refine z_getf dX1_paceOf_1 f_X1_42 (by first | decide | assumption | omega) rfl (by rfl) ?_
  refine z_iload_n (i := 2) dX1_paceOf_4 rfl rfl ?_
  refine z_aload_n (i := 0) dX1_paceOf_5 rfl rfl ?_
  refine z_getf dX1_paceOf_6 f_X1_15 (by first | decide | assumption | omega) rfl (by rfl) ?_
  refine z_iload_n (i := 1) dX1_paceOf_9 rfl rfl ?_
  refine z_iald (j := p) dX1_paceOf_10 (by first | decide | assumption | omega) rfl (by rfl) (by first | decide | omega) (by first | decide | omega) ?_
  rw [eN]
  refine z_aload_n (i := 0) dX1_paceOf_11 rfl rfl ?_
  refine z_getf dX1_paceOf_12 f_X1_9 (by first | decide | assumption | omega) rfl (by rfl) ?_
  refine z_iload_n (i := 1) dX1_paceOf_15 rfl rfl ?_
  refine z_iald (j := p) dX1_paceOf_16 (by first | decide | assumption | omega) rfl (by rfl) (by first | decide | omega) (by first | decide | omega) ?_
  rw [eK]
  refine z_Vi (As := [_, _, _]) dX1_paceOf_17 (by rfl) v_X0_gives l_X1_53 (by first | decide | assumption | omega) rfl rfl rfl (by omega) (by decide) (Nat.le_of_ble_eq_true rfl) ?_
  refine s_gives5 hL.2.1 hL.2.2.2 hv.2.2.2 (by omega) (fun g => ?_)
  exact z_ret dX1_paceOf_20 (by have := hQ g; unfold lawF; rw [if_neg (show ¬ (1 : Nat) = 0 by decide)]; exact this) trivial rfl
theorem s_goes8 {p s : Nat} {fb : Bool} {f : zN} (hR : PR c 8 n f) (hn6 : n ≤ 6) (hp : p < n) (hs : s ≤ 20) (hl : f (8 + 5 * p + 4) = 0) (hQ : ∀ c', PR c' 8 n (wkF p fb s f) → (∀ k, k ≠ 12 → k ≠ 13 → c' k = c k) → Qf 0 c') : zCl l E ad mX1_goes d [.ref (ad 8), .int (nI p), .int (nI s), .int (if fb = true then 1 else 0)] c Qf := by
  refine z_enter (own := RX1) [some (.ref (ad 8)), some (.int (nI p)), some (.int (nI s)), some (.int (if fb = true then 1 else 0)), none, none] (by decide +kernel) rfl rfl rfl (Nat.le_of_ble_eq_true rfl) ?_
  have loop : ∀ (r i : Nat) (F : zN) (c1 : zS) (x5 : Option Value), s - i < r → i ≤ s → PR c1 8 n F → F (8 + 5 * p + 4) = 0 → (∀ k, k ≠ 12 → k ≠ 13 → c1 k = c k) → (∀ c', PR c' 8 n (wkF p fb (s - i) F) → (∀ k, k ≠ 12 → k ≠ 13 → c' k = c k) → Qf 0 c') → zW l E ad RX1 cX1_goes 6 0 d Qf 3 [some (.ref (ad 8)), some (.int (nI p)), some (.int (nI s)), some (.int (if fb = true then 1 else 0)), some (.int (nI i)), x5] [] c1 := by
    intro r
    induction r with
    | zero => intro i F c1 x5 h; omega
    | succ r ih =>
      intro i F c1 x5 hr hi hR1 hl1 hf hq
      have hlt := nI_leI (a := s) (b := i) (by omega) (by omega)
      have eA : c1 12 p = F (8 + 5 * p + 3) := (hR1.2.2.2 p hp).2.2.2.1
      have eD : c1 8 8 = F 1 := hR1.2.1
      have hup : PR (zup c1 12 (upd (c1 12) p (c1 12 p + 1))) 8 n (upd F (8 + 5 * p + 3) (F (8 + 5 * p + 3) + 1)) := by
        rw [eA]
        exact PR_up 3 hR1 (by omega)
      have cut45 : ∀ x : Int32, i < s → F (8 + 5 * p + 3) < 15 → x = (if (F 1 >>> ((F (8 + 5 * p + 3) + 1) &&& 31)) &&& 1 = 1 then 1 else 0) → zW l E ad RX1 cX1_goes 6 0 d Qf 45 [some (.ref (ad 8)), some (.int (nI p)), some (.int (nI s)), some (.int (if fb = true then 1 else 0)), some (.int (nI i)), some (.int x)] [] c1 := by
        intro x his h15 hx
        obtain ⟨t, et⟩ : ∃ t, s - i = t + 1 := ⟨s - i - 1, by omega⟩
        rw [et] at hq
        unfold wkF at hq
        rw [if_pos h15] at hq
        by_cases hD : (F 1 >>> ((F (8 + 5 * p + 3) + 1) &&& 31)) &&& 1 = 1
        · rw [if_pos hD] at hx hq
          subst hx
          refine z_iload (i := 5) dX1_goes_45 rfl ?_
          refine z_if_eq 55 dX1_goes_47 (by decide) (fun h_47 => ?_) (fun h_47 => ?_)
          · exact absurd h_47 (by decide)
          refine z_iload_n (i := 3) dX1_goes_50 rfl rfl ?_
          refine z_if_ne 55 dX1_goes_51 (by decide) (fun h_51 => ?_) (fun h_51 => ?_)
          · refine z_aload_n (i := 0) dX1_goes_55 rfl rfl ?_
            refine z_getf dX1_goes_56 f_X1_21 (by first | decide | assumption | omega) rfl (by rfl) ?_
            refine z_iload_n (i := 1) dX1_goes_59 rfl rfl ?_
            refine z_dup2 dX1_goes_60 rfl rfl ?_
            refine z_iald (j := p) dX1_goes_61 (by first | decide | assumption | omega) rfl (by rfl) (by first | decide | omega) (by first | decide | omega) ?_
            refine z_iconst (v := 1) dX1_goes_62 (by decide) ?_
            refine z_iadd dX1_goes_63 ?_
            refine z_iast (j := p) dX1_goes_64 (by first | decide | assumption | omega) (fun _ => rfl) (by rfl) (by first | decide | omega) (by first | decide | omega) ?_
            refine z_iload (i := 5) dX1_goes_65 rfl ?_
            refine z_if_eq 78 dX1_goes_67 (by decide) (fun h_67 => ?_) (fun h_67 => ?_)
            · exact absurd h_67 (by decide)
            refine z_aload_n (i := 0) dX1_goes_70 rfl rfl ?_
            refine z_getf dX1_goes_71 f_X1_24 (by first | decide | assumption | omega) rfl (by rfl) ?_
            refine z_iload_n (i := 1) dX1_goes_74 rfl rfl ?_
            refine z_iconst (v := 1) dX1_goes_75 (by decide) ?_
            refine z_zast (j := p) dX1_goes_76 (by first | decide | assumption | omega) (fun _ => rfl) (by rfl) (by first | decide | omega) (by first | decide | omega) rfl ?_
            rw [if_pos (Classical.byContradiction (fun w => h_51 (by rw [if_neg w])))] at hq
            exact z_ret (r := 0) dX1_goes_77 (hq _ (PR_up 4 hup (by omega)) (fun k a b => by rw [zup_n b, zup_n a]; exact hf k a b)) rfl rfl
          · rw [if_neg (fun w => by rw [if_pos w] at h_51; revert h_51; decide)] at hq
            exact z_ret (r := 0) dX1_goes_54 (hq c1 hR1 hf) rfl rfl
        · rw [if_neg hD] at hx hq
          subst hx
          rw [upd_id (f := upd F (8 + 5 * p + 3) (F (8 + 5 * p + 3) + 1)) (i := 8 + 5 * p + 4) (by rw [pk_un (by omega)]; exact hl1)] at hq
          refine z_iload (i := 5) dX1_goes_45 rfl ?_
          refine z_if_eq 55 dX1_goes_47 (by decide) (fun h_47 => ?_) (fun h_47 => ?_)
          rotate_left
          · exact absurd rfl h_47
          refine z_aload_n (i := 0) dX1_goes_55 rfl rfl ?_
          refine z_getf dX1_goes_56 f_X1_21 (by first | decide | assumption | omega) rfl (by rfl) ?_
          refine z_iload_n (i := 1) dX1_goes_59 rfl rfl ?_
          refine z_dup2 dX1_goes_60 rfl rfl ?_
          refine z_iald (j := p) dX1_goes_61 (by first | decide | assumption | omega) rfl (by rfl) (by first | decide | omega) (by first | decide | omega) ?_
          refine z_iconst (v := 1) dX1_goes_62 (by decide) ?_
          refine z_iadd dX1_goes_63 ?_
          refine z_iast (j := p) dX1_goes_64 (by first | decide | assumption | omega) (fun _ => rfl) (by rfl) (by first | decide | omega) (by first | decide | omega) ?_
          refine z_iload (i := 5) dX1_goes_65 rfl ?_
          refine z_if_eq 78 dX1_goes_67 (by decide) (fun h_67 => ?_) (fun h_67 => ?_)
          rotate_left
          · exact absurd rfl h_67
          refine z_iinc (i := 4) (v := 1) [_, _, _, _, _, _] dX1_goes_78 rfl (by decide) (by decide) rfl rfl ?_
          refine z_goto 3 dX1_goes_81 (by decide) ?_
          rw [nI_1]
          refine ih (i + 1) _ _ _ (by omega) (by omega) hup (by rw [pk_un (by omega)]; exact hl1) (fun k a b => by rw [zup_n a]; exact hf k a b) ?_
          rw [show s - (i + 1) = t by omega]
          exact hq
      refine z_iload (i := 4) dX1_goes_3 rfl ?_
      refine z_iload_n (i := 2) dX1_goes_5 rfl rfl ?_
      refine z_icmp_ge 84 dX1_goes_6 (by decide) (fun h_6 => ?_) (fun h_6 => ?_)
      · first
        | (have his : i = s := by have := hlt.mp h_6; omega
           subst his
           rw [Nat.sub_self] at hq
           exact z_ret (r := 0) dX1_goes_84 (hq c1 hR1 hf) rfl rfl)
        | (obtain ⟨t, et⟩ : ∃ t, s - i = t + 1 := ⟨s - i - 1, by omega⟩
           rw [et] at hq
           unfold wkF at hq
           rw [if_neg (by grind)] at hq
           exact z_ret (r := 0) dX1_goes_84 (hq c1 hR1 hf) rfl rfl)
      · have his : i < s := by have := mt hlt.mpr h_6; omega
        refine z_aload_n (i := 0) dX1_goes_9 rfl rfl ?_
        refine z_getf dX1_goes_10 f_X1_21 (by first | decide | assumption | omega) rfl (by rfl) ?_
        refine z_iload_n (i := 1) dX1_goes_13 rfl rfl ?_
        refine z_iald (j := p) dX1_goes_14 (by first | decide | assumption | omega) rfl (by rfl) (by first | decide | omega) (by first | decide | omega) ?_
        rw [eA]
        refine z_bipush (v := 15) dX1_goes_15 (by decide) ?_
        refine z_icmp_ge 84 dX1_goes_17 (by decide) (fun h_17 => ?_) (fun h_17 => ?_)
        · first
          | (have his : i = s := by have := hlt.mp h_6; omega
             subst his
             rw [Nat.sub_self] at hq
             exact z_ret (r := 0) dX1_goes_84 (hq c1 hR1 hf) rfl rfl)
          | (obtain ⟨t, et⟩ : ∃ t, s - i = t + 1 := ⟨s - i - 1, by omega⟩
             rw [et] at hq
             unfold wkF at hq
             rw [if_neg (by grind)] at hq
             exact z_ret (r := 0) dX1_goes_84 (hq c1 hR1 hf) rfl rfl)
        · refine z_aload_n (i := 0) dX1_goes_20 rfl rfl ?_
          refine z_getf dX1_goes_21 f_X1_32 (by first | decide | assumption | omega) rfl (by rfl) ?_
          rw [eD]
          refine z_aload_n (i := 0) dX1_goes_24 rfl rfl ?_
          refine z_getf dX1_goes_25 f_X1_21 (by first | decide | assumption | omega) rfl (by rfl) ?_
          refine z_iload_n (i := 1) dX1_goes_28 rfl rfl ?_
          refine z_iald (j := p) dX1_goes_29 (by first | decide | assumption | omega) rfl (by rfl) (by first | decide | omega) (by first | decide | omega) ?_
          rw [eA]
          refine z_iconst (v := 1) dX1_goes_30 (by decide) ?_
          refine z_iadd dX1_goes_31 ?_
          refine z_ishr dX1_goes_32 ?_
          refine z_iconst (v := 1) dX1_goes_33 (by decide) ?_
          refine z_iand dX1_goes_34 ?_
          refine z_if_eq 42 dX1_goes_35 (by decide) (fun h_35 => ?_) (fun h_35 => ?_)
          · refine z_iconst (v := 0) dX1_goes_42 (by decide) ?_
            refine z_istore (i := 5) [_, _, _, _, _, _] dX1_goes_43 (by decide) rfl rfl ?_
            first
            | (refine cut45 _ his (by grind) ?_
               rw [if_neg (fun w => by rw [w] at h_35; revert h_35; decide)])
            | (refine cut45 _ his (by grind) ?_
               rw [if_pos ((and1 _).resolve_left h_35)])
          · refine z_iconst (v := 1) dX1_goes_38 (by decide) ?_
            refine z_goto 43 dX1_goes_39 (by decide) ?_
            refine z_istore (i := 5) [_, _, _, _, _, _] dX1_goes_43 (by decide) rfl rfl ?_
            first
            | (refine cut45 _ his (by grind) ?_
               rw [if_neg (fun w => by rw [w] at h_35; revert h_35; decide)])
            | (refine cut45 _ his (by grind) ?_
               rw [if_pos ((and1 _).resolve_left h_35)])
  refine z_iconst (v := 0) dX1_goes_0 (by decide) ?_
  refine z_istore (i := 4) [_, _, _, _, _, _] dX1_goes_1 (by decide) rfl rfl ?_
  exact loop (s + 1) 0 f c none (by omega) (by omega) hR hl (fun _ _ _ => rfl) hQ
theorem s_stands34 {p : Nat} {v : Int32} {f : zN} (hR : PR c 34 n f) (hn6 : n ≤ 6) (hp : p < 6) (hQ : ∀ c', PR c' 34 n (upd (upd f (8 + 5 * p + 3) v) (8 + 5 * p + 4) 0) → (∀ k, k ≠ 38 → k ≠ 39 → c' k = c k) → Qf 0 c') : zCl l E ad mX1_stands d [.ref (ad 34), .int (nI p), .int v] c Qf := by
  refine z_enter (own := RX1) [some (.ref (ad 34)), some (.int (nI p)), some (.int v)] (by decide +kernel) rfl rfl rfl (Nat.le_of_ble_eq_true rfl) ?_
  refine z_aload_n (i := 0) dX1_stands_0 rfl rfl ?_
  refine z_getf dX1_stands_1 f_X1_21 (by first | decide | assumption | omega) rfl (by rfl) ?_
  refine z_iload_n (i := 1) dX1_stands_4 rfl rfl ?_
  refine z_iload_n (i := 2) dX1_stands_5 rfl rfl ?_
  refine z_iast (j := p) dX1_stands_6 (by first | decide | assumption | omega) (fun _ => rfl) (by rfl) (by first | decide | omega) (by first | decide | omega) ?_
  refine z_aload_n (i := 0) dX1_stands_7 rfl rfl ?_
  refine z_getf dX1_stands_8 f_X1_24 (by first | decide | assumption | omega) rfl (by rfl) ?_
  refine z_iload_n (i := 1) dX1_stands_11 rfl rfl ?_
  refine z_iconst (v := 0) dX1_stands_12 (by decide) ?_
  refine z_zast (j := p) dX1_stands_13 (by first | decide | assumption | omega) (fun _ => rfl) (by rfl) (by first | decide | omega) (by first | decide | omega) rfl ?_
  exact z_ret (r := 0) dX1_stands_14 (hQ _ (PR_up 4 (PR_up 3 hR (by omega)) (by omega)) (fun k a b => by rw [zup_n b, zup_n a])) rfl rfl
theorem s_together34 {p : Nat} {f : zN} (hR : PR c 34 n f) (hn6 : n ≤ 6) (hp : p < n) (hQ : Qf (togN f p n) c) : zCl l E ad mX1_together d [.ref (ad 34), .int (nI p)] c Qf := by
  have hP := hR.2.2.2
  refine z_enter (own := RX1) [some (.ref (ad 34)), some (.int (nI p)), none, none] (by decide +kernel) rfl rfl rfl (Nat.le_of_ble_eq_true rfl) ?_
  have loop : ∀ (r i : Nat), n - i < r → i ≤ n → zW l E ad RX1 cX1_together 4 1 d Qf 4 [some (.ref (ad 34)), some (.int (nI p)), some (.int (togN f p i)), some (.int (nI i))] [] c := by
    intro r
    induction r with
    | zero => intro i h; omega
    | succ r ih =>
      intro i hr hi
      have hlt := nI_leI (a := n) (b := i) (by omega) (by omega)
      have hip := nI_eq (a := i) (b := p) (by omega) (by omega)
      have cut44 : ∀ x : Int32, i < n → x = togN f p (i + 1) → zW l E ad RX1 cX1_together 4 1 d Qf 44 [some (.ref (ad 34)), some (.int (nI p)), some (.int x), some (.int (nI i))] [] c := by
        intro x hin hx
        refine z_iinc (i := 3) (v := 1) [_, _, _, _] dX1_together_44 rfl (by decide) (by decide) rfl rfl ?_
        refine z_goto 4 dX1_together_47 (by decide) ?_
        rw [nI_1, hx]
        exact ih (i + 1) (by omega) (by omega)
      refine z_iload_n (i := 3) dX1_together_4 rfl rfl ?_
      refine z_aload_n (i := 0) dX1_together_5 rfl rfl ?_
      refine z_getf dX1_together_6 f_X1_28 (by first | decide | assumption | omega) rfl (by rfl) ?_
      refine z_icmp_ge 50 dX1_together_9 (by decide) (fun h_9 => ?_) (fun h_9 => ?_)
      · refine z_iload_n (i := 2) dX1_together_50 rfl rfl ?_
        have hin : i = n := by rw [hR.1] at h_9; have := hlt.mp h_9; omega
        subst hin
        exact z_ret dX1_together_51 hQ trivial rfl
      · have hin : i < n := by rw [hR.1] at h_9; have := mt hlt.mpr h_9; omega
        refine z_iload_n (i := 3) dX1_together_12 rfl rfl ?_
        refine z_iload_n (i := 1) dX1_together_13 rfl rfl ?_
        refine z_icmp_eq 44 dX1_together_14 (by decide) (fun h_14 => ?_) (fun h_14 => ?_)
        · first
          | (refine cut44 _ hin ?_
             have e1 : c 38 i = f (8 + 5 * i + 3) := (hP i hin).2.2.2.1
             have e2 : c 39 i = f (8 + 5 * i + 4) := (hP i hin).2.2.2.2
             have e3 : c 38 p = f (8 + 5 * p + 3) := (hP p hp).2.2.2.1
             simp only [togN]
             grind)
        · refine z_aload_n (i := 0) dX1_together_17 rfl rfl ?_
          refine z_getf dX1_together_18 f_X1_21 (by first | decide | assumption | omega) rfl (by rfl) ?_
          refine z_iload_n (i := 3) dX1_together_21 rfl rfl ?_
          refine z_iald (j := i) dX1_together_22 (by first | decide | assumption | omega) rfl (by rfl) (by first | decide | omega) (by first | decide | omega) ?_
          refine z_aload_n (i := 0) dX1_together_23 rfl rfl ?_
          refine z_getf dX1_together_24 f_X1_21 (by first | decide | assumption | omega) rfl (by rfl) ?_
          refine z_iload_n (i := 1) dX1_together_27 rfl rfl ?_
          refine z_iald (j := p) dX1_together_28 (by first | decide | assumption | omega) rfl (by rfl) (by first | decide | omega) (by first | decide | omega) ?_
          refine z_icmp_ne 44 dX1_together_29 (by decide) (fun h_29 => ?_) (fun h_29 => ?_)
          · first
            | (refine cut44 _ hin ?_
               have e1 : c 38 i = f (8 + 5 * i + 3) := (hP i hin).2.2.2.1
               have e2 : c 39 i = f (8 + 5 * i + 4) := (hP i hin).2.2.2.2
               have e3 : c 38 p = f (8 + 5 * p + 3) := (hP p hp).2.2.2.1
               simp only [togN]
               grind)
          · refine z_aload_n (i := 0) dX1_together_32 rfl rfl ?_
            refine z_getf dX1_together_33 f_X1_24 (by first | decide | assumption | omega) rfl (by rfl) ?_
            refine z_iload_n (i := 3) dX1_together_36 rfl rfl ?_
            refine z_zald (j := i) dX1_together_37 (by first | decide | assumption | omega) rfl (by rfl) (by first | decide | omega) (by first | decide | omega) ?_
            refine z_if_ne 44 dX1_together_38 (by decide) (fun h_38 => ?_) (fun h_38 => ?_)
            · first
              | (refine cut44 _ hin ?_
                 have e1 : c 38 i = f (8 + 5 * i + 3) := (hP i hin).2.2.2.1
                 have e2 : c 39 i = f (8 + 5 * i + 4) := (hP i hin).2.2.2.2
                 have e3 : c 38 p = f (8 + 5 * p + 3) := (hP p hp).2.2.2.1
                 simp only [togN]
                 grind)
            · refine z_iinc (i := 2) (v := 1) [_, _, _, _] dX1_together_41 rfl (by decide) (by decide) rfl rfl ?_
              first
              | (refine cut44 _ hin ?_
                 have e1 : c 38 i = f (8 + 5 * i + 3) := (hP i hin).2.2.2.1
                 have e2 : c 39 i = f (8 + 5 * i + 4) := (hP i hin).2.2.2.2
                 have e3 : c 38 p = f (8 + 5 * p + 3) := (hP p hp).2.2.2.1
                 simp only [togN]
                 grind)
  refine z_iconst (v := 0) dX1_together_0 (by decide) ?_
  refine z_istore_n (i := 2) [_, _, _, _] dX1_together_1 rfl (by decide) rfl rfl ?_
  refine z_iconst (v := 0) dX1_together_2 (by decide) ?_
  refine z_istore_n (i := 3) [_, _, _, _] dX1_together_3 rfl (by decide) rfl rfl ?_
  exact loop (n + 1) 0 (by omega) (by omega)
theorem s_sees34 {p : Nat} {f : zN} (hR : PR c 34 n f) (hv : vaF f n) (hp : p < n) (hd : 1 ≤ d) (hQ : Qf (seF f p) c) : zCl l E ad mX1_sees d [.ref (ad 34), .int (nI p)] c Qf := by
  have hn6 := hv.2.1
  have hpn : pn (f 5) = n := by rw [hv.1]; exact pn_nI (by omega)
  have eK : c 35 p = f (8 + 5 * p) := (hR.2.2.2 p hp).1
  have eN : c 36 p = f (8 + 5 * p + 1) := (hR.2.2.2 p hp).2.1
  have eS : c 37 p = f (8 + 5 * p + 2) := (hR.2.2.2 p hp).2.2.1
  have eH : c 34 9 = f 0 := hR.2.2.1
  unfold seF at hQ
  rw [hpn] at hQ
  dsimp only at hQ
  refine z_enter (own := RX1) [some (.ref (ad 34)), some (.int (nI p)), none, none] (by decide +kernel) rfl rfl rfl (Nat.le_of_ble_eq_true rfl) ?_
  refine z_aload_n (i := 0) dX1_sees_0 rfl rfl ?_
  refine z_getf dX1_sees_1 f_X1_18 (by first | decide | assumption | omega) rfl (by rfl) ?_
  refine z_iload_n (i := 1) dX1_sees_4 rfl rfl ?_
  refine z_iald (j := p) dX1_sees_5 (by first | decide | assumption | omega) rfl (by rfl) (by first | decide | omega) (by first | decide | omega) ?_
  rw [eS]
  refine z_bipush (v := 10) dX1_sees_6 (by decide) ?_
  refine z_idiv dX1_sees_8 (by first | decide | assumption) ?_
  refine z_istore_n (i := 2) [_, _, _, _] dX1_sees_9 rfl (by decide) rfl rfl ?_
  refine z_aload_n (i := 0) dX1_sees_10 rfl rfl ?_
  refine z_getf dX1_sees_11 f_X1_15 (by first | decide | assumption | omega) rfl (by rfl) ?_
  refine z_iload_n (i := 1) dX1_sees_14 rfl rfl ?_
  refine z_iald (j := p) dX1_sees_15 (by first | decide | assumption | omega) rfl (by rfl) (by first | decide | omega) (by first | decide | omega) ?_
  rw [eN]
  refine z_istore_n (i := 3) [_, _, _, _] dX1_sees_16 rfl (by decide) rfl rfl ?_
  refine z_aload_n (i := 0) dX1_sees_17 rfl rfl ?_
  refine z_getf dX1_sees_18 f_X1_9 (by first | decide | assumption | omega) rfl (by rfl) ?_
  refine z_iload_n (i := 1) dX1_sees_21 rfl rfl ?_
  refine z_iald (j := p) dX1_sees_22 (by first | decide | assumption | omega) rfl (by rfl) (by first | decide | omega) (by first | decide | omega) ?_
  rw [eK]
  by_cases h_23_1 : f (8 + 5 * p) = 1
  · refine z_table (v := 1) 60 dX1_sees_23 h_23_1 (by decide) (by decide) rfl (by decide) ?_
    refine z_iload_n (i := 2) dX1_sees_60 rfl rfl ?_
    refine z_iconst (v := 2) dX1_sees_61 (by decide) ?_
    refine z_idiv dX1_sees_62 (by first | decide | assumption) ?_
    first
    | exact z_ret dX1_sees_63 (by grind) trivial rfl
    | (have e3 := d3 (f (8 + 5 * p + 2) / 10)
       exact z_ret dX1_sees_63 (by grind) trivial rfl)
  by_cases h_23_2 : f (8 + 5 * p) = 2
  · refine z_table (v := 2) 64 dX1_sees_23 h_23_2 (by decide) (by decide) rfl (by decide) ?_
    refine z_iload_n (i := 2) dX1_sees_64 rfl rfl ?_
    refine z_iconst (v := 3) dX1_sees_65 (by decide) ?_
    refine z_icmp_ge 73 dX1_sees_66 (by decide) (fun h_66 => ?_) (fun h_66 => ?_)
    · refine z_iload_n (i := 2) dX1_sees_73 rfl rfl ?_
      refine z_iconst (v := 3) dX1_sees_74 (by decide) ?_
      refine z_isub dX1_sees_75 ?_
      first
      | exact z_ret dX1_sees_76 (by grind) trivial rfl
      | (have e3 := d3 (f (8 + 5 * p + 2) / 10)
         exact z_ret dX1_sees_76 (by grind) trivial rfl)
    · refine z_iconst (v := 0) dX1_sees_69 (by decide) ?_
      refine z_goto 76 dX1_sees_70 (by decide) ?_
      first
      | exact z_ret dX1_sees_76 (by grind) trivial rfl
      | (have e3 := d3 (f (8 + 5 * p + 2) / 10)
         exact z_ret dX1_sees_76 (by grind) trivial rfl)
  by_cases h_23_3 : f (8 + 5 * p) = 3
  · refine z_table (v := 3) 77 dX1_sees_23 h_23_3 (by decide) (by decide) rfl (by decide) ?_
    refine z_bipush (v := 9) dX1_sees_77 (by decide) ?_
    refine z_iload_n (i := 3) dX1_sees_79 rfl rfl ?_
    refine z_iadd dX1_sees_80 ?_
    first
    | exact z_ret dX1_sees_81 (by grind) trivial rfl
    | (have e3 := d3 (f (8 + 5 * p + 2) / 10)
       exact z_ret dX1_sees_81 (by grind) trivial rfl)
  by_cases h_23_4 : f (8 + 5 * p) = 4
  · refine z_table (v := 4) 82 dX1_sees_23 h_23_4 (by decide) (by decide) rfl (by decide) ?_
    refine z_iload_n (i := 2) dX1_sees_82 rfl rfl ?_
    refine z_iconst (v := 2) dX1_sees_83 (by decide) ?_
    refine z_idiv dX1_sees_84 (by first | decide | assumption) ?_
    refine z_aload_n (i := 0) dX1_sees_85 rfl rfl ?_
    refine z_iload_n (i := 1) dX1_sees_86 rfl rfl ?_
    refine z_Vi (As := [_]) dX1_sees_87 (by rfl) v_X1_together l_X1_59 (by first | decide | assumption | omega) rfl rfl rfl (by omega) (by decide) (Nat.le_of_ble_eq_true rfl) ?_
    refine s_together34 hR hn6 hp ?_
    refine z_iadd dX1_sees_90 ?_
    first
    | exact z_ret dX1_sees_91 (by grind) trivial rfl
    | (have e3 := d3 (f (8 + 5 * p + 2) / 10)
       exact z_ret dX1_sees_91 (by grind) trivial rfl)
  by_cases h_23_5 : f (8 + 5 * p) = 5
  · refine z_table (v := 5) 92 dX1_sees_23 h_23_5 (by decide) (by decide) rfl (by decide) ?_
    refine z_iconst (v := 1) dX1_sees_92 (by decide) ?_
    refine z_iload_n (i := 3) dX1_sees_93 rfl rfl ?_
    refine z_iconst (v := 2) dX1_sees_94 (by decide) ?_
    refine z_irem dX1_sees_95 (by first | decide | assumption) ?_
    refine z_iadd dX1_sees_96 ?_
    first
    | exact z_ret dX1_sees_97 (by grind) trivial rfl
    | (have e3 := d3 (f (8 + 5 * p + 2) / 10)
       exact z_ret dX1_sees_97 (by grind) trivial rfl)
  by_cases h_23_6 : f (8 + 5 * p) = 6
  · refine z_table (v := 6) 98 dX1_sees_23 h_23_6 (by decide) (by decide) rfl (by decide) ?_
    refine z_iload_n (i := 2) dX1_sees_98 rfl rfl ?_
    refine z_aload_n (i := 0) dX1_sees_99 rfl rfl ?_
    refine z_getf dX1_sees_100 f_X1_35 (by first | decide | assumption | omega) rfl (by rfl) ?_
    rw [eH]
    refine z_iconst (v := 5) dX1_sees_103 (by decide) ?_
    refine z_irem dX1_sees_104 (by first | decide | assumption) ?_
    refine z_iadd dX1_sees_105 ?_
    first
    | exact z_ret dX1_sees_106 (by grind) trivial rfl
    | (have e3 := d3 (f (8 + 5 * p + 2) / 10)
       exact z_ret dX1_sees_106 (by grind) trivial rfl)
  refine z_tableD 107 dX1_sees_23 (by have a1 := zt_ne (k := 1) (by decide) h_23_1; have a2 := zt_ne (k := 2) (by decide) h_23_2; have a3 := zt_ne (k := 3) (by decide) h_23_3; have a4 := zt_ne (k := 4) (by decide) h_23_4; have a5 := zt_ne (k := 5) (by decide) h_23_5; have a6 := zt_ne (k := 6) (by decide) h_23_6; omega) (by decide) ?_
  refine z_iload_n (i := 2) dX1_sees_107 rfl rfl ?_
  first
  | exact z_ret dX1_sees_108 (by grind) trivial rfl
  | (have e3 := d3 (f (8 + 5 * p + 2) / 10)
     exact z_ret dX1_sees_108 (by grind) trivial rfl)
theorem s_falls34 {p : Nat} {f : zN} (hR : PR c 34 n f) (hn6 : n ≤ 6) (hp : p < n) (hQ : Qf (if faF f p = true then 1 else 0) c) : zCl l E ad mX1_falls d [.ref (ad 34), .int (nI p)] c Qf := by
  have eK : c 35 p = f (8 + 5 * p) := (hR.2.2.2 p hp).1
  have eN : c 36 p = f (8 + 5 * p + 1) := (hR.2.2.2 p hp).2.1
  have eS : c 37 p = f (8 + 5 * p + 2) := (hR.2.2.2 p hp).2.2.1
  have eH : c 34 9 = f 0 := hR.2.2.1
  unfold faF at hQ
  dsimp only at hQ
  refine z_enter (own := RX1) [some (.ref (ad 34)), some (.int (nI p)), none] (by decide +kernel) rfl rfl rfl (Nat.le_of_ble_eq_true rfl) ?_
  refine z_aload_n (i := 0) dX1_falls_0 rfl rfl ?_
  refine z_getf dX1_falls_1 f_X1_15 (by first | decide | assumption | omega) rfl (by rfl) ?_
  refine z_iload_n (i := 1) dX1_falls_4 rfl rfl ?_
  refine z_iald (j := p) dX1_falls_5 (by first | decide | assumption | omega) rfl (by rfl) (by first | decide | omega) (by first | decide | omega) ?_
  rw [eN]
  refine z_istore_n (i := 2) [_, _, _] dX1_falls_6 rfl (by decide) rfl rfl ?_
  refine z_aload_n (i := 0) dX1_falls_7 rfl rfl ?_
  refine z_getf dX1_falls_8 f_X1_9 (by first | decide | assumption | omega) rfl (by rfl) ?_
  refine z_iload_n (i := 1) dX1_falls_11 rfl rfl ?_
  refine z_iald (j := p) dX1_falls_12 (by first | decide | assumption | omega) rfl (by rfl) (by first | decide | omega) (by first | decide | omega) ?_
  rw [eK]
  by_cases h_13_2 : f (8 + 5 * p) = 2
  · refine z_table (v := 2) 48 dX1_falls_13 h_13_2 (by decide) (by decide) rfl (by decide) ?_
    refine z_aload_n (i := 0) dX1_falls_48 rfl rfl ?_
    refine z_getf dX1_falls_49 f_X1_18 (by first | decide | assumption | omega) rfl (by rfl) ?_
    refine z_iload_n (i := 1) dX1_falls_52 rfl rfl ?_
    refine z_iald (j := p) dX1_falls_53 (by first | decide | assumption | omega) rfl (by rfl) (by first | decide | omega) (by first | decide | omega) ?_
    rw [eS]
    refine z_bipush (v := 10) dX1_falls_54 (by decide) ?_
    refine z_iload_n (i := 2) dX1_falls_56 rfl rfl ?_
    refine z_iadd dX1_falls_57 ?_
    refine z_icmp_ge 65 dX1_falls_58 (by decide) (fun h_58 => ?_) (fun h_58 => ?_)
    · refine z_iconst (v := 0) dX1_falls_65 (by decide) ?_
      exact z_ret dX1_falls_66 (by grind) (by rfl) rfl
    · refine z_iconst (v := 1) dX1_falls_61 (by decide) ?_
      refine z_goto 66 dX1_falls_62 (by decide) ?_
      exact z_ret dX1_falls_66 (by grind) (by rfl) rfl
  by_cases h_13_3 : f (8 + 5 * p) = 3
  · refine z_table (v := 3) 67 dX1_falls_13 h_13_3 (by decide) (by decide) rfl (by decide) ?_
    refine z_iconst (v := 1) dX1_falls_67 (by decide) ?_
    exact z_ret dX1_falls_68 (by grind) (by rfl) rfl
  by_cases h_13_4 : f (8 + 5 * p) = 4
  · refine z_table (v := 4) 89 dX1_falls_13 h_13_4 (by decide) (by decide) rfl (by decide) ?_
    refine z_iconst (v := 0) dX1_falls_89 (by decide) ?_
    exact z_ret dX1_falls_90 (by grind) (by rfl) rfl
  by_cases h_13_5 : f (8 + 5 * p) = 5
  · refine z_table (v := 5) 89 dX1_falls_13 h_13_5 (by decide) (by decide) rfl (by decide) ?_
    refine z_iconst (v := 0) dX1_falls_89 (by decide) ?_
    exact z_ret dX1_falls_90 (by grind) (by rfl) rfl
  by_cases h_13_6 : f (8 + 5 * p) = 6
  · refine z_table (v := 6) 69 dX1_falls_13 h_13_6 (by decide) (by decide) rfl (by decide) ?_
    refine z_aload_n (i := 0) dX1_falls_69 rfl rfl ?_
    refine z_getf dX1_falls_70 f_X1_35 (by first | decide | assumption | omega) rfl (by rfl) ?_
    rw [eH]
    refine z_bipush (v := 24) dX1_falls_73 (by decide) ?_
    refine z_irem dX1_falls_75 (by first | decide | assumption) ?_
    refine z_bipush (v := 20) dX1_falls_76 (by decide) ?_
    refine z_iload_n (i := 2) dX1_falls_78 rfl rfl ?_
    refine z_isub dX1_falls_79 ?_
    refine z_icmp_le 87 dX1_falls_80 (by decide) (fun h_80 => ?_) (fun h_80 => ?_)
    · refine z_iconst (v := 0) dX1_falls_87 (by decide) ?_
      exact z_ret dX1_falls_88 (by grind) (by rfl) rfl
    · refine z_iconst (v := 1) dX1_falls_83 (by decide) ?_
      refine z_goto 88 dX1_falls_84 (by decide) ?_
      exact z_ret dX1_falls_88 (by grind) (by rfl) rfl
  refine z_tableD 89 dX1_falls_13 (by have a2 := zt_ne (k := 2) (by decide) h_13_2; have a3 := zt_ne (k := 3) (by decide) h_13_3; have a4 := zt_ne (k := 4) (by decide) h_13_4; have a5 := zt_ne (k := 5) (by decide) h_13_5; have a6 := zt_ne (k := 6) (by decide) h_13_6; omega) (by decide) ?_
  refine z_iconst (v := 0) dX1_falls_89 (by decide) ?_
  exact z_ret dX1_falls_90 (by grind) (by rfl) rfl
theorem s_clearFor34 {p : Nat} {f : zN} (hR : PR c 34 n f) (hL : LW c f) (hv : vaF f n) (hp : p < n) (hd : 3 ≤ d) (hQ : ∀ g, Qf (cleF f p) (zup c 4 g)) : zCl l E ad mX1_clearFor d [.ref (ad 34), .int (nI p)] c Qf := by
  have hn6 := hv.2.1
  have eS : c 37 p = f (8 + 5 * p + 2) := (hR.2.2.2 p hp).2.2.1
  have eH : c 34 9 = f 0 := hR.2.2.1
  refine z_enter (own := RX1) [some (.ref (ad 34)), some (.int (nI p))] (by decide +kernel) rfl rfl rfl (Nat.le_of_ble_eq_true rfl) ?_
  refine z_aload_n (i := 0) dX1_clearFor_0 rfl rfl ?_
  refine z_getf dX1_clearFor_1 f_X1_38 (by first | decide | assumption | omega) rfl (by rfl) ?_
  refine z_aload_n (i := 0) dX1_clearFor_4 rfl rfl ?_
  refine z_iload_n (i := 1) dX1_clearFor_5 rfl rfl ?_
  refine z_Vi (As := [_]) dX1_clearFor_6 (by rfl) v_X1_sees l_X1_49 (by first | decide | assumption | omega) rfl rfl rfl (by omega) (by decide) (Nat.le_of_ble_eq_true rfl) ?_
  refine s_sees34 hR hv hp (by omega) ?_
  refine z_aload_n (i := 0) dX1_clearFor_9 rfl rfl ?_
  refine z_getf dX1_clearFor_10 f_X1_18 (by first | decide | assumption | omega) rfl (by rfl) ?_
  refine z_iload_n (i := 1) dX1_clearFor_13 rfl rfl ?_
  refine z_iald (j := p) dX1_clearFor_14 (by first | decide | assumption | omega) rfl (by rfl) (by first | decide | omega) (by first | decide | omega) ?_
  rw [eS]
  refine z_aload_n (i := 0) dX1_clearFor_15 rfl rfl ?_
  refine z_getf dX1_clearFor_16 f_X1_35 (by first | decide | assumption | omega) rfl (by rfl) ?_
  rw [eH]
  refine z_bipush (v := 24) dX1_clearFor_19 (by decide) ?_
  refine z_irem dX1_clearFor_21 (by first | decide | assumption) ?_
  refine z_Vi (As := [_, _, _]) dX1_clearFor_22 (by rfl) v_X0_gives l_X1_53 (by first | decide | assumption | omega) rfl rfl rfl (by omega) (by decide) (Nat.le_of_ble_eq_true rfl) ?_
  refine s_gives2 hL.1 hL.2.2.1 hv.2.2.1 (by omega) (fun g => ?_)
  exact z_ret dX1_clearFor_25 (by have := hQ g; unfold cleF at this; unfold lawF; rw [if_pos rfl]; exact this) trivial rfl
theorem s_paceOf34 {p : Nat} {x : Int32} {f : zN} (hR : PR c 34 n f) (hL : LW c f) (hv : vaF f n) (hp : p < n) (hd : 3 ≤ d) (hQ : ∀ g, Qf (paF f x (f (8 + 5 * p + 1)) (f (8 + 5 * p))) (zup c 7 g)) : zCl l E ad mX1_paceOf d [.ref (ad 34), .int (nI p), .int x] c Qf := by
  have hn6 := hv.2.1
  have eK : c 35 p = f (8 + 5 * p) := (hR.2.2.2 p hp).1
  have eN : c 36 p = f (8 + 5 * p + 1) := (hR.2.2.2 p hp).2.1
  refine z_enter (own := RX1) [some (.ref (ad 34)), some (.int (nI p)), some (.int x)] (by decide +kernel) rfl rfl rfl (Nat.le_of_ble_eq_true rfl) ?_
  refine z_aload_n (i := 0) dX1_paceOf_0 rfl rfl ?_
  refine z_getf dX1_paceOf_1 f_X1_42 (by first | decide | assumption | omega) rfl (by rfl) ?_
  refine z_iload_n (i := 2) dX1_paceOf_4 rfl rfl ?_
  refine z_aload_n (i := 0) dX1_paceOf_5 rfl rfl ?_
  refine z_getf dX1_paceOf_6 f_X1_15 (by first | decide | assumption | omega) rfl (by rfl) ?_
  refine z_iload_n (i := 1) dX1_paceOf_9 rfl rfl ?_
  refine z_iald (j := p) dX1_paceOf_10 (by first | decide | assumption | omega) rfl (by rfl) (by first | decide | omega) (by first | decide | omega) ?_
  rw [eN]
  refine z_aload_n (i := 0) dX1_paceOf_11 rfl rfl ?_
  refine z_getf dX1_paceOf_12 f_X1_9 (by first | decide | assumption | omega) rfl (by rfl) ?_
  refine z_iload_n (i := 1) dX1_paceOf_15 rfl rfl ?_
  refine z_iald (j := p) dX1_paceOf_16 (by first | decide | assumption | omega) rfl (by rfl) (by first | decide | omega) (by first | decide | omega) ?_
  rw [eK]
  refine z_Vi (As := [_, _, _]) dX1_paceOf_17 (by rfl) v_X0_gives l_X1_53 (by first | decide | assumption | omega) rfl rfl rfl (by omega) (by decide) (Nat.le_of_ble_eq_true rfl) ?_
  refine s_gives5 hL.2.1 hL.2.2.2 hv.2.2.2 (by omega) (fun g => ?_)
  exact z_ret dX1_paceOf_20 (by have := hQ g; unfold lawF; rw [if_neg (show ¬ (1 : Nat) = 0 by decide)]; exact this) trivial rfl
theorem s_goes34 {p s : Nat} {fb : Bool} {f : zN} (hR : PR c 34 n f) (hn6 : n ≤ 6) (hp : p < n) (hs : s ≤ 20) (hl : f (8 + 5 * p + 4) = 0) (hQ : ∀ c', PR c' 34 n (wkF p fb s f) → (∀ k, k ≠ 38 → k ≠ 39 → c' k = c k) → Qf 0 c') : zCl l E ad mX1_goes d [.ref (ad 34), .int (nI p), .int (nI s), .int (if fb = true then 1 else 0)] c Qf := by
  refine z_enter (own := RX1) [some (.ref (ad 34)), some (.int (nI p)), some (.int (nI s)), some (.int (if fb = true then 1 else 0)), none, none] (by decide +kernel) rfl rfl rfl (Nat.le_of_ble_eq_true rfl) ?_
  have loop : ∀ (r i : Nat) (F : zN) (c1 : zS) (x5 : Option Value), s - i < r → i ≤ s → PR c1 34 n F → F (8 + 5 * p + 4) = 0 → (∀ k, k ≠ 38 → k ≠ 39 → c1 k = c k) → (∀ c', PR c' 34 n (wkF p fb (s - i) F) → (∀ k, k ≠ 38 → k ≠ 39 → c' k = c k) → Qf 0 c') → zW l E ad RX1 cX1_goes 6 0 d Qf 3 [some (.ref (ad 34)), some (.int (nI p)), some (.int (nI s)), some (.int (if fb = true then 1 else 0)), some (.int (nI i)), x5] [] c1 := by
    intro r
    induction r with
    | zero => intro i F c1 x5 h; omega
    | succ r ih =>
      intro i F c1 x5 hr hi hR1 hl1 hf hq
      have hlt := nI_leI (a := s) (b := i) (by omega) (by omega)
      have eA : c1 38 p = F (8 + 5 * p + 3) := (hR1.2.2.2 p hp).2.2.2.1
      have eD : c1 34 8 = F 1 := hR1.2.1
      have hup : PR (zup c1 38 (upd (c1 38) p (c1 38 p + 1))) 34 n (upd F (8 + 5 * p + 3) (F (8 + 5 * p + 3) + 1)) := by
        rw [eA]
        exact PR_up 3 hR1 (by omega)
      have cut45 : ∀ x : Int32, i < s → F (8 + 5 * p + 3) < 15 → x = (if (F 1 >>> ((F (8 + 5 * p + 3) + 1) &&& 31)) &&& 1 = 1 then 1 else 0) → zW l E ad RX1 cX1_goes 6 0 d Qf 45 [some (.ref (ad 34)), some (.int (nI p)), some (.int (nI s)), some (.int (if fb = true then 1 else 0)), some (.int (nI i)), some (.int x)] [] c1 := by
        intro x his h15 hx
        obtain ⟨t, et⟩ : ∃ t, s - i = t + 1 := ⟨s - i - 1, by omega⟩
        rw [et] at hq
        unfold wkF at hq
        rw [if_pos h15] at hq
        by_cases hD : (F 1 >>> ((F (8 + 5 * p + 3) + 1) &&& 31)) &&& 1 = 1
        · rw [if_pos hD] at hx hq
          subst hx
          refine z_iload (i := 5) dX1_goes_45 rfl ?_
          refine z_if_eq 55 dX1_goes_47 (by decide) (fun h_47 => ?_) (fun h_47 => ?_)
          · exact absurd h_47 (by decide)
          refine z_iload_n (i := 3) dX1_goes_50 rfl rfl ?_
          refine z_if_ne 55 dX1_goes_51 (by decide) (fun h_51 => ?_) (fun h_51 => ?_)
          · refine z_aload_n (i := 0) dX1_goes_55 rfl rfl ?_
            refine z_getf dX1_goes_56 f_X1_21 (by first | decide | assumption | omega) rfl (by rfl) ?_
            refine z_iload_n (i := 1) dX1_goes_59 rfl rfl ?_
            refine z_dup2 dX1_goes_60 rfl rfl ?_
            refine z_iald (j := p) dX1_goes_61 (by first | decide | assumption | omega) rfl (by rfl) (by first | decide | omega) (by first | decide | omega) ?_
            refine z_iconst (v := 1) dX1_goes_62 (by decide) ?_
            refine z_iadd dX1_goes_63 ?_
            refine z_iast (j := p) dX1_goes_64 (by first | decide | assumption | omega) (fun _ => rfl) (by rfl) (by first | decide | omega) (by first | decide | omega) ?_
            refine z_iload (i := 5) dX1_goes_65 rfl ?_
            refine z_if_eq 78 dX1_goes_67 (by decide) (fun h_67 => ?_) (fun h_67 => ?_)
            · exact absurd h_67 (by decide)
            refine z_aload_n (i := 0) dX1_goes_70 rfl rfl ?_
            refine z_getf dX1_goes_71 f_X1_24 (by first | decide | assumption | omega) rfl (by rfl) ?_
            refine z_iload_n (i := 1) dX1_goes_74 rfl rfl ?_
            refine z_iconst (v := 1) dX1_goes_75 (by decide) ?_
            refine z_zast (j := p) dX1_goes_76 (by first | decide | assumption | omega) (fun _ => rfl) (by rfl) (by first | decide | omega) (by first | decide | omega) rfl ?_
            rw [if_pos (Classical.byContradiction (fun w => h_51 (by rw [if_neg w])))] at hq
            exact z_ret (r := 0) dX1_goes_77 (hq _ (PR_up 4 hup (by omega)) (fun k a b => by rw [zup_n b, zup_n a]; exact hf k a b)) rfl rfl
          · rw [if_neg (fun w => by rw [if_pos w] at h_51; revert h_51; decide)] at hq
            exact z_ret (r := 0) dX1_goes_54 (hq c1 hR1 hf) rfl rfl
        · rw [if_neg hD] at hx hq
          subst hx
          rw [upd_id (f := upd F (8 + 5 * p + 3) (F (8 + 5 * p + 3) + 1)) (i := 8 + 5 * p + 4) (by rw [pk_un (by omega)]; exact hl1)] at hq
          refine z_iload (i := 5) dX1_goes_45 rfl ?_
          refine z_if_eq 55 dX1_goes_47 (by decide) (fun h_47 => ?_) (fun h_47 => ?_)
          rotate_left
          · exact absurd rfl h_47
          refine z_aload_n (i := 0) dX1_goes_55 rfl rfl ?_
          refine z_getf dX1_goes_56 f_X1_21 (by first | decide | assumption | omega) rfl (by rfl) ?_
          refine z_iload_n (i := 1) dX1_goes_59 rfl rfl ?_
          refine z_dup2 dX1_goes_60 rfl rfl ?_
          refine z_iald (j := p) dX1_goes_61 (by first | decide | assumption | omega) rfl (by rfl) (by first | decide | omega) (by first | decide | omega) ?_
          refine z_iconst (v := 1) dX1_goes_62 (by decide) ?_
          refine z_iadd dX1_goes_63 ?_
          refine z_iast (j := p) dX1_goes_64 (by first | decide | assumption | omega) (fun _ => rfl) (by rfl) (by first | decide | omega) (by first | decide | omega) ?_
          refine z_iload (i := 5) dX1_goes_65 rfl ?_
          refine z_if_eq 78 dX1_goes_67 (by decide) (fun h_67 => ?_) (fun h_67 => ?_)
          rotate_left
          · exact absurd rfl h_67
          refine z_iinc (i := 4) (v := 1) [_, _, _, _, _, _] dX1_goes_78 rfl (by decide) (by decide) rfl rfl ?_
          refine z_goto 3 dX1_goes_81 (by decide) ?_
          rw [nI_1]
          refine ih (i + 1) _ _ _ (by omega) (by omega) hup (by rw [pk_un (by omega)]; exact hl1) (fun k a b => by rw [zup_n a]; exact hf k a b) ?_
          rw [show s - (i + 1) = t by omega]
          exact hq
      refine z_iload (i := 4) dX1_goes_3 rfl ?_
      refine z_iload_n (i := 2) dX1_goes_5 rfl rfl ?_
      refine z_icmp_ge 84 dX1_goes_6 (by decide) (fun h_6 => ?_) (fun h_6 => ?_)
      · first
        | (have his : i = s := by have := hlt.mp h_6; omega
           subst his
           rw [Nat.sub_self] at hq
           exact z_ret (r := 0) dX1_goes_84 (hq c1 hR1 hf) rfl rfl)
        | (obtain ⟨t, et⟩ : ∃ t, s - i = t + 1 := ⟨s - i - 1, by omega⟩
           rw [et] at hq
           unfold wkF at hq
           rw [if_neg (by grind)] at hq
           exact z_ret (r := 0) dX1_goes_84 (hq c1 hR1 hf) rfl rfl)
      · have his : i < s := by have := mt hlt.mpr h_6; omega
        refine z_aload_n (i := 0) dX1_goes_9 rfl rfl ?_
        refine z_getf dX1_goes_10 f_X1_21 (by first | decide | assumption | omega) rfl (by rfl) ?_
        refine z_iload_n (i := 1) dX1_goes_13 rfl rfl ?_
        refine z_iald (j := p) dX1_goes_14 (by first | decide | assumption | omega) rfl (by rfl) (by first | decide | omega) (by first | decide | omega) ?_
        rw [eA]
        refine z_bipush (v := 15) dX1_goes_15 (by decide) ?_
        refine z_icmp_ge 84 dX1_goes_17 (by decide) (fun h_17 => ?_) (fun h_17 => ?_)
        · first
          | (have his : i = s := by have := hlt.mp h_6; omega
             subst his
             rw [Nat.sub_self] at hq
             exact z_ret (r := 0) dX1_goes_84 (hq c1 hR1 hf) rfl rfl)
          | (obtain ⟨t, et⟩ : ∃ t, s - i = t + 1 := ⟨s - i - 1, by omega⟩
             rw [et] at hq
             unfold wkF at hq
             rw [if_neg (by grind)] at hq
             exact z_ret (r := 0) dX1_goes_84 (hq c1 hR1 hf) rfl rfl)
        · refine z_aload_n (i := 0) dX1_goes_20 rfl rfl ?_
          refine z_getf dX1_goes_21 f_X1_32 (by first | decide | assumption | omega) rfl (by rfl) ?_
          rw [eD]
          refine z_aload_n (i := 0) dX1_goes_24 rfl rfl ?_
          refine z_getf dX1_goes_25 f_X1_21 (by first | decide | assumption | omega) rfl (by rfl) ?_
          refine z_iload_n (i := 1) dX1_goes_28 rfl rfl ?_
          refine z_iald (j := p) dX1_goes_29 (by first | decide | assumption | omega) rfl (by rfl) (by first | decide | omega) (by first | decide | omega) ?_
          rw [eA]
          refine z_iconst (v := 1) dX1_goes_30 (by decide) ?_
          refine z_iadd dX1_goes_31 ?_
          refine z_ishr dX1_goes_32 ?_
          refine z_iconst (v := 1) dX1_goes_33 (by decide) ?_
          refine z_iand dX1_goes_34 ?_
          refine z_if_eq 42 dX1_goes_35 (by decide) (fun h_35 => ?_) (fun h_35 => ?_)
          · refine z_iconst (v := 0) dX1_goes_42 (by decide) ?_
            refine z_istore (i := 5) [_, _, _, _, _, _] dX1_goes_43 (by decide) rfl rfl ?_
            first
            | (refine cut45 _ his (by grind) ?_
               rw [if_neg (fun w => by rw [w] at h_35; revert h_35; decide)])
            | (refine cut45 _ his (by grind) ?_
               rw [if_pos ((and1 _).resolve_left h_35)])
          · refine z_iconst (v := 1) dX1_goes_38 (by decide) ?_
            refine z_goto 43 dX1_goes_39 (by decide) ?_
            refine z_istore (i := 5) [_, _, _, _, _, _] dX1_goes_43 (by decide) rfl rfl ?_
            first
            | (refine cut45 _ his (by grind) ?_
               rw [if_neg (fun w => by rw [w] at h_35; revert h_35; decide)])
            | (refine cut45 _ his (by grind) ?_
               rw [if_pos ((and1 _).resolve_left h_35)])
  refine z_iconst (v := 0) dX1_goes_0 (by decide) ?_
  refine z_istore (i := 4) [_, _, _, _, _, _] dX1_goes_1 (by decide) rfl rfl ?_
  exact loop (s + 1) 0 f c none (by omega) (by omega) hR hl (fun _ _ _ => rfl) hQ
end PA
