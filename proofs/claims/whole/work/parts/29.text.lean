/-! the call text -/
def txR (f : zN) (u : Nat) : Bool × pS := prF (lkF (fun i => f (288 + i)) (pn (f 3))) u 500 0 0 (0, 0, fun _ => 0)
def tsF (f : zN) (u : Nat) (q : pS) : zN := fun k => if 39 + 125 * u ≤ k ∧ k < 39 + 125 * u + 2 * q.2.1 then q.2.2 (k - (39 + 125 * u)) else upd (upd f 3 0) (38 + 125 * u) (nI q.2.1) k
def o_text (σ : zT) (u : Int32) : Int32 × zT :=
  if 0 ≤ u ∧ u ≤ 1 then (if (txR σ.1 (pn u)).1 = true ∧ (txR σ.1 (pn u)).2.1 = pn (σ.1 3) then (1, wS σ (tsF σ.1 (pn u) (txR σ.1 (pn u)).2)) else (-10 - nI (txR σ.1 (pn u)).2.1, wS σ (upd σ.1 3 0))) else err σ 1
section P5
variable {l : Launch} {E : zE} {ad : Nat → Nat} {c : zS} {Qf : Int32 → zS → Prop} {d n : Nat}
theorem pr_all {tp : zN} {len u : Nat} : ∀ (F f : Nat), f ≤ F → prC l E ad tp len u f 0 mX8_whole ∧ prC l E ad tp len u f 1 mX8_both ∧ prC l E ad tp len u f 2 mX8_compared ∧ prC l E ad tp len u f 3 mX8_sum ∧ prC l E ad tp len u f 4 mX8_product ∧ prC l E ad tp len u f 5 mX8_one
  | F, 0, _ => by
    refine ⟨?_, ?_, ?_, ?_, ?_, ?_⟩ <;> · intro c o d q Qf h; omega
  | 0, f + 1, h => by omega
  | F + 1, f + 1, h => by
    have ih := fun g (hg : g ≤ f) => pr_all (tp := tp) (len := len) (u := u) F g (by omega)
    exact ⟨s_X8_whole (fun g hg => (ih g hg).2.1), s_X8_both (fun g hg => (ih g hg).2.2.1), s_X8_compared (fun g hg => (ih g hg).2.2.2.1), s_X8_sum (fun g hg => (ih g hg).2.2.2.2.1), s_X8_product (fun g hg => (ih g hg).2.2.2.2.2), s_X8_one (ih f (Nat.le_refl _)).2.2.2.2.2 (ih f (Nat.le_refl _)).1⟩
/-- a TEXT told is a TEXT as it may lie in the row -/
theorem tx_wf {f : zN} {u : Nat} (hu : u < 2) (h3 : pn (f 3) ≤ 60) (h : (txR f u).1 = true) (hn : 0 < n ∨ True) : wfT (tsF f u (txR f u).2) u := by
  have i0 := pr_ok (tp := fun i => f (288 + i)) (len := pn (f 3)) (u := u) 500 0 0 (0, 0, fun _ => 0) (by show 0 ≤ _; omega) (by omega)
  have i1 := pr_dp (tp := fun i => f (288 + i)) (len := pn (f 3)) (u := u) h3 500 0 0 0 (0, 0, fun _ => 0) (by show 0 ≤ _; omega) (by omega) (Nat.le_refl _) rfl (fun k hk => absurd hk (Nat.not_lt_zero _)) (by omega) h
  rw [if_neg (by omega)] at i1
  change dpQ (txR f u).2 = some 1 ∧ wnQ u (txR f u).2 at i1
  change gO (pn (f 3)) (0, 0, fun _ => 0) (txR f u).2 at i0
  generalize (txR f u).2 = q at i0 i1
  unfold gO at i0
  dsimp only at i0
  have eq : ∀ k, k < q.2.1 → tsF f u q (38 + 125 * u + 1 + 2 * k) = q.2.2 (2 * k) ∧ tsF f u q (38 + 125 * u + 2 + 2 * k) = q.2.2 (2 * k + 1) := by
    intro k hk
    unfold tsF
    rw [if_pos (by omega), if_pos (by omega), show 38 + 125 * u + 1 + 2 * k - (39 + 125 * u) = 2 * k by omega, show 38 + 125 * u + 2 + 2 * k - (39 + 125 * u) = 2 * k + 1 by omega]
    exact ⟨rfl, rfl⟩
  refine ⟨q.2.1, by omega, ?_, fun h0 => ⟨?_, fun k hk h1 => ?_⟩⟩
  · unfold tsF
    rw [if_neg (by omega), pk_us]
  · rw [← i1.1]
    unfold dpQ
    refine dpR_cg (fun k hk => ?_)
    rw [(eq k hk).1, (eq k hk).2]
    show _ = q.2.2 (0 + 1 + 2 * k - 1) ∧ _ = q.2.2 (0 + 2 + 2 * k - 1)
    rw [show 0 + 1 + 2 * k - 1 = 2 * k by omega, show 0 + 2 + 2 * k - 1 = 2 * k + 1 by omega]
    exact ⟨rfl, rfl⟩
  · rw [(eq k hk).1] at h1
    rw [(eq k hk).2]
    exact i1.2 k hk h1
theorem o8_text {u : Int32} {len : Nat} (h3 : c 52 3 = nI len) (hl : len ≤ 60) (hd : 40 ≤ d) (hQ : ∀ r c', (∀ k, k < 51 → c' k = c k) → (r, mst c') = o_text (mst c) u → Qf r c') : zCl l E ad mX8_text d [.ref (ad 51), .int u] c Qf := by
  have eln : pn (c 52 3) = len := by rw [h3]; exact pn_nI (by omega)
  refine z_enter (own := RX8) [some (.ref (ad 51)), some (.int u), none, none, none] (by decide +kernel) rfl rfl rfl (Nat.le_of_ble_eq_true rfl) ?_
  by_cases hok : 0 ≤ u ∧ u ≤ 1
  · obtain ⟨j, hj, rfl⟩ := zj_of (x := u) (n := 2) hok.1 (by show u < (2 : Int32); grind) (by decide)
    have epj : pn (nI j) = j := pn_nI (by omega)
    unfold o_text at hQ
    rw [if_pos hok, epj, show (mst c).1 = c 52 from rfl, eln] at hQ
    have hR : txR (c 52) j = prF (lkF (fun i => c 52 (288 + i)) len) j 500 0 0 (0, 0, fun _ => 0) := by rw [← eln]; rfl
    have i0 := pr_ok (tp := fun i => c 52 (288 + i)) (len := len) (u := j) 500 0 0 (0, 0, fun _ => 0) (by show 0 ≤ _; omega) (by omega)
    rw [← hR] at i0
    generalize txR (c 52) j = A at hQ hR i0
    unfold gO at i0
    dsimp only at i0
    have eq3 : nI A.2.1 = nI len ↔ A.2.1 = len := nI_eq (by omega) (by omega)
    have cut60 : ∀ (x : Int32) (c2 : zS), (∀ k, k ≠ 51 → k ≠ 56 → c2 k = c k) → c2 51 3 = c 51 3 → c2 51 12 = c 51 12 → c2 51 5 = nI A.2.1 → c2 51 7 = nI A.2.2.1 → (∀ i, i < 2 * A.2.2.1 → c2 56 i = A.2.2.2 i) → x = (if A.1 = true ∧ A.2.1 = len then 1 else 0) → zW l E ad RX8 cX8_text 5 1 d Qf 60 [some (.ref (ad 51)), some (.int (nI j)), none, none, none] [.int x] c2 := by
      intro x c2 hf e3 e12 e5 e7 hst hx
      have em : ∀ g, mst (zup c2 52 g) = wS (mst c) g := by
        intro g
        unfold mst wS
        simp only [zup_s, zup_n (show (53 : Nat) ≠ 52 by decide), zup_n (show (55 : Nat) ≠ 52 by decide), zup_n (show (51 : Nat) ≠ 52 by decide), zup_n (show (59 : Nat) ≠ 52 by decide), zup_n (show (60 : Nat) ≠ 52 by decide), zup_n (show (61 : Nat) ≠ 52 by decide), zup_n (show (62 : Nat) ≠ 52 by decide), e3, e12, hf 53 (by decide) (by decide), hf 55 (by decide) (by decide), hf 59 (by decide) (by decide), hf 60 (by decide) (by decide), hf 61 (by decide) (by decide), hf 62 (by decide) (by decide)]
      have e52 := hf 52 (by decide) (by decide)
      have efr : ∀ g k, k < 51 → zup c2 52 g k = c k := fun g k hk => by rw [zup_n (by omega)]; exact hf k (by omega) (by omega)
      have ei : ∀ i : Nat, (38 : Int32) + 125 * nI j = nI (38 + 125 * j) := fun _ => by show nI 38 + nI 125 * nI j = _; rw [pk_mul, nI_add]
      have loop : ∀ (r i : Nat) (g : zN), A.1 = true ∧ A.2.1 = len → 2 * A.2.2.1 - i < r → i ≤ 2 * A.2.2.1 → (∀ k, g k = if 39 + 125 * j ≤ k ∧ k < 39 + 125 * j + i then A.2.2.2 (k - (39 + 125 * j)) else upd (upd (c 52) 3 0) (38 + 125 * j) (nI A.2.2.1) k) → zW l E ad RX8 cX8_text 5 1 d Qf 101 [some (.ref (ad 51)), some (.int (nI j)), some (.int 1), some (.int (nI (38 + 125 * j))), some (.int (nI i))] [] (zup c2 52 g) := by
        intro r
        induction r with
        | zero => intro i g _ h; omega
        | succ r ih =>
          intro i g hA hr hi hg
          have hlt := nI_leI (a := 2 * A.2.2.1) (b := i) (by omega) (by omega)
          have e2s : (2 : Int32) * nI A.2.2.1 = nI (2 * A.2.2.1) := by show nI 2 * nI A.2.2.1 = _; rw [pk_mul]
          refine z_iload (i := 4) dX8_text_101 rfl ?_
          refine z_iconst (v := 2) dX8_text_103 (by decide) ?_
          refine z_aload_n (i := 0) dX8_text_104 rfl rfl ?_
          refine z_getf dX8_text_105 f_X8_64 (by first | decide | assumption | omega) rfl (by rfl) ?_
          rw [show zup c2 52 g 51 = c2 51 from rfl, e7]
          refine z_imul dX8_text_108 ?_
          rw [e2s]
          refine z_icmp_ge 136 dX8_text_109 (by decide) (fun h_109 => ?_) (fun h_109 => ?_)
          · have hik : i = 2 * A.2.2.1 := by have := hlt.mp h_109; omega
            subst hik
            refine z_iconst (v := 1) dX8_text_136 (by decide) ?_
            refine z_ret dX8_text_137 (hQ _ _ (efr g) ?_) trivial rfl
            rw [if_pos hA, em, (funext hg : g = tsF (c 52) j A.2)]
          · have hik : i < 2 * A.2.2.1 := by have := mt hlt.mpr h_109; omega
            refine z_aload_n (i := 0) dX8_text_112 rfl rfl ?_
            refine z_getf dX8_text_113 f_X8_7 (by first | decide | assumption | omega) rfl (by rfl) ?_
            refine z_iload_n (i := 3) dX8_text_116 rfl rfl ?_
            refine z_iconst (v := 1) dX8_text_117 (by decide) ?_
            refine z_iadd dX8_text_118 ?_
            refine z_iload (i := 4) dX8_text_119 rfl ?_
            refine z_iadd dX8_text_121 ?_
            refine z_aload_n (i := 0) dX8_text_122 rfl rfl ?_
            refine z_getf dX8_text_123 f_X8_22 (by first | decide | assumption | omega) rfl (by rfl) ?_
            refine z_iload (i := 4) dX8_text_126 rfl ?_
            refine z_iald (j := i) dX8_text_128 (by first | decide | assumption | omega) rfl (by rfl) (by first | decide | omega) (by first | decide | omega) ?_
            refine z_iast (j := 39 + 125 * j + i) dX8_text_129 (by first | decide | assumption | omega) (fun _ => rfl) (by show nI (38 + 125 * j) + 1 + nI i = _; rw [nI_1, nI_add]; congr 1; omega) (by first | decide | omega) (by first | decide | omega) ?_
            refine z_iinc (i := 4) (v := 1) [_, _, _, _, _] dX8_text_130 rfl (by decide) (by decide) rfl rfl ?_
            refine z_goto 101 dX8_text_133 (by decide) ?_
            rw [nI_1, zup_s, zup_zup, show zup c2 52 g 56 = c2 56 from rfl, hst i hik]
            refine ih (i + 1) _ hA (by omega) (by omega) (fun k => ?_)
            unfold upd
            by_cases w : k = 39 + 125 * j + i
            · rw [if_pos w, if_pos (by omega), w, show 39 + 125 * j + i - (39 + 125 * j) = i by omega]
            · rw [if_neg w, hg k]
              by_cases w2 : 39 + 125 * j ≤ k ∧ k < 39 + 125 * j + i
              · rw [if_pos w2, if_pos (by omega)]
              · rw [if_neg w2, if_neg (by omega)]
                rfl
      refine z_istore_n (i := 2) [_, _, _, _, _] dX8_text_60 rfl (by decide) rfl rfl ?_
      refine z_aload_n (i := 0) dX8_text_61 rfl rfl ?_
      refine z_getf dX8_text_62 f_X8_7 (by first | decide | assumption | omega) rfl (by rfl) ?_
      refine z_iconst (v := 3) dX8_text_65 (by decide) ?_
      refine z_iconst (v := 0) dX8_text_66 (by decide) ?_
      refine z_iast dX8_text_67 (by first | decide | assumption | omega) (fun _ => rfl) (by rfl) (by first | decide | omega) (by first | decide | omega) ?_
      refine z_iload_n (i := 2) dX8_text_68 rfl rfl ?_
      refine z_if_ne 80 dX8_text_69 (by decide) (fun h_69 => ?_) (fun h_69 => ?_)
      · have hA : A.1 = true ∧ A.2.1 = len := Classical.byContradiction (fun w => h_69 (by rw [hx, if_neg w]))
        refine z_bipush (v := 38) dX8_text_80 (by decide) ?_
        refine z_bipush (v := 125) dX8_text_82 (by decide) ?_
        refine z_iload_n (i := 1) dX8_text_84 rfl rfl ?_
        refine z_imul dX8_text_85 ?_
        refine z_iadd dX8_text_86 ?_
        rw [ei 0]
        refine z_istore_n (i := 3) [_, _, _, _, _] dX8_text_87 rfl (by decide) rfl rfl ?_
        refine z_aload_n (i := 0) dX8_text_88 rfl rfl ?_
        refine z_getf dX8_text_89 f_X8_7 (by first | decide | assumption | omega) rfl (by rfl) ?_
        refine z_iload_n (i := 3) dX8_text_92 rfl rfl ?_
        refine z_aload_n (i := 0) dX8_text_93 rfl rfl ?_
        refine z_getf dX8_text_94 f_X8_64 (by first | decide | assumption | omega) rfl (by rfl) ?_
        refine z_iast (j := 38 + 125 * j) dX8_text_97 (by first | decide | assumption | omega) (fun _ => rfl) (by rfl) (by first | decide | omega) (by first | decide | omega) ?_
        refine z_iconst (v := 0) dX8_text_98 (by decide) ?_
        refine z_istore (i := 4) [_, _, _, _, _] dX8_text_99 (by decide) rfl rfl ?_
        rw [hx, if_pos hA, zup_s, zup_zup, e52]
        rw [show zup c2 52 (upd (c 52) 3 0) 51 = c2 51 from rfl, e7]
        exact loop (2 * A.2.2.1 + 1) 0 _ hA (by omega) (by omega) (fun k => by rw [if_neg (by omega)])
      · refine z_bipush (v := (-10)) dX8_text_72 (by decide) ?_
        refine z_aload_n (i := 0) dX8_text_74 rfl rfl ?_
        refine z_getf dX8_text_75 f_X8_57 (by first | decide | assumption | omega) rfl (by rfl) ?_
        refine z_isub dX8_text_78 ?_
        have hA : ¬ (A.1 = true ∧ A.2.1 = len) := by intro w; rw [hx, if_pos w] at h_69; exact absurd h_69 (by decide)
        exact z_ret dX8_text_79 (hQ _ _ (efr _) (by rw [if_neg hA, em, e52, show zup c2 52 (upd (c 52) 3 0) 51 = c2 51 from rfl, e5])) trivial rfl
    refine z_iload_n (i := 1) dX8_text_0 rfl rfl ?_
    refine z_iconst (v := 0) dX8_text_1 (by decide) ?_
    refine z_iconst (v := 1) dX8_text_2 (by decide) ?_
    refine z_Sb (As := [_, _, _]) dX8_text_3 (by rfl) v_X8_in l_X8_47 rfl (by omega) (by decide) (Nat.le_of_ble_eq_true rfl) ?_
    refine s_X8_in ?_
    refine z_if_ne 15 dX8_text_6 (by decide) (fun h_6 => ?_) (fun h_6 => ?_)
    rotate_left
    · exfalso; grind
    refine z_aload_n (i := 0) dX8_text_15 rfl rfl ?_
    refine z_iload_n (i := 1) dX8_text_16 rfl rfl ?_
    refine z_putfi dX8_text_17 f_X8_61 fp_X8_8 (by first | decide | assumption | omega) rfl (by exact Nat.le_of_ble_eq_true rfl) rfl ?_
    refine z_aload_n (i := 0) dX8_text_20 rfl rfl ?_
    refine z_iconst (v := 0) dX8_text_21 (by decide) ?_
    refine z_putfi dX8_text_22 f_X8_57 fp_X8_5 (by first | decide | assumption | omega) rfl (by exact Nat.le_of_ble_eq_true rfl) rfl ?_
    refine z_aload_n (i := 0) dX8_text_25 rfl rfl ?_
    refine z_iconst (v := 0) dX8_text_26 (by decide) ?_
    refine z_putfi dX8_text_27 f_X8_91 fp_X8_6 (by first | decide | assumption | omega) rfl (by exact Nat.le_of_ble_eq_true rfl) rfl ?_
    refine z_aload_n (i := 0) dX8_text_30 rfl rfl ?_
    refine z_iconst (v := 0) dX8_text_31 (by decide) ?_
    refine z_putfi dX8_text_32 f_X8_64 fp_X8_7 (by first | decide | assumption | omega) rfl (by exact Nat.le_of_ble_eq_true rfl) rfl ?_
    refine z_aload_n (i := 0) dX8_text_35 rfl rfl ?_
    refine z_Vb (As := []) dX8_text_36 (by rfl) v_X8_whole l_X8_101 (by first | decide | assumption | omega) rfl rfl rfl (by omega) (by decide) (Nat.le_of_ble_eq_true rfl) ?_
    refine (pr_all (tp := fun i => c 52 (288 + i)) (len := len) (u := j) 500 500 (Nat.le_refl _)).1 _ 0 _ (0, 0, fun _ => 0) _ (by omega) (by show 0 ≤ len; omega) (by omega) (Nat.le_refl _) (by omega) ?_ ?_ ?_ (fun c2 hz2 h62 => ?_)
    · exact ⟨rfl, rfl, fun i hi => absurd hi (Nat.not_lt_zero _), fun _ _ _ => rfl, fun _ _ _ _ => rfl⟩
    · rfl
    · exact ⟨fun i hi => rfl, h3, rfl, hl, hj⟩
    rw [← hR] at hz2 h62
    rw [← hR]
    refine z_if_eq 59 dX8_text_39 (by decide) (fun h_39 => ?_) (fun h_39 => ?_)
    · refine z_iconst (v := 0) dX8_text_59 (by decide) ?_
      refine cut60 _ c2 (fun k a b => (hz2.2.2.2.1 k a b).trans (by simp only [zup_n a])) ((hz2.2.2.2.2 3 (by decide) (by decide) (by decide)).trans rfl) ((hz2.2.2.2.2 12 (by decide) (by decide) (by decide)).trans rfl) hz2.1 hz2.2.1 hz2.2.2.1 ?_
      have e52 : c2 52 3 = nI len := (congrFun (hz2.2.2.2.1 52 (by decide) (by decide)) 3).trans h3
      have e5 := hz2.1
      first
      | (rw [if_neg (fun w => bite.mp h_39 w.1)])
      | (rw [if_pos ⟨Classical.byContradiction (fun w => h_39 (bite.mpr w)), eq3.mp (by rw [← e5, ← e52]; first | exact h_52 | exact Classical.not_not.mp h_52)⟩])
      | (rw [if_neg (fun w => by first | exact h_52 (by rw [e5, e52]; exact eq3.mpr w.2) | exact (by assumption : ¬ _) (by rw [e5, e52]; exact eq3.mpr w.2))])
    · refine z_aload_n (i := 0) dX8_text_42 rfl rfl ?_
      refine z_getf dX8_text_43 f_X8_57 (by first | decide | assumption | omega) rfl (by rfl) ?_
      refine z_aload_n (i := 0) dX8_text_46 rfl rfl ?_
      refine z_getf dX8_text_47 f_X8_7 (by first | decide | assumption | omega) rfl (by rfl) ?_
      refine z_iconst (v := 3) dX8_text_50 (by decide) ?_
      refine z_iald dX8_text_51 (by first | decide | assumption | omega) rfl (by rfl) (by first | decide | omega) (by first | decide | omega) ?_
      refine z_icmp_ne 59 dX8_text_52 (by decide) (fun h_52 => ?_) (fun h_52 => ?_)
      · refine z_iconst (v := 0) dX8_text_59 (by decide) ?_
        refine cut60 _ c2 (fun k a b => (hz2.2.2.2.1 k a b).trans (by simp only [zup_n a])) ((hz2.2.2.2.2 3 (by decide) (by decide) (by decide)).trans rfl) ((hz2.2.2.2.2 12 (by decide) (by decide) (by decide)).trans rfl) hz2.1 hz2.2.1 hz2.2.2.1 ?_
        have e52 : c2 52 3 = nI len := (congrFun (hz2.2.2.2.1 52 (by decide) (by decide)) 3).trans h3
        have e5 := hz2.1
        first
        | (rw [if_neg (fun w => bite.mp h_39 w.1)])
        | (rw [if_pos ⟨Classical.byContradiction (fun w => h_39 (bite.mpr w)), eq3.mp (by rw [← e5, ← e52]; first | exact h_52 | exact Classical.not_not.mp h_52)⟩])
        | (rw [if_neg (fun w => by first | exact h_52 (by rw [e5, e52]; exact eq3.mpr w.2) | exact (by assumption : ¬ _) (by rw [e5, e52]; exact eq3.mpr w.2))])
      · refine z_iconst (v := 1) dX8_text_55 (by decide) ?_
        refine z_goto 60 dX8_text_56 (by decide) ?_
        refine cut60 _ c2 (fun k a b => (hz2.2.2.2.1 k a b).trans (by simp only [zup_n a])) ((hz2.2.2.2.2 3 (by decide) (by decide) (by decide)).trans rfl) ((hz2.2.2.2.2 12 (by decide) (by decide) (by decide)).trans rfl) hz2.1 hz2.2.1 hz2.2.2.1 ?_
        have e52 : c2 52 3 = nI len := (congrFun (hz2.2.2.2.1 52 (by decide) (by decide)) 3).trans h3
        have e5 := hz2.1
        first
        | (rw [if_neg (fun w => bite.mp h_39 w.1)])
        | (rw [if_pos ⟨Classical.byContradiction (fun w => h_39 (bite.mpr w)), eq3.mp (by rw [← e5, ← e52]; first | exact h_52 | exact Classical.not_not.mp h_52)⟩])
        | (rw [if_neg (fun w => by first | exact h_52 (by rw [e5, e52]; exact eq3.mpr w.2) | exact (by assumption : ¬ _) (by rw [e5, e52]; exact eq3.mpr w.2))])
  · skip
    refine z_iload_n (i := 1) dX8_text_0 rfl rfl ?_
    refine z_iconst (v := 0) dX8_text_1 (by decide) ?_
    refine z_iconst (v := 1) dX8_text_2 (by decide) ?_
    refine z_Sb (As := [_, _, _]) dX8_text_3 (by rfl) v_X8_in l_X8_47 rfl (by omega) (by decide) (Nat.le_of_ble_eq_true rfl) ?_
    refine s_X8_in ?_
    refine z_if_ne 15 dX8_text_6 (by decide) (fun h_6 => ?_) (fun h_6 => ?_)
    · exfalso; grind
    refine z_aload_n (i := 0) dX8_text_9 rfl rfl ?_
    refine z_iconst (v := 1) dX8_text_10 (by decide) ?_
    refine z_Vi (As := [_]) dX8_text_11 (by rfl) v_X8_error l_X8_51 (by first | decide | assumption | omega) rfl rfl rfl (by omega) (by decide) (Nat.le_of_ble_eq_true rfl) ?_
    refine s_X8_error (by rfl) (by first | decide | omega) ?_
    exact z_ret dX8_text_14 (hQ _ _ (by intro k hk; simp (disch := omega) only [zup_n]) (by unfold o_text; rw [if_neg hok]; rfl)) trivial rfl
end P5
