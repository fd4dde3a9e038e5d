/-! the class: its reader of TEXTS, whole -/
section RD
variable {l : Launch} {E : zE} {ad : Nat → Nat} {tp : zN} {len u : Nat}
theorem rd_all : ∀ (F f : Nat), f ≤ F → rdC l E ad tp len u f 0 ∧ rdC l E ad tp len u f 1 ∧ rdC l E ad tp len u f 2 ∧ rdC l E ad tp len u f 3 ∧ rdC l E ad tp len u f 4 ∧ rdC l E ad tp len u f 5 ∧ ruC l E ad tp len u f
  | 0, f, _ => by
    refine ⟨?_, ?_, ?_, ?_, ?_, ?_, ?_⟩ <;> · intro c o d q Qf h; omega
  | F + 1, 0, _ => by
    refine ⟨?_, ?_, ?_, ?_, ?_, ?_, ?_⟩ <;> · intro c o d q Qf h; omega
  | F + 1, f + 1, h => by
    have ih := fun g (hg : g ≤ f) => rd_all F g (by omega)
    have hu := s_ru (ih f (Nat.le_refl _)).2.2.2.2.2.2 (ih f (Nat.le_refl _)).1
    exact ⟨s_rdr (by decide) (fun g hg => (ih g hg).2.1), s_rdr (by decide) (fun g hg => (ih g hg).2.2.1), s_rdr (by decide) (fun g hg => (ih g hg).2.2.2.1), s_rdr (by decide) (fun g hg => (ih g hg).2.2.2.2.1), s_rdr (by decide) (fun g hg => (ih g hg).2.2.2.2.2.1), s_rd5 hu, hu⟩
theorem s_faultOf {c : zS} {Qf : Int32 → zS → Prop} {d : Nat} (hu : u < 2) (hl : len ≤ 60) (ht : ∀ i, i < len → c 14 i = tp i) (hb : ∀ i, i < len → ∃ b : Nat, b < 256 ∧ tp i = nI b) (hd : 60 ≤ d) (hQ : ∀ c', c' 31 2 = nI (prF (lkF tp len) u 500 0 0 (0, 0, fun _ => 0)).2.2.1 → (∀ k, k < (prF (lkF tp len) u 500 0 0 (0, 0, fun _ => 0)).2.2.1 → c' 32 k = enc u ((prF (lkF tp len) u 500 0 0 (0, 0, fun _ => 0)).2.2.2 (2 * k)) ((prF (lkF tp len) u 500 0 0 (0, 0, fun _ => 0)).2.2.2 (2 * k + 1))) → (∀ k, k ≠ 31 → k ≠ 32 → c' k = c k) → Qf (if (prF (lkF tp len) u 500 0 0 (0, 0, fun _ => 0)).1 = true ∧ (prF (lkF tp len) u 500 0 0 (0, 0, fun _ => 0)).2.1 = len then -1 else nI (prF (lkF tp len) u 500 0 0 (0, 0, fun _ => 0)).2.1) c') : zCl l E ad mX2_faultOf d [.ref (ad 31), .int (nI len), .int (nI u)] c Qf := by
  have hR := (rd_all (l := l) (E := E) (ad := ad) (tp := tp) (len := len) (u := u) 500 500 (Nat.le_refl _)).1
  have i0 := pr_ok (tp := tp) (len := len) (u := u) 500 0 0 (0, 0, fun _ => 0) (by show 0 ≤ _; omega) (by omega)
  generalize hA : prF (lkF tp len) u 500 0 0 (0, 0, fun _ => 0) = A at hQ i0
  have eal : nI A.2.1 = nI len ↔ A.2.1 = len := nI_eq (by have := i0.2.1; omega) (by omega)
  have key : ∀ S : zS, S 31 4 = 0 → S 31 2 = 0 → S 31 3 = nI len → S 31 5 = nI (u + 1) → (∀ k, k ≠ 31 → S k = c k) → zW l E ad RX2 cX2_faultOf 3 1 d Qf 30 [some (.ref (ad 31)), some (.int (nI len)), some (.int (nI u))] [] S := by
    intro S h4 h2 h3 h5 hf
    have hz : zqs u S (0, 0, fun _ => 0) S := ⟨h4, h2, fun k hk => absurd hk (Nat.not_lt_zero _), fun _ _ _ => rfl, fun _ _ _ => rfl⟩
    have he : zqe tp len u S := ⟨fun i hi => by rw [hf 14 (by decide)]; exact ht i hi, h3, h5, hl, hu, hb⟩
    refine z_aload_n (i := 0) dX2_faultOf_30 rfl rfl ?_
    refine z_iconst (v := 0) dX2_faultOf_31 (by decide) ?_
    refine z_iconst (v := 0) dX2_faultOf_32 (by decide) ?_
    refine z_Vb (As := [_, _]) dX2_faultOf_33 (by rfl) v_X2_reads l_X2_38 (by first | decide | assumption | omega) rfl rfl rfl (by omega) (by decide) (Nat.le_of_ble_eq_true rfl) ?_
    refine hR S 0 _ (0, 0, fun _ => 0) _ (by show 8 * (60 - 0) + 6 ≤ 500; omega) (by show 0 ≤ len; omega) (by omega) (Nat.le_refl _) (by omega) hz he (fun c2 hz2 => ?_)
    rw [hA] at hz2
    rw [hA]
    have hq := hQ c2 hz2.2.1 hz2.2.2.1 (fun k a b => (hz2.2.2.2.1 k a b).trans (hf k a))
    have e3 : c2 31 3 = nI len := (hz2.2.2.2.2 3 (by decide) (by decide)).trans h3
    refine z_if_eq 54 dX2_faultOf_36 (by decide) (fun h_36 => ?_) (fun h_36 => ?_)
    · refine z_aload_n (i := 0) dX2_faultOf_54 rfl rfl ?_
      refine z_getf dX2_faultOf_55 f_X2_22 (by first | decide | assumption | omega) rfl (by rfl) ?_
      first
      | (have hA1 := bite.mp (by first | exact h_36 | exact Classical.not_not.mp h_36)
         rw [if_neg (fun w => hA1 w.1)] at hq
         exact z_ret dX2_faultOf_58 (by rw [hz2.1]; exact hq) trivial rfl)
      | (have hA1 : A.1 = true := Classical.byContradiction (fun w => h_36 (bite.mpr w))
         have h47 : ¬ A.2.1 = len := fun w => h_47 (by rw [hz2.1, e3]; exact eal.mpr w)
         rw [if_neg (fun w => h47 w.2)] at hq
         exact z_ret dX2_faultOf_58 (by rw [hz2.1]; exact hq) trivial rfl)
      | (have hA1 : A.1 = true := Classical.byContradiction (fun w => h_36 (bite.mpr w))
         have h47 : A.2.1 = len := eal.mp (by rw [← hz2.1, ← e3]; first | exact h_47 | exact Classical.not_not.mp h_47)
         rw [if_pos ⟨hA1, h47⟩] at hq
         exact z_ret dX2_faultOf_58 hq trivial rfl)
    · refine z_aload_n (i := 0) dX2_faultOf_39 rfl rfl ?_
      refine z_getf dX2_faultOf_40 f_X2_22 (by first | decide | assumption | omega) rfl (by rfl) ?_
      refine z_aload_n (i := 0) dX2_faultOf_43 rfl rfl ?_
      refine z_getf dX2_faultOf_44 f_X2_19 (by first | decide | assumption | omega) rfl (by rfl) ?_
      refine z_icmp_ne 54 dX2_faultOf_47 (by decide) (fun h_47 => ?_) (fun h_47 => ?_)
      · refine z_aload_n (i := 0) dX2_faultOf_54 rfl rfl ?_
        refine z_getf dX2_faultOf_55 f_X2_22 (by first | decide | assumption | omega) rfl (by rfl) ?_
        first
        | (have hA1 := bite.mp (by first | exact h_36 | exact Classical.not_not.mp h_36)
           rw [if_neg (fun w => hA1 w.1)] at hq
           exact z_ret dX2_faultOf_58 (by rw [hz2.1]; exact hq) trivial rfl)
        | (have hA1 : A.1 = true := Classical.byContradiction (fun w => h_36 (bite.mpr w))
           have h47 : ¬ A.2.1 = len := fun w => h_47 (by rw [hz2.1, e3]; exact eal.mpr w)
           rw [if_neg (fun w => h47 w.2)] at hq
           exact z_ret dX2_faultOf_58 (by rw [hz2.1]; exact hq) trivial rfl)
        | (have hA1 : A.1 = true := Classical.byContradiction (fun w => h_36 (bite.mpr w))
           have h47 : A.2.1 = len := eal.mp (by rw [← hz2.1, ← e3]; first | exact h_47 | exact Classical.not_not.mp h_47)
           rw [if_pos ⟨hA1, h47⟩] at hq
           exact z_ret dX2_faultOf_58 hq trivial rfl)
      · refine z_iconst (v := (-1)) dX2_faultOf_50 (by decide) ?_
        refine z_goto 58 dX2_faultOf_51 (by decide) ?_
        first
        | (have hA1 := bite.mp (by first | exact h_36 | exact Classical.not_not.mp h_36)
           rw [if_neg (fun w => hA1 w.1)] at hq
           exact z_ret dX2_faultOf_58 (by rw [hz2.1]; exact hq) trivial rfl)
        | (have hA1 : A.1 = true := Classical.byContradiction (fun w => h_36 (bite.mpr w))
           have h47 : ¬ A.2.1 = len := fun w => h_47 (by rw [hz2.1, e3]; exact eal.mpr w)
           rw [if_neg (fun w => h47 w.2)] at hq
           exact z_ret dX2_faultOf_58 (by rw [hz2.1]; exact hq) trivial rfl)
        | (have hA1 : A.1 = true := Classical.byContradiction (fun w => h_36 (bite.mpr w))
           have h47 : A.2.1 = len := eal.mp (by rw [← hz2.1, ← e3]; first | exact h_47 | exact Classical.not_not.mp h_47)
           rw [if_pos ⟨hA1, h47⟩] at hq
           exact z_ret dX2_faultOf_58 hq trivial rfl)
  refine z_enter (own := RX2) [some (.ref (ad 31)), some (.int (nI len)), some (.int (nI u))] (by decide +kernel) rfl rfl rfl (Nat.le_of_ble_eq_true rfl) ?_
  rcases (show u = 0 ∨ u = 1 by omega) with rfl | rfl
  · skip
    refine z_aload_n (i := 0) dX2_faultOf_0 rfl rfl ?_
    refine z_iload_n (i := 1) dX2_faultOf_1 rfl rfl ?_
    refine z_putfi dX2_faultOf_2 f_X2_19 fp_X2_3 (by first | decide | assumption | omega) rfl (by exact Nat.le_of_ble_eq_true rfl) rfl ?_
    refine z_aload_n (i := 0) dX2_faultOf_5 rfl rfl ?_
    refine z_iload_n (i := 2) dX2_faultOf_6 rfl rfl ?_
    refine z_if_ne 15 dX2_faultOf_7 (by decide) (fun h_7 => ?_) (fun h_7 => ?_)
    · exact absurd rfl h_7
    refine z_str (k := 65) dX2_faultOf_10 rfl (by decide) ?_
    refine z_goto 17 dX2_faultOf_12 (by decide) ?_
    refine z_putfn (x := 1) dX2_faultOf_17 f_X2_27 fp_X2_5 (by decide) ?_
    refine z_aload_n (i := 0) dX2_faultOf_20 rfl rfl ?_
    refine z_iconst (v := 0) dX2_faultOf_21 (by decide) ?_
    refine z_putfi dX2_faultOf_22 f_X2_22 fp_X2_4 (by first | decide | assumption | omega) rfl (by exact Nat.le_of_ble_eq_true rfl) rfl ?_
    refine z_aload_n (i := 0) dX2_faultOf_25 rfl rfl ?_
    refine z_iconst (v := 0) dX2_faultOf_26 (by decide) ?_
    refine z_putfi dX2_faultOf_27 f_X2_15 fp_X2_2 (by first | decide | assumption | omega) rfl (by exact Nat.le_of_ble_eq_true rfl) rfl ?_
    refine key _ ?_ ?_ ?_ ?_ (fun k a => ?_)
    · simp (disch := decide) only [zup_s, zup_zup, pk_us, pk_un]
    · simp (disch := decide) only [zup_s, zup_zup, pk_us, pk_un]
    · simp (disch := decide) only [zup_s, zup_zup, pk_us, pk_un]
    · simp (disch := decide) only [zup_s, zup_zup, pk_us, pk_un]
      rfl
    · simp only [zup_zup, zup_n a]
  · skip
    refine z_aload_n (i := 0) dX2_faultOf_0 rfl rfl ?_
    refine z_iload_n (i := 1) dX2_faultOf_1 rfl rfl ?_
    refine z_putfi dX2_faultOf_2 f_X2_19 fp_X2_3 (by first | decide | assumption | omega) rfl (by exact Nat.le_of_ble_eq_true rfl) rfl ?_
    refine z_aload_n (i := 0) dX2_faultOf_5 rfl rfl ?_
    refine z_iload_n (i := 2) dX2_faultOf_6 rfl rfl ?_
    refine z_if_ne 15 dX2_faultOf_7 (by decide) (fun h_7 => ?_) (fun h_7 => ?_)
    rotate_left
    · exact absurd (by first | exact h_7 | exact Classical.not_not.mp h_7) (show ¬ nI 1 = 0 by decide)
    refine z_str (k := 66) dX2_faultOf_15 rfl (by decide) ?_
    refine z_putfn (x := 2) dX2_faultOf_17 f_X2_27 fp_X2_5 (by decide) ?_
    refine z_aload_n (i := 0) dX2_faultOf_20 rfl rfl ?_
    refine z_iconst (v := 0) dX2_faultOf_21 (by decide) ?_
    refine z_putfi dX2_faultOf_22 f_X2_22 fp_X2_4 (by first | decide | assumption | omega) rfl (by exact Nat.le_of_ble_eq_true rfl) rfl ?_
    refine z_aload_n (i := 0) dX2_faultOf_25 rfl rfl ?_
    refine z_iconst (v := 0) dX2_faultOf_26 (by decide) ?_
    refine z_putfi dX2_faultOf_27 f_X2_15 fp_X2_2 (by first | decide | assumption | omega) rfl (by exact Nat.le_of_ble_eq_true rfl) rfl ?_
    refine key _ ?_ ?_ ?_ ?_ (fun k a => ?_)
    · simp (disch := decide) only [zup_s, zup_zup, pk_us, pk_un]
    · simp (disch := decide) only [zup_s, zup_zup, pk_us, pk_un]
    · simp (disch := decide) only [zup_s, zup_zup, pk_us, pk_un]
    · simp (disch := decide) only [zup_s, zup_zup, pk_us, pk_un]
      rfl
    · simp only [zup_zup, zup_n a]
end RD
