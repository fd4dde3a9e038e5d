/-! the class: draws -/
theorem PR_2 {c : zS} {P n : Nat} {f : zN} {v : Int32} (h : PR c P n f) : PR c P n (upd f 2 v) := by
  obtain ⟨h1, h2, h3, h4⟩ := h
  refine ⟨h1, by rw [pk_un (by decide)]; exact h2, by rw [pk_un (by decide)]; exact h3, fun i hi => ?_⟩
  rw [pk_un (by omega), pk_un (by omega), pk_un (by omega), pk_un (by omega), pk_un (by omega)]
  exact h4 i hi
/-- what the draws leave as it is -/
def zdr (c c' : zS) : Prop := (∀ k, k ≠ 1 → k ≠ 4 → k ≠ 7 → (k < 8 ∨ 13 < k) → c' k = c k) ∧ ∀ i, i ≠ 7 → c' 1 i = c 1 i
theorem zdr_rf {c : zS} : zdr c c := ⟨fun _ _ _ _ _ => rfl, fun _ _ => rfl⟩
theorem zdr_tr {c c1 c2 : zS} (h : zdr c c1) (h2 : zdr c1 c2) : zdr c c2 := ⟨fun k a b e g => (h2.1 k a b e g).trans (h.1 k a b e g), fun i a => (h2.2 i a).trans (h.2 i a)⟩
theorem zdr_z {c : zS} {x : Int32} : zdr c (zup c 1 (upd (c 1) 7 x)) := ⟨fun k a _ _ _ => zup_n a, fun i a => by rw [zup_s, pk_un a]⟩
theorem zdr_p {c : zS} {k : Nat} {g : zN} (h : 8 ≤ k ∧ k ≤ 13) : zdr c (zup c k g) := ⟨fun j a _ _ b => zup_n (by omega), fun i a => by rw [zup_n (by omega)]⟩
section DR
variable {l : Launch} {E : zE} {ad : Nat → Nat} {c : zS} {Qf : Int32 → zS → Prop} {d n : Nat}
theorem c_draws {f : zN} (hz : c 1 7 = f 2) (hQ : Qf (dvF f) (zup c 1 (upd (c 1) 7 (dzF f 2)))) : zCl l E ad mX4_draws d [.ref (ad 1)] c Qf := by
  have e : dzF f 2 = f 2 * 1103515245 + 12345 := pk_us
  rw [e] at hQ
  refine z_enter (own := RX4) [some (.ref (ad 1))] (by decide +kernel) rfl rfl rfl (Nat.le_of_ble_eq_true rfl) ?_
  refine z_aload_n (i := 0) dX4_draws_0 rfl rfl ?_
  refine z_aload_n (i := 0) dX4_draws_1 rfl rfl ?_
  refine z_getf dX4_draws_2 f_X4_46 (by first | decide | assumption | omega) rfl (by rfl) ?_
  rw [hz]
  refine z_ldc dX4_draws_5 k_X4_62 ?_
  refine z_imul dX4_draws_7 ?_
  refine z_sipush (v := 12345) dX4_draws_8 (by decide) ?_
  refine z_iadd dX4_draws_11 ?_
  refine z_putfi dX4_draws_12 f_X4_46 fp_X4_7 (by first | decide | assumption | omega) rfl (by exact Nat.le_of_ble_eq_true rfl) rfl ?_
  refine z_aload_n (i := 0) dX4_draws_15 rfl rfl ?_
  refine z_getf dX4_draws_16 f_X4_46 (by first | decide | assumption | omega) rfl (by rfl) ?_
  rw [zup_s, pk_us]
  refine z_bipush (v := 8) dX4_draws_19 (by decide) ?_
  refine z_iushr dX4_draws_21 ?_
  exact z_ret dX4_draws_22 (by exact hQ) trivial rfl
theorem c_drawTail {f g : zN} {c1 : zS} {x1 x2 : Option Value} (hR : PR c1 8 n g) (hL : LW c1 g) (hv : vaF g n) (hz : c1 1 7 = g 2) (hz1 : zdr c c1) (hd : 6 ≤ d) (hQ : ∀ c', PR c' 8 n (hrF (drF g)) → LW c' (hrF (drF g)) → c' 1 7 = hrF (drF g) 2 → zdr c c' → Qf 0 c') : zW l E ad RX4 cX4_drawsAnHour 3 0 d Qf 63 [some (.ref (ad 1)), x1, x2] [] c1 := by
  have hdr : drF g = if reF (dvF (dzF g)) 8 = 0 then upd (dzF (dzF g)) 1 (g 1 ^^^ 1 <<< ((1 + reF (dvF g) 14) &&& 31)) else dzF (dzF g) := rfl
  have hv2 := vaF_dr hv
  have hn6 := hv.2.1
  have fin : ∀ (c2 : zS) (x1 : Option Value), PR c2 8 n (drF g) → LW c2 (drF g) → c2 1 7 = drF g 2 → zdr c c2 → zW l E ad RX4 cX4_drawsAnHour 3 0 d Qf 98 [some (.ref (ad 1)), x1, x2] [] c2 := by
    intro c2 x1 h1 h2 h3 h4
    have hpn : pn (drF g 5) = n := by rw [hv2.1]; exact pn_nI (by omega)
    refine z_aload_n (i := 0) dX4_drawsAnHour_98 rfl rfl ?_
    refine z_getf dX4_drawsAnHour_99 f_X4_28 (by first | decide | assumption | omega) rfl (by rfl) ?_
    refine z_iconst (v := (-1)) dX4_drawsAnHour_102 (by decide) ?_
    refine z_Vv (As := [_]) dX4_drawsAnHour_103 (by rfl) v_X1_anHourGoes l_X4_85 (by first | decide | assumption | omega) rfl rfl rfl (by omega) (by decide) (Nat.le_of_ble_eq_true rfl) ?_
    refine s_hour8 (p := 0) (all := true) h1 h2 hv2 (Or.inl ⟨rfl, rfl⟩) (by omega) (fun c3 hR3 f3 => ?_)
    rw [hrB_t hpn] at hR3
    refine z_ret (r := 0) dX4_drawsAnHour_106 (hQ c3 hR3 ?_ ?_ ?_) rfl rfl
    · exact LW_cg h2 (fun k hk => hrF_hi hv2 hk) (f3 2 (by decide) (by decide) (by decide) (by decide) (by decide)) (f3 3 (by decide) (by decide) (by decide) (by decide) (by decide)) (f3 5 (by decide) (by decide) (by decide) (by decide) (by decide)) (f3 6 (by decide) (by decide) (by decide) (by decide) (by decide))
    · rw [f3 1 (by decide) (by decide) (by decide) (by decide) (by decide), h3]
      unfold hrF
      rw [pk_un (by decide), hpn]
      have hk : ∀ i, i ≤ 6 → hrN (drF g) i 2 = drF g 2 := by
        intro i
        induction i with
        | zero => intro _; rfl
        | succ i ih =>
          intro hi
          rw [show hrN (drF g) (i + 1) = if hrN (drF g) i (8 + 5 * i + 4) = 0 then wkF i (faF (hrN (drF g) i) i) (stF (hrN (drF g) i) i) (hrN (drF g) i) else hrN (drF g) i from rfl]
          split
          · rw [wk_un (by omega) (by omega), ih (by omega)]
          · exact ih (by omega)
      exact (hk n hn6).symm
    · exact zdr_tr h4 ⟨fun k a b e w => f3 k (by omega) (by omega) (by omega) b e, fun i _ => by rw [f3 1 (by decide) (by decide) (by decide) (by decide) (by decide)]⟩
  refine z_iconst (v := 1) dX4_drawsAnHour_63 (by decide) ?_
  refine z_aload_n (i := 0) dX4_drawsAnHour_64 rfl rfl ?_
  refine z_Vi (As := []) dX4_drawsAnHour_65 (by rfl) v_X4_draws l_X4_66 (by first | decide | assumption | omega) rfl rfl rfl (by omega) (by decide) (Nat.le_of_ble_eq_true rfl) ?_
  refine c_draws hz ?_
  refine z_bipush (v := 14) dX4_drawsAnHour_68 (by decide) ?_
  refine z_irem dX4_drawsAnHour_70 (by first | decide | assumption) ?_
  refine z_iadd dX4_drawsAnHour_71 ?_
  refine z_istore_n (i := 1) [_, _, _] dX4_drawsAnHour_72 rfl (by decide) rfl rfl ?_
  refine z_aload_n (i := 0) dX4_drawsAnHour_73 rfl rfl ?_
  refine z_Vi (As := []) dX4_drawsAnHour_74 (by rfl) v_X4_draws l_X4_66 (by first | decide | assumption | omega) rfl rfl rfl (by omega) (by decide) (Nat.le_of_ble_eq_true rfl) ?_
  refine c_draws (f := dzF g) (by rw [zup_s, pk_us]) ?_
  rw [zup_s, zup_zup]
  refine z_bipush (v := 8) dX4_drawsAnHour_77 (by decide) ?_
  refine z_irem dX4_drawsAnHour_79 (by first | decide | assumption) ?_
  refine z_if_ne 98 dX4_drawsAnHour_80 (by decide) (fun h_80 => ?_) (fun h_80 => ?_)
  · first
    | (refine fin _ _ ?_ ?_ ?_ ?_
       · rw [hdr, if_neg (by assumption)]
         exact PR_2 (PR_2 (PR_cg hR (fun k a b => zup_n (by omega))))
       · exact LW_cg hL (fun k hk => by rw [hdr, if_neg (by assumption)]; unfold dzF; rw [pk_un (by omega), pk_un (by omega)]) rfl rfl rfl rfl
       · rw [hdr, if_neg (by assumption), zup_s, pk_us]
       · exact zdr_tr hz1 ⟨fun k a _ _ _ => zup_n a, fun i a => by rw [zup_s, pk_un a, pk_un a]⟩)
    | (have h80 : reF (dvF (dzF g)) 8 = 0 := by first | assumption | exact Classical.not_not.mp (by assumption)
       refine fin _ _ ?_ ?_ ?_ ?_
       · rw [hdr, if_pos h80, show (zup c1 1 (upd (upd (c1 1) 7 (dzF g 2)) 7 (dzF (dzF g) 2))) 8 8 = g 1 from hR.2.1]
         exact PR_dr (PR_2 (PR_2 (PR_cg hR (fun k a b => zup_n (by omega)))))
       · exact LW_cg hL (fun k hk => by rw [hdr, if_pos h80]; unfold dzF; rw [pk_un (by omega), pk_un (by omega), pk_un (by omega)]) rfl rfl rfl rfl
       · rw [hdr, if_pos h80, zup_n (by decide), zup_s, pk_us, pk_un (by decide)]
       · exact zdr_tr hz1 (zdr_tr ⟨fun k a _ _ _ => zup_n a, fun i a => by rw [zup_s, pk_un a, pk_un a]⟩ (zdr_p (by decide))))
  · refine z_aload_n (i := 0) dX4_drawsAnHour_83 rfl rfl ?_
    refine z_getf dX4_drawsAnHour_84 f_X4_28 (by first | decide | assumption | omega) rfl (by rfl) ?_
    refine z_dup dX4_drawsAnHour_87 rfl ?_
    refine z_getf dX4_drawsAnHour_88 f_X4_82 (by first | decide | assumption | omega) rfl (by rfl) ?_
    refine z_iconst (v := 1) dX4_drawsAnHour_91 (by decide) ?_
    refine z_iload_n (i := 1) dX4_drawsAnHour_92 rfl rfl ?_
    refine z_ishl dX4_drawsAnHour_93 ?_
    refine z_ixor dX4_drawsAnHour_94 ?_
    refine z_putfi dX4_drawsAnHour_95 f_X4_82 fp_X1_8 (by first | decide | assumption | omega) rfl (by exact Nat.le_of_ble_eq_true rfl) rfl ?_
    first
    | (refine fin _ _ ?_ ?_ ?_ ?_
       · rw [hdr, if_neg (by assumption)]
         exact PR_2 (PR_2 (PR_cg hR (fun k a b => zup_n (by omega))))
       · exact LW_cg hL (fun k hk => by rw [hdr, if_neg (by assumption)]; unfold dzF; rw [pk_un (by omega), pk_un (by omega)]) rfl rfl rfl rfl
       · rw [hdr, if_neg (by assumption), zup_s, pk_us]
       · exact zdr_tr hz1 ⟨fun k a _ _ _ => zup_n a, fun i a => by rw [zup_s, pk_un a, pk_un a]⟩)
    | (have h80 : reF (dvF (dzF g)) 8 = 0 := by first | assumption | exact Classical.not_not.mp (by assumption)
       refine fin _ _ ?_ ?_ ?_ ?_
       · rw [hdr, if_pos h80, show (zup c1 1 (upd (upd (c1 1) 7 (dzF g 2)) 7 (dzF (dzF g) 2))) 8 8 = g 1 from hR.2.1]
         exact PR_dr (PR_2 (PR_2 (PR_cg hR (fun k a b => zup_n (by omega)))))
       · exact LW_cg hL (fun k hk => by rw [hdr, if_pos h80]; unfold dzF; rw [pk_un (by omega), pk_un (by omega), pk_un (by omega)]) rfl rfl rfl rfl
       · rw [hdr, if_pos h80, zup_n (by decide), zup_s, pk_us, pk_un (by decide)]
       · exact zdr_tr hz1 (zdr_tr ⟨fun k a _ _ _ => zup_n a, fun i a => by rw [zup_s, pk_un a, pk_un a]⟩ (zdr_p (by decide))))
end DR
