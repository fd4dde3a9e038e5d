/-! the class: an hour with draws -/
theorem mmF (v : Int32) : (if 0 < (if v < 99 then v else 99) then (if v < 99 then v else 99) else 0) = hdF 0 99 v := by
  unfold hdF
  by_cases h1 : v < 99
  · rw [if_pos h1]
    grind
  · rw [if_neg h1]
    by_cases h2 : v = 99
    · subst h2
      rfl
    · grind
section DS
variable {l : Launch} {E : zE} {ad : Nat → Nat} {c : zS} {Qf : Int32 → zS → Prop} {d n : Nat}
theorem c_drawsAnHour {f : zN} (hR : PR c 8 n f) (hL : LW c f) (hv : vaF f n) (hz : c 1 7 = f 2) (hd : 6 ≤ d) (hQ : ∀ c', PR c' 8 n (hrF (drF (suF f))) → LW c' (hrF (drF (suF f))) → c' 1 7 = hrF (drF (suF f)) 2 → zdr c c' → Qf 0 c') : zCl l E ad mX4_drawsAnHour d [.ref (ad 1)] c Qf := by
  have hn6 := hv.2.1
  refine z_enter (own := RX4) [some (.ref (ad 1)), none, none] (by decide +kernel) rfl rfl rfl (Nat.le_of_ble_eq_true rfl) ?_
  by_cases h5 : 0 < f 5
  · have hn0 : 0 < n := by
      rw [hv.1, pn_0 (by omega)] at h5
      exact h5
    obtain ⟨j, hj, ej⟩ := reF_nI f hn0 (by omega)
    have hsu : suF f = upd (dzF (dzF f)) (8 + 5 * j + 2) (hdF 0 99 (f (8 + 5 * j + 2) + reF (dvF (dzF f)) 21 - 10)) := by
      unfold suF
      rw [if_pos h5]
      dsimp only
      rw [hv.1, ej, pn_nI (by omega)]
    have eS : c 11 j = f (8 + 5 * j + 2) := (hR.2.2.2 j hj).2.2.1
    have key : ∀ (c1 : zS) (V : Int32), PR c1 8 n f → V = hdF 0 99 (f (8 + 5 * j + 2) + reF (dvF (dzF f)) 21 - 10) → PR (zup c1 11 (upd (c1 11) j V)) 8 n (suF f) := by
      intro c1 V h1 hV
      rw [hsu, ← hV]
      exact PR_up 2 (PR_2 (PR_2 h1)) (by decide)
    have su_hi : ∀ k, 38 ≤ k → suF f k = f k := by
      intro k hk
      rw [hsu]
      unfold dzF
      rw [pk_un (by omega), pk_un (by omega), pk_un (by omega)]
    have su_2 : suF f 2 = dzF (dzF f) 2 := by rw [hsu, pk_un (by omega)]
    refine z_aload_n (i := 0) dX4_drawsAnHour_0 rfl rfl ?_
    refine z_getf dX4_drawsAnHour_1 f_X4_28 (by first | decide | assumption | omega) rfl (by rfl) ?_
    refine z_getf dX4_drawsAnHour_4 f_X4_63 (by first | decide | assumption | omega) rfl (by rfl) ?_
    rw [hR.1]
    refine z_if_le 63 dX4_drawsAnHour_7 (by decide) (fun h_7 => ?_) (fun h_7 => ?_)
    · exfalso; rw [← hv.1] at h_7; grind
    refine z_aload_n (i := 0) dX4_drawsAnHour_10 rfl rfl ?_
    refine z_Vi (As := []) dX4_drawsAnHour_11 (by rfl) v_X4_draws l_X4_66 (by first | decide | assumption | omega) rfl rfl rfl (by omega) (by decide) (Nat.le_of_ble_eq_true rfl) ?_
    refine c_draws hz ?_
    refine z_aload_n (i := 0) dX4_drawsAnHour_14 rfl rfl ?_
    refine z_getf dX4_drawsAnHour_15 f_X4_28 (by first | decide | assumption | omega) rfl (by rfl) ?_
    refine z_getf dX4_drawsAnHour_18 f_X4_63 (by first | decide | assumption | omega) rfl (by rfl) ?_
    rw [show (zup c 1 (upd (c 1) 7 (dzF f 2))) 8 7 = nI n from hR.1]
    refine z_irem dX4_drawsAnHour_21 (by exact nI_ne0 hn0 (by omega)) ?_
    rw [show dvF f - dvF f / nI n * nI n = nI j from ej]
    refine z_istore_n (i := 1) [_, _, _] dX4_drawsAnHour_22 rfl (by decide) rfl rfl ?_
    refine z_aload_n (i := 0) dX4_drawsAnHour_23 rfl rfl ?_
    refine z_Vi (As := []) dX4_drawsAnHour_24 (by rfl) v_X4_draws l_X4_66 (by first | decide | assumption | omega) rfl rfl rfl (by omega) (by decide) (Nat.le_of_ble_eq_true rfl) ?_
    refine c_draws (f := dzF f) (by rw [zup_s, pk_us]) ?_
    rw [zup_s, zup_zup]
    refine z_bipush (v := 21) dX4_drawsAnHour_27 (by decide) ?_
    refine z_irem dX4_drawsAnHour_29 (by first | decide | assumption) ?_
    refine z_bipush (v := 10) dX4_drawsAnHour_30 (by decide) ?_
    refine z_isub dX4_drawsAnHour_32 ?_
    refine z_istore_n (i := 2) [_, _, _] dX4_drawsAnHour_33 rfl (by decide) rfl rfl ?_
    refine z_aload_n (i := 0) dX4_drawsAnHour_34 rfl rfl ?_
    refine z_getf dX4_drawsAnHour_35 f_X4_28 (by first | decide | assumption | omega) rfl (by rfl) ?_
    refine z_getf dX4_drawsAnHour_38 f_X4_70 (by first | decide | assumption | omega) rfl (by rfl) ?_
    refine z_iload_n (i := 1) dX4_drawsAnHour_41 rfl rfl ?_
    refine z_iconst (v := 0) dX4_drawsAnHour_42 (by decide) ?_
    refine z_bipush (v := 99) dX4_drawsAnHour_43 (by decide) ?_
    refine z_aload_n (i := 0) dX4_drawsAnHour_45 rfl rfl ?_
    refine z_getf dX4_drawsAnHour_46 f_X4_28 (by first | decide | assumption | omega) rfl (by rfl) ?_
    refine z_getf dX4_drawsAnHour_49 f_X4_70 (by first | decide | assumption | omega) rfl (by rfl) ?_
    refine z_iload_n (i := 1) dX4_drawsAnHour_52 rfl rfl ?_
    refine z_iald (j := j) dX4_drawsAnHour_53 (by first | decide | assumption | omega) rfl (by rfl) (by first | decide | omega) (by first | decide | omega) ?_
    rw [show (zup c 1 (upd (upd (c 1) 7 (dzF f 2)) 7 (dzF (dzF f) 2))) 11 j = f (8 + 5 * j + 2) from eS]
    refine z_iload_n (i := 2) dX4_drawsAnHour_54 rfl rfl ?_
    refine z_iadd dX4_drawsAnHour_55 ?_
    refine z_min dX4_drawsAnHour_56 (by omega) (Nat.le_of_ble_eq_true rfl) l_X4_73 w_minS w_mathI w_minC ?_
    refine z_max dX4_drawsAnHour_59 (by omega) (Nat.le_of_ble_eq_true rfl) l_X4_79 w_maxS w_mathI w_maxC ?_
    refine z_iast (j := j) dX4_drawsAnHour_62 (by first | decide | assumption | omega) (fun _ => rfl) (by rfl) (by first | decide | omega) (by first | decide | omega) ?_
    refine c_drawTail (c := c) (f := f) (g := suF f) (key _ _ (PR_cg hR (fun k a b => zup_n (by omega))) ?_) (LW_cg hL su_hi rfl rfl rfl rfl) (vaF_su hv) ?_ (zdr_tr ⟨fun k a _ _ _ => zup_n a, fun i a => by rw [zup_s, pk_un a, pk_un a]⟩ (zdr_p (by decide))) hd hQ
    · have e9 : f (8 + 5 * j + 2) + (dvF (dzF f) - dvF (dzF f) / 21 * 21 - 10) = f (8 + 5 * j + 2) + reF (dvF (dzF f)) 21 - 10 := by
        unfold reF
        generalize dvF (dzF f) - dvF (dzF f) / 21 * 21 = y
        generalize f (8 + 5 * j + 2) = x
        grind
      rw [e9]
      exact mmF _
    · rw [zup_n (by decide), zup_s, pk_us, su_2]
  · have hsu : suF f = f := by unfold suF; rw [if_neg h5]
    rw [hsu] at hQ
    refine z_aload_n (i := 0) dX4_drawsAnHour_0 rfl rfl ?_
    refine z_getf dX4_drawsAnHour_1 f_X4_28 (by first | decide | assumption | omega) rfl (by rfl) ?_
    refine z_getf dX4_drawsAnHour_4 f_X4_63 (by first | decide | assumption | omega) rfl (by rfl) ?_
    rw [hR.1]
    refine z_if_le 63 dX4_drawsAnHour_7 (by decide) (fun h_7 => ?_) (fun h_7 => ?_)
    rotate_left
    · exfalso; rw [← hv.1] at h_7; grind
    exact c_drawTail (c := c) (f := f) (g := f) hR hL hv hz zdr_rf hd hQ
end DS
