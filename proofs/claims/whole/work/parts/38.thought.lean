/-! the class: its thoughts -/
theorem hrF_ag {p n : Nat} {f : zN} (hv : vaF f n) (hp : p < n) : ∃ g : zN, AgS p g (hrN f n) ∧ (g = hrN f p ∨ g = wkF p (faF (hrN f p) p) (stF (hrN f p) p) (hrN f p)) ∧ (¬ f (8 + 5 * p + 4) = 0 → g = hrN f p) := by
  have hn6 := hv.2.1
  obtain ⟨j, hj⟩ : ∃ j, n = p + 1 + j := ⟨n - (p + 1), by omega⟩
  have k1 := (hrN_lo (f := f) (p := p) (by omega) (Nat.le_refl p)).2.2.2 4 (by decide)
  refine ⟨hrN f (p + 1), by rw [hj]; exact hrN_up (by omega) (by omega), ?_, fun h => ?_⟩
  · rw [show hrN f (p + 1) = if hrN f p (8 + 5 * p + 4) = 0 then wkF p (faF (hrN f p) p) (stF (hrN f p) p) (hrN f p) else hrN f p from rfl]
    split
    · exact Or.inr rfl
    · exact Or.inl rfl
  · rw [show hrN f (p + 1) = if hrN f p (8 + 5 * p + 4) = 0 then wkF p (faF (hrN f p) p) (stF (hrN f p) p) (hrN f p) else hrN f p from rfl, k1, if_neg h]
theorem hrF_k {p n w : Nat} {f : zN} (hv : vaF f n) (hp : p < n) (hw : w < 3) : hrF f (8 + 5 * p + w) = f (8 + 5 * p + w) := by
  have hn6 := hv.2.1
  have hpn : pn (f 5) = n := by rw [hv.1]; exact pn_nI (by omega)
  obtain ⟨g, h1, h2, _⟩ := hrF_ag hv hp
  unfold hrF
  rw [hpn, pk_un (by omega), h1.2.2.2 w (by omega)]
  have k1 := (hrN_lo (f := f) (p := p) (by omega) (Nat.le_refl p)).2.2.2 w (by omega)
  rcases h2 with rfl | rfl
  · exact k1
  · rw [wk_un (by omega) (by omega)]
    exact k1
theorem hr_lost {p n : Nat} {f : zN} (hv : vaF f n) (hp : p < n) (h : ¬ f (8 + 5 * p + 4) = 0) : ¬ hrF f (8 + 5 * p + 4) = 0 := by
  have hn6 := hv.2.1
  have hpn : pn (f 5) = n := by rw [hv.1]; exact pn_nI (by omega)
  obtain ⟨g, h1, _, h3⟩ := hrF_ag hv hp
  have k1 := (hrN_lo (f := f) (p := p) (by omega) (Nat.le_refl p)).2.2.2 4 (by decide)
  unfold hrF
  rw [hpn, pk_un (by omega), h1.2.2.2 4 (by decide), h3 h, k1]
  exact h
theorem co_lost {p n : Nat} {cell : Int32} : ∀ {m i : Nat} {f : zN}, vaF f n → p < n → ¬ f (8 + 5 * p + 4) = 0 → coF p cell m i f = -1
  | 0, i, f, _, _, _ => rfl
  | m + 1, i, f, hv, hp, h => by
    rw [show coF p cell (m + 1) i f = if f (8 + 5 * p + 4) = 0 ∧ cell ≤ f (8 + 5 * p + 3) then nI i else coF p cell m (i + 1) (hrF f) from rfl, if_neg (fun q => h q.1)]
    exact co_lost (vaF_hr hv) hp (hr_lost hv hp h)
def AgP (p : Nat) (f g : zN) : Prop := (f (8 + 5 * p) = 4 ∧ g = f) ∨ (¬ f (8 + 5 * p) = 4 ∧ AgS p f g)
/-- the pass of the thought, as far as it matters for p -/
def TW (c : zS) (p n : Nat) (f : zN) : Prop := vaF f n ∧ p < n ∧ ∃ g, PR c 34 n g ∧ vaF g n ∧ LW c g ∧ AgP p f g
def zth (c c' : zS) : Prop := ∀ k, k < 34 ∨ 39 < k → k ≠ 4 → k ≠ 7 → c' k = c k
theorem zth_rf {c : zS} : zth c c := fun _ _ _ _ => rfl
theorem zth_tr {c c1 c2 : zS} (h : zth c c1) (h2 : zth c1 c2) : zth c c2 := fun k a b e => (h2 k a b e).trans (h k a b e)
theorem AgP_s {p : Nat} {f g : zN} (h : AgP p f g) : AgS p f g := by
  rcases h with ⟨_, rfl⟩ | ⟨_, h⟩
  · exact AgS_rf
  · exact h
theorem TW_at {c : zS} {p n : Nat} {f : zN} (h : TW c p n f) : c 38 p = f (8 + 5 * p + 3) ∧ c 39 p = f (8 + 5 * p + 4) := by
  obtain ⟨_, hp, g, hR, _, _, ha⟩ := h
  have e := (hR.2.2.2 p hp).2.2.2
  have a := (AgP_s ha).2.2.2
  exact ⟨e.1.trans (a 3 (by decide)), e.2.trans (a 4 (by decide))⟩
section TH
variable {l : Launch} {E : zE} {ad : Nat → Nat} {c : zS} {Qf : Int32 → zS → Prop} {d n : Nat}
theorem t_thour {p : Nat} {f : zN} (h : TW c p n f) (hd : 5 ≤ d) (hQ : ∀ c', TW c' p n (hrF f) → zth c c' → Qf 0 c') : zCl l E ad mX1_anHourGoes d [.ref (ad 34), .int (nI p)] c Qf := by
  obtain ⟨hv, hp, g, hR, hg, hL, ha⟩ := h
  have hn6 := hv.2.1
  have hpn : pn (f 5) = n := by rw [hv.1]; exact pn_nI (by omega)
  have hk : hrF f (8 + 5 * p) = f (8 + 5 * p) := hrF_k (w := 0) hv hp (by decide)
  refine s_hour34 (p := p) (all := decide (g (8 + 5 * p) = 4)) hR hL hg (Or.inr ⟨rfl, hp, rfl⟩) hd (fun c' hR' hf => hQ c' ⟨vaF_hr hv, hp, _, hR', ?_, ?_, ?_⟩ ?_)
  · unfold hrB
    exact vaF_up (by omega) (by omega) (vaF_hrA hg (Nat.le_refl n))
  · refine LW_cg hL (fun k hk => ?_) (hf 2 (by decide) (by decide) (by decide) (by decide) (by decide)) (hf 3 (by decide) (by decide) (by decide) (by decide) (by decide)) (hf 5 (by decide) (by decide) (by decide) (by decide) (by decide)) (hf 6 (by decide) (by decide) (by decide) (by decide) (by decide))
    unfold hrB
    rw [pk_un (by omega)]
    exact hrA_hi hn6 hk (Nat.le_refl n)
  · rcases ha with ⟨h4, rfl⟩ | ⟨h4, ha⟩
    · refine Or.inl ⟨hk.trans h4, ?_⟩
      rw [h4]
      exact hrB_t hpn
    · refine Or.inr ⟨fun q => h4 (hk.symm.trans q), ?_⟩
      have e0 : g (8 + 5 * p) = f (8 + 5 * p) := ha.2.2.2 0 (by decide)
      rw [e0, show decide (f (8 + 5 * p) = 4) = false from decide_eq_false h4]
      exact Ag_hr hv hp ha h4
  · intro k a b e
    exact hf k (by omega) (by omega) (by omega) b e
theorem s_starts {f : zN} (hR : PR c 8 n f) (hn6 : n ≤ 6) (hb : ∀ i, i < n → f (8 + 5 * i + 4) = 0 ∨ f (8 + 5 * i + 4) = 1) (hd : 1 ≤ d) (hQ : ∀ c', PR c' 34 n f → zth c c' → Qf 0 c') : zCl l E ad mX5_starts d [.ref (ad 33)] c Qf := by
  refine z_enter (own := RX5) [some (.ref (ad 33))] (by decide +kernel) rfl rfl rfl (Nat.le_of_ble_eq_true rfl) ?_
  refine z_aload_n (i := 0) dX5_starts_0 rfl rfl ?_
  refine z_getf dX5_starts_1 f_X5_27 (by first | decide | assumption | omega) rfl (by rfl) ?_
  refine z_aload_n (i := 0) dX5_starts_4 rfl rfl ?_
  refine z_getf dX5_starts_5 f_X5_9 (by first | decide | assumption | omega) rfl (by rfl) ?_
  refine z_Vv (As := [_]) dX5_starts_8 (by rfl) v_X1_copies l_X5_30 (by first | decide | assumption | omega) rfl rfl rfl (by omega) (by decide) (Nat.le_of_ble_eq_true rfl) ?_
  refine s_copies34_8 hR hn6 hb (fun c' h1 h2 => ?_)
  exact z_ret (r := 0) dX5_starts_11 (hQ c' h1 (fun k a _ _ => h2 k a)) rfl rfl
theorem s_hoursTo {p m : Nat} {cell : Int32} {f : zN} (h : TW c p n f) (hm : m ≤ 60) (hd : 6 ≤ d) (hQ : ∀ c', zth c c' → Qf (coF p cell (m + 1) 0 f) c') : zCl l E ad mX5_hoursTo d [.ref (ad 33), .int (nI p), .int cell, .int (nI m)] c Qf := by
  have hp6 : p < 6 := by have := h.2.1; have := h.1.2.1; omega
  refine z_enter (own := RX5) [some (.ref (ad 33)), some (.int (nI p)), some (.int cell), some (.int (nI m)), none] (by decide +kernel) rfl rfl rfl (Nat.le_of_ble_eq_true rfl) ?_
  have loop : ∀ (r i : Nat) (F : zN) (c1 : zS), m + 1 - i < r → i ≤ m + 1 → TW c1 p n F → zth c c1 → coF p cell (m + 1 - i) i F = coF p cell (m + 1) 0 f → zW l E ad RX5 cX5_hoursTo 5 1 d Qf 3 [some (.ref (ad 33)), some (.int (nI p)), some (.int cell), some (.int (nI m)), some (.int (nI i))] [] c1 := by
    intro r
    induction r with
    | zero => intro i F c1 q; omega
    | succ r ih =>
      intro i F c1 hr hi hT hz e
      have hlt := nI_ltI (a := m) (b := i) (by omega) (by omega)
      have hat := TW_at hT
      refine z_iload (i := 4) dX5_hoursTo_3 rfl ?_
      refine z_iload_n (i := 3) dX5_hoursTo_5 rfl rfl ?_
      refine z_icmp_gt 51 dX5_hoursTo_6 (by decide) (fun h_6 => ?_) (fun h_6 => ?_)
      · refine z_iconst (v := (-1)) dX5_hoursTo_51 (by decide) ?_
        first
        | (have him : i = m + 1 := by have := hlt.mp h_6; omega
           subst him
           rw [Nat.sub_self] at e
           exact z_ret dX5_hoursTo_52 (by have := hQ c1 hz; rw [← e] at this; exact this) trivial rfl)
        | (rw [if_neg (fun q => h_18 (hat.2.trans q.1)), co_lost (vaF_hr hT.1) hT.2.1 (hr_lost hT.1 hT.2.1 (fun q => h_18 (hat.2.trans q)))] at e
           exact z_ret dX5_hoursTo_52 (by have := hQ c1 hz; rw [← e] at this; exact this) trivial rfl)
      · have him : i ≤ m := by have := mt hlt.mpr h_6; omega
        have es : m + 1 - i = (m - i) + 1 := by omega
        rw [es, show coF p cell (m - i + 1) i F = if F (8 + 5 * p + 4) = 0 ∧ cell ≤ F (8 + 5 * p + 3) then nI i else coF p cell (m - i) (i + 1) (hrF F) from rfl] at e
        refine z_aload_n (i := 0) dX5_hoursTo_9 rfl rfl ?_
        refine z_getf dX5_hoursTo_10 f_X5_27 (by first | decide | assumption | omega) rfl (by rfl) ?_
        refine z_getf dX5_hoursTo_13 f_X5_38 (by first | decide | assumption | omega) rfl (by rfl) ?_
        refine z_iload_n (i := 1) dX5_hoursTo_16 rfl rfl ?_
        refine z_zald (j := p) dX5_hoursTo_17 (by first | decide | assumption | omega) rfl (by rfl) (by first | decide | omega) (by first | decide | omega) ?_
        refine z_if_ne 51 dX5_hoursTo_18 (by decide) (fun h_18 => ?_) (fun h_18 => ?_)
        · refine z_iconst (v := (-1)) dX5_hoursTo_51 (by decide) ?_
          first
          | (have him : i = m + 1 := by have := hlt.mp h_6; omega
             subst him
             rw [Nat.sub_self] at e
             exact z_ret dX5_hoursTo_52 (by have := hQ c1 hz; rw [← e] at this; exact this) trivial rfl)
          | (rw [if_neg (fun q => h_18 (hat.2.trans q.1)), co_lost (vaF_hr hT.1) hT.2.1 (hr_lost hT.1 hT.2.1 (fun q => h_18 (hat.2.trans q)))] at e
             exact z_ret dX5_hoursTo_52 (by have := hQ c1 hz; rw [← e] at this; exact this) trivial rfl)
        · have hl0 : F (8 + 5 * p + 4) = 0 := by rw [← hat.2]; first | exact h_18 | exact Classical.not_not.mp h_18
          refine z_aload_n (i := 0) dX5_hoursTo_21 rfl rfl ?_
          refine z_getf dX5_hoursTo_22 f_X5_27 (by first | decide | assumption | omega) rfl (by rfl) ?_
          refine z_getf dX5_hoursTo_25 f_X5_42 (by first | decide | assumption | omega) rfl (by rfl) ?_
          refine z_iload_n (i := 1) dX5_hoursTo_28 rfl rfl ?_
          refine z_iald (j := p) dX5_hoursTo_29 (by first | decide | assumption | omega) rfl (by rfl) (by first | decide | omega) (by first | decide | omega) ?_
          refine z_iload_n (i := 2) dX5_hoursTo_30 rfl rfl ?_
          refine z_icmp_lt 37 dX5_hoursTo_31 (by decide) (fun h_31 => ?_) (fun h_31 => ?_)
          · refine z_aload_n (i := 0) dX5_hoursTo_37 rfl rfl ?_
            refine z_getf dX5_hoursTo_38 f_X5_27 (by first | decide | assumption | omega) rfl (by rfl) ?_
            refine z_iload_n (i := 1) dX5_hoursTo_41 rfl rfl ?_
            refine z_Vv (As := [_]) dX5_hoursTo_42 (by rfl) v_X1_anHourGoes l_X5_34 (by first | decide | assumption | omega) rfl rfl rfl (by omega) (by decide) (Nat.le_of_ble_eq_true rfl) ?_
            rw [if_neg (fun q => by rw [← hat.1] at q; have h9 := h_31; grind)] at e
            refine t_thour hT (by omega) (fun c2 hT2 hz2 => ?_)
            refine z_iinc (i := 4) (v := 1) [_, _, _, _, _] dX5_hoursTo_45 rfl (by decide) (by decide) rfl rfl ?_
            refine z_goto 3 dX5_hoursTo_48 (by decide) ?_
            rw [nI_1]
            exact ih (i + 1) _ c2 (by omega) (by omega) hT2 (zth_tr hz hz2) (by rw [show m + 1 - (i + 1) = m - i by omega]; exact e)
          · refine z_iload (i := 4) dX5_hoursTo_34 rfl ?_
            rw [if_pos ⟨hl0, by rw [← hat.1]; have h9 := h_31; grind⟩] at e
            exact z_ret dX5_hoursTo_36 (by rw [e]; exact hQ c1 hz) trivial rfl
  refine z_iconst (v := 0) dX5_hoursTo_0 (by decide) ?_
  refine z_istore (i := 4) [_, _, _, _, _] dX5_hoursTo_1 (by decide) rfl rfl ?_
  exact loop (m + 2) 0 f c (by omega) (by omega) h zth_rf rfl
end TH
