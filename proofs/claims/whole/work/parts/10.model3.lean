/-! the reference: CLEAR, PACE, HOURS -/
/-- a text as it may lie in the row: none, or steps that leave one number, names of its USE -/
def wfT (f : zN) (u : Nat) : Prop := ∃ n : Nat, n ≤ 60 ∧ f (38 + 125 * u) = nI n ∧ (0 < n → dpR f (38 + 125 * u) n = some 1 ∧ ∀ k, k < n → f (38 + 125 * u + 1 + 2 * k) = 1 → f (38 + 125 * u + 2 + 2 * k) = 99 ∨ f (38 + 125 * u + 2 + 2 * k) = (if u = 0 then 115 else 109) ∨ f (38 + 125 * u + 2 + 2 * k) = (if u = 0 then 104 else 107))
def vaF (f : zN) (n : Nat) : Prop := f 5 = nI n ∧ n ≤ 6 ∧ wfT f 0 ∧ wfT f 1
/-- the store c, but for the row and the scratch rows -/
def zfm (c : zS) (F : zN) (c' : zS) : Prop := c' 52 = F ∧ ∀ k, k ≠ 52 → k ≠ 57 → k ≠ 58 → c' k = c k
theorem zfm_rf {c : zS} : zfm c (c 52) c := ⟨rfl, fun _ _ _ _ => rfl⟩
theorem zfm_up {c c1 : zS} {F : zN} (h : zfm c F c1) (g : zN) : zfm c g (zup c1 52 g) := ⟨zup_s _ _ _, fun k h1 h2 h3 => (zup_n h1).trans (h.2 k h1 h2 h3)⟩
theorem zfm_tr {c c1 c2 : zS} {F G : zN} (h : zfm c F c1) (h2 : zfm c1 G c2) : zfm c G c2 := ⟨h2.1, fun k h3 h4 h5 => (h2.2 k h3 h4 h5).trans (h.2 k h3 h4 h5)⟩
theorem pn_0 {n : Nat} (h : n < 2147483648) : (0 < nI n) ↔ 0 < n := by
  have := nI_ltI (a := 0) (b := n) (by omega) (by omega)
  exact this
theorem txF_named {f nm : zN} {u n : Nat} {a b h : Int32} {g : zN} (hu : u < 2) (hs : f (38 + 125 * u) = nI n) (hn : n ≤ 60) (hdp : dpR f (38 + 125 * u) n = some 1) (hnm : ∀ k, k < n → f (38 + 125 * u + 1 + 2 * k) = 1 → f (38 + 125 * u + 2 + 2 * k) = 99 ∨ f (38 + 125 * u + 2 + 2 * k) = (if u = 0 then 115 else 109) ∨ f (38 + 125 * u + 2 + 2 * k) = (if u = 0 then 104 else 107))
    (h1 : nm 99 = a) (h2 : nm (if u = 0 then 115 else 109) = b) (h3 : nm (if u = 0 then 104 else 107) = h) : (evR nm f (38 + 125 * u) (0, g) n).2 0 = txF f u a b h := by
  unfold txF
  rw [hs, pn_nI (by omega)]
  refine evR_same (fun _ _ => ⟨rfl, rfl⟩) (fun k hk hw => ?_) (Nat.le_refl _) hdp 0 (by omega)
  rcases hnm k hk hw with e | e | e <;> rw [e] <;> rcases (show u = 0 ∨ u = 1 by omega) with rfl | rfl <;> simp only [nmF]
  · exact h1
  · exact h1
  · exact h2
  · exact h2
  · exact h3
  · exact h3
section M3
variable {l : Launch} {E : zE} {ad : Nat → Nat} {c : zS} {Qf : Int32 → zS → Prop} {d : Nat}
theorem s_its {p w : Int32} {i : Nat} {f : zN} (hf : c 52 = f) (hi : 8 + 5 * p + w = nI i) (h : i < 372) (hQ : Qf (f i) c) : zCl l E ad mX8_its d [.ref (ad 51), .int p, .int w] c Qf := s_X8_its hi h (by rw [hf]; exact hQ)
theorem s_X8_clearTold {f : zN} {a b h : Int32} (hf : c 52 = f) (hw : wfT f 0) (hd : 2 ≤ d) (hQ : ∀ c', zfm c f c' → Qf (clF f a b h) c') : zCl l E ad mX8_clearTold d [.ref (ad 51), .int a, .int b, .int h] c Qf := by
  obtain ⟨n, hn, hs, hwf⟩ := hw
  refine z_enter (own := RX8) [some (.ref (ad 51)), some (.int a), some (.int b), some (.int h)] (by decide +kernel) rfl rfl rfl (Nat.le_of_ble_eq_true rfl) ?_
  have e0 : ∀ x : Int32, (if x < 0 then 0 else if x > 20 then 20 else x) = hdF 0 20 x := fun _ => rfl
  have hs' : f 38 = nI n := hs
  have hcut : ∀ (x : Int32) (c' : zS), zfm c f c' → x = (if 0 < f 38 then txF f 0 a b h else a) → zW l E ad RX8 cX8_clearTold 4 1 d Qf 41 [some (.ref (ad 51)), some (.int a), some (.int b), some (.int h)] [.int x] c' := by
    intro x c' hc' hx
    refine z_iconst (v := 0) dX8_clearTold_41 (by decide) ?_
    refine z_bipush (v := 20) dX8_clearTold_42 (by decide) ?_
    refine z_Si (As := [_, _, _]) dX8_clearTold_44 (by rfl) v_X8_held l_X8_121 rfl (by omega) (by decide) (Nat.le_of_ble_eq_true rfl) ?_
    refine s_X8_held ?_
    exact z_ret dX8_clearTold_47 (by rw [e0, hx]; exact hQ c' hc') trivial rfl
  have cut24 : ∀ c1, zfm c f c1 → c1 57 99 = a → c1 57 115 = b → c1 57 104 = h → zW l E ad RX8 cX8_clearTold 4 1 d Qf 24 [some (.ref (ad 51)), some (.int a), some (.int b), some (.int h)] [] c1 := by
    intro c1 hc1 g1 g2 g3
    have e1 := hc1.1
    refine z_aload_n (i := 0) dX8_clearTold_24 rfl rfl ?_
    refine z_iconst (v := 0) dX8_clearTold_25 (by decide) ?_
    refine z_Vb (As := [_]) dX8_clearTold_26 (by rfl) v_X8_hasText l_X8_104 (by first | decide | assumption | omega) rfl rfl rfl (by omega) (by decide) (Nat.le_of_ble_eq_true rfl) ?_
    refine s_X8_hasText (u := 0) (by decide) ?_
    rw [e1]
    refine z_if_eq 40 dX8_clearTold_29 (by decide) (fun h_29 => ?_) (fun h_29 => ?_)
    · refine z_iload_n (i := 1) dX8_clearTold_40 rfl rfl ?_
      first
      | (refine hcut _ _ ⟨e1, fun k h1 h2 h3 => (zup_n h3).trans (hc1.2 k h1 h2 h3)⟩ ?_
         rw [if_pos (by rw [hs', pn_0 (by omega)]; exact hn0), e1]
         exact txF_named (by decide) hs hn (hwf hn0).1 (hwf hn0).2 g1 g2 g3)
      | (refine hcut _ _ hc1 ?_
         grind)
    · refine z_aload_n (i := 0) dX8_clearTold_32 rfl rfl ?_
      refine z_iconst (v := 0) dX8_clearTold_33 (by decide) ?_
      refine z_Vi (As := [_]) dX8_clearTold_34 (by rfl) v_X8_worked l_X8_118 (by first | decide | assumption | omega) rfl rfl rfl (by omega) (by decide) (Nat.le_of_ble_eq_true rfl) ?_
      have hn0 : 0 < n := by
        have h9 : 0 < f 38 := by have h8 := h_29; grind
        rw [hs', pn_0 (by omega)] at h9
        exact h9
      refine s_X8_worked (u := 0) (n := n) (by decide) (by omega) (by rw [e1]; exact hs) (by omega) (by rw [e1]; exact (hwf hn0).1) (fun g => ?_)
      refine z_goto 41 dX8_clearTold_37 (by decide) ?_
      first
      | (refine hcut _ _ ⟨e1, fun k h1 h2 h3 => (zup_n h3).trans (hc1.2 k h1 h2 h3)⟩ ?_
         rw [if_pos (by rw [hs', pn_0 (by omega)]; exact hn0), e1]
         exact txF_named (by decide) hs hn (hwf hn0).1 (hwf hn0).2 g1 g2 g3)
      | (refine hcut _ _ hc1 ?_
         grind)
  refine z_aload_n (i := 0) dX8_clearTold_0 rfl rfl ?_
  refine z_getf dX8_clearTold_1 f_X8_25 (by first | decide | assumption | omega) rfl (by rfl) ?_
  refine z_bipush (v := 99) dX8_clearTold_4 (by decide) ?_
  refine z_iload_n (i := 1) dX8_clearTold_6 rfl rfl ?_
  refine z_iast dX8_clearTold_7 (by first | decide | assumption | omega) (fun _ => rfl) (by rfl) (by first | decide | omega) (by first | decide | omega) ?_
  refine z_aload_n (i := 0) dX8_clearTold_8 rfl rfl ?_
  refine z_getf dX8_clearTold_9 f_X8_25 (by first | decide | assumption | omega) rfl (by rfl) ?_
  refine z_bipush (v := 115) dX8_clearTold_12 (by decide) ?_
  refine z_iload_n (i := 2) dX8_clearTold_14 rfl rfl ?_
  refine z_iast dX8_clearTold_15 (by first | decide | assumption | omega) (fun _ => rfl) (by rfl) (by first | decide | omega) (by first | decide | omega) ?_
  refine z_aload_n (i := 0) dX8_clearTold_16 rfl rfl ?_
  refine z_getf dX8_clearTold_17 f_X8_25 (by first | decide | assumption | omega) rfl (by rfl) ?_
  refine z_bipush (v := 104) dX8_clearTold_20 (by decide) ?_
  refine z_iload_n (i := 3) dX8_clearTold_22 rfl rfl ?_
  refine z_iast dX8_clearTold_23 (by first | decide | assumption | omega) (fun _ => rfl) (by rfl) (by first | decide | omega) (by first | decide | omega) ?_
  exact cut24 _ ⟨hf, fun k h1 h2 h3 => by simp only [zup_n h2]⟩ rfl rfl rfl
theorem s_X8_paceTold {f : zN} {a b h : Int32} (hf : c 52 = f) (hw : wfT f 1) (hd : 2 ≤ d) (hQ : ∀ c', zfm c f c' → Qf (paF f a b h) c') : zCl l E ad mX8_paceTold d [.ref (ad 51), .int a, .int b, .int h] c Qf := by
  obtain ⟨n, hn, hs, hwf⟩ := hw
  refine z_enter (own := RX8) [some (.ref (ad 51)), some (.int a), some (.int b), some (.int h)] (by decide +kernel) rfl rfl rfl (Nat.le_of_ble_eq_true rfl) ?_
  have e0 : ∀ x : Int32, (if x < 0 then 0 else if x > 3 then 3 else x) = hdF 0 3 x := fun _ => rfl
  have hs' : f 163 = nI n := hs
  have hcut : ∀ (x : Int32) (c' : zS), zfm c f c' → x = (if 0 < f 163 then txF f 1 a b h else if 3 < a then 2 else 1) → zW l E ad RX8 cX8_paceTold 4 1 d Qf 50 [some (.ref (ad 51)), some (.int a), some (.int b), some (.int h)] [.int x] c' := by
    intro x c' hc' hx
    refine z_iconst (v := 0) dX8_paceTold_50 (by decide) ?_
    refine z_iconst (v := 3) dX8_paceTold_51 (by decide) ?_
    refine z_Si (As := [_, _, _]) dX8_paceTold_52 (by rfl) v_X8_held l_X8_121 rfl (by omega) (by decide) (Nat.le_of_ble_eq_true rfl) ?_
    refine s_X8_held ?_
    exact z_ret dX8_paceTold_55 (by rw [e0, hx]; exact hQ c' hc') trivial rfl
  have cut24 : ∀ c1, zfm c f c1 → c1 57 99 = a → c1 57 109 = b → c1 57 107 = h → zW l E ad RX8 cX8_paceTold 4 1 d Qf 24 [some (.ref (ad 51)), some (.int a), some (.int b), some (.int h)] [] c1 := by
    intro c1 hc1 g1 g2 g3
    have e1 := hc1.1
    refine z_aload_n (i := 0) dX8_paceTold_24 rfl rfl ?_
    refine z_iconst (v := 1) dX8_paceTold_25 (by decide) ?_
    refine z_Vb (As := [_]) dX8_paceTold_26 (by rfl) v_X8_hasText l_X8_104 (by first | decide | assumption | omega) rfl rfl rfl (by omega) (by decide) (Nat.le_of_ble_eq_true rfl) ?_
    refine s_X8_hasText (u := 1) (by decide) ?_
    rw [e1]
    refine z_if_eq 40 dX8_paceTold_29 (by decide) (fun h_29 => ?_) (fun h_29 => ?_)
    · refine z_iload_n (i := 1) dX8_paceTold_40 rfl rfl ?_
      refine z_iconst (v := 3) dX8_paceTold_41 (by decide) ?_
      refine z_icmp_le 49 dX8_paceTold_42 (by decide) (fun h_42 => ?_) (fun h_42 => ?_)
      · refine z_iconst (v := 1) dX8_paceTold_49 (by decide) ?_
        first
        | (refine hcut _ _ ⟨e1, fun k h1 h2 h3 => (zup_n h3).trans (hc1.2 k h1 h2 h3)⟩ ?_
           rw [if_pos (by rw [hs', pn_0 (by omega)]; exact hn0), e1]
           exact txF_named (by decide) hs hn (hwf hn0).1 (hwf hn0).2 g1 g2 g3)
        | (refine hcut _ _ hc1 ?_
           grind)
      · refine z_iconst (v := 2) dX8_paceTold_45 (by decide) ?_
        refine z_goto 50 dX8_paceTold_46 (by decide) ?_
        first
        | (refine hcut _ _ ⟨e1, fun k h1 h2 h3 => (zup_n h3).trans (hc1.2 k h1 h2 h3)⟩ ?_
           rw [if_pos (by rw [hs', pn_0 (by omega)]; exact hn0), e1]
           exact txF_named (by decide) hs hn (hwf hn0).1 (hwf hn0).2 g1 g2 g3)
        | (refine hcut _ _ hc1 ?_
           grind)
    · refine z_aload_n (i := 0) dX8_paceTold_32 rfl rfl ?_
      refine z_iconst (v := 1) dX8_paceTold_33 (by decide) ?_
      refine z_Vi (As := [_]) dX8_paceTold_34 (by rfl) v_X8_worked l_X8_118 (by first | decide | assumption | omega) rfl rfl rfl (by omega) (by decide) (Nat.le_of_ble_eq_true rfl) ?_
      have hn0 : 0 < n := by
        have h9 : 0 < f 163 := by have h8 := h_29; grind
        rw [hs', pn_0 (by omega)] at h9
        exact h9
      refine s_X8_worked (u := 1) (n := n) (by decide) (by omega) (by rw [e1]; exact hs) (by omega) (by rw [e1]; exact (hwf hn0).1) (fun g => ?_)
      refine z_goto 50 dX8_paceTold_37 (by decide) ?_
      first
      | (refine hcut _ _ ⟨e1, fun k h1 h2 h3 => (zup_n h3).trans (hc1.2 k h1 h2 h3)⟩ ?_
         rw [if_pos (by rw [hs', pn_0 (by omega)]; exact hn0), e1]
         exact txF_named (by decide) hs hn (hwf hn0).1 (hwf hn0).2 g1 g2 g3)
      | (refine hcut _ _ hc1 ?_
         grind)
  refine z_aload_n (i := 0) dX8_paceTold_0 rfl rfl ?_
  refine z_getf dX8_paceTold_1 f_X8_25 (by first | decide | assumption | omega) rfl (by rfl) ?_
  refine z_bipush (v := 99) dX8_paceTold_4 (by decide) ?_
  refine z_iload_n (i := 1) dX8_paceTold_6 rfl rfl ?_
  refine z_iast dX8_paceTold_7 (by first | decide | assumption | omega) (fun _ => rfl) (by rfl) (by first | decide | omega) (by first | decide | omega) ?_
  refine z_aload_n (i := 0) dX8_paceTold_8 rfl rfl ?_
  refine z_getf dX8_paceTold_9 f_X8_25 (by first | decide | assumption | omega) rfl (by rfl) ?_
  refine z_bipush (v := 109) dX8_paceTold_12 (by decide) ?_
  refine z_iload_n (i := 2) dX8_paceTold_14 rfl rfl ?_
  refine z_iast dX8_paceTold_15 (by first | decide | assumption | omega) (fun _ => rfl) (by rfl) (by first | decide | omega) (by first | decide | omega) ?_
  refine z_aload_n (i := 0) dX8_paceTold_16 rfl rfl ?_
  refine z_getf dX8_paceTold_17 f_X8_25 (by first | decide | assumption | omega) rfl (by rfl) ?_
  refine z_bipush (v := 107) dX8_paceTold_20 (by decide) ?_
  refine z_iload_n (i := 3) dX8_paceTold_22 rfl rfl ?_
  refine z_iast dX8_paceTold_23 (by first | decide | assumption | omega) (fun _ => rfl) (by rfl) (by first | decide | omega) (by first | decide | omega) ?_
  exact cut24 _ ⟨hf, fun k h1 h2 h3 => by simp only [zup_n h2]⟩ rfl rfl rfl
end M3
