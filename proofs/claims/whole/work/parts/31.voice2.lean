/-! the call voice -/
theorem mst_55 {c : zS} {g : zN} : mst (zup c 55 g) = wE (mst c) g := by
  unfold mst wE
  simp only [zup_n (show (52 : Nat) ≠ 55 by decide), zup_n (show (53 : Nat) ≠ 55 by decide), zup_n (show (51 : Nat) ≠ 55 by decide), zup_n (show (59 : Nat) ≠ 55 by decide), zup_n (show (60 : Nat) ≠ 55 by decide), zup_n (show (61 : Nat) ≠ 55 by decide), zup_n (show (62 : Nat) ≠ 55 by decide), zup_s]
section V2
variable {l : Launch} {E : zE} {ad : Nat → Nat} {c : zS} {Qf : Int32 → zS → Prop} {d n : Nat}
theorem o8_voice {p v x : Int32} (hv : vaF (c 52) n) (hkk : ∀ j, j < n → ∃ K : Nat, K ≤ 6 ∧ c 52 (8 + 5 * j) = nI K) (hd : 12 ≤ d) (hQ : ∀ r c', (∀ k, k < 51 → c' k = c k) → (r, mst c') = o_voice (mst c) p v x → Qf r c') : zCl l E ad mX8_voice d [.ref (ad 51), .int p, .int v, .int x] c Qf := by
  obtain ⟨hn, hn6, hw0, hw1⟩ := id hv
  refine z_enter (own := RX8) [some (.ref (ad 51)), some (.int p), some (.int v), some (.int x), none, none] (by decide +kernel) rfl rfl rfl (Nat.le_of_ble_eq_true rfl) ?_
  by_cases hok : isP (mst c) p ∧ 0 ≤ v ∧ v ≤ 3
  · obtain ⟨j, hj, rfl⟩ := isP_of (f := c 52) hok.1 hn hn6
    have epj : pn (nI j) = j := pn_nI (by omega)
    obtain ⟨K, hK, eK⟩ := hkk j hj
    have epK : pn (c 52 (8 + 5 * j)) = K := by rw [eK]; exact pn_nI (by omega)
    have cut95 : ∀ (y b : Int32) (t : vT) (c2 : zS), (∀ k, k ≠ 51 → k ≠ 59 → c2 k = c k) → c2 51 3 = c 51 3 → c2 51 12 = t.1 → c2 59 = t.2 → c2 51 15 = b → (b = 0 → o_voice (mst c) (nI j) v x = (y, wV (mst c) t)) → (¬ b = 0 → o_voice (mst c) (nI j) v x = err (wV (mst c) t) 6) → zW l E ad RX8 cX8_voice 6 1 d Qf 95 [some (.ref (ad 51)), some (.int (nI j)), some (.int v), some (.int x), some (.int (nI K)), none] [.int y] c2 := by
      intro y b t c2 hf e3 e12 e59 e15 h0 h1
      have em : mst c2 = wV (mst c) t := by
        unfold mst wV
        simp only [e3, e12, e59, hf 52 (by decide) (by decide), hf 53 (by decide) (by decide), hf 55 (by decide) (by decide), hf 60 (by decide) (by decide), hf 61 (by decide) (by decide), hf 62 (by decide) (by decide)]
      refine z_istore (i := 5) [_, _, _, _, _, _] dX8_voice_95 (by decide) rfl rfl ?_
      refine z_aload_n (i := 0) dX8_voice_97 rfl rfl ?_
      refine z_getf dX8_voice_98 f_X8_245 (by first | decide | assumption | omega) rfl (by rfl) ?_
      refine z_if_eq 113 dX8_voice_101 (by decide) (fun h_101 => ?_) (fun h_101 => ?_)
      · refine z_iload (i := 5) dX8_voice_113 rfl ?_
        first
        | (have hb : b = 0 := by rw [← e15]; assumption
           exact z_ret dX8_voice_115 (hQ _ _ (fun k hk => hf k (by omega) (by omega)) (by rw [em, h0 hb])) trivial rfl)
        | (have hb : ¬ b = 0 := by rw [← e15]; assumption
           exact z_ret dX8_voice_115 (hQ _ _ (fun k hk => by rw [zup_n (by omega)]; exact hf k (by omega) (by omega)) (by
             rw [h1 hb, mst_55, em, hf 55 (by decide) (by decide)]
             rfl)) trivial rfl)
      · refine z_aload_n (i := 0) dX8_voice_104 rfl rfl ?_
        refine z_bipush (v := 6) dX8_voice_105 (by decide) ?_
        refine z_Vi (As := [_]) dX8_voice_107 (by rfl) v_X8_error l_X8_51 (by first | decide | assumption | omega) rfl rfl rfl (by omega) (by decide) (Nat.le_of_ble_eq_true rfl) ?_
        refine s_X8_error (by rfl) (by first | decide | omega) ?_
        refine z_goto 115 dX8_voice_110 (by decide) ?_
        first
        | (have hb : b = 0 := by rw [← e15]; assumption
           exact z_ret dX8_voice_115 (hQ _ _ (fun k hk => hf k (by omega) (by omega)) (by rw [em, h0 hb])) trivial rfl)
        | (have hb : ¬ b = 0 := by rw [← e15]; assumption
           exact z_ret dX8_voice_115 (hQ _ _ (fun k hk => by rw [zup_n (by omega)]; exact hf k (by omega) (by omega)) (by
             rw [h1 hb, mst_55, em, hf 55 (by decide) (by decide)]
             rfl)) trivial rfl)
    have ev : o_voice (mst c) (nI j) v x = if v = 3 ∧ c 52 (8 + 5 * j + 1) - nI j = 0 then err (wV (mst c) (voV (nI j) (c 52 (8 + 5 * j + 1)) K v x (0, c 59)).2) 6 else ((voV (nI j) (c 52 (8 + 5 * j + 1)) K v x (0, c 59)).1, wV (mst c) (voV (nI j) (c 52 (8 + 5 * j + 1)) K v x (0, c 59)).2) := by
      unfold o_voice
      rw [if_pos hok, epj, show (mst c).1 = c 52 from rfl, epK]
      rfl
    unfold voV at ev
    have hvok : vok (0, c 59) := ⟨0, by omega, rfl⟩
    refine z_aload_n (i := 0) dX8_voice_0 rfl rfl ?_
    refine z_iload_n (i := 1) dX8_voice_1 rfl rfl ?_
    refine z_Vb (As := [_]) dX8_voice_2 (by rfl) v_X8_isPerson l_X8_157 (by first | decide | assumption | omega) rfl rfl rfl (by omega) (by decide) (Nat.le_of_ble_eq_true rfl) ?_
    refine s_X8_isPerson (by omega) ?_
    refine z_if_eq 17 dX8_voice_5 (by decide) (fun h_5 => ?_) (fun h_5 => ?_)
    · refine z_aload_n (i := 0) dX8_voice_17 rfl rfl ?_
      refine z_iconst (v := 1) dX8_voice_18 (by decide) ?_
      refine z_Vi (As := [_]) dX8_voice_19 (by rfl) v_X8_error l_X8_51 (by first | decide | assumption | omega) rfl rfl rfl (by omega) (by decide) (Nat.le_of_ble_eq_true rfl) ?_
      refine s_X8_error (by rfl) (by first | decide | omega) ?_
      exfalso; have hokc : (0 ≤ nI j ∧ nI j ≤ c 52 5 - 1) ∧ 0 ≤ v ∧ v ≤ 3 := hok; grind
    · refine z_iload_n (i := 2) dX8_voice_8 rfl rfl ?_
      refine z_iconst (v := 0) dX8_voice_9 (by decide) ?_
      refine z_iconst (v := 3) dX8_voice_10 (by decide) ?_
      refine z_Sb (As := [_, _, _]) dX8_voice_11 (by rfl) v_X8_in l_X8_47 rfl (by omega) (by decide) (Nat.le_of_ble_eq_true rfl) ?_
      refine s_X8_in ?_
      refine z_if_ne 23 dX8_voice_14 (by decide) (fun h_14 => ?_) (fun h_14 => ?_)
      · refine z_aload_n (i := 0) dX8_voice_23 rfl rfl ?_
        refine z_iconst (v := 0) dX8_voice_24 (by decide) ?_
        refine z_putfi dX8_voice_25 f_X8_221 fp_X8_12 (by first | decide | assumption | omega) rfl (by exact Nat.le_of_ble_eq_true rfl) rfl ?_
        refine z_aload_n (i := 0) dX8_voice_28 rfl rfl ?_
        refine z_iload_n (i := 1) dX8_voice_29 rfl rfl ?_
        refine z_putfi dX8_voice_30 f_X8_224 fp_X8_14 (by first | decide | assumption | omega) rfl (by exact Nat.le_of_ble_eq_true rfl) rfl ?_
        refine z_aload_n (i := 0) dX8_voice_33 rfl rfl ?_
        refine z_iconst (v := 0) dX8_voice_34 (by decide) ?_
        refine z_putfz dX8_voice_35 f_X8_245 fp_X8_15 (by first | decide | assumption | omega) rfl (by exact Nat.le_of_ble_eq_true rfl) rfl rfl rfl ?_
        have hs : ∀ g : zN, (∀ i, i ≠ 12 → i ≠ 14 → i ≠ 15 → g i = c 51 i) → g 12 = 0 → g 14 = nI j → g 15 = 0 → zve (nI j) (c 52 (8 + 5 * j + 1)) j K (zup c 51 g) ∧ zvo (zup c 51 g) (0, c 59) (zup c 51 g) := fun g h1 h2 h3 h4 => ⟨⟨by omega, hK, h3, rfl, eK, rfl⟩, ⟨h2, rfl, fun _ _ _ => rfl, fun _ _ => rfl⟩⟩
        obtain ⟨g, hg, hg0, hg2, hg3⟩ : ∃ g : zN, (zup (zup (zup c 51 (upd (c 51) 12 0)) 51 (upd (zup c 51 (upd (c 51) 12 0) 51) 14 (nI j))) 51 (upd (zup (zup c 51 (upd (c 51) 12 0)) 51 (upd (zup c 51 (upd (c 51) 12 0) 51) 14 (nI j)) 51) 15 0)) = zup c 51 g ∧ (∀ i, i ≠ 12 → i ≠ 14 → i ≠ 15 → g i = c 51 i) ∧ g 12 = 0 ∧ g 14 = nI j ∧ g 15 = 0 := ⟨_, by simp only [zup_zup]; rfl, fun i h1 h2 h3 => by simp only [zup_s, pk_un h1, pk_un h2, pk_un h3], rfl, rfl, rfl⟩
        rw [hg]
        obtain ⟨hz1, hz2⟩ := hs g hg0 hg2 hg3.1 hg3.2
        refine z_aload_n (i := 0) dX8_voice_38 rfl rfl ?_
        refine z_Vi (As := []) dX8_voice_39 (by rfl) v_X8_kindNow l_X8_233 (by first | decide | assumption | omega) rfl rfl rfl (by omega) (by decide) (Nat.le_of_ble_eq_true rfl) ?_
        refine s_X8_kindNow hz1 (by omega) ?_
        refine z_istore (i := 4) [_, _, _, _, _, _] dX8_voice_42 (by decide) rfl rfl ?_
        refine z_iload_n (i := 2) dX8_voice_44 rfl rfl ?_
        refine z_if_ne 58 dX8_voice_45 (by decide) (fun h_45 => ?_) (fun h_45 => ?_)
        · refine z_iload_n (i := 2) dX8_voice_58 rfl rfl ?_
          refine z_iconst (v := 1) dX8_voice_59 (by decide) ?_
          refine z_icmp_ne 73 dX8_voice_60 (by decide) (fun h_60 => ?_) (fun h_60 => ?_)
          · refine z_iload_n (i := 2) dX8_voice_73 rfl rfl ?_
            refine z_iconst (v := 2) dX8_voice_74 (by decide) ?_
            refine z_icmp_ne 88 dX8_voice_75 (by decide) (fun h_75 => ?_) (fun h_75 => ?_)
            · refine z_aload_n (i := 0) dX8_voice_88 rfl rfl ?_
              refine z_iload (i := 4) dX8_voice_89 rfl ?_
              refine z_iload_n (i := 3) dX8_voice_91 rfl rfl ?_
              refine z_Vi (As := [_, _]) dX8_voice_92 (by rfl) v_X8_partsAs l_X8_249 (by first | decide | assumption | omega) rfl rfl rfl (by omega) (by decide) (Nat.le_of_ble_eq_true rfl) ?_
              refine t_parts (x := x) hK hz1 hvok hz2 (by omega) (fun c2 h2 => ?_)
              first
              | (have hv0 : v = 0 := by first | exact h_45 | exact Classical.not_not.mp h_45
                 refine cut95 _ 0 _ c2 (fun k a b => (h2.2.2.1 k a b).trans (zup_n a)) ((h2.2.2.2 3 (by decide)).trans (hg0 3 (by decide) (by decide) (by decide))) h2.1 h2.2.1 ((h2.2.2.2 15 (by decide)).trans hg3.2) (fun _ => ?_) (fun w => absurd rfl w)
                 rw [ev, if_pos hv0, if_neg (fun w => absurd (hv0.symm.trans w.1) (by decide))])
              | (have hv1 : v = 1 := by first | exact h_60 | exact Classical.not_not.mp h_60
                 refine cut95 _ 0 _ c2 (fun k a b => (h2.2.2.1 k a b).trans (zup_n a)) ((h2.2.2.2 3 (by decide)).trans (hg0 3 (by decide) (by decide) (by decide))) h2.1 h2.2.1 ((h2.2.2.2 15 (by decide)).trans hg3.2) (fun _ => ?_) (fun w => absurd rfl w)
                 rw [ev, if_neg h_45, if_pos hv1, if_neg (fun w => absurd (hv1.symm.trans w.1) (by decide))])
              | (have hv2 : v = 2 := by first | exact h_75 | exact Classical.not_not.mp h_75
                 refine cut95 _ 0 _ c2 (fun k a b => (h2.2.2.1 k a b).trans (zup_n a)) ((h2.2.2.2 3 (by decide)).trans (hg0 3 (by decide) (by decide) (by decide))) h2.1 h2.2.1 ((h2.2.2.2 15 (by decide)).trans hg3.2) (fun _ => ?_) (fun w => absurd rfl w)
                 rw [ev, if_neg h_45, if_neg h_60, if_pos hv2, if_neg (fun w => absurd (hv2.symm.trans w.1) (by decide))])
              | (have hv3 : v = 3 := by have := hok.2; grind
                 refine cut95 _ _ _ c2 (fun k a b => (h2.2.2.2.1 k a b).trans (zup_n a)) ((h2.2.2.2.2 3 (by decide) (by decide)).trans (hg0 3 (by decide) (by decide) (by decide))) h2.1 h2.2.1 h2.2.2.1 (fun w => ?_) (fun w => ?_)
                 · rw [ev, if_neg h_45, if_neg h_60, if_neg h_75, if_neg (fun q => absurd w (by unfold paB; rw [if_pos q.2]; decide))]
                 · rw [ev, if_neg h_45, if_neg h_60, if_neg h_75, if_pos ⟨hv3, Classical.byContradiction (fun q => w (by unfold paB; rw [if_neg q]))⟩])
            · refine z_aload_n (i := 0) dX8_voice_78 rfl rfl ?_
              refine z_iload (i := 4) dX8_voice_79 rfl ?_
              refine z_iload_n (i := 3) dX8_voice_81 rfl rfl ?_
              refine z_Vi (As := [_, _]) dX8_voice_82 (by rfl) v_X8_walksAs l_X8_242 (by first | decide | assumption | omega) rfl rfl rfl (by omega) (by decide) (Nat.le_of_ble_eq_true rfl) ?_
              refine t_walks (x := x) hK hz1 hvok hz2 (by omega) (fun c2 h2 => ?_)
              refine z_goto 95 dX8_voice_85 (by decide) ?_
              first
              | (have hv0 : v = 0 := by first | exact h_45 | exact Classical.not_not.mp h_45
                 refine cut95 _ 0 _ c2 (fun k a b => (h2.2.2.1 k a b).trans (zup_n a)) ((h2.2.2.2 3 (by decide)).trans (hg0 3 (by decide) (by decide) (by decide))) h2.1 h2.2.1 ((h2.2.2.2 15 (by decide)).trans hg3.2) (fun _ => ?_) (fun w => absurd rfl w)
                 rw [ev, if_pos hv0, if_neg (fun w => absurd (hv0.symm.trans w.1) (by decide))])
              | (have hv1 : v = 1 := by first | exact h_60 | exact Classical.not_not.mp h_60
                 refine cut95 _ 0 _ c2 (fun k a b => (h2.2.2.1 k a b).trans (zup_n a)) ((h2.2.2.2 3 (by decide)).trans (hg0 3 (by decide) (by decide) (by decide))) h2.1 h2.2.1 ((h2.2.2.2 15 (by decide)).trans hg3.2) (fun _ => ?_) (fun w => absurd rfl w)
                 rw [ev, if_neg h_45, if_pos hv1, if_neg (fun w => absurd (hv1.symm.trans w.1) (by decide))])
              | (have hv2 : v = 2 := by first | exact h_75 | exact Classical.not_not.mp h_75
                 refine cut95 _ 0 _ c2 (fun k a b => (h2.2.2.1 k a b).trans (zup_n a)) ((h2.2.2.2 3 (by decide)).trans (hg0 3 (by decide) (by decide) (by decide))) h2.1 h2.2.1 ((h2.2.2.2 15 (by decide)).trans hg3.2) (fun _ => ?_) (fun w => absurd rfl w)
                 rw [ev, if_neg h_45, if_neg h_60, if_pos hv2, if_neg (fun w => absurd (hv2.symm.trans w.1) (by decide))])
              | (have hv3 : v = 3 := by have := hok.2; grind
                 refine cut95 _ _ _ c2 (fun k a b => (h2.2.2.2.1 k a b).trans (zup_n a)) ((h2.2.2.2.2 3 (by decide) (by decide)).trans (hg0 3 (by decide) (by decide) (by decide))) h2.1 h2.2.1 h2.2.2.1 (fun w => ?_) (fun w => ?_)
                 · rw [ev, if_neg h_45, if_neg h_60, if_neg h_75, if_neg (fun q => absurd w (by unfold paB; rw [if_pos q.2]; decide))]
                 · rw [ev, if_neg h_45, if_neg h_60, if_neg h_75, if_pos ⟨hv3, Classical.byContradiction (fun q => w (by unfold paB; rw [if_neg q]))⟩])
          · refine z_aload_n (i := 0) dX8_voice_63 rfl rfl ?_
            refine z_iload (i := 4) dX8_voice_64 rfl ?_
            refine z_iload_n (i := 3) dX8_voice_66 rfl rfl ?_
            refine z_Vi (As := [_, _]) dX8_voice_67 (by rfl) v_X8_seesAs l_X8_236 (by first | decide | assumption | omega) rfl rfl rfl (by omega) (by decide) (Nat.le_of_ble_eq_true rfl) ?_
            refine t_sees (x := x) hK hz1 hvok hz2 (by omega) (fun c2 h2 => ?_)
            refine z_goto 95 dX8_voice_70 (by decide) ?_
            first
            | (have hv0 : v = 0 := by first | exact h_45 | exact Classical.not_not.mp h_45
               refine cut95 _ 0 _ c2 (fun k a b => (h2.2.2.1 k a b).trans (zup_n a)) ((h2.2.2.2 3 (by decide)).trans (hg0 3 (by decide) (by decide) (by decide))) h2.1 h2.2.1 ((h2.2.2.2 15 (by decide)).trans hg3.2) (fun _ => ?_) (fun w => absurd rfl w)
               rw [ev, if_pos hv0, if_neg (fun w => absurd (hv0.symm.trans w.1) (by decide))])
            | (have hv1 : v = 1 := by first | exact h_60 | exact Classical.not_not.mp h_60
               refine cut95 _ 0 _ c2 (fun k a b => (h2.2.2.1 k a b).trans (zup_n a)) ((h2.2.2.2 3 (by decide)).trans (hg0 3 (by decide) (by decide) (by decide))) h2.1 h2.2.1 ((h2.2.2.2 15 (by decide)).trans hg3.2) (fun _ => ?_) (fun w => absurd rfl w)
               rw [ev, if_neg h_45, if_pos hv1, if_neg (fun w => absurd (hv1.symm.trans w.1) (by decide))])
            | (have hv2 : v = 2 := by first | exact h_75 | exact Classical.not_not.mp h_75
               refine cut95 _ 0 _ c2 (fun k a b => (h2.2.2.1 k a b).trans (zup_n a)) ((h2.2.2.2 3 (by decide)).trans (hg0 3 (by decide) (by decide) (by decide))) h2.1 h2.2.1 ((h2.2.2.2 15 (by decide)).trans hg3.2) (fun _ => ?_) (fun w => absurd rfl w)
               rw [ev, if_neg h_45, if_neg h_60, if_pos hv2, if_neg (fun w => absurd (hv2.symm.trans w.1) (by decide))])
            | (have hv3 : v = 3 := by have := hok.2; grind
               refine cut95 _ _ _ c2 (fun k a b => (h2.2.2.2.1 k a b).trans (zup_n a)) ((h2.2.2.2.2 3 (by decide) (by decide)).trans (hg0 3 (by decide) (by decide) (by decide))) h2.1 h2.2.1 h2.2.2.1 (fun w => ?_) (fun w => ?_)
               · rw [ev, if_neg h_45, if_neg h_60, if_neg h_75, if_neg (fun q => absurd w (by unfold paB; rw [if_pos q.2]; decide))]
               · rw [ev, if_neg h_45, if_neg h_60, if_neg h_75, if_pos ⟨hv3, Classical.byContradiction (fun q => w (by unfold paB; rw [if_neg q]))⟩])
        · refine z_aload_n (i := 0) dX8_voice_48 rfl rfl ?_
          refine z_iload (i := 4) dX8_voice_49 rfl ?_
          refine z_iload_n (i := 3) dX8_voice_51 rfl rfl ?_
          refine z_Vi (As := [_, _]) dX8_voice_52 (by rfl) v_X8_saysAs l_X8_230 (by first | decide | assumption | omega) rfl rfl rfl (by omega) (by decide) (Nat.le_of_ble_eq_true rfl) ?_
          refine t_says (x := x) hK hz1 hvok hz2 (by omega) (fun c2 h2 => ?_)
          refine z_goto 95 dX8_voice_55 (by decide) ?_
          first
          | (have hv0 : v = 0 := by first | exact h_45 | exact Classical.not_not.mp h_45
             refine cut95 _ 0 _ c2 (fun k a b => (h2.2.2.1 k a b).trans (zup_n a)) ((h2.2.2.2 3 (by decide)).trans (hg0 3 (by decide) (by decide) (by decide))) h2.1 h2.2.1 ((h2.2.2.2 15 (by decide)).trans hg3.2) (fun _ => ?_) (fun w => absurd rfl w)
             rw [ev, if_pos hv0, if_neg (fun w => absurd (hv0.symm.trans w.1) (by decide))])
          | (have hv1 : v = 1 := by first | exact h_60 | exact Classical.not_not.mp h_60
             refine cut95 _ 0 _ c2 (fun k a b => (h2.2.2.1 k a b).trans (zup_n a)) ((h2.2.2.2 3 (by decide)).trans (hg0 3 (by decide) (by decide) (by decide))) h2.1 h2.2.1 ((h2.2.2.2 15 (by decide)).trans hg3.2) (fun _ => ?_) (fun w => absurd rfl w)
             rw [ev, if_neg h_45, if_pos hv1, if_neg (fun w => absurd (hv1.symm.trans w.1) (by decide))])
          | (have hv2 : v = 2 := by first | exact h_75 | exact Classical.not_not.mp h_75
             refine cut95 _ 0 _ c2 (fun k a b => (h2.2.2.1 k a b).trans (zup_n a)) ((h2.2.2.2 3 (by decide)).trans (hg0 3 (by decide) (by decide) (by decide))) h2.1 h2.2.1 ((h2.2.2.2 15 (by decide)).trans hg3.2) (fun _ => ?_) (fun w => absurd rfl w)
             rw [ev, if_neg h_45, if_neg h_60, if_pos hv2, if_neg (fun w => absurd (hv2.symm.trans w.1) (by decide))])
          | (have hv3 : v = 3 := by have := hok.2; grind
             refine cut95 _ _ _ c2 (fun k a b => (h2.2.2.2.1 k a b).trans (zup_n a)) ((h2.2.2.2.2 3 (by decide) (by decide)).trans (hg0 3 (by decide) (by decide) (by decide))) h2.1 h2.2.1 h2.2.2.1 (fun w => ?_) (fun w => ?_)
             · rw [ev, if_neg h_45, if_neg h_60, if_neg h_75, if_neg (fun q => absurd w (by unfold paB; rw [if_pos q.2]; decide))]
             · rw [ev, if_neg h_45, if_neg h_60, if_neg h_75, if_pos ⟨hv3, Classical.byContradiction (fun q => w (by unfold paB; rw [if_neg q]))⟩])
      · refine z_aload_n (i := 0) dX8_voice_17 rfl rfl ?_
        refine z_iconst (v := 1) dX8_voice_18 (by decide) ?_
        refine z_Vi (As := [_]) dX8_voice_19 (by rfl) v_X8_error l_X8_51 (by first | decide | assumption | omega) rfl rfl rfl (by omega) (by decide) (Nat.le_of_ble_eq_true rfl) ?_
        refine s_X8_error (by rfl) (by first | decide | omega) ?_
        exfalso; have hokc : (0 ≤ nI j ∧ nI j ≤ c 52 5 - 1) ∧ 0 ≤ v ∧ v ≤ 3 := hok; grind
  · have hokc : ¬ ((0 ≤ p ∧ p ≤ c 52 5 - 1) ∧ 0 ≤ v ∧ v ≤ 3) := hok
    refine z_aload_n (i := 0) dX8_voice_0 rfl rfl ?_
    refine z_iload_n (i := 1) dX8_voice_1 rfl rfl ?_
    refine z_Vb (As := [_]) dX8_voice_2 (by rfl) v_X8_isPerson l_X8_157 (by first | decide | assumption | omega) rfl rfl rfl (by omega) (by decide) (Nat.le_of_ble_eq_true rfl) ?_
    refine s_X8_isPerson (by omega) ?_
    refine z_if_eq 17 dX8_voice_5 (by decide) (fun h_5 => ?_) (fun h_5 => ?_)
    · refine z_aload_n (i := 0) dX8_voice_17 rfl rfl ?_
      refine z_iconst (v := 1) dX8_voice_18 (by decide) ?_
      refine z_Vi (As := [_]) dX8_voice_19 (by rfl) v_X8_error l_X8_51 (by first | decide | assumption | omega) rfl rfl rfl (by omega) (by decide) (Nat.le_of_ble_eq_true rfl) ?_
      refine s_X8_error (by rfl) (by first | decide | omega) ?_
      exact z_ret dX8_voice_22 (hQ _ _ (by intro k hk; simp (disch := omega) only [zup_n]) (by unfold o_voice; rw [if_neg hok]; rfl)) trivial rfl
    · refine z_iload_n (i := 2) dX8_voice_8 rfl rfl ?_
      refine z_iconst (v := 0) dX8_voice_9 (by decide) ?_
      refine z_iconst (v := 3) dX8_voice_10 (by decide) ?_
      refine z_Sb (As := [_, _, _]) dX8_voice_11 (by rfl) v_X8_in l_X8_47 rfl (by omega) (by decide) (Nat.le_of_ble_eq_true rfl) ?_
      refine s_X8_in ?_
      refine z_if_ne 23 dX8_voice_14 (by decide) (fun h_14 => ?_) (fun h_14 => ?_)
      · exfalso; grind
      · refine z_aload_n (i := 0) dX8_voice_17 rfl rfl ?_
        refine z_iconst (v := 1) dX8_voice_18 (by decide) ?_
        refine z_Vi (As := [_]) dX8_voice_19 (by rfl) v_X8_error l_X8_51 (by first | decide | assumption | omega) rfl rfl rfl (by omega) (by decide) (Nat.le_of_ble_eq_true rfl) ?_
        refine s_X8_error (by rfl) (by first | decide | omega) ?_
        exact z_ret dX8_voice_22 (hQ _ _ (by intro k hk; simp (disch := omega) only [zup_n]) (by unfold o_voice; rw [if_neg hok]; rfl)) trivial rfl
end V2
