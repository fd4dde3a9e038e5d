/-! the reference's calls, seven: fills, fits, draws -/
section R7
variable {l : Launch} {E : zE} {ad : Nat → Nat} {c : zS} {Qf : Int32 → zS → Prop} {d n : Nat}
theorem t_comesWithout {f : zN} {p k : Nat} {cell set : Int32} (hf : c 52 = f) (hv : vaF f n) (hp : p < n) (hk : k ≤ 60) (hd : 7 ≤ d) (hQ : ∀ c', zsc c c' → Qf (if coutF f p cell k set = true then 1 else 0) c') : zCl l E ad mX8_comesWithout d [.ref (ad 51), .int (nI p), .int cell, .int (nI k), .int set] c Qf := by
  subst hf
  exact s_X8_comesWithout hv hp hk hd hQ
theorem o8_fills {p cell k w : Int32} (hv : vaF (c 52) n) (hd : 9 ≤ d) (hQ : ∀ r c', (∀ k, k < 51 → c' k = c k) → (r, mst c') = o_fills (mst c) p cell k w → Qf r c') : zCl l E ad mX8_fills d [.ref (ad 51), .int p, .int cell, .int k, .int w] c Qf := by
  obtain ⟨hn, hn6, hw0, hw1⟩ := id hv
  refine z_enter (own := RX8) [some (.ref (ad 51)), some (.int p), some (.int cell), some (.int k), some (.int w), none, none, none, none, none, none] (by decide +kernel) rfl rfl rfl (Nat.le_of_ble_eq_true rfl) ?_
  have loop : ∀ (j m : Nat), j < n → m ≤ 20 → (isP (mst c) (nI j) ∧ (0 ≤ cell ∧ cell ≤ 15) ∧ (0 ≤ nI m ∧ nI m ≤ 20) ∧ 0 ≤ w ∧ w ≤ 1) → p = nI j → k = nI m → ∀ (r a : Nat) (c1 : zS) (x7 x8 x9 x10 : Option Value), 15 - a < r → a ≤ 15 → zsc c c1 → zW l E ad RX8 cX8_fills 11 1 d Qf 44 [some (.ref (ad 51)), some (.int (nI j)), some (.int cell), some (.int (nI m)), some (.int w), some (.int (fiO (c 52) j cell m a)), some (.int (nI a)), x7, x8, x9, x10] [] c1 := by
    intro j m hj hm hok ep ek r
    subst ep
    subst ek
    induction r with
    | zero => intro a c1 x7 x8 x9 x10 h; omega
    | succ r ih =>
      intro a c1 x7 x8 x9 x10 hr ha hc1
      have hlt : (15 : Int32) ≤ nI a ↔ 15 ≤ a := nI_leI (a := 15) (b := a) (by omega) (by omega)
      have ha0 : nI a = 0 ↔ a = 0 := nI_eq (a := a) (b := 0) (by omega) (by omega)
      have inner : a < 15 → ∀ (s b : Nat) (c2 : zS) (x8 x9 x10 : Option Value), a + 1 - b < s → b ≤ a + 1 → zsc c c2 → zW l E ad RX8 cX8_fills 11 1 d Qf 54 [some (.ref (ad 51)), some (.int (nI j)), some (.int cell), some (.int (nI m)), some (.int w), some (.int (fiN (c 52) j cell m a b (fiO (c 52) j cell m a))), some (.int (nI a)), some (.int (nI b)), x8, x9, x10] [] c2 := by
        intro ha15 s
        induction s with
        | zero => intro b c2 x8 x9 x10 h; omega
        | succ s ihs =>
          intro b c2 x8 x9 x10 hs hb hc2
          have hb0 : nI b = 0 ↔ b = 0 := nI_eq (a := b) (b := 0) (by omega) (by omega)
          have hba : nI a < nI b ↔ a < b := nI_ltI (a := a) (b := b) (by omega) (by omega)
          have e2 := hc2 52 (by decide) (by decide) (by decide)
          have hbest := fiN_tw (f := c 52) (p := j) (k := m) (cell := cell) ha15 (fiO_tw (f := c 52) (p := j) (k := m) (cell := cell) a ha) b (by omega)
          have hst : fiN (c 52) j cell m a (b + 1) (fiO (c 52) j cell m a) = fiS (c 52) j cell m a b (fiN (c 52) j cell m a b (fiO (c 52) j cell m a)) := rfl
          generalize hg : fiN (c 52) j cell m a b (fiO (c 52) j cell m a) = best at hst hbest ⊢
          have cut186 : ∀ (x : Int32) (c3 : zS) (x8 x9 x10 : Option Value), b ≤ a → zsc c c3 → x = fiS (c 52) j cell m a b best → zW l E ad RX8 cX8_fills 11 1 d Qf 186 [some (.ref (ad 51)), some (.int (nI j)), some (.int cell), some (.int (nI m)), some (.int w), some (.int best), some (.int (nI a)), some (.int (nI b)), x8, x9, x10] [.int x] c3 := by
            intro x c3 x8 x9 x10 hba2 hc3 hx
            subst hx
            refine z_istore (i := 5) [_, _, _, _, _, _, _, _, _, _, _] dX8_fills_186 (by decide) rfl rfl ?_
            refine z_iinc (i := 7) (v := 1) [_, _, _, _, _, _, _, _, _, _, _] dX8_fills_188 rfl (by decide) (by decide) rfl rfl ?_
            refine z_goto 54 dX8_fills_191 (by decide) ?_
            rw [nI_1, ← hst]
            exact ihs (b + 1) c3 _ _ _ (by omega) (by omega) hc3
          have cut155 : ∀ (x9 x : Int32), b ≤ a → x9 = (if twF a b &&& (c 52 1 ^^^ (-1)) = 0 then 1 else 0) → x = (if best = -1 ∨ mnF (twF a b) < mnF best ∨ mnF (twF a b) = mnF best ∧ twF a b < best then 1 else 0) → ∀ (x10 : Option Value), zW l E ad RX8 cX8_fills 11 1 d Qf 155 [some (.ref (ad 51)), some (.int (nI j)), some (.int cell), some (.int (nI m)), some (.int w), some (.int best), some (.int (nI a)), some (.int (nI b)), some (.int (twF a b)), some (.int x9), x10] [.int x] c2 := by
            intro x9 x hba2 hx9 hx x10
            refine z_istore (i := 10) [_, _, _, _, _, _, _, _, _, _, _] dX8_fills_155 (by decide) rfl rfl ?_
            refine z_iload (i := 9) dX8_fills_157 rfl ?_
            refine z_if_eq 184 dX8_fills_159 (by decide) (fun h_159 => ?_) (fun h_159 => ?_)
            · refine z_iload (i := 5) dX8_fills_184 rfl ?_
              first
              | exact cut186 _ _ _ _ _ hba2 (zsc_tr hc2 hc') (by unfold fiS; grind)
              | exact cut186 _ _ _ _ _ hba2 hc2 (by unfold fiS; grind)
            · refine z_iload (i := 10) dX8_fills_162 rfl ?_
              refine z_if_eq 184 dX8_fills_164 (by decide) (fun h_164 => ?_) (fun h_164 => ?_)
              · refine z_iload (i := 5) dX8_fills_184 rfl ?_
                first
                | exact cut186 _ _ _ _ _ hba2 (zsc_tr hc2 hc') (by unfold fiS; grind)
                | exact cut186 _ _ _ _ _ hba2 hc2 (by unfold fiS; grind)
              · refine z_aload_n (i := 0) dX8_fills_167 rfl rfl ?_
                refine z_iload_n (i := 1) dX8_fills_168 rfl rfl ?_
                refine z_iload_n (i := 2) dX8_fills_169 rfl rfl ?_
                refine z_iload_n (i := 3) dX8_fills_170 rfl rfl ?_
                refine z_iload (i := 8) dX8_fills_171 rfl ?_
                refine z_Vb (As := [_, _, _, _]) dX8_fills_173 (by rfl) v_X8_comesWithout l_X8_206 (by first | decide | assumption | omega) rfl rfl rfl (by omega) (by decide) (Nat.le_of_ble_eq_true rfl) ?_
                refine t_comesWithout e2 hv hj (by omega) (by omega) (fun c' hc' => ?_)
                refine z_if_eq 184 dX8_fills_176 (by decide) (fun h_176 => ?_) (fun h_176 => ?_)
                · refine z_iload (i := 5) dX8_fills_184 rfl ?_
                  first
                  | exact cut186 _ _ _ _ _ hba2 (zsc_tr hc2 hc') (by unfold fiS; grind)
                  | exact cut186 _ _ _ _ _ hba2 hc2 (by unfold fiS; grind)
                · refine z_iload (i := 8) dX8_fills_179 rfl ?_
                  refine z_goto 186 dX8_fills_181 (by decide) ?_
                  first
                  | exact cut186 _ _ _ _ _ hba2 (zsc_tr hc2 hc') (by unfold fiS; grind)
                  | exact cut186 _ _ _ _ _ hba2 hc2 (by unfold fiS; grind)
          have cut109 : ∀ (x : Int32), b ≤ a → x = (if twF a b &&& (c 52 1 ^^^ (-1)) = 0 then 1 else 0) → ∀ (x9 x10 : Option Value), zW l E ad RX8 cX8_fills 11 1 d Qf 109 [some (.ref (ad 51)), some (.int (nI j)), some (.int cell), some (.int (nI m)), some (.int w), some (.int best), some (.int (nI a)), some (.int (nI b)), some (.int (twF a b)), x9, x10] [.int x] c2 := by
            intro x hba2 hx x9 x10
            have ht3 : tw3 (twF a b) := tw3_tw a (by omega) b (by omega)
            refine z_istore (i := 9) [_, _, _, _, _, _, _, _, _, _, _] dX8_fills_109 (by decide) rfl rfl ?_
            refine z_iload (i := 5) dX8_fills_111 rfl ?_
            refine z_iconst (v := (-1)) dX8_fills_113 (by decide) ?_
            refine z_icmp_eq 150 dX8_fills_114 (by decide) (fun h_114 => ?_) (fun h_114 => ?_)
            · refine z_iconst (v := 1) dX8_fills_150 (by decide) ?_
              refine z_goto 155 dX8_fills_151 (by decide) ?_
              exact cut155 _ _ hba2 hx (by grind) _
            · refine z_iload (i := 8) dX8_fills_117 rfl ?_
              refine z_Si (As := [_]) dX8_fills_119 (by rfl) v_X8_manyIn l_X8_203 rfl (by omega) (by decide) (Nat.le_of_ble_eq_true rfl) ?_
              first | refine s_X8_manyIn ht3 ?_ | refine s_X8_manyIn (by grind) ?_
              refine z_iload (i := 5) dX8_fills_122 rfl ?_
              refine z_Si (As := [_]) dX8_fills_124 (by rfl) v_X8_manyIn l_X8_203 rfl (by omega) (by decide) (Nat.le_of_ble_eq_true rfl) ?_
              first | refine s_X8_manyIn ht3 ?_ | refine s_X8_manyIn (by grind) ?_
              refine z_icmp_lt 150 dX8_fills_127 (by decide) (fun h_127 => ?_) (fun h_127 => ?_)
              · refine z_iconst (v := 1) dX8_fills_150 (by decide) ?_
                refine z_goto 155 dX8_fills_151 (by decide) ?_
                exact cut155 _ _ hba2 hx (by grind) _
              · refine z_iload (i := 8) dX8_fills_130 rfl ?_
                refine z_Si (As := [_]) dX8_fills_132 (by rfl) v_X8_manyIn l_X8_203 rfl (by omega) (by decide) (Nat.le_of_ble_eq_true rfl) ?_
                first | refine s_X8_manyIn ht3 ?_ | refine s_X8_manyIn (by grind) ?_
                refine z_iload (i := 5) dX8_fills_135 rfl ?_
                refine z_Si (As := [_]) dX8_fills_137 (by rfl) v_X8_manyIn l_X8_203 rfl (by omega) (by decide) (Nat.le_of_ble_eq_true rfl) ?_
                first | refine s_X8_manyIn ht3 ?_ | refine s_X8_manyIn (by grind) ?_
                refine z_icmp_ne 154 dX8_fills_140 (by decide) (fun h_140 => ?_) (fun h_140 => ?_)
                · refine z_iconst (v := 0) dX8_fills_154 (by decide) ?_
                  exact cut155 _ _ hba2 hx (by grind) _
                · refine z_iload (i := 8) dX8_fills_143 rfl ?_
                  refine z_iload (i := 5) dX8_fills_145 rfl ?_
                  refine z_icmp_ge 154 dX8_fills_147 (by decide) (fun h_147 => ?_) (fun h_147 => ?_)
                  · refine z_iconst (v := 0) dX8_fills_154 (by decide) ?_
                    exact cut155 _ _ hba2 hx (by grind) _
                  · refine z_iconst (v := 1) dX8_fills_150 (by decide) ?_
                    refine z_goto 155 dX8_fills_151 (by decide) ?_
                    exact cut155 _ _ hba2 hx (by grind) _
          have cut87 : ∀ (x y : Int32), b ≤ a → y = (if a = 0 then (0 : Int32) else (1 : Int32) <<< (nI a &&& 31)) → x = (if b = 0 then (0 : Int32) else (1 : Int32) <<< (nI b &&& 31)) → ∀ (x8 x9 x10 : Option Value), zW l E ad RX8 cX8_fills 11 1 d Qf 87 [some (.ref (ad 51)), some (.int (nI j)), some (.int cell), some (.int (nI m)), some (.int w), some (.int best), some (.int (nI a)), some (.int (nI b)), x8, x9, x10] [.int x, .int y] c2 := by
            intro x y hba2 hy hx x8 x9 x10
            have hxy : y ||| x = twF a b := by rw [hy, hx]; rfl
            refine z_ior dX8_fills_87 ?_
            rw [hxy]
            refine z_istore (i := 8) [_, _, _, _, _, _, _, _, _, _, _] dX8_fills_88 (by decide) rfl rfl ?_
            refine z_iload (i := 8) dX8_fills_90 rfl ?_
            refine z_aload_n (i := 0) dX8_fills_92 rfl rfl ?_
            refine z_getf dX8_fills_93 f_X8_7 (by first | decide | assumption | omega) rfl (by rfl) ?_
            refine z_iconst (v := 1) dX8_fills_96 (by decide) ?_
            refine z_iald dX8_fills_97 (by first | decide | assumption | omega) rfl (by rfl) (by first | decide | omega) (by first | decide | omega) ?_
            refine z_iconst (v := (-1)) dX8_fills_98 (by decide) ?_
            refine z_ixor dX8_fills_99 ?_
            refine z_iand dX8_fills_100 ?_
            refine z_if_ne 108 dX8_fills_101 (by decide) (fun h_101 => ?_) (fun h_101 => ?_)
            · refine z_iconst (v := 0) dX8_fills_108 (by decide) ?_
              exact cut109 _ hba2 (by rw [e2] at h_101; grind) _ _
            · refine z_iconst (v := 1) dX8_fills_104 (by decide) ?_
              refine z_goto 109 dX8_fills_105 (by decide) ?_
              exact cut109 _ hba2 (by rw [e2] at h_101; grind) _ _
          refine z_iload (i := 7) dX8_fills_54 rfl ?_
          refine z_iload (i := 6) dX8_fills_56 rfl ?_
          refine z_icmp_gt 194 dX8_fills_58 (by decide) (fun h_58 => ?_) (fun h_58 => ?_)
          · have hba2 : b = a + 1 := by have := hba.mp h_58; omega
            subst hba2
            refine z_iinc (i := 6) (v := 1) [_, _, _, _, _, _, _, _, _, _, _] dX8_fills_194 rfl (by decide) (by decide) rfl rfl ?_
            refine z_goto 44 dX8_fills_197 (by decide) ?_
            have e44 : best = fiO (c 52) j cell m (a + 1) := hg.symm
            rw [nI_1, e44]
            exact ih (a + 1) c2 _ _ _ _ (by omega) (by omega) hc2
          · have hba2 : b ≤ a := by have := mt hba.mpr h_58; omega
            refine z_iload (i := 6) dX8_fills_61 rfl ?_
            refine z_if_ne 70 dX8_fills_63 (by decide) (fun h_63 => ?_) (fun h_63 => ?_)
            · refine z_iconst (v := 1) dX8_fills_70 (by decide) ?_
              refine z_iload (i := 6) dX8_fills_71 rfl ?_
              refine z_ishl dX8_fills_73 ?_
              refine z_iload (i := 7) dX8_fills_74 rfl ?_
              refine z_if_ne 83 dX8_fills_76 (by decide) (fun h_76 => ?_) (fun h_76 => ?_)
              · refine z_iconst (v := 1) dX8_fills_83 (by decide) ?_
                refine z_iload (i := 7) dX8_fills_84 rfl ?_
                refine z_ishl dX8_fills_86 ?_
                exact cut87 _ _ hba2 (by grind) (by grind) _ _ _
              · refine z_iconst (v := 0) dX8_fills_79 (by decide) ?_
                refine z_goto 87 dX8_fills_80 (by decide) ?_
                exact cut87 _ _ hba2 (by grind) (by grind) _ _ _
            · refine z_iconst (v := 0) dX8_fills_66 (by decide) ?_
              refine z_goto 74 dX8_fills_67 (by decide) ?_
              refine z_iload (i := 7) dX8_fills_74 rfl ?_
              refine z_if_ne 83 dX8_fills_76 (by decide) (fun h_76 => ?_) (fun h_76 => ?_)
              · refine z_iconst (v := 1) dX8_fills_83 (by decide) ?_
                refine z_iload (i := 7) dX8_fills_84 rfl ?_
                refine z_ishl dX8_fills_86 ?_
                exact cut87 _ _ hba2 (by grind) (by grind) _ _ _
              · refine z_iconst (v := 0) dX8_fills_79 (by decide) ?_
                refine z_goto 87 dX8_fills_80 (by decide) ?_
                exact cut87 _ _ hba2 (by grind) (by grind) _ _ _
      refine z_iload (i := 6) dX8_fills_44 rfl ?_
      refine z_bipush (v := 15) dX8_fills_46 (by decide) ?_
      refine z_icmp_ge 200 dX8_fills_48 (by decide) (fun h_48 => ?_) (fun h_48 => ?_)
      · have ha15 : a = 15 := by have := hlt.mp h_48; omega
        subst ha15
        have htw := fiO_tw (f := c 52) (p := j) (k := m) (cell := cell) 15 (by omega)
        refine z_iload (i := 5) dX8_fills_200 rfl ?_
        refine z_iconst (v := (-1)) dX8_fills_202 (by decide) ?_
        refine z_icmp_ne 214 dX8_fills_203 (by decide) (fun h_203 => ?_) (fun h_203 => ?_)
        · refine z_iload (i := 4) dX8_fills_214 rfl ?_
          refine z_if_ne 227 dX8_fills_216 (by decide) (fun h_216 => ?_) (fun h_216 => ?_)
          · refine z_iload (i := 5) dX8_fills_227 rfl ?_
            first
            | exact z_ret dX8_fills_229 (hQ _ _ (fun k hk => hc1 k (by omega) (by omega) (by omega)) (by
                unfold o_fills
                rw [if_pos hok, pn_nI (show j < 2147483648 by omega), pn_nI (show m < 2147483648 by omega), show (mst c).1 = c 52 from rfl, if_neg (by assumption), if_pos (by assumption), mst_zsc hc1])) trivial rfl
            | exact z_ret dX8_fills_229 (hQ _ _ (fun k hk => hc1 k (by omega) (by omega) (by omega)) (by
                unfold o_fills
                rw [if_pos hok, pn_nI (show j < 2147483648 by omega), pn_nI (show m < 2147483648 by omega), show (mst c).1 = c 52 from rfl, if_neg (by assumption), if_neg (by assumption), mst_zsc hc1])) trivial rfl
            | exact z_ret dX8_fills_229 (hQ _ _ (fun k hk => by rw [zup_n (by omega)]; exact hc1 k (by omega) (by omega) (by omega)) (by
                unfold o_fills
                rw [if_pos hok, pn_nI (show j < 2147483648 by omega), pn_nI (show m < 2147483648 by omega), show (mst c).1 = c 52 from rfl, if_pos (by assumption)]
                exact err_eq (k := 2) hc1)) trivial rfl
          · refine z_iload (i := 5) dX8_fills_219 rfl ?_
            refine z_Si (As := [_]) dX8_fills_221 (by rfl) v_X8_manyIn l_X8_203 rfl (by omega) (by decide) (Nat.le_of_ble_eq_true rfl) ?_
            refine s_X8_manyIn (htw.resolve_left (by assumption)) ?_
            refine z_goto 229 dX8_fills_224 (by decide) ?_
            first
            | exact z_ret dX8_fills_229 (hQ _ _ (fun k hk => hc1 k (by omega) (by omega) (by omega)) (by
                unfold o_fills
                rw [if_pos hok, pn_nI (show j < 2147483648 by omega), pn_nI (show m < 2147483648 by omega), show (mst c).1 = c 52 from rfl, if_neg (by assumption), if_pos (by assumption), mst_zsc hc1])) trivial rfl
            | exact z_ret dX8_fills_229 (hQ _ _ (fun k hk => hc1 k (by omega) (by omega) (by omega)) (by
                unfold o_fills
                rw [if_pos hok, pn_nI (show j < 2147483648 by omega), pn_nI (show m < 2147483648 by omega), show (mst c).1 = c 52 from rfl, if_neg (by assumption), if_neg (by assumption), mst_zsc hc1])) trivial rfl
            | exact z_ret dX8_fills_229 (hQ _ _ (fun k hk => by rw [zup_n (by omega)]; exact hc1 k (by omega) (by omega) (by omega)) (by
                unfold o_fills
                rw [if_pos hok, pn_nI (show j < 2147483648 by omega), pn_nI (show m < 2147483648 by omega), show (mst c).1 = c 52 from rfl, if_pos (by assumption)]
                exact err_eq (k := 2) hc1)) trivial rfl
        · refine z_aload_n (i := 0) dX8_fills_206 rfl rfl ?_
          refine z_iconst (v := 2) dX8_fills_207 (by decide) ?_
          refine z_Vi (As := [_]) dX8_fills_208 (by rfl) v_X8_error l_X8_51 (by first | decide | assumption | omega) rfl rfl rfl (by omega) (by decide) (Nat.le_of_ble_eq_true rfl) ?_
          refine s_X8_error (by rfl) (by first | decide | omega) ?_
          refine z_goto 229 dX8_fills_211 (by decide) ?_
          first
          | exact z_ret dX8_fills_229 (hQ _ _ (fun k hk => hc1 k (by omega) (by omega) (by omega)) (by
              unfold o_fills
              rw [if_pos hok, pn_nI (show j < 2147483648 by omega), pn_nI (show m < 2147483648 by omega), show (mst c).1 = c 52 from rfl, if_neg (by assumption), if_pos (by assumption), mst_zsc hc1])) trivial rfl
          | exact z_ret dX8_fills_229 (hQ _ _ (fun k hk => hc1 k (by omega) (by omega) (by omega)) (by
              unfold o_fills
              rw [if_pos hok, pn_nI (show j < 2147483648 by omega), pn_nI (show m < 2147483648 by omega), show (mst c).1 = c 52 from rfl, if_neg (by assumption), if_neg (by assumption), mst_zsc hc1])) trivial rfl
          | exact z_ret dX8_fills_229 (hQ _ _ (fun k hk => by rw [zup_n (by omega)]; exact hc1 k (by omega) (by omega) (by omega)) (by
              unfold o_fills
              rw [if_pos hok, pn_nI (show j < 2147483648 by omega), pn_nI (show m < 2147483648 by omega), show (mst c).1 = c 52 from rfl, if_pos (by assumption)]
              exact err_eq (k := 2) hc1)) trivial rfl
      · have ha15 : a < 15 := by have := mt hlt.mpr h_48; omega
        refine z_iconst (v := 0) dX8_fills_51 (by decide) ?_
        refine z_istore (i := 7) [_, _, _, _, _, _, _, _, _, _, _] dX8_fills_52 (by decide) rfl rfl ?_
        exact inner ha15 (a + 2) 0 c1 _ _ _ (by omega) (by omega) hc1
  refine z_aload_n (i := 0) dX8_fills_0 rfl rfl ?_
  refine z_iload_n (i := 1) dX8_fills_1 rfl rfl ?_
  refine z_Vb (As := [_]) dX8_fills_2 (by rfl) v_X8_isPerson l_X8_157 (by first | decide | assumption | omega) rfl rfl rfl (by omega) (by decide) (Nat.le_of_ble_eq_true rfl) ?_
  refine s_X8_isPerson (by omega) ?_
  refine z_if_eq 32 dX8_fills_5 (by decide) (fun h_5 => ?_) (fun h_5 => ?_)
  · refine z_aload_n (i := 0) dX8_fills_32 rfl rfl ?_
    refine z_iconst (v := 1) dX8_fills_33 (by decide) ?_
    refine z_Vi (As := [_]) dX8_fills_34 (by rfl) v_X8_error l_X8_51 (by first | decide | assumption | omega) rfl rfl rfl (by omega) (by decide) (Nat.le_of_ble_eq_true rfl) ?_
    refine s_X8_error (by rfl) (by first | decide | omega) ?_
    exact z_ret dX8_fills_37 (hQ _ _ (by intro k hk; simp (disch := omega) only [zup_n]) (by unfold o_fills; rw [if_neg (by show ¬ ((0 ≤ p ∧ p ≤ c 52 5 - 1) ∧ _); grind)]; rfl)) trivial rfl
  · refine z_iload_n (i := 2) dX8_fills_8 rfl rfl ?_
    refine z_Sb (As := [_]) dX8_fills_9 (by rfl) v_X8_isCell l_X8_169 rfl (by omega) (by decide) (Nat.le_of_ble_eq_true rfl) ?_
    refine s_X8_isCell (by omega) ?_
    refine z_if_eq 32 dX8_fills_12 (by decide) (fun h_12 => ?_) (fun h_12 => ?_)
    · refine z_aload_n (i := 0) dX8_fills_32 rfl rfl ?_
      refine z_iconst (v := 1) dX8_fills_33 (by decide) ?_
      refine z_Vi (As := [_]) dX8_fills_34 (by rfl) v_X8_error l_X8_51 (by first | decide | assumption | omega) rfl rfl rfl (by omega) (by decide) (Nat.le_of_ble_eq_true rfl) ?_
      refine s_X8_error (by rfl) (by first | decide | omega) ?_
      exact z_ret dX8_fills_37 (hQ _ _ (by intro k hk; simp (disch := omega) only [zup_n]) (by unfold o_fills; rw [if_neg (by show ¬ ((0 ≤ p ∧ p ≤ c 52 5 - 1) ∧ _); grind)]; rfl)) trivial rfl
    · refine z_iload_n (i := 3) dX8_fills_15 rfl rfl ?_
      refine z_Sb (As := [_]) dX8_fills_16 (by rfl) v_X8_isSoon l_X8_196 rfl (by omega) (by decide) (Nat.le_of_ble_eq_true rfl) ?_
      refine s_X8_isSoon (by omega) ?_
      refine z_if_eq 32 dX8_fills_19 (by decide) (fun h_19 => ?_) (fun h_19 => ?_)
      · refine z_aload_n (i := 0) dX8_fills_32 rfl rfl ?_
        refine z_iconst (v := 1) dX8_fills_33 (by decide) ?_
        refine z_Vi (As := [_]) dX8_fills_34 (by rfl) v_X8_error l_X8_51 (by first | decide | assumption | omega) rfl rfl rfl (by omega) (by decide) (Nat.le_of_ble_eq_true rfl) ?_
        refine s_X8_error (by rfl) (by first | decide | omega) ?_
        exact z_ret dX8_fills_37 (hQ _ _ (by intro k hk; simp (disch := omega) only [zup_n]) (by unfold o_fills; rw [if_neg (by show ¬ ((0 ≤ p ∧ p ≤ c 52 5 - 1) ∧ _); grind)]; rfl)) trivial rfl
      · refine z_iload (i := 4) dX8_fills_22 rfl ?_
        refine z_iconst (v := 0) dX8_fills_24 (by decide) ?_
        refine z_iconst (v := 1) dX8_fills_25 (by decide) ?_
        refine z_Sb (As := [_, _, _]) dX8_fills_26 (by rfl) v_X8_in l_X8_47 rfl (by omega) (by decide) (Nat.le_of_ble_eq_true rfl) ?_
        refine s_X8_in ?_
        refine z_if_ne 38 dX8_fills_29 (by decide) (fun h_29 => ?_) (fun h_29 => ?_)
        · have hok : isP (mst c) p ∧ (0 ≤ cell ∧ cell ≤ 15) ∧ (0 ≤ k ∧ k ≤ 20) ∧ 0 ≤ w ∧ w ≤ 1 := by show (0 ≤ p ∧ p ≤ c 52 5 - 1) ∧ _; grind
          obtain ⟨j, hj, rfl⟩ := isP_of (f := c 52) hok.1 hn hn6
          obtain ⟨m, hm, rfl⟩ := zj_of (x := k) (n := 21) (by grind) (by show k < (21 : Int32); grind) (by decide)
          refine z_iconst (v := (-1)) dX8_fills_38 (by decide) ?_
          refine z_istore (i := 5) [_, _, _, _, _, _, _, _, _, _, _] dX8_fills_39 (by decide) rfl rfl ?_
          refine z_iconst (v := 0) dX8_fills_41 (by decide) ?_
          refine z_istore (i := 6) [_, _, _, _, _, _, _, _, _, _, _] dX8_fills_42 (by decide) rfl rfl ?_
          exact loop j m hj (by omega) hok rfl rfl (15 + 1) 0 c none none none none (by omega) (by omega) zsc_rf
        · refine z_aload_n (i := 0) dX8_fills_32 rfl rfl ?_
          refine z_iconst (v := 1) dX8_fills_33 (by decide) ?_
          refine z_Vi (As := [_]) dX8_fills_34 (by rfl) v_X8_error l_X8_51 (by first | decide | assumption | omega) rfl rfl rfl (by omega) (by decide) (Nat.le_of_ble_eq_true rfl) ?_
          refine s_X8_error (by rfl) (by first | decide | omega) ?_
          exact z_ret dX8_fills_37 (hQ _ _ (by intro k hk; simp (disch := omega) only [zup_n]) (by unfold o_fills; rw [if_neg (by show ¬ ((0 ≤ p ∧ p ≤ c 52 5 - 1) ∧ _); grind)]; rfl)) trivial rfl
end R7
