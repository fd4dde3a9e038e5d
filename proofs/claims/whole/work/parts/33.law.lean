/-! the class: its laws -/
theorem dv_m1 (x : Int32) : x / -1 = -x := by
  rw [← Int32.toInt_inj, Int32.toInt_div]
  show (x.toInt.tdiv (-1)).bmod _ = _
  rw [Int.tdiv_neg, Int.tdiv_one, Int32.toInt_neg]
theorem rm_m1 (x : Int32) : x - x / -1 * -1 = 0 := by
  rw [dv_m1]
  grind
theorem sg_of {v : Int32} (h : rkF v < 9) : v = 124 ∨ v = 38 ∨ v = 60 ∨ v = 61 ∨ v = 62 ∨ v = 43 ∨ v = 45 ∨ v = 42 ∨ v = 47 ∨ v = 37 := by
  unfold rkF at h
  grind
theorem enc_99 {u : Nat} : enc u 1 99 = 10000 := by
  unfold enc
  rw [if_neg (by decide), if_pos rfl, if_pos rfl]
theorem enc_s0 : enc 0 1 (if (0 : Nat) = 0 then 115 else 109) = 10001 := by decide
theorem enc_h0 : enc 0 1 (if (0 : Nat) = 0 then 104 else 107) = 10002 := by decide
theorem enc_s1 : enc 1 1 (if (1 : Nat) = 0 then 115 else 109) = 10001 := by decide
theorem enc_h1 : enc 1 1 (if (1 : Nat) = 0 then 104 else 107) = 10002 := by decide
theorem enc_2 {u : Nat} : enc u 2 0 = -33 := by
  unfold enc
  rw [if_neg (by decide), if_neg (by decide), if_pos rfl]
theorem enc_3 {u : Nat} {v : Int32} : enc u 3 v = -v := by
  unfold enc
  rw [if_neg (show ¬ (3 : Int32) = 0 by decide), if_neg (show ¬ (3 : Int32) = 1 by decide), if_neg (show ¬ (3 : Int32) = 2 by decide)]
def lawF (f : zN) (u : Nat) (a b h : Int32) : Int32 := if u = 0 then clF f a b h else paF f a b h
theorem law_0 {f : zN} {a b h : Int32} : lawF f 0 a b h = hdF 0 20 (if 0 < f (38 + 125 * 0) then txF f 0 a b h else if (0 : Nat) = 0 then a else if 3 < a then 2 else 1) := by
  unfold lawF clF
  rw [if_pos rfl, if_pos rfl]
theorem law_1 {f : zN} {a b h : Int32} : lawF f 1 a b h = hdF 0 3 (if 0 < f (38 + 125 * 1) then txF f 1 a b h else if (1 : Nat) = 0 then a else if 3 < a then 2 else 1) := by
  unfold lawF paF
  rw [if_neg (show ¬ (1 : Nat) = 0 by decide), if_neg (show ¬ (1 : Nat) = 0 by decide)]
/-- a law of the class holds a TEXT of the row -/
def LR (c : zS) (L C u : Nat) (f : zN) : Prop := c L 0 = nI u ∧ c L 3 = f (38 + 125 * u) ∧ ∀ i, i < pn (f (38 + 125 * u)) → c C i = enc u (f (38 + 125 * u + 1 + 2 * i)) (f (38 + 125 * u + 2 + 2 * i))
section LA
variable {l : Launch} {E : zE} {ad : Nat → Nat} {c : zS} {Qf : Int32 → zS → Prop} {d n : Nat}
theorem s_X0_joined {v x y : Int32} (hv : rkF v < 9) (hQ : Qf (jnF v x y) c) : zCl l E ad mX0_joined d [.int v, .int x, .int y] c Qf := by
  have hs := sg_of hv
  refine z_enter (own := RX0) [some (.int v), some (.int x), some (.int y)] (by decide +kernel) rfl rfl rfl (Nat.le_of_ble_eq_true rfl) ?_
  refine z_iload_n (i := 0) dX0_joined_0 rfl rfl ?_
  by_cases h_1_37 : v = 37
  · refine z_lookup 177 dX0_joined_1 rfl (by first | (rw [h_1_37]; rfl) | rw [h_1_37]) (by decide) ?_
    refine z_iload_n (i := 2) dX0_joined_177 rfl rfl ?_
    refine z_if_ne 185 dX0_joined_178 (by decide) (fun h_178 => ?_) (fun h_178 => ?_)
    · refine z_iload_n (i := 1) dX0_joined_185 rfl rfl ?_
      refine z_iload_n (i := 2) dX0_joined_186 rfl rfl ?_
      refine z_irem dX0_joined_187 (by first | decide | assumption) ?_
      first
      | exact z_ret dX0_joined_188 (by unfold jnF at hQ; grind) trivial rfl
      | (have e := dv_m1 x
         have e2 := rm_m1 x
         exact z_ret dX0_joined_188 (by unfold jnF at hQ; grind) trivial rfl)
    · refine z_iconst (v := 0) dX0_joined_181 (by decide) ?_
      refine z_goto 188 dX0_joined_182 (by decide) ?_
      first
      | exact z_ret dX0_joined_188 (by unfold jnF at hQ; grind) trivial rfl
      | (have e := dv_m1 x
         have e2 := rm_m1 x
         exact z_ret dX0_joined_188 (by unfold jnF at hQ; grind) trivial rfl)
  by_cases h_1_38 : v = 38
  · refine z_lookup 106 dX0_joined_1 rfl (by first | (rw [h_1_38]; rfl) | rw [h_1_38]) (by decide) ?_
    refine z_iload_n (i := 1) dX0_joined_106 rfl rfl ?_
    refine z_if_eq 118 dX0_joined_107 (by decide) (fun h_107 => ?_) (fun h_107 => ?_)
    · refine z_iconst (v := 0) dX0_joined_118 (by decide) ?_
      first
      | exact z_ret dX0_joined_119 (by unfold jnF at hQ; grind) trivial rfl
      | (have e := dv_m1 x
         have e2 := rm_m1 x
         exact z_ret dX0_joined_119 (by unfold jnF at hQ; grind) trivial rfl)
    · refine z_iload_n (i := 2) dX0_joined_110 rfl rfl ?_
      refine z_if_eq 118 dX0_joined_111 (by decide) (fun h_111 => ?_) (fun h_111 => ?_)
      · refine z_iconst (v := 0) dX0_joined_118 (by decide) ?_
        first
        | exact z_ret dX0_joined_119 (by unfold jnF at hQ; grind) trivial rfl
        | (have e := dv_m1 x
           have e2 := rm_m1 x
           exact z_ret dX0_joined_119 (by unfold jnF at hQ; grind) trivial rfl)
      · refine z_iconst (v := 1) dX0_joined_114 (by decide) ?_
        refine z_goto 119 dX0_joined_115 (by decide) ?_
        first
        | exact z_ret dX0_joined_119 (by unfold jnF at hQ; grind) trivial rfl
        | (have e := dv_m1 x
           have e2 := rm_m1 x
           exact z_ret dX0_joined_119 (by unfold jnF at hQ; grind) trivial rfl)
  by_cases h_1_42 : v = 42
  · refine z_lookup 161 dX0_joined_1 rfl (by first | (rw [h_1_42]; rfl) | rw [h_1_42]) (by decide) ?_
    refine z_iload_n (i := 1) dX0_joined_161 rfl rfl ?_
    refine z_iload_n (i := 2) dX0_joined_162 rfl rfl ?_
    refine z_imul dX0_joined_163 ?_
    first
    | exact z_ret dX0_joined_164 (by unfold jnF at hQ; grind) trivial rfl
    | (have e := dv_m1 x
       have e2 := rm_m1 x
       exact z_ret dX0_joined_164 (by unfold jnF at hQ; grind) trivial rfl)
  by_cases h_1_43 : v = 43
  · refine z_lookup 153 dX0_joined_1 rfl (by first | (rw [h_1_43]; rfl) | rw [h_1_43]) (by decide) ?_
    refine z_iload_n (i := 1) dX0_joined_153 rfl rfl ?_
    refine z_iload_n (i := 2) dX0_joined_154 rfl rfl ?_
    refine z_iadd dX0_joined_155 ?_
    first
    | exact z_ret dX0_joined_156 (by unfold jnF at hQ; grind) trivial rfl
    | (have e := dv_m1 x
       have e2 := rm_m1 x
       exact z_ret dX0_joined_156 (by unfold jnF at hQ; grind) trivial rfl)
  by_cases h_1_45 : v = 45
  · refine z_lookup 157 dX0_joined_1 rfl (by first | (rw [h_1_45]; rfl) | rw [h_1_45]) (by decide) ?_
    refine z_iload_n (i := 1) dX0_joined_157 rfl rfl ?_
    refine z_iload_n (i := 2) dX0_joined_158 rfl rfl ?_
    refine z_isub dX0_joined_159 ?_
    first
    | exact z_ret dX0_joined_160 (by unfold jnF at hQ; grind) trivial rfl
    | (have e := dv_m1 x
       have e2 := rm_m1 x
       exact z_ret dX0_joined_160 (by unfold jnF at hQ; grind) trivial rfl)
  by_cases h_1_47 : v = 47
  · refine z_lookup 165 dX0_joined_1 rfl (by first | (rw [h_1_47]; rfl) | rw [h_1_47]) (by decide) ?_
    refine z_iload_n (i := 2) dX0_joined_165 rfl rfl ?_
    refine z_if_ne 173 dX0_joined_166 (by decide) (fun h_166 => ?_) (fun h_166 => ?_)
    · refine z_iload_n (i := 1) dX0_joined_173 rfl rfl ?_
      refine z_iload_n (i := 2) dX0_joined_174 rfl rfl ?_
      refine z_idiv dX0_joined_175 (by first | decide | assumption) ?_
      first
      | exact z_ret dX0_joined_176 (by unfold jnF at hQ; grind) trivial rfl
      | (have e := dv_m1 x
         have e2 := rm_m1 x
         exact z_ret dX0_joined_176 (by unfold jnF at hQ; grind) trivial rfl)
    · refine z_iconst (v := 0) dX0_joined_169 (by decide) ?_
      refine z_goto 176 dX0_joined_170 (by decide) ?_
      first
      | exact z_ret dX0_joined_176 (by unfold jnF at hQ; grind) trivial rfl
      | (have e := dv_m1 x
         have e2 := rm_m1 x
         exact z_ret dX0_joined_176 (by unfold jnF at hQ; grind) trivial rfl)
  by_cases h_1_60 : v = 60
  · refine z_lookup 120 dX0_joined_1 rfl (by first | (rw [h_1_60]; rfl) | rw [h_1_60]) (by decide) ?_
    refine z_iload_n (i := 1) dX0_joined_120 rfl rfl ?_
    refine z_iload_n (i := 2) dX0_joined_121 rfl rfl ?_
    refine z_icmp_ge 129 dX0_joined_122 (by decide) (fun h_122 => ?_) (fun h_122 => ?_)
    · refine z_iconst (v := 0) dX0_joined_129 (by decide) ?_
      first
      | exact z_ret dX0_joined_130 (by unfold jnF at hQ; grind) trivial rfl
      | (have e := dv_m1 x
         have e2 := rm_m1 x
         exact z_ret dX0_joined_130 (by unfold jnF at hQ; grind) trivial rfl)
    · refine z_iconst (v := 1) dX0_joined_125 (by decide) ?_
      refine z_goto 130 dX0_joined_126 (by decide) ?_
      first
      | exact z_ret dX0_joined_130 (by unfold jnF at hQ; grind) trivial rfl
      | (have e := dv_m1 x
         have e2 := rm_m1 x
         exact z_ret dX0_joined_130 (by unfold jnF at hQ; grind) trivial rfl)
  by_cases h_1_61 : v = 61
  · refine z_lookup 131 dX0_joined_1 rfl (by first | (rw [h_1_61]; rfl) | rw [h_1_61]) (by decide) ?_
    refine z_iload_n (i := 1) dX0_joined_131 rfl rfl ?_
    refine z_iload_n (i := 2) dX0_joined_132 rfl rfl ?_
    refine z_icmp_ne 140 dX0_joined_133 (by decide) (fun h_133 => ?_) (fun h_133 => ?_)
    · refine z_iconst (v := 0) dX0_joined_140 (by decide) ?_
      first
      | exact z_ret dX0_joined_141 (by unfold jnF at hQ; grind) trivial rfl
      | (have e := dv_m1 x
         have e2 := rm_m1 x
         exact z_ret dX0_joined_141 (by unfold jnF at hQ; grind) trivial rfl)
    · refine z_iconst (v := 1) dX0_joined_136 (by decide) ?_
      refine z_goto 141 dX0_joined_137 (by decide) ?_
      first
      | exact z_ret dX0_joined_141 (by unfold jnF at hQ; grind) trivial rfl
      | (have e := dv_m1 x
         have e2 := rm_m1 x
         exact z_ret dX0_joined_141 (by unfold jnF at hQ; grind) trivial rfl)
  by_cases h_1_62 : v = 62
  · refine z_lookup 142 dX0_joined_1 rfl (by first | (rw [h_1_62]; rfl) | rw [h_1_62]) (by decide) ?_
    refine z_iload_n (i := 1) dX0_joined_142 rfl rfl ?_
    refine z_iload_n (i := 2) dX0_joined_143 rfl rfl ?_
    refine z_icmp_le 151 dX0_joined_144 (by decide) (fun h_144 => ?_) (fun h_144 => ?_)
    · refine z_iconst (v := 0) dX0_joined_151 (by decide) ?_
      first
      | exact z_ret dX0_joined_152 (by unfold jnF at hQ; grind) trivial rfl
      | (have e := dv_m1 x
         have e2 := rm_m1 x
         exact z_ret dX0_joined_152 (by unfold jnF at hQ; grind) trivial rfl)
    · refine z_iconst (v := 1) dX0_joined_147 (by decide) ?_
      refine z_goto 152 dX0_joined_148 (by decide) ?_
      first
      | exact z_ret dX0_joined_152 (by unfold jnF at hQ; grind) trivial rfl
      | (have e := dv_m1 x
         have e2 := rm_m1 x
         exact z_ret dX0_joined_152 (by unfold jnF at hQ; grind) trivial rfl)
  by_cases h_1_124 : v = 124
  · refine z_lookup 92 dX0_joined_1 rfl (by first | (rw [h_1_124]; rfl) | rw [h_1_124]) (by decide) ?_
    refine z_iload_n (i := 1) dX0_joined_92 rfl rfl ?_
    refine z_if_ne 100 dX0_joined_93 (by decide) (fun h_93 => ?_) (fun h_93 => ?_)
    · refine z_iconst (v := 1) dX0_joined_100 (by decide) ?_
      refine z_goto 105 dX0_joined_101 (by decide) ?_
      first
      | exact z_ret dX0_joined_105 (by unfold jnF at hQ; grind) trivial rfl
      | (have e := dv_m1 x
         have e2 := rm_m1 x
         exact z_ret dX0_joined_105 (by unfold jnF at hQ; grind) trivial rfl)
    · refine z_iload_n (i := 2) dX0_joined_96 rfl rfl ?_
      refine z_if_eq 104 dX0_joined_97 (by decide) (fun h_97 => ?_) (fun h_97 => ?_)
      · refine z_iconst (v := 0) dX0_joined_104 (by decide) ?_
        first
        | exact z_ret dX0_joined_105 (by unfold jnF at hQ; grind) trivial rfl
        | (have e := dv_m1 x
           have e2 := rm_m1 x
           exact z_ret dX0_joined_105 (by unfold jnF at hQ; grind) trivial rfl)
      · refine z_iconst (v := 1) dX0_joined_100 (by decide) ?_
        refine z_goto 105 dX0_joined_101 (by decide) ?_
        first
        | exact z_ret dX0_joined_105 (by unfold jnF at hQ; grind) trivial rfl
        | (have e := dv_m1 x
           have e2 := rm_m1 x
           exact z_ret dX0_joined_105 (by unfold jnF at hQ; grind) trivial rfl)
  (exfalso; grind)
theorem s_without2 {a : Int32} (hu : c 2 0 = nI 0) (hQ : Qf (if (0 : Nat) = 0 then a else if 3 < a then 2 else 1) c) : zCl l E ad mX0_without d [.ref (ad 2), .int a] c Qf := by
  refine z_enter (own := RX0) [some (.ref (ad 2)), some (.int a)] (by decide +kernel) rfl rfl rfl (Nat.le_of_ble_eq_true rfl) ?_
  refine z_aload_n (i := 0) dX0_without_0 rfl rfl ?_
  refine z_getf dX0_without_1 f_X0_22 (by first | decide | assumption | omega) rfl (by rfl) ?_
  refine z_if_ne 9 dX0_without_4 (by decide) (fun h_4 => ?_) (fun h_4 => ?_)
  · exfalso; rw [hu] at h_4; exact h_4 rfl
  refine z_iload_n (i := 1) dX0_without_7 rfl rfl ?_
  exact z_ret dX0_without_8 (by grind) trivial rfl
theorem s_gives2 {f : zN} {a b h : Int32} (hL : LR c 2 3 0 f) (hs : stG f 0) (hw : wfT f 0) (hd : 2 ≤ d) (hQ : ∀ g, Qf (lawF f 0 a b h) (zup c 4 g)) : zCl l E ad mX0_gives d [.ref (ad 2), .int a, .int b, .int h] c Qf := by
  obtain ⟨hu, h3, hc⟩ := hL
  obtain ⟨n, hn, en, hwf⟩ := hw
  have epn : pn (f (38 + 125 * 0)) = n := by rw [en]; exact pn_nI (by omega)
  unfold stG at hs
  rw [epn] at hc hs
  rw [en] at h3
  refine z_enter (own := RX0) [some (.ref (ad 2)), some (.int a), some (.int b), some (.int h), none, none, none] (by decide +kernel) rfl rfl rfl (Nat.le_of_ble_eq_true rfl) ?_
  have tail : ∀ (x : Int32) (i x6 : Int32) (g : zN), x = (if 0 < f (38 + 125 * 0) then txF f 0 a b h else if (0 : Nat) = 0 then a else if 3 < a then 2 else 1) → ∀ top : Int32, ∀ x6 : Option Value, zW l E ad RX0 cX0_gives 7 1 d Qf 193 [some (.ref (ad 2)), some (.int a), some (.int b), some (.int h), some (.int top), some (.int i), x6] [.int x] (zup c 4 g) := by
    intro x i _ g hx top x6
    have hl : lawF f 0 a b h = if x < 0 then 0 else if x > 20 then 20 else x := by rw [hx]; exact law_0
    refine z_istore (i := 5) [_, _, _, _, _, _, _] dX0_gives_193 (by decide) rfl rfl ?_
    refine z_aload_n (i := 0) dX0_gives_195 rfl rfl ?_
    refine z_getf dX0_gives_196 f_X0_22 (by first | decide | assumption | omega) rfl (by rfl) ?_
    refine z_if_ne 207 dX0_gives_199 (by decide) (fun h_199 => ?_) (fun h_199 => ?_)
    · exfalso; rw [zup_n (by decide), hu] at h_199; exact h_199 rfl
    refine z_bipush (v := 20) dX0_gives_202 (by decide) ?_
    refine z_goto 208 dX0_gives_204 (by decide) ?_
    refine z_istore (i := 6) [_, _, _, _, _, _, _] dX0_gives_208 (by decide) rfl rfl ?_
    refine z_iload (i := 5) dX0_gives_210 rfl ?_
    refine z_if_ge 219 dX0_gives_212 (by decide) (fun h_212 => ?_) (fun h_212 => ?_)
    · refine z_iload (i := 5) dX0_gives_219 rfl ?_
      refine z_iload (i := 6) dX0_gives_221 rfl ?_
      refine z_icmp_le 231 dX0_gives_223 (by decide) (fun h_223 => ?_) (fun h_223 => ?_)
      · refine z_iload (i := 5) dX0_gives_231 rfl ?_
        exact z_ret dX0_gives_233 (by have := hQ g; rw [hl] at this; grind) trivial rfl
      · refine z_iload (i := 6) dX0_gives_226 rfl ?_
        refine z_goto 233 dX0_gives_228 (by decide) ?_
        exact z_ret dX0_gives_233 (by have := hQ g; rw [hl] at this; grind) trivial rfl
    · refine z_iconst (v := 0) dX0_gives_215 (by decide) ?_
      refine z_goto 233 dX0_gives_216 (by decide) ?_
      exact z_ret dX0_gives_233 (by have := hQ g; rw [hl] at this; grind) trivial rfl
  have loop : ∀ (r i m : Nat) (g : zN) (x6 : Option Value), n - i < r → i ≤ n → dpR f (38 + 125 * 0) i = some m → (∀ j, j < m → g j = (evR (nmF a b h) f (38 + 125 * 0) (0, fun _ => 0) i).2 j) → zW l E ad RX0 cX0_gives 7 1 d Qf 6 [some (.ref (ad 2)), some (.int a), some (.int b), some (.int h), some (.int (nI m)), some (.int (nI i)), x6] [] (zup c 4 g) := by
    intro r
    induction r with
    | zero => intro i m g x6 h; omega
    | succ r ih =>
      intro i m g x6 hr hi hdp hg
      have hlt := nI_leI (a := n) (b := i) (by omega) (by omega)
      have h1 : (evR (nmF a b h) f (38 + 125 * 0) (0, fun _ => 0) i).1 = m := evR_dp hdp
      have hm := dpR_60 hdp
      have cut168 : ∀ (m' : Nat) (x6 : Option Value) (g' : zN), i < n → dpR f (38 + 125 * 0) (i + 1) = some m' → (∀ j, j < m' → g' j = (evR (nmF a b h) f (38 + 125 * 0) (0, fun _ => 0) (i + 1)).2 j) → zW l E ad RX0 cX0_gives 7 1 d Qf 168 [some (.ref (ad 2)), some (.int a), some (.int b), some (.int h), some (.int (nI m')), some (.int (nI i)), x6] [] (zup c 4 g') := by
        intro m' x6 g' hin hm' hg'
        refine z_iinc (i := 5) (v := 1) [_, _, _, _, _, _, _] dX0_gives_168 rfl (by decide) (by decide) rfl rfl ?_
        refine z_goto 6 dX0_gives_171 (by decide) ?_
        rw [nI_1]
        exact ih (i + 1) m' g' _ (by omega) (by omega) hm' hg'
      have cut24 : i < n → zW l E ad RX0 cX0_gives 7 1 d Qf 24 [some (.ref (ad 2)), some (.int a), some (.int b), some (.int h), some (.int (nI m)), some (.int (nI i)), some (.int (enc 0 (f (38 + 125 * 0 + 1 + 2 * i)) (f (38 + 125 * 0 + 2 + 2 * i))))] [] (zup c 4 g) := by
        intro hin
        have hnx := dpR_le (n := n) (k := i + 1) (by omega) (by rw [(hwf (by omega)).1]; exact fun z => by cases z)
        have hdp' : dpR f (38 + 125 * 0) (i + 1) = (dpR f (38 + 125 * 0) i).bind (dpS (f (38 + 125 * 0 + 1 + 2 * i)) (f (38 + 125 * 0 + 2 + 2 * i))) := rfl
        rw [hdp, Option.bind_some] at hdp'
        rw [hdp'] at hnx
        have hev : evR (nmF a b h) f (38 + 125 * 0) (0, fun _ => 0) (i + 1) = evS (nmF a b h) (f (38 + 125 * 0 + 1 + 2 * i)) (f (38 + 125 * 0 + 2 + 2 * i)) (evR (nmF a b h) f (38 + 125 * 0) (0, fun _ => 0) i) := rfl
        have ok := hs i hin
        rw [hev] at cut168
        rw [hdp'] at cut168
        generalize f (38 + 125 * 0 + 1 + 2 * i) = w at *
        generalize f (38 + 125 * 0 + 2 + 2 * i) = v at *
        clear hdp' hev ih
        have lt60 : (60 : Int32) ≤ nI m ↔ 60 ≤ m := nI_leI (a := 60) (b := m) (by omega) (by omega)
        have le0 : nI m ≤ (0 : Int32) ↔ m ≤ 0 := nI_leI (a := m) (b := 0) (by omega) (by omega)
        have le1 : nI m ≤ (1 : Int32) ↔ m ≤ 1 := nI_leI (a := m) (b := 1) (by omega) (by omega)
        rcases ok with ⟨rfl, k, hk, rfl⟩ | ⟨rfl, hv⟩ | ⟨rfl, rfl⟩ | ⟨rfl, hv⟩
        · have hm6 : m < 60 := by simp only [dpS] at hnx; grind
          have hd1 : dpS 0 (nI k) m = some (m + 1) := by simp [dpS, hm6]
          have hpos := nI_pos' (n := k) (by omega)
          have hk9 : ¬ (10000 : Int32) ≤ nI k := fun w => by have := (nI_leI (a := 10000) (b := k) (by omega) (by omega)).mp w; omega
          rw [hd1] at cut168
          unfold enc
          rw [if_pos rfl]
          refine z_iload (i := 6) dX0_gives_24 rfl ?_
          refine z_if_lt 87 dX0_gives_26 (by decide) (fun h_26 => ?_) (fun h_26 => ?_)
          · exfalso; grind
          refine z_iload (i := 4) dX0_gives_29 rfl ?_
          refine z_bipush (v := 60) dX0_gives_31 (by decide) ?_
          refine z_icmp_ge 87 dX0_gives_33 (by decide) (fun h_33 => ?_) (fun h_33 => ?_)
          · exfalso; have := lt60.mp h_33; omega
          refine z_aload_n (i := 0) dX0_gives_36 rfl rfl ?_
          refine z_getf dX0_gives_37 f_X0_15 (by first | decide | assumption | omega) rfl (by rfl) ?_
          refine z_iload (i := 4) dX0_gives_40 rfl ?_
          refine z_iload (i := 6) dX0_gives_42 rfl ?_
          refine z_sipush (v := 10000) dX0_gives_44 (by decide) ?_
          refine z_icmp_ge 55 dX0_gives_47 (by decide) (fun h_47 => ?_) (fun h_47 => ?_)
          · exact absurd h_47 hk9
          refine z_iload (i := 6) dX0_gives_50 rfl ?_
          refine z_goto 80 dX0_gives_52 (by decide) ?_
          refine z_iast (j := m) dX0_gives_80 (by first | decide | assumption | omega) (fun _ => rfl) (by rfl) (by first | decide | omega) (by first | decide | omega) ?_
          refine z_iinc (i := 4) (v := 1) [_, _, _, _, _, _, _] dX0_gives_81 rfl (by decide) (by decide) rfl rfl ?_
          refine z_goto 168 dX0_gives_84 (by decide) ?_
          rw [nI_1, zup_s, zup_zup]
          refine cut168 (m + 1) _ _ hin rfl (fun j hj => ?_)
          unfold evS upd
          rw [if_pos rfl, h1]
          dsimp only
          split
          · rfl
          · exact hg j (by omega)
        · have hm6 : m < 60 := by simp only [dpS] at hnx; grind
          have hd1 : dpS 1 v m = some (m + 1) := by simp [dpS, hm6, nm_in hv]
          rw [hd1] at cut168
          have go : ∀ (x : Int32) (x6 : Option Value), x = nmF a b h (pn v) → zW l E ad RX0 cX0_gives 7 1 d Qf 80 [some (.ref (ad 2)), some (.int a), some (.int b), some (.int h), some (.int (nI m)), some (.int (nI i)), x6] [.int x, .int (nI m), .ref (ad 4)] (zup c 4 g) := by
            intro x x6 hx
            refine z_iast (j := m) dX0_gives_80 (by first | decide | assumption | omega) (fun _ => rfl) (by rfl) (by first | decide | omega) (by first | decide | omega) ?_
            refine z_iinc (i := 4) (v := 1) [_, _, _, _, _, _, _] dX0_gives_81 rfl (by decide) (by decide) rfl rfl ?_
            refine z_goto 168 dX0_gives_84 (by decide) ?_
            rw [nI_1, zup_s, zup_zup]
            refine cut168 (m + 1) _ _ hin rfl (fun j hj => ?_)
            unfold evS upd
            rw [if_neg (show ¬ (1 : Int32) = 0 by decide), if_pos rfl, h1, hx]
            dsimp only
            split
            · rfl
            · exact hg j (by omega)
          rcases hv with rfl | rfl | rfl
          · rw [enc_99]
            refine z_iload (i := 6) dX0_gives_24 rfl ?_
            refine z_if_lt 87 dX0_gives_26 (by decide) (fun h_26 => ?_) (fun h_26 => ?_)
            · exfalso; revert h_26; decide
            refine z_iload (i := 4) dX0_gives_29 rfl ?_
            refine z_bipush (v := 60) dX0_gives_31 (by decide) ?_
            refine z_icmp_ge 87 dX0_gives_33 (by decide) (fun h_33 => ?_) (fun h_33 => ?_)
            · exfalso; have := lt60.mp h_33; omega
            refine z_aload_n (i := 0) dX0_gives_36 rfl rfl ?_
            refine z_getf dX0_gives_37 f_X0_15 (by first | decide | assumption | omega) rfl (by rfl) ?_
            refine z_iload (i := 4) dX0_gives_40 rfl ?_
            refine z_iload (i := 6) dX0_gives_42 rfl ?_
            refine z_sipush (v := 10000) dX0_gives_44 (by decide) ?_
            refine z_icmp_ge 55 dX0_gives_47 (by decide) (fun h_47 => ?_) (fun h_47 => ?_)
            rotate_left
            · exfalso; revert h_47; decide
            refine z_iload (i := 6) dX0_gives_55 rfl ?_
            refine z_sipush (v := 10000) dX0_gives_57 (by decide) ?_
            refine z_icmp_ne 67 dX0_gives_60 (by decide) (fun h_60 => ?_) (fun h_60 => ?_)
            · exact absurd rfl h_60
            refine z_iload_n (i := 1) dX0_gives_63 rfl rfl ?_
            refine z_goto 80 dX0_gives_64 (by decide) ?_
            exact go _ _ rfl
          · rw [enc_s0]
            refine z_iload (i := 6) dX0_gives_24 rfl ?_
            refine z_if_lt 87 dX0_gives_26 (by decide) (fun h_26 => ?_) (fun h_26 => ?_)
            · exfalso; revert h_26; decide
            refine z_iload (i := 4) dX0_gives_29 rfl ?_
            refine z_bipush (v := 60) dX0_gives_31 (by decide) ?_
            refine z_icmp_ge 87 dX0_gives_33 (by decide) (fun h_33 => ?_) (fun h_33 => ?_)
            · exfalso; have := lt60.mp h_33; omega
            refine z_aload_n (i := 0) dX0_gives_36 rfl rfl ?_
            refine z_getf dX0_gives_37 f_X0_15 (by first | decide | assumption | omega) rfl (by rfl) ?_
            refine z_iload (i := 4) dX0_gives_40 rfl ?_
            refine z_iload (i := 6) dX0_gives_42 rfl ?_
            refine z_sipush (v := 10000) dX0_gives_44 (by decide) ?_
            refine z_icmp_ge 55 dX0_gives_47 (by decide) (fun h_47 => ?_) (fun h_47 => ?_)
            rotate_left
            · exfalso; revert h_47; decide
            refine z_iload (i := 6) dX0_gives_55 rfl ?_
            refine z_sipush (v := 10000) dX0_gives_57 (by decide) ?_
            refine z_icmp_ne 67 dX0_gives_60 (by decide) (fun h_60 => ?_) (fun h_60 => ?_)
            rotate_left
            · exfalso; revert h_60; decide
            refine z_iload (i := 6) dX0_gives_67 rfl ?_
            refine z_sipush (v := 10001) dX0_gives_69 (by decide) ?_
            refine z_icmp_ne 79 dX0_gives_72 (by decide) (fun h_72 => ?_) (fun h_72 => ?_)
            · exact absurd rfl h_72
            refine z_iload_n (i := 2) dX0_gives_75 rfl rfl ?_
            refine z_goto 80 dX0_gives_76 (by decide) ?_
            exact go _ _ rfl
          · rw [enc_h0]
            refine z_iload (i := 6) dX0_gives_24 rfl ?_
            refine z_if_lt 87 dX0_gives_26 (by decide) (fun h_26 => ?_) (fun h_26 => ?_)
            · exfalso; revert h_26; decide
            refine z_iload (i := 4) dX0_gives_29 rfl ?_
            refine z_bipush (v := 60) dX0_gives_31 (by decide) ?_
            refine z_icmp_ge 87 dX0_gives_33 (by decide) (fun h_33 => ?_) (fun h_33 => ?_)
            · exfalso; have := lt60.mp h_33; omega
            refine z_aload_n (i := 0) dX0_gives_36 rfl rfl ?_
            refine z_getf dX0_gives_37 f_X0_15 (by first | decide | assumption | omega) rfl (by rfl) ?_
            refine z_iload (i := 4) dX0_gives_40 rfl ?_
            refine z_iload (i := 6) dX0_gives_42 rfl ?_
            refine z_sipush (v := 10000) dX0_gives_44 (by decide) ?_
            refine z_icmp_ge 55 dX0_gives_47 (by decide) (fun h_47 => ?_) (fun h_47 => ?_)
            rotate_left
            · exfalso; revert h_47; decide
            refine z_iload (i := 6) dX0_gives_55 rfl ?_
            refine z_sipush (v := 10000) dX0_gives_57 (by decide) ?_
            refine z_icmp_ne 67 dX0_gives_60 (by decide) (fun h_60 => ?_) (fun h_60 => ?_)
            rotate_left
            · exfalso; revert h_60; decide
            refine z_iload (i := 6) dX0_gives_67 rfl ?_
            refine z_sipush (v := 10001) dX0_gives_69 (by decide) ?_
            refine z_icmp_ne 79 dX0_gives_72 (by decide) (fun h_72 => ?_) (fun h_72 => ?_)
            rotate_left
            · exfalso; revert h_72; decide
            refine z_iload_n (i := 3) dX0_gives_79 rfl rfl ?_
            exact go _ _ rfl
        · have hm0 : 0 < m := by simp only [dpS] at hnx; grind
          have hd1 : dpS 2 0 m = some m := by simp [dpS, hm0]
          rw [hd1] at cut168
          rw [enc_2]
          refine z_iload (i := 6) dX0_gives_24 rfl ?_
          refine z_if_lt 87 dX0_gives_26 (by decide) (fun h_26 => ?_) (fun h_26 => ?_)
          rotate_left
          · exact absurd (by decide) h_26
          refine z_iload (i := 6) dX0_gives_87 rfl ?_
          refine z_bipush (v := (-33)) dX0_gives_89 (by decide) ?_
          refine z_icmp_ne 128 dX0_gives_91 (by decide) (fun h_91 => ?_) (fun h_91 => ?_)
          · exact absurd rfl h_91
          refine z_iload (i := 4) dX0_gives_94 rfl ?_
          refine z_if_le 128 dX0_gives_96 (by decide) (fun h_96 => ?_) (fun h_96 => ?_)
          · exfalso; have := le0.mp h_96; omega
          refine z_aload_n (i := 0) dX0_gives_99 rfl rfl ?_
          refine z_getf dX0_gives_100 f_X0_15 (by first | decide | assumption | omega) rfl (by rfl) ?_
          refine z_iload (i := 4) dX0_gives_103 rfl ?_
          refine z_iconst (v := 1) dX0_gives_105 (by decide) ?_
          refine z_isub dX0_gives_106 ?_
          refine z_aload_n (i := 0) dX0_gives_107 rfl rfl ?_
          refine z_getf dX0_gives_108 f_X0_15 (by first | decide | assumption | omega) rfl (by rfl) ?_
          refine z_iload (i := 4) dX0_gives_111 rfl ?_
          refine z_iconst (v := 1) dX0_gives_113 (by decide) ?_
          refine z_isub dX0_gives_114 ?_
          refine z_iald (j := m - 1) dX0_gives_115 (by first | decide | assumption | omega) rfl (zi_m1 hm0) (by first | decide | omega) (by first | decide | omega) ?_
          refine z_if_ne 123 dX0_gives_116 (by decide) (fun h_116 => ?_) (fun h_116 => ?_)
          · refine z_iconst (v := 0) dX0_gives_123 (by decide) ?_
            refine z_iast (j := m - 1) dX0_gives_124 (by first | decide | assumption | omega) (fun _ => rfl) (zi_m1 hm0) (by first | decide | omega) (by first | decide | omega) ?_
            refine z_goto 168 dX0_gives_125 (by decide) ?_
            rw [zup_s, zup_zup]
            refine cut168 m _ _ hin rfl (fun j hj => ?_)
            unfold evS upd
            rw [if_neg (show ¬ (2 : Int32) = 0 by decide), if_neg (show ¬ (2 : Int32) = 1 by decide), if_pos rfl, h1]
            dsimp only
            have hgm := hg (m - 1) (by omega)
            rw [zup_s] at h_116
            by_cases w : j = m - 1
            · rw [if_pos w, if_pos w, ← hgm]
              first
              | rw [if_pos (by first | exact h_116 | exact Classical.not_not.mp h_116)]
              | rw [if_neg (by first | exact h_116 | assumption)]
            · rw [if_neg w, if_neg w]
              exact hg j hj
          · refine z_iconst (v := 1) dX0_gives_119 (by decide) ?_
            refine z_goto 124 dX0_gives_120 (by decide) ?_
            refine z_iast (j := m - 1) dX0_gives_124 (by first | decide | assumption | omega) (fun _ => rfl) (zi_m1 hm0) (by first | decide | omega) (by first | decide | omega) ?_
            refine z_goto 168 dX0_gives_125 (by decide) ?_
            rw [zup_s, zup_zup]
            refine cut168 m _ _ hin rfl (fun j hj => ?_)
            unfold evS upd
            rw [if_neg (show ¬ (2 : Int32) = 0 by decide), if_neg (show ¬ (2 : Int32) = 1 by decide), if_pos rfl, h1]
            dsimp only
            have hgm := hg (m - 1) (by omega)
            rw [zup_s] at h_116
            by_cases w : j = m - 1
            · rw [if_pos w, if_pos w, ← hgm]
              first
              | rw [if_pos (by first | exact h_116 | exact Classical.not_not.mp h_116)]
              | rw [if_neg (by first | exact h_116 | assumption)]
            · rw [if_neg w, if_neg w]
              exact hg j hj
        · have hm1 : 1 < m := by simp only [dpS] at hnx; grind
          have hd1 : dpS 3 v m = some (m - 1) := by simp [dpS, hm1]
          rw [hd1] at cut168
          rw [enc_3]
          have hsg := sg_of hv
          have hneg : -v < 0 ∧ ¬ -v = -33 := by rcases hsg with rfl | rfl | rfl | rfl | rfl | rfl | rfl | rfl | rfl | rfl <;> decide
          refine z_iload (i := 6) dX0_gives_24 rfl ?_
          refine z_if_lt 87 dX0_gives_26 (by decide) (fun h_26 => ?_) (fun h_26 => ?_)
          rotate_left
          · exact absurd hneg.1 h_26
          refine z_iload (i := 6) dX0_gives_87 rfl ?_
          refine z_bipush (v := (-33)) dX0_gives_89 (by decide) ?_
          refine z_icmp_ne 128 dX0_gives_91 (by decide) (fun h_91 => ?_) (fun h_91 => ?_)
          rotate_left
          · exact absurd (by assumption) hneg.2
          refine z_iload (i := 4) dX0_gives_128 rfl ?_
          refine z_iconst (v := 1) dX0_gives_130 (by decide) ?_
          refine z_icmp_le 168 dX0_gives_131 (by decide) (fun h_131 => ?_) (fun h_131 => ?_)
          · exfalso; have := le1.mp h_131; omega
          refine z_iinc (i := 4) (v := (-1)) [_, _, _, _, _, _, _] dX0_gives_134 rfl (by decide) (by decide) rfl rfl ?_
          refine z_aload_n (i := 0) dX0_gives_137 rfl rfl ?_
          refine z_getf dX0_gives_138 f_X0_15 (by first | decide | assumption | omega) rfl (by rfl) ?_
          refine z_iload (i := 4) dX0_gives_141 rfl ?_
          refine z_iconst (v := 1) dX0_gives_143 (by decide) ?_
          refine z_isub dX0_gives_144 ?_
          refine z_iload (i := 6) dX0_gives_145 rfl ?_
          refine z_ineg dX0_gives_147 ?_
          refine z_aload_n (i := 0) dX0_gives_148 rfl rfl ?_
          refine z_getf dX0_gives_149 f_X0_15 (by first | decide | assumption | omega) rfl (by rfl) ?_
          refine z_iload (i := 4) dX0_gives_152 rfl ?_
          refine z_iconst (v := 1) dX0_gives_154 (by decide) ?_
          refine z_isub dX0_gives_155 ?_
          refine z_iald (j := m - 2) dX0_gives_156 (by first | decide | assumption | omega) rfl (by rw [zi_m1' (by omega), zi_m1 (by omega)]; rfl) (by first | decide | omega) (by first | decide | omega) ?_
          refine z_aload_n (i := 0) dX0_gives_157 rfl rfl ?_
          refine z_getf dX0_gives_158 f_X0_15 (by first | decide | assumption | omega) rfl (by rfl) ?_
          refine z_iload (i := 4) dX0_gives_161 rfl ?_
          refine z_iald (j := m - 1) dX0_gives_163 (by first | decide | assumption | omega) rfl (by rw [zi_m1' (by omega)]) (by first | decide | omega) (by first | decide | omega) ?_
          refine z_Si (As := [_, _, _]) dX0_gives_164 (by rfl) v_X0_joined l_X0_35 rfl (by omega) (by decide) (Nat.le_of_ble_eq_true rfl) ?_
          rw [show - -v = v from Int32.neg_neg]
          refine s_X0_joined hv ?_
          refine z_iast (j := m - 2) dX0_gives_167 (by first | decide | assumption | omega) (fun _ => rfl) (by rw [zi_m1' (by omega), zi_m1 (by omega)]; rfl) (by first | decide | omega) (by first | decide | omega) ?_
          rw [zi_m1' (by omega), zup_s, zup_zup]
          refine cut168 (m - 1) _ _ hin rfl (fun j hj => ?_)
          unfold evS upd
          rw [if_neg (show ¬ (3 : Int32) = 0 by decide), if_neg (show ¬ (3 : Int32) = 1 by decide), if_neg (show ¬ (3 : Int32) = 2 by decide), h1]
          dsimp only
          have hgm := hg (m - 1) (by omega)
          have hgm2 := hg (m - 2) (by omega)
          by_cases w : j = m - 2
          · rw [if_pos w, if_pos w, ← hgm, ← hgm2]
          · rw [if_neg w, if_neg w]
            exact hg j (by omega)
      refine z_iload (i := 5) dX0_gives_6 rfl ?_
      refine z_aload_n (i := 0) dX0_gives_8 rfl rfl ?_
      refine z_getf dX0_gives_9 f_X0_18 (by first | decide | assumption | omega) rfl (by rfl) ?_
      refine z_icmp_ge 174 dX0_gives_12 (by decide) (fun h_12 => ?_) (fun h_12 => ?_)
      · have hin : i = n := by rw [zup_n (by decide), h3] at h_12; have := hlt.mp h_12; omega
        subst hin
        refine z_iload (i := 4) dX0_gives_174 rfl ?_
        refine z_if_le 188 dX0_gives_176 (by decide) (fun h_176 => ?_) (fun h_176 => ?_)
        · refine z_aload_n (i := 0) dX0_gives_188 rfl rfl ?_
          refine z_iload_n (i := 1) dX0_gives_189 rfl rfl ?_
          refine z_Vi (As := [_]) dX0_gives_190 (by rfl) v_X0_without l_X0_39 (by first | decide | assumption | omega) rfl rfl rfl (by omega) (by decide) (Nat.le_of_ble_eq_true rfl) ?_
          refine s_without2 (by rw [zup_n (by decide)]; exact hu) ?_
          first
          | (refine tail _ _ 0 _ ?_ _ _
             have hm0 : 0 < m := by have := mt (nI_leI (a := m) (b := 0) (by omega) (by omega)).mpr (by assumption); omega
             have hn0 : 0 < i := by have := dpR_n hdp; omega
             have hm1 : m = 1 := by have := (hwf hn0).1; rw [hdp] at this; exact Option.some.inj this
             rw [if_pos (by rw [en, pn_0 (by omega)]; exact hn0), zup_s, hg 0 (by omega)]
             unfold txF
             rw [epn])
          | (refine tail _ _ 0 _ ?_ _ _
             have hm0 : m = 0 := by have := (nI_leI (a := m) (b := 0) (by omega) (by omega)).mp (by assumption); omega
             rw [if_neg (show ¬ 0 < f (38 + 125 * 0) by
               rw [en, pn_0 (by omega)]
               intro hn0
               have := (hwf hn0).1
               rw [hdp, hm0] at this
               exact absurd (Option.some.inj this) (by decide))])
        · refine z_aload_n (i := 0) dX0_gives_179 rfl rfl ?_
          refine z_getf dX0_gives_180 f_X0_15 (by first | decide | assumption | omega) rfl (by rfl) ?_
          refine z_iconst (v := 0) dX0_gives_183 (by decide) ?_
          refine z_iald (j := 0) dX0_gives_184 (by first | decide | assumption | omega) rfl (by rfl) (by first | decide | omega) (by first | decide | omega) ?_
          refine z_goto 193 dX0_gives_185 (by decide) ?_
          first
          | (refine tail _ _ 0 _ ?_ _ _
             have hm0 : 0 < m := by have := mt (nI_leI (a := m) (b := 0) (by omega) (by omega)).mpr (by assumption); omega
             have hn0 : 0 < i := by have := dpR_n hdp; omega
             have hm1 : m = 1 := by have := (hwf hn0).1; rw [hdp] at this; exact Option.some.inj this
             rw [if_pos (by rw [en, pn_0 (by omega)]; exact hn0), zup_s, hg 0 (by omega)]
             unfold txF
             rw [epn])
          | (refine tail _ _ 0 _ ?_ _ _
             have hm0 : m = 0 := by have := (nI_leI (a := m) (b := 0) (by omega) (by omega)).mp (by assumption); omega
             rw [if_neg (show ¬ 0 < f (38 + 125 * 0) by
               rw [en, pn_0 (by omega)]
               intro hn0
               have := (hwf hn0).1
               rw [hdp, hm0] at this
               exact absurd (Option.some.inj this) (by decide))])
      · have hin : i < n := by rw [zup_n (by decide), h3] at h_12; have := mt hlt.mpr h_12; omega
        refine z_aload_n (i := 0) dX0_gives_15 rfl rfl ?_
        refine z_getf dX0_gives_16 f_X0_9 (by first | decide | assumption | omega) rfl (by rfl) ?_
        refine z_iload (i := 5) dX0_gives_19 rfl ?_
        refine z_iald (j := i) dX0_gives_21 (by first | decide | assumption | omega) rfl (by rfl) (by first | decide | omega) (by first | decide | omega) ?_
        refine z_istore (i := 6) [_, _, _, _, _, _, _] dX0_gives_22 (by decide) rfl rfl ?_
        rw [zup_n (by decide), hc i hin]
        exact cut24 hin
  refine z_iconst (v := 0) dX0_gives_0 (by decide) ?_
  refine z_istore (i := 4) [_, _, _, _, _, _, _] dX0_gives_1 (by decide) rfl rfl ?_
  refine z_iconst (v := 0) dX0_gives_3 (by decide) ?_
  refine z_istore (i := 5) [_, _, _, _, _, _, _] dX0_gives_4 (by decide) rfl rfl ?_
  rw [← zup_id (c := c) (k := 4)]
  exact loop (n + 1) 0 0 (c 4) none (by omega) (by omega) rfl (fun j hj => by omega)
theorem s_without5 {a : Int32} (hu : c 5 0 = nI 1) (hQ : Qf (if (1 : Nat) = 0 then a else if 3 < a then 2 else 1) c) : zCl l E ad mX0_without d [.ref (ad 5), .int a] c Qf := by
  refine z_enter (own := RX0) [some (.ref (ad 5)), some (.int a)] (by decide +kernel) rfl rfl rfl (Nat.le_of_ble_eq_true rfl) ?_
  refine z_aload_n (i := 0) dX0_without_0 rfl rfl ?_
  refine z_getf dX0_without_1 f_X0_22 (by first | decide | assumption | omega) rfl (by rfl) ?_
  refine z_if_ne 9 dX0_without_4 (by decide) (fun h_4 => ?_) (fun h_4 => ?_)
  rotate_left
  · exfalso; rw [hu] at h_4; revert h_4; decide
  refine z_iload_n (i := 1) dX0_without_9 rfl rfl ?_
  refine z_iconst (v := 3) dX0_without_10 (by decide) ?_
  refine z_icmp_le 18 dX0_without_11 (by decide) (fun h_11 => ?_) (fun h_11 => ?_)
  · refine z_iconst (v := 1) dX0_without_18 (by decide) ?_
    exact z_ret dX0_without_19 (by grind) trivial rfl
  · refine z_iconst (v := 2) dX0_without_14 (by decide) ?_
    refine z_goto 19 dX0_without_15 (by decide) ?_
    exact z_ret dX0_without_19 (by grind) trivial rfl
theorem s_gives5 {f : zN} {a b h : Int32} (hL : LR c 5 6 1 f) (hs : stG f 1) (hw : wfT f 1) (hd : 2 ≤ d) (hQ : ∀ g, Qf (lawF f 1 a b h) (zup c 7 g)) : zCl l E ad mX0_gives d [.ref (ad 5), .int a, .int b, .int h] c Qf := by
  obtain ⟨hu, h3, hc⟩ := hL
  obtain ⟨n, hn, en, hwf⟩ := hw
  have epn : pn (f (38 + 125 * 1)) = n := by rw [en]; exact pn_nI (by omega)
  unfold stG at hs
  rw [epn] at hc hs
  rw [en] at h3
  refine z_enter (own := RX0) [some (.ref (ad 5)), some (.int a), some (.int b), some (.int h), none, none, none] (by decide +kernel) rfl rfl rfl (Nat.le_of_ble_eq_true rfl) ?_
  have tail : ∀ (x : Int32) (i x6 : Int32) (g : zN), x = (if 0 < f (38 + 125 * 1) then txF f 1 a b h else if (1 : Nat) = 0 then a else if 3 < a then 2 else 1) → ∀ top : Int32, ∀ x6 : Option Value, zW l E ad RX0 cX0_gives 7 1 d Qf 193 [some (.ref (ad 5)), some (.int a), some (.int b), some (.int h), some (.int top), some (.int i), x6] [.int x] (zup c 7 g) := by
    intro x i _ g hx top x6
    have hl : lawF f 1 a b h = if x < 0 then 0 else if x > 3 then 3 else x := by rw [hx]; exact law_1
    refine z_istore (i := 5) [_, _, _, _, _, _, _] dX0_gives_193 (by decide) rfl rfl ?_
    refine z_aload_n (i := 0) dX0_gives_195 rfl rfl ?_
    refine z_getf dX0_gives_196 f_X0_22 (by first | decide | assumption | omega) rfl (by rfl) ?_
    refine z_if_ne 207 dX0_gives_199 (by decide) (fun h_199 => ?_) (fun h_199 => ?_)
    rotate_left
    · exfalso; rw [zup_n (by decide), hu] at h_199; revert h_199; decide
    refine z_iconst (v := 3) dX0_gives_207 (by decide) ?_
    refine z_istore (i := 6) [_, _, _, _, _, _, _] dX0_gives_208 (by decide) rfl rfl ?_
    refine z_iload (i := 5) dX0_gives_210 rfl ?_
    refine z_if_ge 219 dX0_gives_212 (by decide) (fun h_212 => ?_) (fun h_212 => ?_)
    · refine z_iload (i := 5) dX0_gives_219 rfl ?_
      refine z_iload (i := 6) dX0_gives_221 rfl ?_
      refine z_icmp_le 231 dX0_gives_223 (by decide) (fun h_223 => ?_) (fun h_223 => ?_)
      · refine z_iload (i := 5) dX0_gives_231 rfl ?_
        exact z_ret dX0_gives_233 (by have := hQ g; rw [hl] at this; grind) trivial rfl
      · refine z_iload (i := 6) dX0_gives_226 rfl ?_
        refine z_goto 233 dX0_gives_228 (by decide) ?_
        exact z_ret dX0_gives_233 (by have := hQ g; rw [hl] at this; grind) trivial rfl
    · refine z_iconst (v := 0) dX0_gives_215 (by decide) ?_
      refine z_goto 233 dX0_gives_216 (by decide) ?_
      exact z_ret dX0_gives_233 (by have := hQ g; rw [hl] at this; grind) trivial rfl
  have loop : ∀ (r i m : Nat) (g : zN) (x6 : Option Value), n - i < r → i ≤ n → dpR f (38 + 125 * 1) i = some m → (∀ j, j < m → g j = (evR (nmF a b h) f (38 + 125 * 1) (0, fun _ => 0) i).2 j) → zW l E ad RX0 cX0_gives 7 1 d Qf 6 [some (.ref (ad 5)), some (.int a), some (.int b), some (.int h), some (.int (nI m)), some (.int (nI i)), x6] [] (zup c 7 g) := by
    intro r
    induction r with
    | zero => intro i m g x6 h; omega
    | succ r ih =>
      intro i m g x6 hr hi hdp hg
      have hlt := nI_leI (a := n) (b := i) (by omega) (by omega)
      have h1 : (evR (nmF a b h) f (38 + 125 * 1) (0, fun _ => 0) i).1 = m := evR_dp hdp
      have hm := dpR_60 hdp
      have cut168 : ∀ (m' : Nat) (x6 : Option Value) (g' : zN), i < n → dpR f (38 + 125 * 1) (i + 1) = some m' → (∀ j, j < m' → g' j = (evR (nmF a b h) f (38 + 125 * 1) (0, fun _ => 0) (i + 1)).2 j) → zW l E ad RX0 cX0_gives 7 1 d Qf 168 [some (.ref (ad 5)), some (.int a), some (.int b), some (.int h), some (.int (nI m')), some (.int (nI i)), x6] [] (zup c 7 g') := by
        intro m' x6 g' hin hm' hg'
        refine z_iinc (i := 5) (v := 1) [_, _, _, _, _, _, _] dX0_gives_168 rfl (by decide) (by decide) rfl rfl ?_
        refine z_goto 6 dX0_gives_171 (by decide) ?_
        rw [nI_1]
        exact ih (i + 1) m' g' _ (by omega) (by omega) hm' hg'
      have cut24 : i < n → zW l E ad RX0 cX0_gives 7 1 d Qf 24 [some (.ref (ad 5)), some (.int a), some (.int b), some (.int h), some (.int (nI m)), some (.int (nI i)), some (.int (enc 1 (f (38 + 125 * 1 + 1 + 2 * i)) (f (38 + 125 * 1 + 2 + 2 * i))))] [] (zup c 7 g) := by
        intro hin
        have hnx := dpR_le (n := n) (k := i + 1) (by omega) (by rw [(hwf (by omega)).1]; exact fun z => by cases z)
        have hdp' : dpR f (38 + 125 * 1) (i + 1) = (dpR f (38 + 125 * 1) i).bind (dpS (f (38 + 125 * 1 + 1 + 2 * i)) (f (38 + 125 * 1 + 2 + 2 * i))) := rfl
        rw [hdp, Option.bind_some] at hdp'
        rw [hdp'] at hnx
        have hev : evR (nmF a b h) f (38 + 125 * 1) (0, fun _ => 0) (i + 1) = evS (nmF a b h) (f (38 + 125 * 1 + 1 + 2 * i)) (f (38 + 125 * 1 + 2 + 2 * i)) (evR (nmF a b h) f (38 + 125 * 1) (0, fun _ => 0) i) := rfl
        have ok := hs i hin
        rw [hev] at cut168
        rw [hdp'] at cut168
        generalize f (38 + 125 * 1 + 1 + 2 * i) = w at *
        generalize f (38 + 125 * 1 + 2 + 2 * i) = v at *
        clear hdp' hev ih
        have lt60 : (60 : Int32) ≤ nI m ↔ 60 ≤ m := nI_leI (a := 60) (b := m) (by omega) (by omega)
        have le0 : nI m ≤ (0 : Int32) ↔ m ≤ 0 := nI_leI (a := m) (b := 0) (by omega) (by omega)
        have le1 : nI m ≤ (1 : Int32) ↔ m ≤ 1 := nI_leI (a := m) (b := 1) (by omega) (by omega)
        rcases ok with ⟨rfl, k, hk, rfl⟩ | ⟨rfl, hv⟩ | ⟨rfl, rfl⟩ | ⟨rfl, hv⟩
        · have hm6 : m < 60 := by simp only [dpS] at hnx; grind
          have hd1 : dpS 0 (nI k) m = some (m + 1) := by simp [dpS, hm6]
          have hpos := nI_pos' (n := k) (by omega)
          have hk9 : ¬ (10000 : Int32) ≤ nI k := fun w => by have := (nI_leI (a := 10000) (b := k) (by omega) (by omega)).mp w; omega
          rw [hd1] at cut168
          unfold enc
          rw [if_pos rfl]
          refine z_iload (i := 6) dX0_gives_24 rfl ?_
          refine z_if_lt 87 dX0_gives_26 (by decide) (fun h_26 => ?_) (fun h_26 => ?_)
          · exfalso; grind
          refine z_iload (i := 4) dX0_gives_29 rfl ?_
          refine z_bipush (v := 60) dX0_gives_31 (by decide) ?_
          refine z_icmp_ge 87 dX0_gives_33 (by decide) (fun h_33 => ?_) (fun h_33 => ?_)
          · exfalso; have := lt60.mp h_33; omega
          refine z_aload_n (i := 0) dX0_gives_36 rfl rfl ?_
          refine z_getf dX0_gives_37 f_X0_15 (by first | decide | assumption | omega) rfl (by rfl) ?_
          refine z_iload (i := 4) dX0_gives_40 rfl ?_
          refine z_iload (i := 6) dX0_gives_42 rfl ?_
          refine z_sipush (v := 10000) dX0_gives_44 (by decide) ?_
          refine z_icmp_ge 55 dX0_gives_47 (by decide) (fun h_47 => ?_) (fun h_47 => ?_)
          · exact absurd h_47 hk9
          refine z_iload (i := 6) dX0_gives_50 rfl ?_
          refine z_goto 80 dX0_gives_52 (by decide) ?_
          refine z_iast (j := m) dX0_gives_80 (by first | decide | assumption | omega) (fun _ => rfl) (by rfl) (by first | decide | omega) (by first | decide | omega) ?_
          refine z_iinc (i := 4) (v := 1) [_, _, _, _, _, _, _] dX0_gives_81 rfl (by decide) (by decide) rfl rfl ?_
          refine z_goto 168 dX0_gives_84 (by decide) ?_
          rw [nI_1, zup_s, zup_zup]
          refine cut168 (m + 1) _ _ hin rfl (fun j hj => ?_)
          unfold evS upd
          rw [if_pos rfl, h1]
          dsimp only
          split
          · rfl
          · exact hg j (by omega)
        · have hm6 : m < 60 := by simp only [dpS] at hnx; grind
          have hd1 : dpS 1 v m = some (m + 1) := by simp [dpS, hm6, nm_in hv]
          rw [hd1] at cut168
          have go : ∀ (x : Int32) (x6 : Option Value), x = nmF a b h (pn v) → zW l E ad RX0 cX0_gives 7 1 d Qf 80 [some (.ref (ad 5)), some (.int a), some (.int b), some (.int h), some (.int (nI m)), some (.int (nI i)), x6] [.int x, .int (nI m), .ref (ad 7)] (zup c 7 g) := by
            intro x x6 hx
            refine z_iast (j := m) dX0_gives_80 (by first | decide | assumption | omega) (fun _ => rfl) (by rfl) (by first | decide | omega) (by first | decide | omega) ?_
            refine z_iinc (i := 4) (v := 1) [_, _, _, _, _, _, _] dX0_gives_81 rfl (by decide) (by decide) rfl rfl ?_
            refine z_goto 168 dX0_gives_84 (by decide) ?_
            rw [nI_1, zup_s, zup_zup]
            refine cut168 (m + 1) _ _ hin rfl (fun j hj => ?_)
            unfold evS upd
            rw [if_neg (show ¬ (1 : Int32) = 0 by decide), if_pos rfl, h1, hx]
            dsimp only
            split
            · rfl
            · exact hg j (by omega)
          rcases hv with rfl | rfl | rfl
          · rw [enc_99]
            refine z_iload (i := 6) dX0_gives_24 rfl ?_
            refine z_if_lt 87 dX0_gives_26 (by decide) (fun h_26 => ?_) (fun h_26 => ?_)
            · exfalso; revert h_26; decide
            refine z_iload (i := 4) dX0_gives_29 rfl ?_
            refine z_bipush (v := 60) dX0_gives_31 (by decide) ?_
            refine z_icmp_ge 87 dX0_gives_33 (by decide) (fun h_33 => ?_) (fun h_33 => ?_)
            · exfalso; have := lt60.mp h_33; omega
            refine z_aload_n (i := 0) dX0_gives_36 rfl rfl ?_
            refine z_getf dX0_gives_37 f_X0_15 (by first | decide | assumption | omega) rfl (by rfl) ?_
            refine z_iload (i := 4) dX0_gives_40 rfl ?_
            refine z_iload (i := 6) dX0_gives_42 rfl ?_
            refine z_sipush (v := 10000) dX0_gives_44 (by decide) ?_
            refine z_icmp_ge 55 dX0_gives_47 (by decide) (fun h_47 => ?_) (fun h_47 => ?_)
            rotate_left
            · exfalso; revert h_47; decide
            refine z_iload (i := 6) dX0_gives_55 rfl ?_
            refine z_sipush (v := 10000) dX0_gives_57 (by decide) ?_
            refine z_icmp_ne 67 dX0_gives_60 (by decide) (fun h_60 => ?_) (fun h_60 => ?_)
            · exact absurd rfl h_60
            refine z_iload_n (i := 1) dX0_gives_63 rfl rfl ?_
            refine z_goto 80 dX0_gives_64 (by decide) ?_
            exact go _ _ rfl
          · rw [enc_s1]
            refine z_iload (i := 6) dX0_gives_24 rfl ?_
            refine z_if_lt 87 dX0_gives_26 (by decide) (fun h_26 => ?_) (fun h_26 => ?_)
            · exfalso; revert h_26; decide
            refine z_iload (i := 4) dX0_gives_29 rfl ?_
            refine z_bipush (v := 60) dX0_gives_31 (by decide) ?_
            refine z_icmp_ge 87 dX0_gives_33 (by decide) (fun h_33 => ?_) (fun h_33 => ?_)
            · exfalso; have := lt60.mp h_33; omega
            refine z_aload_n (i := 0) dX0_gives_36 rfl rfl ?_
            refine z_getf dX0_gives_37 f_X0_15 (by first | decide | assumption | omega) rfl (by rfl) ?_
            refine z_iload (i := 4) dX0_gives_40 rfl ?_
            refine z_iload (i := 6) dX0_gives_42 rfl ?_
            refine z_sipush (v := 10000) dX0_gives_44 (by decide) ?_
            refine z_icmp_ge 55 dX0_gives_47 (by decide) (fun h_47 => ?_) (fun h_47 => ?_)
            rotate_left
            · exfalso; revert h_47; decide
            refine z_iload (i := 6) dX0_gives_55 rfl ?_
            refine z_sipush (v := 10000) dX0_gives_57 (by decide) ?_
            refine z_icmp_ne 67 dX0_gives_60 (by decide) (fun h_60 => ?_) (fun h_60 => ?_)
            rotate_left
            · exfalso; revert h_60; decide
            refine z_iload (i := 6) dX0_gives_67 rfl ?_
            refine z_sipush (v := 10001) dX0_gives_69 (by decide) ?_
            refine z_icmp_ne 79 dX0_gives_72 (by decide) (fun h_72 => ?_) (fun h_72 => ?_)
            · exact absurd rfl h_72
            refine z_iload_n (i := 2) dX0_gives_75 rfl rfl ?_
            refine z_goto 80 dX0_gives_76 (by decide) ?_
            exact go _ _ rfl
          · rw [enc_h1]
            refine z_iload (i := 6) dX0_gives_24 rfl ?_
            refine z_if_lt 87 dX0_gives_26 (by decide) (fun h_26 => ?_) (fun h_26 => ?_)
            · exfalso; revert h_26; decide
            refine z_iload (i := 4) dX0_gives_29 rfl ?_
            refine z_bipush (v := 60) dX0_gives_31 (by decide) ?_
            refine z_icmp_ge 87 dX0_gives_33 (by decide) (fun h_33 => ?_) (fun h_33 => ?_)
            · exfalso; have := lt60.mp h_33; omega
            refine z_aload_n (i := 0) dX0_gives_36 rfl rfl ?_
            refine z_getf dX0_gives_37 f_X0_15 (by first | decide | assumption | omega) rfl (by rfl) ?_
            refine z_iload (i := 4) dX0_gives_40 rfl ?_
            refine z_iload (i := 6) dX0_gives_42 rfl ?_
            refine z_sipush (v := 10000) dX0_gives_44 (by decide) ?_
            refine z_icmp_ge 55 dX0_gives_47 (by decide) (fun h_47 => ?_) (fun h_47 => ?_)
            rotate_left
            · exfalso; revert h_47; decide
            refine z_iload (i := 6) dX0_gives_55 rfl ?_
            refine z_sipush (v := 10000) dX0_gives_57 (by decide) ?_
            refine z_icmp_ne 67 dX0_gives_60 (by decide) (fun h_60 => ?_) (fun h_60 => ?_)
            rotate_left
            · exfalso; revert h_60; decide
            refine z_iload (i := 6) dX0_gives_67 rfl ?_
            refine z_sipush (v := 10001) dX0_gives_69 (by decide) ?_
            refine z_icmp_ne 79 dX0_gives_72 (by decide) (fun h_72 => ?_) (fun h_72 => ?_)
            rotate_left
            · exfalso; revert h_72; decide
            refine z_iload_n (i := 3) dX0_gives_79 rfl rfl ?_
            exact go _ _ rfl
        · have hm0 : 0 < m := by simp only [dpS] at hnx; grind
          have hd1 : dpS 2 0 m = some m := by simp [dpS, hm0]
          rw [hd1] at cut168
          rw [enc_2]
          refine z_iload (i := 6) dX0_gives_24 rfl ?_
          refine z_if_lt 87 dX0_gives_26 (by decide) (fun h_26 => ?_) (fun h_26 => ?_)
          rotate_left
          · exact absurd (by decide) h_26
          refine z_iload (i := 6) dX0_gives_87 rfl ?_
          refine z_bipush (v := (-33)) dX0_gives_89 (by decide) ?_
          refine z_icmp_ne 128 dX0_gives_91 (by decide) (fun h_91 => ?_) (fun h_91 => ?_)
          · exact absurd rfl h_91
          refine z_iload (i := 4) dX0_gives_94 rfl ?_
          refine z_if_le 128 dX0_gives_96 (by decide) (fun h_96 => ?_) (fun h_96 => ?_)
          · exfalso; have := le0.mp h_96; omega
          refine z_aload_n (i := 0) dX0_gives_99 rfl rfl ?_
          refine z_getf dX0_gives_100 f_X0_15 (by first | decide | assumption | omega) rfl (by rfl) ?_
          refine z_iload (i := 4) dX0_gives_103 rfl ?_
          refine z_iconst (v := 1) dX0_gives_105 (by decide) ?_
          refine z_isub dX0_gives_106 ?_
          refine z_aload_n (i := 0) dX0_gives_107 rfl rfl ?_
          refine z_getf dX0_gives_108 f_X0_15 (by first | decide | assumption | omega) rfl (by rfl) ?_
          refine z_iload (i := 4) dX0_gives_111 rfl ?_
          refine z_iconst (v := 1) dX0_gives_113 (by decide) ?_
          refine z_isub dX0_gives_114 ?_
          refine z_iald (j := m - 1) dX0_gives_115 (by first | decide | assumption | omega) rfl (zi_m1 hm0) (by first | decide | omega) (by first | decide | omega) ?_
          refine z_if_ne 123 dX0_gives_116 (by decide) (fun h_116 => ?_) (fun h_116 => ?_)
          · refine z_iconst (v := 0) dX0_gives_123 (by decide) ?_
            refine z_iast (j := m - 1) dX0_gives_124 (by first | decide | assumption | omega) (fun _ => rfl) (zi_m1 hm0) (by first | decide | omega) (by first | decide | omega) ?_
            refine z_goto 168 dX0_gives_125 (by decide) ?_
            rw [zup_s, zup_zup]
            refine cut168 m _ _ hin rfl (fun j hj => ?_)
            unfold evS upd
            rw [if_neg (show ¬ (2 : Int32) = 0 by decide), if_neg (show ¬ (2 : Int32) = 1 by decide), if_pos rfl, h1]
            dsimp only
            have hgm := hg (m - 1) (by omega)
            rw [zup_s] at h_116
            by_cases w : j = m - 1
            · rw [if_pos w, if_pos w, ← hgm]
              first
              | rw [if_pos (by first | exact h_116 | exact Classical.not_not.mp h_116)]
              | rw [if_neg (by first | exact h_116 | assumption)]
            · rw [if_neg w, if_neg w]
              exact hg j hj
          · refine z_iconst (v := 1) dX0_gives_119 (by decide) ?_
            refine z_goto 124 dX0_gives_120 (by decide) ?_
            refine z_iast (j := m - 1) dX0_gives_124 (by first | decide | assumption | omega) (fun _ => rfl) (zi_m1 hm0) (by first | decide | omega) (by first | decide | omega) ?_
            refine z_goto 168 dX0_gives_125 (by decide) ?_
            rw [zup_s, zup_zup]
            refine cut168 m _ _ hin rfl (fun j hj => ?_)
            unfold evS upd
            rw [if_neg (show ¬ (2 : Int32) = 0 by decide), if_neg (show ¬ (2 : Int32) = 1 by decide), if_pos rfl, h1]
            dsimp only
            have hgm := hg (m - 1) (by omega)
            rw [zup_s] at h_116
            by_cases w : j = m - 1
            · rw [if_pos w, if_pos w, ← hgm]
              first
              | rw [if_pos (by first | exact h_116 | exact Classical.not_not.mp h_116)]
              | rw [if_neg (by first | exact h_116 | assumption)]
            · rw [if_neg w, if_neg w]
              exact hg j hj
        · have hm1 : 1 < m := by simp only [dpS] at hnx; grind
          have hd1 : dpS 3 v m = some (m - 1) := by simp [dpS, hm1]
          rw [hd1] at cut168
          rw [enc_3]
          have hsg := sg_of hv
          have hneg : -v < 0 ∧ ¬ -v = -33 := by rcases hsg with rfl | rfl | rfl | rfl | rfl | rfl | rfl | rfl | rfl | rfl <;> decide
          refine z_iload (i := 6) dX0_gives_24 rfl ?_
          refine z_if_lt 87 dX0_gives_26 (by decide) (fun h_26 => ?_) (fun h_26 => ?_)
          rotate_left
          · exact absurd hneg.1 h_26
          refine z_iload (i := 6) dX0_gives_87 rfl ?_
          refine z_bipush (v := (-33)) dX0_gives_89 (by decide) ?_
          refine z_icmp_ne 128 dX0_gives_91 (by decide) (fun h_91 => ?_) (fun h_91 => ?_)
          rotate_left
          · exact absurd (by assumption) hneg.2
          refine z_iload (i := 4) dX0_gives_128 rfl ?_
          refine z_iconst (v := 1) dX0_gives_130 (by decide) ?_
          refine z_icmp_le 168 dX0_gives_131 (by decide) (fun h_131 => ?_) (fun h_131 => ?_)
          · exfalso; have := le1.mp h_131; omega
          refine z_iinc (i := 4) (v := (-1)) [_, _, _, _, _, _, _] dX0_gives_134 rfl (by decide) (by decide) rfl rfl ?_
          refine z_aload_n (i := 0) dX0_gives_137 rfl rfl ?_
          refine z_getf dX0_gives_138 f_X0_15 (by first | decide | assumption | omega) rfl (by rfl) ?_
          refine z_iload (i := 4) dX0_gives_141 rfl ?_
          refine z_iconst (v := 1) dX0_gives_143 (by decide) ?_
          refine z_isub dX0_gives_144 ?_
          refine z_iload (i := 6) dX0_gives_145 rfl ?_
          refine z_ineg dX0_gives_147 ?_
          refine z_aload_n (i := 0) dX0_gives_148 rfl rfl ?_
          refine z_getf dX0_gives_149 f_X0_15 (by first | decide | assumption | omega) rfl (by rfl) ?_
          refine z_iload (i := 4) dX0_gives_152 rfl ?_
          refine z_iconst (v := 1) dX0_gives_154 (by decide) ?_
          refine z_isub dX0_gives_155 ?_
          refine z_iald (j := m - 2) dX0_gives_156 (by first | decide | assumption | omega) rfl (by rw [zi_m1' (by omega), zi_m1 (by omega)]; rfl) (by first | decide | omega) (by first | decide | omega) ?_
          refine z_aload_n (i := 0) dX0_gives_157 rfl rfl ?_
          refine z_getf dX0_gives_158 f_X0_15 (by first | decide | assumption | omega) rfl (by rfl) ?_
          refine z_iload (i := 4) dX0_gives_161 rfl ?_
          refine z_iald (j := m - 1) dX0_gives_163 (by first | decide | assumption | omega) rfl (by rw [zi_m1' (by omega)]) (by first | decide | omega) (by first | decide | omega) ?_
          refine z_Si (As := [_, _, _]) dX0_gives_164 (by rfl) v_X0_joined l_X0_35 rfl (by omega) (by decide) (Nat.le_of_ble_eq_true rfl) ?_
          rw [show - -v = v from Int32.neg_neg]
          refine s_X0_joined hv ?_
          refine z_iast (j := m - 2) dX0_gives_167 (by first | decide | assumption | omega) (fun _ => rfl) (by rw [zi_m1' (by omega), zi_m1 (by omega)]; rfl) (by first | decide | omega) (by first | decide | omega) ?_
          rw [zi_m1' (by omega), zup_s, zup_zup]
          refine cut168 (m - 1) _ _ hin rfl (fun j hj => ?_)
          unfold evS upd
          rw [if_neg (show ¬ (3 : Int32) = 0 by decide), if_neg (show ¬ (3 : Int32) = 1 by decide), if_neg (show ¬ (3 : Int32) = 2 by decide), h1]
          dsimp only
          have hgm := hg (m - 1) (by omega)
          have hgm2 := hg (m - 2) (by omega)
          by_cases w : j = m - 2
          · rw [if_pos w, if_pos w, ← hgm, ← hgm2]
          · rw [if_neg w, if_neg w]
            exact hg j (by omega)
      refine z_iload (i := 5) dX0_gives_6 rfl ?_
      refine z_aload_n (i := 0) dX0_gives_8 rfl rfl ?_
      refine z_getf dX0_gives_9 f_X0_18 (by first | decide | assumption | omega) rfl (by rfl) ?_
      refine z_icmp_ge 174 dX0_gives_12 (by decide) (fun h_12 => ?_) (fun h_12 => ?_)
      · have hin : i = n := by rw [zup_n (by decide), h3] at h_12; have := hlt.mp h_12; omega
        subst hin
        refine z_iload (i := 4) dX0_gives_174 rfl ?_
        refine z_if_le 188 dX0_gives_176 (by decide) (fun h_176 => ?_) (fun h_176 => ?_)
        · refine z_aload_n (i := 0) dX0_gives_188 rfl rfl ?_
          refine z_iload_n (i := 1) dX0_gives_189 rfl rfl ?_
          refine z_Vi (As := [_]) dX0_gives_190 (by rfl) v_X0_without l_X0_39 (by first | decide | assumption | omega) rfl rfl rfl (by omega) (by decide) (Nat.le_of_ble_eq_true rfl) ?_
          refine s_without5 (by rw [zup_n (by decide)]; exact hu) ?_
          first
          | (refine tail _ _ 0 _ ?_ _ _
             have hm0 : 0 < m := by have := mt (nI_leI (a := m) (b := 0) (by omega) (by omega)).mpr (by assumption); omega
             have hn0 : 0 < i := by have := dpR_n hdp; omega
             have hm1 : m = 1 := by have := (hwf hn0).1; rw [hdp] at this; exact Option.some.inj this
             rw [if_pos (by rw [en, pn_0 (by omega)]; exact hn0), zup_s, hg 0 (by omega)]
             unfold txF
             rw [epn])
          | (refine tail _ _ 0 _ ?_ _ _
             have hm0 : m = 0 := by have := (nI_leI (a := m) (b := 0) (by omega) (by omega)).mp (by assumption); omega
             rw [if_neg (show ¬ 0 < f (38 + 125 * 1) by
               rw [en, pn_0 (by omega)]
               intro hn0
               have := (hwf hn0).1
               rw [hdp, hm0] at this
               exact absurd (Option.some.inj this) (by decide))])
        · refine z_aload_n (i := 0) dX0_gives_179 rfl rfl ?_
          refine z_getf dX0_gives_180 f_X0_15 (by first | decide | assumption | omega) rfl (by rfl) ?_
          refine z_iconst (v := 0) dX0_gives_183 (by decide) ?_
          refine z_iald (j := 0) dX0_gives_184 (by first | decide | assumption | omega) rfl (by rfl) (by first | decide | omega) (by first | decide | omega) ?_
          refine z_goto 193 dX0_gives_185 (by decide) ?_
          first
          | (refine tail _ _ 0 _ ?_ _ _
             have hm0 : 0 < m := by have := mt (nI_leI (a := m) (b := 0) (by omega) (by omega)).mpr (by assumption); omega
             have hn0 : 0 < i := by have := dpR_n hdp; omega
             have hm1 : m = 1 := by have := (hwf hn0).1; rw [hdp] at this; exact Option.some.inj this
             rw [if_pos (by rw [en, pn_0 (by omega)]; exact hn0), zup_s, hg 0 (by omega)]
             unfold txF
             rw [epn])
          | (refine tail _ _ 0 _ ?_ _ _
             have hm0 : m = 0 := by have := (nI_leI (a := m) (b := 0) (by omega) (by omega)).mp (by assumption); omega
             rw [if_neg (show ¬ 0 < f (38 + 125 * 1) by
               rw [en, pn_0 (by omega)]
               intro hn0
               have := (hwf hn0).1
               rw [hdp, hm0] at this
               exact absurd (Option.some.inj this) (by decide))])
      · have hin : i < n := by rw [zup_n (by decide), h3] at h_12; have := mt hlt.mpr h_12; omega
        refine z_aload_n (i := 0) dX0_gives_15 rfl rfl ?_
        refine z_getf dX0_gives_16 f_X0_9 (by first | decide | assumption | omega) rfl (by rfl) ?_
        refine z_iload (i := 5) dX0_gives_19 rfl ?_
        refine z_iald (j := i) dX0_gives_21 (by first | decide | assumption | omega) rfl (by rfl) (by first | decide | omega) (by first | decide | omega) ?_
        refine z_istore (i := 6) [_, _, _, _, _, _, _] dX0_gives_22 (by decide) rfl rfl ?_
        rw [zup_n (by decide), hc i hin]
        exact cut24 hin
  refine z_iconst (v := 0) dX0_gives_0 (by decide) ?_
  refine z_istore (i := 4) [_, _, _, _, _, _, _] dX0_gives_1 (by decide) rfl rfl ?_
  refine z_iconst (v := 0) dX0_gives_3 (by decide) ?_
  refine z_istore (i := 5) [_, _, _, _, _, _, _] dX0_gives_4 (by decide) rfl rfl ?_
  rw [← zup_id (c := c) (k := 7)]
  exact loop (n + 1) 0 0 (c 7) none (by omega) (by omega) rfl (fun j hj => by omega)
end LA
