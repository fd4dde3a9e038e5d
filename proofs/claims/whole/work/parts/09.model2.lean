/-! the reference: texts worked out, what one sees, hours -/
theorem zi_2k (b o k : Nat) : nI b + nI o + 2 * nI k = nI (b + o + 2 * k) := by
  show nI b + nI o + nI 2 * nI k = _
  rw [pk_mul, nI_add, nI_add]
theorem zi_u (u : Nat) : 38 + 125 * nI u = nI (38 + 125 * u) := by
  show nI 38 + nI 125 * nI u = _
  rw [pk_mul, nI_add]
theorem zi_m1 {n : Nat} (h : 0 < n) : nI n - 1 = nI (n - 1) := by
  show nI n - nI 1 = _
  rw [pk_sub (by omega)]
theorem zi_m1' {n : Nat} (h : 0 < n) : nI n + (-1) = nI (n - 1) := by
  obtain ⟨m, rfl⟩ : ∃ m, n = m + 1 := ⟨n - 1, by omega⟩
  exact pk_m1 m
section M2
variable {l : Launch} {E : zE} {ad : Nat → Nat} {c : zS} {Qf : Int32 → zS → Prop} {d : Nat}
theorem s_X8_joined {v x y : Int32} (hQ : Qf (jnF v x y) c) : zCl l E ad mX8_joined d [.int v, .int x, .int y] c Qf := by
  refine z_enter (own := RX8) [some (.int v), some (.int x), some (.int y)] (by decide +kernel) rfl rfl rfl (Nat.le_of_ble_eq_true rfl) ?_
  refine z_iload_n (i := 0) dX8_joined_0 rfl rfl ?_
  by_cases h_1_37 : v = 37
  · refine z_table (v := 37) 154 dX8_joined_1 h_1_37 (by decide) (by decide) rfl (by decide) ?_
    refine z_iload_n (i := 2) dX8_joined_154 rfl rfl ?_
    refine z_if_eq 163 dX8_joined_155 (by decide) (fun h_155 => ?_) (fun h_155 => ?_)
    · refine z_iconst (v := 0) dX8_joined_163 (by decide) ?_
      refine z_goto 170 dX8_joined_164 (by decide) ?_
      exact z_ret dX8_joined_170 (by unfold jnF at hQ; grind) trivial rfl
    · refine z_iload_n (i := 2) dX8_joined_158 rfl rfl ?_
      refine z_iconst (v := (-1)) dX8_joined_159 (by decide) ?_
      refine z_icmp_ne 167 dX8_joined_160 (by decide) (fun h_160 => ?_) (fun h_160 => ?_)
      · refine z_iload_n (i := 1) dX8_joined_167 rfl rfl ?_
        refine z_iload_n (i := 2) dX8_joined_168 rfl rfl ?_
        refine z_irem dX8_joined_169 (by first | decide | assumption) ?_
        exact z_ret dX8_joined_170 (by unfold jnF at hQ; grind) trivial rfl
      · refine z_iconst (v := 0) dX8_joined_163 (by decide) ?_
        refine z_goto 170 dX8_joined_164 (by decide) ?_
        exact z_ret dX8_joined_170 (by unfold jnF at hQ; grind) trivial rfl
  by_cases h_1_38 : v = 38
  · refine z_table (v := 38) 204 dX8_joined_1 h_1_38 (by decide) (by decide) rfl (by decide) ?_
    refine z_iload_n (i := 1) dX8_joined_204 rfl rfl ?_
    refine z_if_eq 216 dX8_joined_205 (by decide) (fun h_205 => ?_) (fun h_205 => ?_)
    · refine z_iconst (v := 0) dX8_joined_216 (by decide) ?_
      exact z_ret dX8_joined_217 (by unfold jnF at hQ; grind) trivial rfl
    · refine z_iload_n (i := 2) dX8_joined_208 rfl rfl ?_
      refine z_if_eq 216 dX8_joined_209 (by decide) (fun h_209 => ?_) (fun h_209 => ?_)
      · refine z_iconst (v := 0) dX8_joined_216 (by decide) ?_
        exact z_ret dX8_joined_217 (by unfold jnF at hQ; grind) trivial rfl
      · refine z_iconst (v := 1) dX8_joined_212 (by decide) ?_
        refine z_goto 217 dX8_joined_213 (by decide) ?_
        exact z_ret dX8_joined_217 (by unfold jnF at hQ; grind) trivial rfl
  by_cases h_1_39 : v = 39
  · refine z_table (v := 39) 218 dX8_joined_1 h_1_39 (by decide) (by decide) rfl (by decide) ?_
    refine z_iload_n (i := 1) dX8_joined_218 rfl rfl ?_
    refine z_if_ne 226 dX8_joined_219 (by decide) (fun h_219 => ?_) (fun h_219 => ?_)
    · refine z_iconst (v := 1) dX8_joined_226 (by decide) ?_
      refine z_goto 231 dX8_joined_227 (by decide) ?_
      exact z_ret dX8_joined_231 (by unfold jnF at hQ; grind) trivial rfl
    · refine z_iload_n (i := 2) dX8_joined_222 rfl rfl ?_
      refine z_if_eq 230 dX8_joined_223 (by decide) (fun h_223 => ?_) (fun h_223 => ?_)
      · refine z_iconst (v := 0) dX8_joined_230 (by decide) ?_
        exact z_ret dX8_joined_231 (by unfold jnF at hQ; grind) trivial rfl
      · refine z_iconst (v := 1) dX8_joined_226 (by decide) ?_
        refine z_goto 231 dX8_joined_227 (by decide) ?_
        exact z_ret dX8_joined_231 (by unfold jnF at hQ; grind) trivial rfl
  by_cases h_1_40 : v = 40
  · refine z_table (v := 40) 218 dX8_joined_1 h_1_40 (by decide) (by decide) rfl (by decide) ?_
    refine z_iload_n (i := 1) dX8_joined_218 rfl rfl ?_
    refine z_if_ne 226 dX8_joined_219 (by decide) (fun h_219 => ?_) (fun h_219 => ?_)
    · refine z_iconst (v := 1) dX8_joined_226 (by decide) ?_
      refine z_goto 231 dX8_joined_227 (by decide) ?_
      exact z_ret dX8_joined_231 (by unfold jnF at hQ; grind) trivial rfl
    · refine z_iload_n (i := 2) dX8_joined_222 rfl rfl ?_
      refine z_if_eq 230 dX8_joined_223 (by decide) (fun h_223 => ?_) (fun h_223 => ?_)
      · refine z_iconst (v := 0) dX8_joined_230 (by decide) ?_
        exact z_ret dX8_joined_231 (by unfold jnF at hQ; grind) trivial rfl
      · refine z_iconst (v := 1) dX8_joined_226 (by decide) ?_
        refine z_goto 231 dX8_joined_227 (by decide) ?_
        exact z_ret dX8_joined_231 (by unfold jnF at hQ; grind) trivial rfl
  by_cases h_1_41 : v = 41
  · refine z_table (v := 41) 218 dX8_joined_1 h_1_41 (by decide) (by decide) rfl (by decide) ?_
    refine z_iload_n (i := 1) dX8_joined_218 rfl rfl ?_
    refine z_if_ne 226 dX8_joined_219 (by decide) (fun h_219 => ?_) (fun h_219 => ?_)
    · refine z_iconst (v := 1) dX8_joined_226 (by decide) ?_
      refine z_goto 231 dX8_joined_227 (by decide) ?_
      exact z_ret dX8_joined_231 (by unfold jnF at hQ; grind) trivial rfl
    · refine z_iload_n (i := 2) dX8_joined_222 rfl rfl ?_
      refine z_if_eq 230 dX8_joined_223 (by decide) (fun h_223 => ?_) (fun h_223 => ?_)
      · refine z_iconst (v := 0) dX8_joined_230 (by decide) ?_
        exact z_ret dX8_joined_231 (by unfold jnF at hQ; grind) trivial rfl
      · refine z_iconst (v := 1) dX8_joined_226 (by decide) ?_
        refine z_goto 231 dX8_joined_227 (by decide) ?_
        exact z_ret dX8_joined_231 (by unfold jnF at hQ; grind) trivial rfl
  by_cases h_1_42 : v = 42
  · refine z_table (v := 42) 128 dX8_joined_1 h_1_42 (by decide) (by decide) rfl (by decide) ?_
    refine z_iload_n (i := 1) dX8_joined_128 rfl rfl ?_
    refine z_iload_n (i := 2) dX8_joined_129 rfl rfl ?_
    refine z_imul dX8_joined_130 ?_
    exact z_ret dX8_joined_131 (by unfold jnF at hQ; grind) trivial rfl
  by_cases h_1_43 : v = 43
  · refine z_table (v := 43) 120 dX8_joined_1 h_1_43 (by decide) (by decide) rfl (by decide) ?_
    refine z_iload_n (i := 1) dX8_joined_120 rfl rfl ?_
    refine z_iload_n (i := 2) dX8_joined_121 rfl rfl ?_
    refine z_iadd dX8_joined_122 ?_
    exact z_ret dX8_joined_123 (by unfold jnF at hQ; grind) trivial rfl
  by_cases h_1_44 : v = 44
  · refine z_table (v := 44) 218 dX8_joined_1 h_1_44 (by decide) (by decide) rfl (by decide) ?_
    refine z_iload_n (i := 1) dX8_joined_218 rfl rfl ?_
    refine z_if_ne 226 dX8_joined_219 (by decide) (fun h_219 => ?_) (fun h_219 => ?_)
    · refine z_iconst (v := 1) dX8_joined_226 (by decide) ?_
      refine z_goto 231 dX8_joined_227 (by decide) ?_
      exact z_ret dX8_joined_231 (by unfold jnF at hQ; grind) trivial rfl
    · refine z_iload_n (i := 2) dX8_joined_222 rfl rfl ?_
      refine z_if_eq 230 dX8_joined_223 (by decide) (fun h_223 => ?_) (fun h_223 => ?_)
      · refine z_iconst (v := 0) dX8_joined_230 (by decide) ?_
        exact z_ret dX8_joined_231 (by unfold jnF at hQ; grind) trivial rfl
      · refine z_iconst (v := 1) dX8_joined_226 (by decide) ?_
        refine z_goto 231 dX8_joined_227 (by decide) ?_
        exact z_ret dX8_joined_231 (by unfold jnF at hQ; grind) trivial rfl
  by_cases h_1_45 : v = 45
  · refine z_table (v := 45) 124 dX8_joined_1 h_1_45 (by decide) (by decide) rfl (by decide) ?_
    refine z_iload_n (i := 1) dX8_joined_124 rfl rfl ?_
    refine z_iload_n (i := 2) dX8_joined_125 rfl rfl ?_
    refine z_isub dX8_joined_126 ?_
    exact z_ret dX8_joined_127 (by unfold jnF at hQ; grind) trivial rfl
  by_cases h_1_46 : v = 46
  · refine z_table (v := 46) 218 dX8_joined_1 h_1_46 (by decide) (by decide) rfl (by decide) ?_
    refine z_iload_n (i := 1) dX8_joined_218 rfl rfl ?_
    refine z_if_ne 226 dX8_joined_219 (by decide) (fun h_219 => ?_) (fun h_219 => ?_)
    · refine z_iconst (v := 1) dX8_joined_226 (by decide) ?_
      refine z_goto 231 dX8_joined_227 (by decide) ?_
      exact z_ret dX8_joined_231 (by unfold jnF at hQ; grind) trivial rfl
    · refine z_iload_n (i := 2) dX8_joined_222 rfl rfl ?_
      refine z_if_eq 230 dX8_joined_223 (by decide) (fun h_223 => ?_) (fun h_223 => ?_)
      · refine z_iconst (v := 0) dX8_joined_230 (by decide) ?_
        exact z_ret dX8_joined_231 (by unfold jnF at hQ; grind) trivial rfl
      · refine z_iconst (v := 1) dX8_joined_226 (by decide) ?_
        refine z_goto 231 dX8_joined_227 (by decide) ?_
        exact z_ret dX8_joined_231 (by unfold jnF at hQ; grind) trivial rfl
  by_cases h_1_47 : v = 47
  · refine z_table (v := 47) 132 dX8_joined_1 h_1_47 (by decide) (by decide) rfl (by decide) ?_
    refine z_iload_n (i := 2) dX8_joined_132 rfl rfl ?_
    refine z_if_ne 140 dX8_joined_133 (by decide) (fun h_133 => ?_) (fun h_133 => ?_)
    · refine z_iload_n (i := 2) dX8_joined_140 rfl rfl ?_
      refine z_iconst (v := (-1)) dX8_joined_141 (by decide) ?_
      refine z_icmp_ne 150 dX8_joined_142 (by decide) (fun h_142 => ?_) (fun h_142 => ?_)
      · refine z_iload_n (i := 1) dX8_joined_150 rfl rfl ?_
        refine z_iload_n (i := 2) dX8_joined_151 rfl rfl ?_
        refine z_idiv dX8_joined_152 (by first | decide | assumption) ?_
        exact z_ret dX8_joined_153 (by unfold jnF at hQ; grind) trivial rfl
      · refine z_iload_n (i := 1) dX8_joined_145 rfl rfl ?_
        refine z_ineg dX8_joined_146 ?_
        refine z_goto 153 dX8_joined_147 (by decide) ?_
        exact z_ret dX8_joined_153 (by unfold jnF at hQ; grind) trivial rfl
    · refine z_iconst (v := 0) dX8_joined_136 (by decide) ?_
      refine z_goto 153 dX8_joined_137 (by decide) ?_
      exact z_ret dX8_joined_153 (by unfold jnF at hQ; grind) trivial rfl
  by_cases h_1_48 : v = 48
  · refine z_table (v := 48) 218 dX8_joined_1 h_1_48 (by decide) (by decide) rfl (by decide) ?_
    refine z_iload_n (i := 1) dX8_joined_218 rfl rfl ?_
    refine z_if_ne 226 dX8_joined_219 (by decide) (fun h_219 => ?_) (fun h_219 => ?_)
    · refine z_iconst (v := 1) dX8_joined_226 (by decide) ?_
      refine z_goto 231 dX8_joined_227 (by decide) ?_
      exact z_ret dX8_joined_231 (by unfold jnF at hQ; grind) trivial rfl
    · refine z_iload_n (i := 2) dX8_joined_222 rfl rfl ?_
      refine z_if_eq 230 dX8_joined_223 (by decide) (fun h_223 => ?_) (fun h_223 => ?_)
      · refine z_iconst (v := 0) dX8_joined_230 (by decide) ?_
        exact z_ret dX8_joined_231 (by unfold jnF at hQ; grind) trivial rfl
      · refine z_iconst (v := 1) dX8_joined_226 (by decide) ?_
        refine z_goto 231 dX8_joined_227 (by decide) ?_
        exact z_ret dX8_joined_231 (by unfold jnF at hQ; grind) trivial rfl
  by_cases h_1_49 : v = 49
  · refine z_table (v := 49) 218 dX8_joined_1 h_1_49 (by decide) (by decide) rfl (by decide) ?_
    refine z_iload_n (i := 1) dX8_joined_218 rfl rfl ?_
    refine z_if_ne 226 dX8_joined_219 (by decide) (fun h_219 => ?_) (fun h_219 => ?_)
    · refine z_iconst (v := 1) dX8_joined_226 (by decide) ?_
      refine z_goto 231 dX8_joined_227 (by decide) ?_
      exact z_ret dX8_joined_231 (by unfold jnF at hQ; grind) trivial rfl
    · refine z_iload_n (i := 2) dX8_joined_222 rfl rfl ?_
      refine z_if_eq 230 dX8_joined_223 (by decide) (fun h_223 => ?_) (fun h_223 => ?_)
      · refine z_iconst (v := 0) dX8_joined_230 (by decide) ?_
        exact z_ret dX8_joined_231 (by unfold jnF at hQ; grind) trivial rfl
      · refine z_iconst (v := 1) dX8_joined_226 (by decide) ?_
        refine z_goto 231 dX8_joined_227 (by decide) ?_
        exact z_ret dX8_joined_231 (by unfold jnF at hQ; grind) trivial rfl
  by_cases h_1_50 : v = 50
  · refine z_table (v := 50) 218 dX8_joined_1 h_1_50 (by decide) (by decide) rfl (by decide) ?_
    refine z_iload_n (i := 1) dX8_joined_218 rfl rfl ?_
    refine z_if_ne 226 dX8_joined_219 (by decide) (fun h_219 => ?_) (fun h_219 => ?_)
    · refine z_iconst (v := 1) dX8_joined_226 (by decide) ?_
      refine z_goto 231 dX8_joined_227 (by decide) ?_
      exact z_ret dX8_joined_231 (by unfold jnF at hQ; grind) trivial rfl
    · refine z_iload_n (i := 2) dX8_joined_222 rfl rfl ?_
      refine z_if_eq 230 dX8_joined_223 (by decide) (fun h_223 => ?_) (fun h_223 => ?_)
      · refine z_iconst (v := 0) dX8_joined_230 (by decide) ?_
        exact z_ret dX8_joined_231 (by unfold jnF at hQ; grind) trivial rfl
      · refine z_iconst (v := 1) dX8_joined_226 (by decide) ?_
        refine z_goto 231 dX8_joined_227 (by decide) ?_
        exact z_ret dX8_joined_231 (by unfold jnF at hQ; grind) trivial rfl
  by_cases h_1_51 : v = 51
  · refine z_table (v := 51) 218 dX8_joined_1 h_1_51 (by decide) (by decide) rfl (by decide) ?_
    refine z_iload_n (i := 1) dX8_joined_218 rfl rfl ?_
    refine z_if_ne 226 dX8_joined_219 (by decide) (fun h_219 => ?_) (fun h_219 => ?_)
    · refine z_iconst (v := 1) dX8_joined_226 (by decide) ?_
      refine z_goto 231 dX8_joined_227 (by decide) ?_
      exact z_ret dX8_joined_231 (by unfold jnF at hQ; grind) trivial rfl
    · refine z_iload_n (i := 2) dX8_joined_222 rfl rfl ?_
      refine z_if_eq 230 dX8_joined_223 (by decide) (fun h_223 => ?_) (fun h_223 => ?_)
      · refine z_iconst (v := 0) dX8_joined_230 (by decide) ?_
        exact z_ret dX8_joined_231 (by unfold jnF at hQ; grind) trivial rfl
      · refine z_iconst (v := 1) dX8_joined_226 (by decide) ?_
        refine z_goto 231 dX8_joined_227 (by decide) ?_
        exact z_ret dX8_joined_231 (by unfold jnF at hQ; grind) trivial rfl
  by_cases h_1_52 : v = 52
  · refine z_table (v := 52) 218 dX8_joined_1 h_1_52 (by decide) (by decide) rfl (by decide) ?_
    refine z_iload_n (i := 1) dX8_joined_218 rfl rfl ?_
    refine z_if_ne 226 dX8_joined_219 (by decide) (fun h_219 => ?_) (fun h_219 => ?_)
    · refine z_iconst (v := 1) dX8_joined_226 (by decide) ?_
      refine z_goto 231 dX8_joined_227 (by decide) ?_
      exact z_ret dX8_joined_231 (by unfold jnF at hQ; grind) trivial rfl
    · refine z_iload_n (i := 2) dX8_joined_222 rfl rfl ?_
      refine z_if_eq 230 dX8_joined_223 (by decide) (fun h_223 => ?_) (fun h_223 => ?_)
      · refine z_iconst (v := 0) dX8_joined_230 (by decide) ?_
        exact z_ret dX8_joined_231 (by unfold jnF at hQ; grind) trivial rfl
      · refine z_iconst (v := 1) dX8_joined_226 (by decide) ?_
        refine z_goto 231 dX8_joined_227 (by decide) ?_
        exact z_ret dX8_joined_231 (by unfold jnF at hQ; grind) trivial rfl
  by_cases h_1_53 : v = 53
  · refine z_table (v := 53) 218 dX8_joined_1 h_1_53 (by decide) (by decide) rfl (by decide) ?_
    refine z_iload_n (i := 1) dX8_joined_218 rfl rfl ?_
    refine z_if_ne 226 dX8_joined_219 (by decide) (fun h_219 => ?_) (fun h_219 => ?_)
    · refine z_iconst (v := 1) dX8_joined_226 (by decide) ?_
      refine z_goto 231 dX8_joined_227 (by decide) ?_
      exact z_ret dX8_joined_231 (by unfold jnF at hQ; grind) trivial rfl
    · refine z_iload_n (i := 2) dX8_joined_222 rfl rfl ?_
      refine z_if_eq 230 dX8_joined_223 (by decide) (fun h_223 => ?_) (fun h_223 => ?_)
      · refine z_iconst (v := 0) dX8_joined_230 (by decide) ?_
        exact z_ret dX8_joined_231 (by unfold jnF at hQ; grind) trivial rfl
      · refine z_iconst (v := 1) dX8_joined_226 (by decide) ?_
        refine z_goto 231 dX8_joined_227 (by decide) ?_
        exact z_ret dX8_joined_231 (by unfold jnF at hQ; grind) trivial rfl
  by_cases h_1_54 : v = 54
  · refine z_table (v := 54) 218 dX8_joined_1 h_1_54 (by decide) (by decide) rfl (by decide) ?_
    refine z_iload_n (i := 1) dX8_joined_218 rfl rfl ?_
    refine z_if_ne 226 dX8_joined_219 (by decide) (fun h_219 => ?_) (fun h_219 => ?_)
    · refine z_iconst (v := 1) dX8_joined_226 (by decide) ?_
      refine z_goto 231 dX8_joined_227 (by decide) ?_
      exact z_ret dX8_joined_231 (by unfold jnF at hQ; grind) trivial rfl
    · refine z_iload_n (i := 2) dX8_joined_222 rfl rfl ?_
      refine z_if_eq 230 dX8_joined_223 (by decide) (fun h_223 => ?_) (fun h_223 => ?_)
      · refine z_iconst (v := 0) dX8_joined_230 (by decide) ?_
        exact z_ret dX8_joined_231 (by unfold jnF at hQ; grind) trivial rfl
      · refine z_iconst (v := 1) dX8_joined_226 (by decide) ?_
        refine z_goto 231 dX8_joined_227 (by decide) ?_
        exact z_ret dX8_joined_231 (by unfold jnF at hQ; grind) trivial rfl
  by_cases h_1_55 : v = 55
  · refine z_table (v := 55) 218 dX8_joined_1 h_1_55 (by decide) (by decide) rfl (by decide) ?_
    refine z_iload_n (i := 1) dX8_joined_218 rfl rfl ?_
    refine z_if_ne 226 dX8_joined_219 (by decide) (fun h_219 => ?_) (fun h_219 => ?_)
    · refine z_iconst (v := 1) dX8_joined_226 (by decide) ?_
      refine z_goto 231 dX8_joined_227 (by decide) ?_
      exact z_ret dX8_joined_231 (by unfold jnF at hQ; grind) trivial rfl
    · refine z_iload_n (i := 2) dX8_joined_222 rfl rfl ?_
      refine z_if_eq 230 dX8_joined_223 (by decide) (fun h_223 => ?_) (fun h_223 => ?_)
      · refine z_iconst (v := 0) dX8_joined_230 (by decide) ?_
        exact z_ret dX8_joined_231 (by unfold jnF at hQ; grind) trivial rfl
      · refine z_iconst (v := 1) dX8_joined_226 (by decide) ?_
        refine z_goto 231 dX8_joined_227 (by decide) ?_
        exact z_ret dX8_joined_231 (by unfold jnF at hQ; grind) trivial rfl
  by_cases h_1_56 : v = 56
  · refine z_table (v := 56) 218 dX8_joined_1 h_1_56 (by decide) (by decide) rfl (by decide) ?_
    refine z_iload_n (i := 1) dX8_joined_218 rfl rfl ?_
    refine z_if_ne 226 dX8_joined_219 (by decide) (fun h_219 => ?_) (fun h_219 => ?_)
    · refine z_iconst (v := 1) dX8_joined_226 (by decide) ?_
      refine z_goto 231 dX8_joined_227 (by decide) ?_
      exact z_ret dX8_joined_231 (by unfold jnF at hQ; grind) trivial rfl
    · refine z_iload_n (i := 2) dX8_joined_222 rfl rfl ?_
      refine z_if_eq 230 dX8_joined_223 (by decide) (fun h_223 => ?_) (fun h_223 => ?_)
      · refine z_iconst (v := 0) dX8_joined_230 (by decide) ?_
        exact z_ret dX8_joined_231 (by unfold jnF at hQ; grind) trivial rfl
      · refine z_iconst (v := 1) dX8_joined_226 (by decide) ?_
        refine z_goto 231 dX8_joined_227 (by decide) ?_
        exact z_ret dX8_joined_231 (by unfold jnF at hQ; grind) trivial rfl
  by_cases h_1_57 : v = 57
  · refine z_table (v := 57) 218 dX8_joined_1 h_1_57 (by decide) (by decide) rfl (by decide) ?_
    refine z_iload_n (i := 1) dX8_joined_218 rfl rfl ?_
    refine z_if_ne 226 dX8_joined_219 (by decide) (fun h_219 => ?_) (fun h_219 => ?_)
    · refine z_iconst (v := 1) dX8_joined_226 (by decide) ?_
      refine z_goto 231 dX8_joined_227 (by decide) ?_
      exact z_ret dX8_joined_231 (by unfold jnF at hQ; grind) trivial rfl
    · refine z_iload_n (i := 2) dX8_joined_222 rfl rfl ?_
      refine z_if_eq 230 dX8_joined_223 (by decide) (fun h_223 => ?_) (fun h_223 => ?_)
      · refine z_iconst (v := 0) dX8_joined_230 (by decide) ?_
        exact z_ret dX8_joined_231 (by unfold jnF at hQ; grind) trivial rfl
      · refine z_iconst (v := 1) dX8_joined_226 (by decide) ?_
        refine z_goto 231 dX8_joined_227 (by decide) ?_
        exact z_ret dX8_joined_231 (by unfold jnF at hQ; grind) trivial rfl
  by_cases h_1_58 : v = 58
  · refine z_table (v := 58) 218 dX8_joined_1 h_1_58 (by decide) (by decide) rfl (by decide) ?_
    refine z_iload_n (i := 1) dX8_joined_218 rfl rfl ?_
    refine z_if_ne 226 dX8_joined_219 (by decide) (fun h_219 => ?_) (fun h_219 => ?_)
    · refine z_iconst (v := 1) dX8_joined_226 (by decide) ?_
      refine z_goto 231 dX8_joined_227 (by decide) ?_
      exact z_ret dX8_joined_231 (by unfold jnF at hQ; grind) trivial rfl
    · refine z_iload_n (i := 2) dX8_joined_222 rfl rfl ?_
      refine z_if_eq 230 dX8_joined_223 (by decide) (fun h_223 => ?_) (fun h_223 => ?_)
      · refine z_iconst (v := 0) dX8_joined_230 (by decide) ?_
        exact z_ret dX8_joined_231 (by unfold jnF at hQ; grind) trivial rfl
      · refine z_iconst (v := 1) dX8_joined_226 (by decide) ?_
        refine z_goto 231 dX8_joined_227 (by decide) ?_
        exact z_ret dX8_joined_231 (by unfold jnF at hQ; grind) trivial rfl
  by_cases h_1_59 : v = 59
  · refine z_table (v := 59) 218 dX8_joined_1 h_1_59 (by decide) (by decide) rfl (by decide) ?_
    refine z_iload_n (i := 1) dX8_joined_218 rfl rfl ?_
    refine z_if_ne 226 dX8_joined_219 (by decide) (fun h_219 => ?_) (fun h_219 => ?_)
    · refine z_iconst (v := 1) dX8_joined_226 (by decide) ?_
      refine z_goto 231 dX8_joined_227 (by decide) ?_
      exact z_ret dX8_joined_231 (by unfold jnF at hQ; grind) trivial rfl
    · refine z_iload_n (i := 2) dX8_joined_222 rfl rfl ?_
      refine z_if_eq 230 dX8_joined_223 (by decide) (fun h_223 => ?_) (fun h_223 => ?_)
      · refine z_iconst (v := 0) dX8_joined_230 (by decide) ?_
        exact z_ret dX8_joined_231 (by unfold jnF at hQ; grind) trivial rfl
      · refine z_iconst (v := 1) dX8_joined_226 (by decide) ?_
        refine z_goto 231 dX8_joined_227 (by decide) ?_
        exact z_ret dX8_joined_231 (by unfold jnF at hQ; grind) trivial rfl
  by_cases h_1_60 : v = 60
  · refine z_table (v := 60) 171 dX8_joined_1 h_1_60 (by decide) (by decide) rfl (by decide) ?_
    refine z_iload_n (i := 1) dX8_joined_171 rfl rfl ?_
    refine z_iload_n (i := 2) dX8_joined_172 rfl rfl ?_
    refine z_icmp_ge 180 dX8_joined_173 (by decide) (fun h_173 => ?_) (fun h_173 => ?_)
    · refine z_iconst (v := 0) dX8_joined_180 (by decide) ?_
      exact z_ret dX8_joined_181 (by unfold jnF at hQ; grind) trivial rfl
    · refine z_iconst (v := 1) dX8_joined_176 (by decide) ?_
      refine z_goto 181 dX8_joined_177 (by decide) ?_
      exact z_ret dX8_joined_181 (by unfold jnF at hQ; grind) trivial rfl
  by_cases h_1_61 : v = 61
  · refine z_table (v := 61) 193 dX8_joined_1 h_1_61 (by decide) (by decide) rfl (by decide) ?_
    refine z_iload_n (i := 1) dX8_joined_193 rfl rfl ?_
    refine z_iload_n (i := 2) dX8_joined_194 rfl rfl ?_
    refine z_icmp_ne 202 dX8_joined_195 (by decide) (fun h_195 => ?_) (fun h_195 => ?_)
    · refine z_iconst (v := 0) dX8_joined_202 (by decide) ?_
      exact z_ret dX8_joined_203 (by unfold jnF at hQ; grind) trivial rfl
    · refine z_iconst (v := 1) dX8_joined_198 (by decide) ?_
      refine z_goto 203 dX8_joined_199 (by decide) ?_
      exact z_ret dX8_joined_203 (by unfold jnF at hQ; grind) trivial rfl
  by_cases h_1_62 : v = 62
  · refine z_table (v := 62) 182 dX8_joined_1 h_1_62 (by decide) (by decide) rfl (by decide) ?_
    refine z_iload_n (i := 1) dX8_joined_182 rfl rfl ?_
    refine z_iload_n (i := 2) dX8_joined_183 rfl rfl ?_
    refine z_icmp_le 191 dX8_joined_184 (by decide) (fun h_184 => ?_) (fun h_184 => ?_)
    · refine z_iconst (v := 0) dX8_joined_191 (by decide) ?_
      exact z_ret dX8_joined_192 (by unfold jnF at hQ; grind) trivial rfl
    · refine z_iconst (v := 1) dX8_joined_187 (by decide) ?_
      refine z_goto 192 dX8_joined_188 (by decide) ?_
      exact z_ret dX8_joined_192 (by unfold jnF at hQ; grind) trivial rfl
  refine z_tableD 218 dX8_joined_1 (by have a37 := zt_ne (k := 37) (by decide) h_1_37; have a38 := zt_ne (k := 38) (by decide) h_1_38; have a39 := zt_ne (k := 39) (by decide) h_1_39; have a40 := zt_ne (k := 40) (by decide) h_1_40; have a41 := zt_ne (k := 41) (by decide) h_1_41; have a42 := zt_ne (k := 42) (by decide) h_1_42; have a43 := zt_ne (k := 43) (by decide) h_1_43; have a44 := zt_ne (k := 44) (by decide) h_1_44; have a45 := zt_ne (k := 45) (by decide) h_1_45; have a46 := zt_ne (k := 46) (by decide) h_1_46; have a47 := zt_ne (k := 47) (by decide) h_1_47; have a48 := zt_ne (k := 48) (by decide) h_1_48; have a49 := zt_ne (k := 49) (by decide) h_1_49; have a50 := zt_ne (k := 50) (by decide) h_1_50; have a51 := zt_ne (k := 51) (by decide) h_1_51; have a52 := zt_ne (k := 52) (by decide) h_1_52; have a53 := zt_ne (k := 53) (by decide) h_1_53; have a54 := zt_ne (k := 54) (by decide) h_1_54; have a55 := zt_ne (k := 55) (by decide) h_1_55; have a56 := zt_ne (k := 56) (by decide) h_1_56; have a57 := zt_ne (k := 57) (by decide) h_1_57; have a58 := zt_ne (k := 58) (by decide) h_1_58; have a59 := zt_ne (k := 59) (by decide) h_1_59; have a60 := zt_ne (k := 60) (by decide) h_1_60; have a61 := zt_ne (k := 61) (by decide) h_1_61; have a62 := zt_ne (k := 62) (by decide) h_1_62; omega) (by decide) ?_
  refine z_iload_n (i := 1) dX8_joined_218 rfl rfl ?_
  refine z_if_ne 226 dX8_joined_219 (by decide) (fun h_219 => ?_) (fun h_219 => ?_)
  · refine z_iconst (v := 1) dX8_joined_226 (by decide) ?_
    refine z_goto 231 dX8_joined_227 (by decide) ?_
    exact z_ret dX8_joined_231 (by unfold jnF at hQ; grind) trivial rfl
  · refine z_iload_n (i := 2) dX8_joined_222 rfl rfl ?_
    refine z_if_eq 230 dX8_joined_223 (by decide) (fun h_223 => ?_) (fun h_223 => ?_)
    · refine z_iconst (v := 0) dX8_joined_230 (by decide) ?_
      exact z_ret dX8_joined_231 (by unfold jnF at hQ; grind) trivial rfl
    · refine z_iconst (v := 1) dX8_joined_226 (by decide) ?_
      refine z_goto 231 dX8_joined_227 (by decide) ?_
      exact z_ret dX8_joined_231 (by unfold jnF at hQ; grind) trivial rfl
theorem s_X8_hasText {u : Nat} (hu : u < 2) (hQ : Qf (if 0 < c 52 (38 + 125 * u) then 1 else 0) c) : zCl l E ad mX8_hasText d [.ref (ad 51), .int (nI u)] c Qf := by
  refine z_enter (own := RX8) [some (.ref (ad 51)), some (.int (nI u))] (by decide +kernel) rfl rfl rfl (Nat.le_of_ble_eq_true rfl) ?_
  refine z_aload_n (i := 0) dX8_hasText_0 rfl rfl ?_
  refine z_getf dX8_hasText_1 f_X8_7 (by first | decide | assumption | omega) rfl (by rfl) ?_
  refine z_bipush (v := 38) dX8_hasText_4 (by decide) ?_
  refine z_bipush (v := 125) dX8_hasText_6 (by decide) ?_
  refine z_iload_n (i := 1) dX8_hasText_8 rfl rfl ?_
  refine z_imul dX8_hasText_9 ?_
  refine z_iadd dX8_hasText_10 ?_
  refine z_iald (j := 38 + 125 * u) dX8_hasText_11 (by first | decide | assumption | omega) rfl (zi_u u) (by first | decide | omega) (by first | decide | omega) ?_
  refine z_if_le 19 dX8_hasText_12 (by decide) (fun h_12 => ?_) (fun h_12 => ?_)
  · refine z_iconst (v := 0) dX8_hasText_19 (by decide) ?_
    exact z_ret dX8_hasText_20 (by grind) (by rfl) rfl
  · refine z_iconst (v := 1) dX8_hasText_15 (by decide) ?_
    refine z_goto 20 dX8_hasText_16 (by decide) ?_
    exact z_ret dX8_hasText_20 (by grind) (by rfl) rfl
theorem s_X8_worked {u n : Nat} (hu : u < 2) (hd : 1 ≤ d) (hs : c 52 (38 + 125 * u) = nI n) (hn : n ≤ 62) (hwf : dpR (c 52) (38 + 125 * u) n = some 1) (hQ : ∀ g, Qf ((evR (c 57) (c 52) (38 + 125 * u) (0, c 58) n).2 0) (zup c 58 g)) : zCl l E ad mX8_worked d [.ref (ad 51), .int (nI u)] c Qf := by
  refine z_enter (own := RX8) [some (.ref (ad 51)), some (.int (nI u)), none, none, none, none, none] (by decide +kernel) rfl rfl rfl (Nat.le_of_ble_eq_true rfl) ?_
  have hb : ∃ b, b = 38 + 125 * u := ⟨_, rfl⟩
  obtain ⟨b, hb⟩ := hb
  rw [← hb] at hs hwf hQ
  have hb2 : b ≤ 163 := by omega
  have loop : ∀ (r k m : Nat) (x5 x6 : Option Value), n - k < r → k ≤ n → dpR (c 52) b k = some m → zW l E ad RX8 cX8_worked 7 1 d Qf 13 [some (.ref (ad 51)), some (.int (nI u)), some (.int (nI b)), some (.int (nI m)), some (.int (nI k)), x5, x6] [] (zup c 58 (evR (c 57) (c 52) b (0, c 58) k).2) := by
    intro r
    induction r with
    | zero => intro k m x5 x6 h; omega
    | succ r ih =>
      intro k m x5 x6 hr hk hdp
      have hlt := nI_leI (a := n) (b := k) (by omega) (by omega)
      have h1 : (evR (c 57) (c 52) b (0, c 58) k).1 = m := evR_dp hdp
      have hm := dpR_60 hdp
      have hs' : (zup c 58 (evR (c 57) (c 52) b (0, c 58) k).2) 52 b = nI n := hs
      have cut157 : ∀ (m' : Nat) (x5 x6 : Option Value) (g : Nat → Int32), dpR (c 52) b (k + 1) = some m' → g = (evR (c 57) (c 52) b (0, c 58) (k + 1)).2 → k < n → zW l E ad RX8 cX8_worked 7 1 d Qf 157 [some (.ref (ad 51)), some (.int (nI u)), some (.int (nI b)), some (.int (nI m')), some (.int (nI k)), x5, x6] [] (zup c 58 g) := by
        intro m' x5 x6 g hm' hg hkn
        subst hg
        refine z_iinc (i := 4) (v := 1) [_, _, _, _, _, _, _] dX8_worked_157 rfl (by decide) (by decide) rfl rfl ?_
        refine z_goto 13 dX8_worked_160 (by decide) ?_
        rw [nI_1]; exact ih (k + 1) m' x5 x6 (by omega) (by omega) hm'
      refine z_iload (i := 4) dX8_worked_13 rfl ?_
      refine z_aload_n (i := 0) dX8_worked_15 rfl rfl ?_
      refine z_getf dX8_worked_16 f_X8_7 (by first | decide | assumption | omega) rfl (by rfl) ?_
      refine z_iload_n (i := 2) dX8_worked_19 rfl rfl ?_
      refine z_iald dX8_worked_20 (by first | decide | assumption | omega) rfl (by rfl) (by first | decide | omega) (by first | decide | omega) ?_
      refine z_icmp_ge 163 dX8_worked_21 (by decide) (fun h_21 => ?_) (fun h_21 => ?_)
      · have hkn : k = n := by rw [hs'] at h_21; have := hlt.mp h_21; omega
        subst hkn
        refine z_aload_n (i := 0) dX8_worked_163 rfl rfl ?_
        refine z_getf dX8_worked_164 f_X8_28 (by first | decide | assumption | omega) rfl (by rfl) ?_
        refine z_iconst (v := 0) dX8_worked_167 (by decide) ?_
        refine z_iald dX8_worked_168 (by first | decide | assumption | omega) rfl (by rfl) (by first | decide | omega) (by first | decide | omega) ?_
        exact z_ret dX8_worked_169 (by exact hQ _) trivial rfl
      · rw [hs'] at h_21
        have hkn : k < n := by have := mt hlt.mpr h_21; omega
        have hnx := dpR_le (n := n) (k := k + 1) (by omega) (by rw [hwf]; exact fun z => by cases z)
        have hdp' : dpR (c 52) b (k + 1) = (dpR (c 52) b k).bind (dpS (c 52 (b + 1 + 2 * k)) (c 52 (b + 2 + 2 * k))) := rfl
        rw [hdp, Option.bind_some] at hdp'
        rw [hdp'] at hnx
        simp only [dpS] at hnx hdp'
        refine z_aload_n (i := 0) dX8_worked_24 rfl rfl ?_
        refine z_getf dX8_worked_25 f_X8_7 (by first | decide | assumption | omega) rfl (by rfl) ?_
        refine z_iload_n (i := 2) dX8_worked_28 rfl rfl ?_
        refine z_iconst (v := 1) dX8_worked_29 (by decide) ?_
        refine z_iadd dX8_worked_30 ?_
        refine z_iconst (v := 2) dX8_worked_31 (by decide) ?_
        refine z_iload (i := 4) dX8_worked_32 rfl ?_
        refine z_imul dX8_worked_34 ?_
        refine z_iadd dX8_worked_35 ?_
        refine z_iald (j := b + 1 + 2 * k) dX8_worked_36 (by first | decide | assumption | omega) rfl (zi_2k b 1 k) (by first | decide | omega) (by first | decide | omega) ?_
        refine z_istore (i := 5) [_, _, _, _, _, _, _] dX8_worked_37 (by decide) rfl rfl ?_
        refine z_aload_n (i := 0) dX8_worked_39 rfl rfl ?_
        refine z_getf dX8_worked_40 f_X8_7 (by first | decide | assumption | omega) rfl (by rfl) ?_
        refine z_iload_n (i := 2) dX8_worked_43 rfl rfl ?_
        refine z_iconst (v := 2) dX8_worked_44 (by decide) ?_
        refine z_iadd dX8_worked_45 ?_
        refine z_iconst (v := 2) dX8_worked_46 (by decide) ?_
        refine z_iload (i := 4) dX8_worked_47 rfl ?_
        refine z_imul dX8_worked_49 ?_
        refine z_iadd dX8_worked_50 ?_
        refine z_iald (j := b + 2 + 2 * k) dX8_worked_51 (by first | decide | assumption | omega) rfl (zi_2k b 2 k) (by first | decide | omega) (by first | decide | omega) ?_
        refine z_istore (i := 6) [_, _, _, _, _, _, _] dX8_worked_52 (by decide) rfl rfl ?_
        rw [zup_n (show (52 : Nat) ≠ 58 by decide)]
        refine z_iload (i := 5) dX8_worked_54 rfl ?_
        refine z_if_eq 65 dX8_worked_56 (by decide) (fun h_56 => ?_) (fun h_56 => ?_)
        · refine z_aload_n (i := 0) dX8_worked_65 rfl rfl ?_
          refine z_getf dX8_worked_66 f_X8_28 (by first | decide | assumption | omega) rfl (by rfl) ?_
          refine z_iload_n (i := 3) dX8_worked_69 rfl rfl ?_
          refine z_iload (i := 5) dX8_worked_70 rfl ?_
          refine z_if_ne 80 dX8_worked_72 (by decide) (fun h_72 => ?_) (fun h_72 => ?_)
          · have h1' : c 52 (b + 1 + 2 * k) = 1 := by first | exact h_62 | grind
            obtain ⟨j, hj, ej⟩ := zj_of (x := c 52 (b + 2 + 2 * k)) (n := 128) (by grind) (by show _ < (128 : Int32); grind) (by decide)
            have hpj : pn (c 52 (b + 2 + 2 * k)) = j := by rw [ej]; exact pn_nI (by omega)
            refine z_aload_n (i := 0) dX8_worked_80 rfl rfl ?_
            refine z_getf dX8_worked_81 f_X8_25 (by first | decide | assumption | omega) rfl (by rfl) ?_
            refine z_iload (i := 6) dX8_worked_84 rfl ?_
            refine z_iald (j := j) dX8_worked_86 (by first | decide | assumption | omega) rfl ej (by first | decide | omega) (by first | decide | omega) ?_
            try rw [zup_n (show (57 : Nat) ≠ 58 by decide)]
            refine z_iast dX8_worked_87 (by first | decide | assumption | omega) (fun _ => rfl) (by rfl) (by first | decide | omega) (by first | decide | omega) ?_
            refine z_iinc (i := 3) (v := 1) [_, _, _, _, _, _, _] dX8_worked_88 rfl (by decide) (by decide) rfl rfl ?_
            refine z_goto 157 dX8_worked_91 (by decide) ?_
            rw [nI_1, zup_zup]
            refine cut157 (m + 1) _ _ _ (by grind) ?_ hkn
            simp only [evR, evS, zup_s, h1]
            grind
          · refine z_iload (i := 6) dX8_worked_75 rfl ?_
            refine z_goto 87 dX8_worked_77 (by decide) ?_
            try rw [zup_n (show (57 : Nat) ≠ 58 by decide)]
            refine z_iast dX8_worked_87 (by first | decide | assumption | omega) (fun _ => rfl) (by rfl) (by first | decide | omega) (by first | decide | omega) ?_
            refine z_iinc (i := 3) (v := 1) [_, _, _, _, _, _, _] dX8_worked_88 rfl (by decide) (by decide) rfl rfl ?_
            refine z_goto 157 dX8_worked_91 (by decide) ?_
            rw [nI_1, zup_zup]
            refine cut157 (m + 1) _ _ _ (by grind) ?_ hkn
            simp only [evR, evS, zup_s, h1]
            grind
        · refine z_iload (i := 5) dX8_worked_59 rfl ?_
          refine z_iconst (v := 1) dX8_worked_61 (by decide) ?_
          refine z_icmp_ne 94 dX8_worked_62 (by decide) (fun h_62 => ?_) (fun h_62 => ?_)
          · refine z_iload (i := 5) dX8_worked_94 rfl ?_
            refine z_iconst (v := 2) dX8_worked_96 (by decide) ?_
            refine z_icmp_ne 127 dX8_worked_97 (by decide) (fun h_97 => ?_) (fun h_97 => ?_)
            · have hm1 : 1 < m := by grind
              refine z_iinc (i := 3) (v := (-1)) [_, _, _, _, _, _, _] dX8_worked_127 rfl (by decide) (by decide) rfl rfl ?_
              refine z_aload_n (i := 0) dX8_worked_130 rfl rfl ?_
              refine z_getf dX8_worked_131 f_X8_28 (by first | decide | assumption | omega) rfl (by rfl) ?_
              refine z_iload_n (i := 3) dX8_worked_134 rfl rfl ?_
              refine z_iconst (v := 1) dX8_worked_135 (by decide) ?_
              refine z_isub dX8_worked_136 ?_
              refine z_iload (i := 6) dX8_worked_137 rfl ?_
              refine z_aload_n (i := 0) dX8_worked_139 rfl rfl ?_
              refine z_getf dX8_worked_140 f_X8_28 (by first | decide | assumption | omega) rfl (by rfl) ?_
              refine z_iload_n (i := 3) dX8_worked_143 rfl rfl ?_
              refine z_iconst (v := 1) dX8_worked_144 (by decide) ?_
              refine z_isub dX8_worked_145 ?_
              refine z_iald (j := m - 2) dX8_worked_146 (by first | decide | assumption | omega) rfl (by rw [zi_m1' (by omega), zi_m1 (by omega)]; rfl) (by first | decide | omega) (by first | decide | omega) ?_
              refine z_aload_n (i := 0) dX8_worked_147 rfl rfl ?_
              refine z_getf dX8_worked_148 f_X8_28 (by first | decide | assumption | omega) rfl (by rfl) ?_
              refine z_iload_n (i := 3) dX8_worked_151 rfl rfl ?_
              refine z_iald (j := m - 1) dX8_worked_152 (by first | decide | assumption | omega) rfl (by rw [zi_m1' (by omega)]) (by first | decide | omega) (by first | decide | omega) ?_
              simp only [zup_s]
              refine z_Si (As := [_, _, _]) dX8_worked_153 (by rfl) v_X8_joined l_X8_107 rfl (by omega) (by decide) (Nat.le_of_ble_eq_true rfl) ?_
              refine s_X8_joined ?_
              refine z_iast (j := m - 2) dX8_worked_156 (by first | decide | assumption | omega) (fun _ => rfl) (by rw [zi_m1' (by omega), zi_m1 (by omega)]; rfl) (by first | decide | omega) (by first | decide | omega) ?_
              rw [zi_m1' (by omega), zup_zup]
              refine cut157 (m - 1) _ _ _ (by grind) ?_ hkn
              simp only [evR, evS, zup_s, h1]
              grind
            · have hm0 : 0 < m := by grind
              refine z_aload_n (i := 0) dX8_worked_100 rfl rfl ?_
              refine z_getf dX8_worked_101 f_X8_28 (by first | decide | assumption | omega) rfl (by rfl) ?_
              refine z_iload_n (i := 3) dX8_worked_104 rfl rfl ?_
              refine z_iconst (v := 1) dX8_worked_105 (by decide) ?_
              refine z_isub dX8_worked_106 ?_
              refine z_aload_n (i := 0) dX8_worked_107 rfl rfl ?_
              refine z_getf dX8_worked_108 f_X8_28 (by first | decide | assumption | omega) rfl (by rfl) ?_
              refine z_iload_n (i := 3) dX8_worked_111 rfl rfl ?_
              refine z_iconst (v := 1) dX8_worked_112 (by decide) ?_
              refine z_isub dX8_worked_113 ?_
              refine z_iald (j := m - 1) dX8_worked_114 (by first | decide | assumption | omega) rfl (zi_m1 hm0) (by first | decide | omega) (by first | decide | omega) ?_
              rw [zup_s]
              refine z_if_ne 122 dX8_worked_115 (by decide) (fun h_115 => ?_) (fun h_115 => ?_)
              · refine z_iconst (v := 0) dX8_worked_122 (by decide) ?_
                refine z_iast (j := m - 1) dX8_worked_123 (by first | decide | assumption | omega) (fun _ => rfl) (zi_m1 hm0) (by first | decide | omega) (by first | decide | omega) ?_
                refine z_goto 157 dX8_worked_124 (by decide) ?_
                rw [zup_zup]
                refine cut157 m _ _ _ (by grind) ?_ hkn
                simp only [evR, evS, zup_s, h1]
                grind
              · refine z_iconst (v := 1) dX8_worked_118 (by decide) ?_
                refine z_goto 123 dX8_worked_119 (by decide) ?_
                refine z_iast (j := m - 1) dX8_worked_123 (by first | decide | assumption | omega) (fun _ => rfl) (zi_m1 hm0) (by first | decide | omega) (by first | decide | omega) ?_
                refine z_goto 157 dX8_worked_124 (by decide) ?_
                rw [zup_zup]
                refine cut157 m _ _ _ (by grind) ?_ hkn
                simp only [evR, evS, zup_s, h1]
                grind
          · refine z_aload_n (i := 0) dX8_worked_65 rfl rfl ?_
            refine z_getf dX8_worked_66 f_X8_28 (by first | decide | assumption | omega) rfl (by rfl) ?_
            refine z_iload_n (i := 3) dX8_worked_69 rfl rfl ?_
            refine z_iload (i := 5) dX8_worked_70 rfl ?_
            refine z_if_ne 80 dX8_worked_72 (by decide) (fun h_72 => ?_) (fun h_72 => ?_)
            · have h1' : c 52 (b + 1 + 2 * k) = 1 := by first | exact h_62 | grind
              obtain ⟨j, hj, ej⟩ := zj_of (x := c 52 (b + 2 + 2 * k)) (n := 128) (by grind) (by show _ < (128 : Int32); grind) (by decide)
              have hpj : pn (c 52 (b + 2 + 2 * k)) = j := by rw [ej]; exact pn_nI (by omega)
              refine z_aload_n (i := 0) dX8_worked_80 rfl rfl ?_
              refine z_getf dX8_worked_81 f_X8_25 (by first | decide | assumption | omega) rfl (by rfl) ?_
              refine z_iload (i := 6) dX8_worked_84 rfl ?_
              refine z_iald (j := j) dX8_worked_86 (by first | decide | assumption | omega) rfl ej (by first | decide | omega) (by first | decide | omega) ?_
              try rw [zup_n (show (57 : Nat) ≠ 58 by decide)]
              refine z_iast dX8_worked_87 (by first | decide | assumption | omega) (fun _ => rfl) (by rfl) (by first | decide | omega) (by first | decide | omega) ?_
              refine z_iinc (i := 3) (v := 1) [_, _, _, _, _, _, _] dX8_worked_88 rfl (by decide) (by decide) rfl rfl ?_
              refine z_goto 157 dX8_worked_91 (by decide) ?_
              rw [nI_1, zup_zup]
              refine cut157 (m + 1) _ _ _ (by grind) ?_ hkn
              simp only [evR, evS, zup_s, h1]
              grind
            · refine z_iload (i := 6) dX8_worked_75 rfl ?_
              refine z_goto 87 dX8_worked_77 (by decide) ?_
              try rw [zup_n (show (57 : Nat) ≠ 58 by decide)]
              refine z_iast dX8_worked_87 (by first | decide | assumption | omega) (fun _ => rfl) (by rfl) (by first | decide | omega) (by first | decide | omega) ?_
              refine z_iinc (i := 3) (v := 1) [_, _, _, _, _, _, _] dX8_worked_88 rfl (by decide) (by decide) rfl rfl ?_
              refine z_goto 157 dX8_worked_91 (by decide) ?_
              rw [nI_1, zup_zup]
              refine cut157 (m + 1) _ _ _ (by grind) ?_ hkn
              simp only [evR, evS, zup_s, h1]
              grind
  refine z_bipush (v := 38) dX8_worked_0 (by decide) ?_
  refine z_bipush (v := 125) dX8_worked_2 (by decide) ?_
  refine z_iload_n (i := 1) dX8_worked_4 rfl rfl ?_
  refine z_imul dX8_worked_5 ?_
  refine z_iadd dX8_worked_6 ?_
  refine z_istore_n (i := 2) [_, _, _, _, _, _, _] dX8_worked_7 rfl (by decide) rfl rfl ?_
  refine z_iconst (v := 0) dX8_worked_8 (by decide) ?_
  refine z_istore_n (i := 3) [_, _, _, _, _, _, _] dX8_worked_9 rfl (by decide) rfl rfl ?_
  refine z_iconst (v := 0) dX8_worked_10 (by decide) ?_
  refine z_istore (i := 4) [_, _, _, _, _, _, _] dX8_worked_11 (by decide) rfl rfl ?_
  rw [zi_u, ← hb]; have := loop (n + 1) 0 0 none none (by omega) (by omega) rfl; simp only [evR, zup_id] at this; exact this
theorem s_X8_together {p n : Nat} (hp : p < 6) (hd : 1 ≤ d) (hn : c 52 5 = nI n) (hn6 : n ≤ 6) (hQ : Qf (togN (c 52) p n) c) : zCl l E ad mX8_together d [.ref (ad 51), .int (nI p)] c Qf := by
  refine z_enter (own := RX8) [some (.ref (ad 51)), some (.int (nI p)), none, none] (by decide +kernel) rfl rfl rfl (Nat.le_of_ble_eq_true rfl) ?_
  have loop : ∀ (r k : Nat), n - k < r → k ≤ n → zW l E ad RX8 cX8_together 4 1 d Qf 4 [some (.ref (ad 51)), some (.int (nI p)), some (.int (togN (c 52) p k)), some (.int (nI k))] [] c := by
    intro r
    induction r with
    | zero => intro k h; omega
    | succ r ih =>
      intro k hr hk
      have hlt := nI_leI (a := n) (b := k) (by omega) (by omega)
      have hkp := nI_eq (a := k) (b := p) (by omega) (by omega)
      have cut49 : ∀ x : Int32, togN (c 52) p (k + 1) = togN (c 52) p k + x → k < n → zW l E ad RX8 cX8_together 4 1 d Qf 49 [some (.ref (ad 51)), some (.int (nI p)), some (.int (togN (c 52) p k)), some (.int (nI k))] [.int x, .int (togN (c 52) p k)] c := by
        intro x hx hkn
        refine z_iadd dX8_together_49 ?_
        refine z_istore_n (i := 2) [_, _, _, _] dX8_together_50 rfl (by decide) rfl rfl ?_
        refine z_iinc (i := 3) (v := 1) [_, _, _, _] dX8_together_51 rfl (by decide) (by decide) rfl rfl ?_
        refine z_goto 4 dX8_together_54 (by decide) ?_
        rw [nI_1, ← hx]; exact ih (k + 1) (by omega) (by omega)
      refine z_iload_n (i := 3) dX8_together_4 rfl rfl ?_
      refine z_aload_n (i := 0) dX8_together_5 rfl rfl ?_
      refine z_getf dX8_together_6 f_X8_7 (by first | decide | assumption | omega) rfl (by rfl) ?_
      refine z_iconst (v := 5) dX8_together_9 (by decide) ?_
      refine z_iald dX8_together_10 (by first | decide | assumption | omega) rfl (by rfl) (by first | decide | omega) (by first | decide | omega) ?_
      refine z_icmp_ge 57 dX8_together_11 (by decide) (fun h_11 => ?_) (fun h_11 => ?_)
      · refine z_iload_n (i := 2) dX8_together_57 rfl rfl ?_
        have hkn : k = n := by rw [hn] at h_11; have := hlt.mp h_11; omega
        subst hkn
        exact z_ret dX8_together_58 hQ trivial rfl
      · have hkn : k < n := by rw [hn] at h_11; have := mt hlt.mpr h_11; omega
        refine z_iload_n (i := 2) dX8_together_14 rfl rfl ?_
        refine z_iload_n (i := 3) dX8_together_15 rfl rfl ?_
        refine z_iload_n (i := 1) dX8_together_16 rfl rfl ?_
        refine z_icmp_eq 48 dX8_together_17 (by decide) (fun h_17 => ?_) (fun h_17 => ?_)
        · refine z_iconst (v := 0) dX8_together_48 (by decide) ?_
          refine cut49 _ ?_ hkn; simp only [togN]; grind
        · refine z_aload_n (i := 0) dX8_together_20 rfl rfl ?_
          refine z_iload_n (i := 3) dX8_together_21 rfl rfl ?_
          refine z_iconst (v := 3) dX8_together_22 (by decide) ?_
          refine z_Vi (As := [_, _]) dX8_together_23 (by rfl) v_X8_its l_X8_111 (by first | decide | assumption | omega) rfl rfl rfl (by omega) (by decide) (Nat.le_of_ble_eq_true rfl) ?_
          first | refine s_X8_its0 (by omega) ?_ | refine s_X8_its1 (by omega) ?_ | refine s_X8_its2 (by omega) ?_ | refine s_X8_its3 (by omega) ?_ | refine s_X8_its4 (by omega) ?_
          refine z_aload_n (i := 0) dX8_together_26 rfl rfl ?_
          refine z_iload_n (i := 1) dX8_together_27 rfl rfl ?_
          refine z_iconst (v := 3) dX8_together_28 (by decide) ?_
          refine z_Vi (As := [_, _]) dX8_together_29 (by rfl) v_X8_its l_X8_111 (by first | decide | assumption | omega) rfl rfl rfl (by omega) (by decide) (Nat.le_of_ble_eq_true rfl) ?_
          first | refine s_X8_its0 (by omega) ?_ | refine s_X8_its1 (by omega) ?_ | refine s_X8_its2 (by omega) ?_ | refine s_X8_its3 (by omega) ?_ | refine s_X8_its4 (by omega) ?_
          refine z_icmp_ne 48 dX8_together_32 (by decide) (fun h_32 => ?_) (fun h_32 => ?_)
          · refine z_iconst (v := 0) dX8_together_48 (by decide) ?_
            refine cut49 _ ?_ hkn; simp only [togN]; grind
          · refine z_aload_n (i := 0) dX8_together_35 rfl rfl ?_
            refine z_iload_n (i := 3) dX8_together_36 rfl rfl ?_
            refine z_iconst (v := 4) dX8_together_37 (by decide) ?_
            refine z_Vi (As := [_, _]) dX8_together_38 (by rfl) v_X8_its l_X8_111 (by first | decide | assumption | omega) rfl rfl rfl (by omega) (by decide) (Nat.le_of_ble_eq_true rfl) ?_
            first | refine s_X8_its0 (by omega) ?_ | refine s_X8_its1 (by omega) ?_ | refine s_X8_its2 (by omega) ?_ | refine s_X8_its3 (by omega) ?_ | refine s_X8_its4 (by omega) ?_
            refine z_if_ne 48 dX8_together_41 (by decide) (fun h_41 => ?_) (fun h_41 => ?_)
            · refine z_iconst (v := 0) dX8_together_48 (by decide) ?_
              refine cut49 _ ?_ hkn; simp only [togN]; grind
            · refine z_iconst (v := 1) dX8_together_44 (by decide) ?_
              refine z_goto 49 dX8_together_45 (by decide) ?_
              refine cut49 _ ?_ hkn; simp only [togN]; grind
  refine z_iconst (v := 0) dX8_together_0 (by decide) ?_
  refine z_istore_n (i := 2) [_, _, _, _] dX8_together_1 rfl (by decide) rfl rfl ?_
  refine z_iconst (v := 0) dX8_together_2 (by decide) ?_
  refine z_istore_n (i := 3) [_, _, _, _] dX8_together_3 rfl (by decide) rfl rfl ?_
  exact loop (n + 1) 0 (by omega) (by omega)
theorem s_X8_seesOf {p n : Nat} (hp : p < 6) (hd : 2 ≤ d) (hn : c 52 5 = nI n) (hn6 : n ≤ 6) (hQ : Qf (seF (c 52) p) c) : zCl l E ad mX8_seesOf d [.ref (ad 51), .int (nI p)] c Qf := by
  refine z_enter (own := RX8) [some (.ref (ad 51)), some (.int (nI p)), none, none] (by decide +kernel) rfl rfl rfl (Nat.le_of_ble_eq_true rfl) ?_
  have hpn : pn (c 52 5) = n := by rw [hn]; exact pn_nI (by omega)
  unfold seF at hQ
  rw [hpn] at hQ
  refine z_aload_n (i := 0) dX8_seesOf_0 rfl rfl ?_
  refine z_iload_n (i := 1) dX8_seesOf_1 rfl rfl ?_
  refine z_iconst (v := 2) dX8_seesOf_2 (by decide) ?_
  refine z_Vi (As := [_, _]) dX8_seesOf_3 (by rfl) v_X8_its l_X8_111 (by first | decide | assumption | omega) rfl rfl rfl (by omega) (by decide) (Nat.le_of_ble_eq_true rfl) ?_
  first | refine s_X8_its0 (by omega) ?_ | refine s_X8_its1 (by omega) ?_ | refine s_X8_its2 (by omega) ?_ | refine s_X8_its3 (by omega) ?_ | refine s_X8_its4 (by omega) ?_
  refine z_bipush (v := 10) dX8_seesOf_6 (by decide) ?_
  refine z_idiv dX8_seesOf_8 (by first | decide | assumption) ?_
  refine z_istore_n (i := 2) [_, _, _, _] dX8_seesOf_9 rfl (by decide) rfl rfl ?_
  refine z_aload_n (i := 0) dX8_seesOf_10 rfl rfl ?_
  refine z_iload_n (i := 1) dX8_seesOf_11 rfl rfl ?_
  refine z_iconst (v := 1) dX8_seesOf_12 (by decide) ?_
  refine z_Vi (As := [_, _]) dX8_seesOf_13 (by rfl) v_X8_its l_X8_111 (by first | decide | assumption | omega) rfl rfl rfl (by omega) (by decide) (Nat.le_of_ble_eq_true rfl) ?_
  first | refine s_X8_its0 (by omega) ?_ | refine s_X8_its1 (by omega) ?_ | refine s_X8_its2 (by omega) ?_ | refine s_X8_its3 (by omega) ?_ | refine s_X8_its4 (by omega) ?_
  refine z_istore_n (i := 3) [_, _, _, _] dX8_seesOf_16 rfl (by decide) rfl rfl ?_
  refine z_aload_n (i := 0) dX8_seesOf_17 rfl rfl ?_
  refine z_iload_n (i := 1) dX8_seesOf_18 rfl rfl ?_
  refine z_iconst (v := 0) dX8_seesOf_19 (by decide) ?_
  refine z_Vi (As := [_, _]) dX8_seesOf_20 (by rfl) v_X8_its l_X8_111 (by first | decide | assumption | omega) rfl rfl rfl (by omega) (by decide) (Nat.le_of_ble_eq_true rfl) ?_
  first | refine s_X8_its0 (by omega) ?_ | refine s_X8_its1 (by omega) ?_ | refine s_X8_its2 (by omega) ?_ | refine s_X8_its3 (by omega) ?_ | refine s_X8_its4 (by omega) ?_
  by_cases h_23_1 : c 52 (8 + 5 * p) = 1
  · refine z_table (v := 1) 60 dX8_seesOf_23 h_23_1 (by decide) (by decide) rfl (by decide) ?_
    refine z_iload_n (i := 2) dX8_seesOf_60 rfl rfl ?_
    refine z_iconst (v := 2) dX8_seesOf_61 (by decide) ?_
    refine z_idiv dX8_seesOf_62 (by first | decide | assumption) ?_
    exact z_ret dX8_seesOf_63 (by dsimp only at hQ; grind) trivial rfl
  by_cases h_23_2 : c 52 (8 + 5 * p) = 2
  · refine z_table (v := 2) 64 dX8_seesOf_23 h_23_2 (by decide) (by decide) rfl (by decide) ?_
    refine z_iload_n (i := 2) dX8_seesOf_64 rfl rfl ?_
    refine z_iconst (v := 3) dX8_seesOf_65 (by decide) ?_
    refine z_icmp_le 75 dX8_seesOf_66 (by decide) (fun h_66 => ?_) (fun h_66 => ?_)
    · refine z_iconst (v := 0) dX8_seesOf_75 (by decide) ?_
      exact z_ret dX8_seesOf_76 (by dsimp only at hQ; grind) trivial rfl
    · refine z_iload_n (i := 2) dX8_seesOf_69 rfl rfl ?_
      refine z_iconst (v := 3) dX8_seesOf_70 (by decide) ?_
      refine z_isub dX8_seesOf_71 ?_
      refine z_goto 76 dX8_seesOf_72 (by decide) ?_
      exact z_ret dX8_seesOf_76 (by dsimp only at hQ; grind) trivial rfl
  by_cases h_23_3 : c 52 (8 + 5 * p) = 3
  · refine z_table (v := 3) 77 dX8_seesOf_23 h_23_3 (by decide) (by decide) rfl (by decide) ?_
    refine z_bipush (v := 9) dX8_seesOf_77 (by decide) ?_
    refine z_iload_n (i := 3) dX8_seesOf_79 rfl rfl ?_
    refine z_iadd dX8_seesOf_80 ?_
    exact z_ret dX8_seesOf_81 (by dsimp only at hQ; grind) trivial rfl
  by_cases h_23_4 : c 52 (8 + 5 * p) = 4
  · refine z_table (v := 4) 82 dX8_seesOf_23 h_23_4 (by decide) (by decide) rfl (by decide) ?_
    refine z_iload_n (i := 2) dX8_seesOf_82 rfl rfl ?_
    refine z_iconst (v := 2) dX8_seesOf_83 (by decide) ?_
    refine z_idiv dX8_seesOf_84 (by first | decide | assumption) ?_
    refine z_aload_n (i := 0) dX8_seesOf_85 rfl rfl ?_
    refine z_iload_n (i := 1) dX8_seesOf_86 rfl rfl ?_
    refine z_Vi (As := [_]) dX8_seesOf_87 (by rfl) v_X8_together l_X8_115 (by first | decide | assumption | omega) rfl rfl rfl (by omega) (by decide) (Nat.le_of_ble_eq_true rfl) ?_
    refine s_X8_together (by assumption) (by omega) (by assumption) (by omega) ?_
    refine z_iadd dX8_seesOf_90 ?_
    exact z_ret dX8_seesOf_91 (by dsimp only at hQ; grind) trivial rfl
  by_cases h_23_5 : c 52 (8 + 5 * p) = 5
  · refine z_table (v := 5) 92 dX8_seesOf_23 h_23_5 (by decide) (by decide) rfl (by decide) ?_
    refine z_iconst (v := 1) dX8_seesOf_92 (by decide) ?_
    refine z_iload_n (i := 3) dX8_seesOf_93 rfl rfl ?_
    refine z_iconst (v := 2) dX8_seesOf_94 (by decide) ?_
    refine z_irem dX8_seesOf_95 (by first | decide | assumption) ?_
    refine z_iadd dX8_seesOf_96 ?_
    exact z_ret dX8_seesOf_97 (by dsimp only at hQ; grind) trivial rfl
  by_cases h_23_6 : c 52 (8 + 5 * p) = 6
  · refine z_table (v := 6) 98 dX8_seesOf_23 h_23_6 (by decide) (by decide) rfl (by decide) ?_
    refine z_iload_n (i := 2) dX8_seesOf_98 rfl rfl ?_
    refine z_aload_n (i := 0) dX8_seesOf_99 rfl rfl ?_
    refine z_getf dX8_seesOf_100 f_X8_7 (by first | decide | assumption | omega) rfl (by rfl) ?_
    refine z_iconst (v := 0) dX8_seesOf_103 (by decide) ?_
    refine z_iald dX8_seesOf_104 (by first | decide | assumption | omega) rfl (by rfl) (by first | decide | omega) (by first | decide | omega) ?_
    refine z_iconst (v := 5) dX8_seesOf_105 (by decide) ?_
    refine z_irem dX8_seesOf_106 (by first | decide | assumption) ?_
    refine z_iadd dX8_seesOf_107 ?_
    exact z_ret dX8_seesOf_108 (by dsimp only at hQ; grind) trivial rfl
  refine z_tableD 109 dX8_seesOf_23 (by have a1 := zt_ne (k := 1) (by decide) h_23_1; have a2 := zt_ne (k := 2) (by decide) h_23_2; have a3 := zt_ne (k := 3) (by decide) h_23_3; have a4 := zt_ne (k := 4) (by decide) h_23_4; have a5 := zt_ne (k := 5) (by decide) h_23_5; have a6 := zt_ne (k := 6) (by decide) h_23_6; omega) (by decide) ?_
  refine z_iload_n (i := 2) dX8_seesOf_109 rfl rfl ?_
  exact z_ret dX8_seesOf_110 (by dsimp only at hQ; grind) trivial rfl
theorem s_X8_doesFall {p : Nat} (hp : p < 6) (hd : 1 ≤ d) (hQ : Qf (if faF (c 52) p = true then 1 else 0) c) : zCl l E ad mX8_doesFall d [.ref (ad 51), .int (nI p)] c Qf := by
  refine z_enter (own := RX8) [some (.ref (ad 51)), some (.int (nI p)), none] (by decide +kernel) rfl rfl rfl (Nat.le_of_ble_eq_true rfl) ?_
  unfold faF at hQ
  refine z_aload_n (i := 0) dX8_doesFall_0 rfl rfl ?_
  refine z_iload_n (i := 1) dX8_doesFall_1 rfl rfl ?_
  refine z_iconst (v := 1) dX8_doesFall_2 (by decide) ?_
  refine z_Vi (As := [_, _]) dX8_doesFall_3 (by rfl) v_X8_its l_X8_111 (by first | decide | assumption | omega) rfl rfl rfl (by omega) (by decide) (Nat.le_of_ble_eq_true rfl) ?_
  first | refine s_X8_its0 (by omega) ?_ | refine s_X8_its1 (by omega) ?_ | refine s_X8_its2 (by omega) ?_ | refine s_X8_its3 (by omega) ?_ | refine s_X8_its4 (by omega) ?_
  refine z_istore_n (i := 2) [_, _, _] dX8_doesFall_6 rfl (by decide) rfl rfl ?_
  refine z_aload_n (i := 0) dX8_doesFall_7 rfl rfl ?_
  refine z_iload_n (i := 1) dX8_doesFall_8 rfl rfl ?_
  refine z_iconst (v := 0) dX8_doesFall_9 (by decide) ?_
  refine z_Vi (As := [_, _]) dX8_doesFall_10 (by rfl) v_X8_its l_X8_111 (by first | decide | assumption | omega) rfl rfl rfl (by omega) (by decide) (Nat.le_of_ble_eq_true rfl) ?_
  first | refine s_X8_its0 (by omega) ?_ | refine s_X8_its1 (by omega) ?_ | refine s_X8_its2 (by omega) ?_ | refine s_X8_its3 (by omega) ?_ | refine s_X8_its4 (by omega) ?_
  by_cases h_13_2 : c 52 (8 + 5 * p) = 2
  · refine z_table (v := 2) 48 dX8_doesFall_13 h_13_2 (by decide) (by decide) rfl (by decide) ?_
    refine z_aload_n (i := 0) dX8_doesFall_48 rfl rfl ?_
    refine z_iload_n (i := 1) dX8_doesFall_49 rfl rfl ?_
    refine z_iconst (v := 2) dX8_doesFall_50 (by decide) ?_
    refine z_Vi (As := [_, _]) dX8_doesFall_51 (by rfl) v_X8_its l_X8_111 (by first | decide | assumption | omega) rfl rfl rfl (by omega) (by decide) (Nat.le_of_ble_eq_true rfl) ?_
    first | refine s_X8_its0 (by omega) ?_ | refine s_X8_its1 (by omega) ?_ | refine s_X8_its2 (by omega) ?_ | refine s_X8_its3 (by omega) ?_ | refine s_X8_its4 (by omega) ?_
    refine z_bipush (v := 10) dX8_doesFall_54 (by decide) ?_
    refine z_iload_n (i := 2) dX8_doesFall_56 rfl rfl ?_
    refine z_iadd dX8_doesFall_57 ?_
    refine z_icmp_ge 65 dX8_doesFall_58 (by decide) (fun h_58 => ?_) (fun h_58 => ?_)
    · refine z_iconst (v := 0) dX8_doesFall_65 (by decide) ?_
      exact z_ret dX8_doesFall_66 (by dsimp only at hQ; grind) (by rfl) rfl
    · refine z_iconst (v := 1) dX8_doesFall_61 (by decide) ?_
      refine z_goto 66 dX8_doesFall_62 (by decide) ?_
      exact z_ret dX8_doesFall_66 (by dsimp only at hQ; grind) (by rfl) rfl
  by_cases h_13_3 : c 52 (8 + 5 * p) = 3
  · refine z_table (v := 3) 67 dX8_doesFall_13 h_13_3 (by decide) (by decide) rfl (by decide) ?_
    refine z_iconst (v := 1) dX8_doesFall_67 (by decide) ?_
    exact z_ret dX8_doesFall_68 (by dsimp only at hQ; grind) (by rfl) rfl
  by_cases h_13_4 : c 52 (8 + 5 * p) = 4
  · refine z_table (v := 4) 91 dX8_doesFall_13 h_13_4 (by decide) (by decide) rfl (by decide) ?_
    refine z_iconst (v := 0) dX8_doesFall_91 (by decide) ?_
    exact z_ret dX8_doesFall_92 (by dsimp only at hQ; grind) (by rfl) rfl
  by_cases h_13_5 : c 52 (8 + 5 * p) = 5
  · refine z_table (v := 5) 91 dX8_doesFall_13 h_13_5 (by decide) (by decide) rfl (by decide) ?_
    refine z_iconst (v := 0) dX8_doesFall_91 (by decide) ?_
    exact z_ret dX8_doesFall_92 (by dsimp only at hQ; grind) (by rfl) rfl
  by_cases h_13_6 : c 52 (8 + 5 * p) = 6
  · refine z_table (v := 6) 69 dX8_doesFall_13 h_13_6 (by decide) (by decide) rfl (by decide) ?_
    refine z_aload_n (i := 0) dX8_doesFall_69 rfl rfl ?_
    refine z_getf dX8_doesFall_70 f_X8_7 (by first | decide | assumption | omega) rfl (by rfl) ?_
    refine z_iconst (v := 0) dX8_doesFall_73 (by decide) ?_
    refine z_iald dX8_doesFall_74 (by first | decide | assumption | omega) rfl (by rfl) (by first | decide | omega) (by first | decide | omega) ?_
    refine z_bipush (v := 24) dX8_doesFall_75 (by decide) ?_
    refine z_irem dX8_doesFall_77 (by first | decide | assumption) ?_
    refine z_bipush (v := 20) dX8_doesFall_78 (by decide) ?_
    refine z_iload_n (i := 2) dX8_doesFall_80 rfl rfl ?_
    refine z_isub dX8_doesFall_81 ?_
    refine z_icmp_le 89 dX8_doesFall_82 (by decide) (fun h_82 => ?_) (fun h_82 => ?_)
    · refine z_iconst (v := 0) dX8_doesFall_89 (by decide) ?_
      exact z_ret dX8_doesFall_90 (by dsimp only at hQ; grind) (by rfl) rfl
    · refine z_iconst (v := 1) dX8_doesFall_85 (by decide) ?_
      refine z_goto 90 dX8_doesFall_86 (by decide) ?_
      exact z_ret dX8_doesFall_90 (by dsimp only at hQ; grind) (by rfl) rfl
  refine z_tableD 91 dX8_doesFall_13 (by have a2 := zt_ne (k := 2) (by decide) h_13_2; have a3 := zt_ne (k := 3) (by decide) h_13_3; have a4 := zt_ne (k := 4) (by decide) h_13_4; have a5 := zt_ne (k := 5) (by decide) h_13_5; have a6 := zt_ne (k := 6) (by decide) h_13_6; omega) (by decide) ?_
  refine z_iconst (v := 0) dX8_doesFall_91 (by decide) ?_
  exact z_ret dX8_doesFall_92 (by dsimp only at hQ; grind) (by rfl) rfl
end M2
