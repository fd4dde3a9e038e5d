/-! the class: the fewest DROPS; bytes for the tape -/
theorem bt_a {x : Int32} : ∀ h, h < 15 → ((x >>> (nI h &&& 31)) &&& 1 = 1 ↔ x.toBitVec.getLsbD h = true) := by
  intro h hh
  have e0 : ((x >>> (nI h &&& 31)) &&& 1).toBitVec = (x.toBitVec.sshiftRight h) &&& 1#32 := by
    rw [Int32.toBitVec_and, Int32.toBitVec_shiftRight]
    rcases (show h = 0 ∨ h = 1 ∨ h = 2 ∨ h = 3 ∨ h = 4 ∨ h = 5 ∨ h = 6 ∨ h = 7 ∨ h = 8 ∨ h = 9 ∨ h = 10 ∨ h = 11 ∨ h = 12 ∨ h = 13 ∨ h = 14 by omega) with rfl | rfl | rfl | rfl | rfl | rfl | rfl | rfl | rfl | rfl | rfl | rfl | rfl | rfl | rfl <;> rfl
  have e1 : (((x >>> (nI h &&& 31)) &&& 1).toBitVec).getLsbD 0 = x.toBitVec.getLsbD h := by
    rw [e0, BitVec.getLsbD_and, BitVec.getLsbD_sshiftRight]
    simp
    omega
  rcases and1 (x >>> (nI h &&& 31)) with q | q
  · rw [q] at e1 ⊢
    constructor
    · intro w; exact absurd w (by decide)
    · intro w; rw [w] at e1; exact absurd e1 (by decide)
  · rw [q] at e1 ⊢
    constructor
    · intro _; rw [← e1]; rfl
    · intro _; rfl
theorem bt_b {y : Int32} : ∀ h, h < 15 → ((1 <<< (nI h &&& 31)) &&& y = 0 ↔ y.toBitVec.getLsbD h = false) := by
  intro h hh
  have e0 : ((1 <<< (nI h &&& 31)) &&& y).toBitVec = BitVec.twoPow 32 h &&& y.toBitVec := by
    rw [Int32.toBitVec_and]
    congr 1
    rcases (show h = 0 ∨ h = 1 ∨ h = 2 ∨ h = 3 ∨ h = 4 ∨ h = 5 ∨ h = 6 ∨ h = 7 ∨ h = 8 ∨ h = 9 ∨ h = 10 ∨ h = 11 ∨ h = 12 ∨ h = 13 ∨ h = 14 by omega) with rfl | rfl | rfl | rfl | rfl | rfl | rfl | rfl | rfl | rfl | rfl | rfl | rfl | rfl | rfl <;> rfl
  rw [← Int32.toBitVec_inj, e0, BitVec.twoPow_and]
  split
  · next q =>
    rw [q]
    constructor
    · intro w
      have := congrArg (fun z => z.getLsbD h) w
      simp at this
      omega
    · intro w; exact absurd w (by decide)
  · next q =>
    constructor
    · intro _; simpa using q
    · intro _; rfl
theorem bt_c {x : Int32} {h : Nat} (hh : h < 15) : (1 <<< (nI h &&& 31)) &&& (x ^^^ (-1)) = 0 ↔ (x >>> (nI h &&& 31)) &&& 1 = 1 := by
  rw [bt_b h hh, bt_a h hh, Int32.toBitVec_xor, BitVec.getLsbD_xor]
  have : (-1 : Int32).toBitVec.getLsbD h = true := by
    rcases (show h = 0 ∨ h = 1 ∨ h = 2 ∨ h = 3 ∨ h = 4 ∨ h = 5 ∨ h = 6 ∨ h = 7 ∨ h = 8 ∨ h = 9 ∨ h = 10 ∨ h = 11 ∨ h = 12 ∨ h = 13 ∨ h = 14 by omega) with rfl | rfl | rfl | rfl | rfl | rfl | rfl | rfl | rfl | rfl | rfl | rfl | rfl | rfl | rfl <;> rfl
  rw [this]
  cases x.toBitVec.getLsbD h <;> simp
theorem or_and0 {a b x : Int32} : (a ||| b) &&& x = 0 ↔ a &&& x = 0 ∧ b &&& x = 0 := by
  rw [← Int32.toBitVec_inj, ← Int32.toBitVec_inj, ← Int32.toBitVec_inj, Int32.toBitVec_and, Int32.toBitVec_and, Int32.toBitVec_and, Int32.toBitVec_or]
  show (a.toBitVec ||| b.toBitVec) &&& x.toBitVec = 0#32 ↔ a.toBitVec &&& x.toBitVec = 0#32 ∧ b.toBitVec &&& x.toBitVec = 0#32
  generalize a.toBitVec = A
  generalize b.toBitVec = B
  generalize x.toBitVec = X
  have bb : ∀ p q r : Bool, ((p || q) && r) = false → (p && r) = false ∧ (q && r) = false := by decide
  have bc : ∀ p q r : Bool, (p && r) = false → (q && r) = false → ((p || q) && r) = false := by decide
  constructor
  · intro h
    have hk : ∀ i : Nat, ((A ||| B) &&& X).getLsbD i = false := fun i => by rw [h]; exact BitVec.getLsbD_zero
    simp only [BitVec.getLsbD_and, BitVec.getLsbD_or] at hk
    constructor
    · apply BitVec.eq_of_getLsbD_eq
      intro i hi
      rw [BitVec.getLsbD_and, BitVec.getLsbD_zero]
      exact (bb _ _ _ (hk i)).1
    · apply BitVec.eq_of_getLsbD_eq
      intro i hi
      rw [BitVec.getLsbD_and, BitVec.getLsbD_zero]
      exact (bb _ _ _ (hk i)).2
  · intro ⟨h1, h2⟩
    have k1 : ∀ i : Nat, (A &&& X).getLsbD i = false := fun i => by rw [h1]; exact BitVec.getLsbD_zero
    have k2 : ∀ i : Nat, (B &&& X).getLsbD i = false := fun i => by rw [h2]; exact BitVec.getLsbD_zero
    simp only [BitVec.getLsbD_and] at k1 k2
    apply BitVec.eq_of_getLsbD_eq
    intro i hi
    rw [BitVec.getLsbD_and, BitVec.getLsbD_or, BitVec.getLsbD_zero]
    exact bc _ _ _ (k1 i) (k2 i)
def skN (h : Nat) : Nat := if h < 15 then tkN h 0 else tkN 2 1
theorem tk_1 : ∀ h, h < 15 → ∀ x, x < 15 → ∀ y, y < 15 → 0 < h → tkN h 0 < tkN x y → skN (h + 1) ≤ tkN x y := by decide +kernel
theorem tk_0 : ∀ x, x < 15 → ∀ y, y < 15 → tkN 0 0 < tkN x y → skN 1 ≤ tkN x y := by decide +kernel
def pkN (h l : Nat) : Nat := if l < h then tkN h l else tkN (h + 1) 1
theorem tk_2b : ((List.range 15).all fun h => (List.range 15).all fun l => (List.range 15).all fun x => (List.range 15).all fun y => !(decide (0 < l) && decide (l < h) && decide (tkN h l < tkN x y)) || decide (pkN h (l + 1) ≤ tkN x y)) = true := by decide +kernel
theorem tk_2 (h : Nat) (hh : h < 15) (l : Nat) (hl : l < 15) (x : Nat) (hx : x < 15) (y : Nat) (hy : y < 15) (q : 0 < l ∧ l < h ∧ tkN h l < tkN x y) : pkN h (l + 1) ≤ tkN x y := by
  have a1 := List.all_eq_true.mp tk_2b h (List.mem_range.mpr hh)
  have a2 := List.all_eq_true.mp a1 l (List.mem_range.mpr hl)
  have a3 := List.all_eq_true.mp a2 x (List.mem_range.mpr hx)
  have a4 := List.all_eq_true.mp a3 y (List.mem_range.mpr hy)
  rw [decide_eq_true q.1, decide_eq_true q.2.1, decide_eq_true q.2.2] at a4
  simpa using a4
theorem tk_3 : ∀ x, x < 15 → ∀ y, y < 15 → tkN x y < tkN 15 1 := by decide +kernel
theorem tw_s {h : Nat} (h0 : 0 < h) : twF h 0 = 1 <<< (nI h &&& 31) := by
  unfold twF
  rw [if_neg (by omega), if_pos rfl, Int32.or_zero]
theorem tw_p {h lo : Nat} (h0 : 0 < h) (h1 : 0 < lo) : twF h lo = 1 <<< (nI h &&& 31) ||| 1 <<< (nI lo &&& 31) := by
  unfold twF
  rw [if_neg (by omega), if_neg (by omega)]
section FI
variable {l : Launch} {E : zE} {ad : Nat → Nat} {c : zS} {Qf : Int32 → zS → Prop} {d n : Nat}
theorem zth_PR8 {c c' : zS} {f : zN} (h : PR c 8 n f) (e : zth c c') : PR c' 8 n f := PR_cg h (fun k a b => e k (by omega) (by omega) (by omega))
theorem s_leastFilled {p k : Nat} {cell : Int32} {f : zN} (hR : PR c 8 n f) (hL : LW c f) (hv : vaF f n) (hb : ∀ i, i < n → f (8 + 5 * i + 4) = 0 ∨ f (8 + 5 * i + 4) = 1) (hp : p < n) (hk : k ≤ 60) (hd : 9 ≤ d) (hQ : ∀ c', zth c c' → Qf (fiO f p cell k 15) c') : zCl l E ad mX5_leastFilled d [.ref (ad 33), .int (nI p), .int cell, .int (nI k)] c Qf := by
  have same : ∀ x y x' y', x < 15 → y < 15 → x' < 15 → y' < 15 → tkN x y = tkN x' y' → vfN f p cell k x y → vfN f p cell k x' y' := by
    intro x y x' y' h1 h2 h3 h4 e hw
    have := tw_inj h1 h2 h3 h4 e
    unfold vfN at hw ⊢
    rw [← this]
    exact hw
  have nxt : ∀ a b, a < 15 → b < 15 → ¬ vfN f p cell k a b → (∀ x y, x < 15 → y ≤ x → vfN f p cell k x y → tkN a b ≤ tkN x y) → (∀ x y, x < 15 → y ≤ x → vfN f p cell k x y → tkN a b < tkN x y) := by
    intro a b ha hb' hno h x y hx hy hw
    have h1 := h x y hx hy hw
    rcases Nat.lt_or_eq_of_le h1 with q | q
    · exact q
    · exact absurd (same x y a b hx (by omega) ha hb' q.symm hw) hno
  refine z_enter (own := RX5) [some (.ref (ad 33)), some (.int (nI p)), some (.int cell), some (.int (nI k)), none, none, none] (by decide +kernel) rfl rfl rfl (Nat.le_of_ble_eq_true rfl) ?_
  have vf1 : ∀ h, 0 < h → h < 15 → (vfN f p cell k h 0 ↔ (f 1 >>> (nI h &&& 31)) &&& 1 = 1 ∧ coutF f p cell k (1 <<< (nI h &&& 31)) = true) := by
    intro h h0 h15
    unfold vfN
    rw [tw_s h0, bt_c h15]
  have vf2 : ∀ h lo, 0 < lo → lo < h → h < 15 → (vfN f p cell k h lo ↔ ((f 1 >>> (nI h &&& 31)) &&& 1 = 1 ∧ (f 1 >>> (nI lo &&& 31)) &&& 1 = 1) ∧ coutF f p cell k (1 <<< (nI h &&& 31) ||| 1 <<< (nI lo &&& 31)) = true) := by
    intro h lo h0 h1 h15
    unfold vfN
    rw [tw_p (by omega) h0, or_and0, bt_c h15, bt_c (by omega)]
  have pair : ∀ (r h lo : Nat) (c1 : zS) (x6 : Option Value), 16 * (15 - h) + (h - lo) < r → 2 ≤ h → h < 15 → 1 ≤ lo → lo ≤ h → (∀ x y, x < 15 → y ≤ x → vfN f p cell k x y → pkN h lo ≤ tkN x y) → zth c c1 → zW l E ad RX5 cX5_leastFilled 7 1 d Qf 70 [some (.ref (ad 33)), some (.int (nI p)), some (.int cell), some (.int (nI k)), some (.int (nI h)), some (.int (nI lo)), x6] [] c1 := by
    intro r
    induction r with
    | zero => intro h lo c1 x6 q; omega
    | succ r ih =>
      intro h lo c1 x6 hr h2 h15 hl1 hlh inv hz
      have hlt := nI_leI (a := h) (b := lo) (by omega) (by omega)
      have hR1 := zth_PR8 hR hz
      have hL1 := zth_LW hL hz
      by_cases hlo : lo < h
      · have inv' : ∀ x y, x < 15 → y ≤ x → vfN f p cell k x y → tkN h lo ≤ tkN x y := by
          intro x y hx hy hw
          have := inv x y hx hy hw
          unfold pkN at this
          rw [if_pos hlo] at this
          exact this
        have go121 : ∀ (c2 : zS), zth c c2 → ¬ vfN f p cell k h lo → zW l E ad RX5 cX5_leastFilled 7 1 d Qf 121 [some (.ref (ad 33)), some (.int (nI p)), some (.int cell), some (.int (nI k)), some (.int (nI h)), some (.int (nI lo)), some (.int (1 <<< (nI h &&& 31) ||| 1 <<< (nI lo &&& 31)))] [] c2 := by
          intro c2 hz2 hno
          refine z_iinc (i := 5) (v := 1) [_, _, _, _, _, _, _] dX5_leastFilled_121 rfl (by decide) (by decide) rfl rfl ?_
          refine z_goto 70 dX5_leastFilled_124 (by decide) ?_
          rw [nI_1]
          exact ih h (lo + 1) c2 _ (by omega) h2 h15 (by omega) (by omega) (fun x y hx hy hw => tk_2 h h15 lo (by omega) x hx y (by omega) ⟨by omega, hlo, nxt h lo h15 (by omega) hno inv' x y hx hy hw⟩) hz2
        refine z_iload (i := 5) dX5_leastFilled_70 rfl ?_
        refine z_iload (i := 4) dX5_leastFilled_72 rfl ?_
        refine z_icmp_ge 127 dX5_leastFilled_74 (by decide) (fun h_74 => ?_) (fun h_74 => ?_)
        · exfalso; have := hlt.mp h_74; omega
        refine z_iconst (v := 1) dX5_leastFilled_77 (by decide) ?_
        refine z_iload (i := 4) dX5_leastFilled_78 rfl ?_
        refine z_ishl dX5_leastFilled_80 ?_
        refine z_iconst (v := 1) dX5_leastFilled_81 (by decide) ?_
        refine z_iload (i := 5) dX5_leastFilled_82 rfl ?_
        refine z_ishl dX5_leastFilled_84 ?_
        refine z_ior dX5_leastFilled_85 ?_
        refine z_istore (i := 6) [_, _, _, _, _, _, _] dX5_leastFilled_86 (by decide) rfl rfl ?_
        refine z_aload_n (i := 0) dX5_leastFilled_88 rfl rfl ?_
        refine z_iload (i := 4) dX5_leastFilled_89 rfl ?_
        refine z_Vb (As := [_]) dX5_leastFilled_91 (by rfl) v_X5_isDrop l_X5_64 (by first | decide | assumption | omega) rfl rfl rfl (by omega) (by decide) (Nat.le_of_ble_eq_true rfl) ?_
        refine c_isDrop hR1 ?_
        refine z_if_eq 121 dX5_leastFilled_94 (by decide) (fun h_94 => ?_) (fun h_94 => ?_)
        · first
          | (refine go121 c1 hz (fun w => ?_)
             rw [vf2 h lo (by omega) hlo h15] at w
             exact bite.mp h_94 w.1.1)
          | (refine go121 c1 hz (fun w => ?_)
             rw [vf2 h lo (by omega) hlo h15] at w
             exact bite.mp h_103 w.1.2)
          | (refine go121 c2 (zth_tr hz z2) (fun w => ?_)
             rw [vf2 h lo (by omega) hlo h15] at w
             exact bite.mp h_115 w.2)
        · refine z_aload_n (i := 0) dX5_leastFilled_97 rfl rfl ?_
          refine z_iload (i := 5) dX5_leastFilled_98 rfl ?_
          refine z_Vb (As := [_]) dX5_leastFilled_100 (by rfl) v_X5_isDrop l_X5_64 (by first | decide | assumption | omega) rfl rfl rfl (by omega) (by decide) (Nat.le_of_ble_eq_true rfl) ?_
          refine c_isDrop hR1 ?_
          refine z_if_eq 121 dX5_leastFilled_103 (by decide) (fun h_103 => ?_) (fun h_103 => ?_)
          · first
            | (refine go121 c1 hz (fun w => ?_)
               rw [vf2 h lo (by omega) hlo h15] at w
               exact bite.mp h_94 w.1.1)
            | (refine go121 c1 hz (fun w => ?_)
               rw [vf2 h lo (by omega) hlo h15] at w
               exact bite.mp h_103 w.1.2)
            | (refine go121 c2 (zth_tr hz z2) (fun w => ?_)
               rw [vf2 h lo (by omega) hlo h15] at w
               exact bite.mp h_115 w.2)
          · refine z_aload_n (i := 0) dX5_leastFilled_106 rfl rfl ?_
            refine z_iload (i := 6) dX5_leastFilled_107 rfl ?_
            refine z_iload_n (i := 1) dX5_leastFilled_109 rfl rfl ?_
            refine z_iload_n (i := 2) dX5_leastFilled_110 rfl rfl ?_
            refine z_iload_n (i := 3) dX5_leastFilled_111 rfl rfl ?_
            refine z_Vb (As := [_, _, _, _]) dX5_leastFilled_112 (by rfl) v_X5_comesWithout l_X5_60 (by first | decide | assumption | omega) rfl rfl rfl (by omega) (by decide) (Nat.le_of_ble_eq_true rfl) ?_
            refine c_comesWithout hR1 hL1 hv hb hp hk (by omega) (fun c2 z2 => ?_)
            refine z_if_eq 121 dX5_leastFilled_115 (by decide) (fun h_115 => ?_) (fun h_115 => ?_)
            · first
              | (refine go121 c1 hz (fun w => ?_)
                 rw [vf2 h lo (by omega) hlo h15] at w
                 exact bite.mp h_94 w.1.1)
              | (refine go121 c1 hz (fun w => ?_)
                 rw [vf2 h lo (by omega) hlo h15] at w
                 exact bite.mp h_103 w.1.2)
              | (refine go121 c2 (zth_tr hz z2) (fun w => ?_)
                 rw [vf2 h lo (by omega) hlo h15] at w
                 exact bite.mp h_115 w.2)
            · refine z_iload (i := 6) dX5_leastFilled_118 rfl ?_
              have hw : vfN f p cell k h lo := (vf2 h lo (by omega) hlo h15).mpr ⟨⟨Classical.byContradiction (fun w => h_94 (bite.mpr w)), Classical.byContradiction (fun w => h_103 (bite.mpr w))⟩, Classical.byContradiction (fun w => h_115 (bite.mpr w))⟩
              have := hQ c2 (zth_tr hz z2)
              rw [fi_first h15 (by omega) hw inv', tw_p (by omega) (by omega)] at this
              exact z_ret dX5_leastFilled_120 this trivial rfl
      · have elo : lo = h := by omega
        subst elo
        have hlt15 := nI_leI (a := 15) (b := lo + 1) (by omega) (by omega)
        have inv' : ∀ x y, x < 15 → y ≤ x → vfN f p cell k x y → tkN (lo + 1) 1 ≤ tkN x y := by
          intro x y hx hy hw
          have := inv x y hx hy hw
          unfold pkN at this
          rw [if_neg (by omega)] at this
          exact this
        refine z_iload (i := 5) dX5_leastFilled_70 rfl ?_
        refine z_iload (i := 4) dX5_leastFilled_72 rfl ?_
        refine z_icmp_ge 127 dX5_leastFilled_74 (by decide) (fun h_74 => ?_) (fun h_74 => ?_)
        rotate_left
        · exfalso; exact h_74 (hlt.mpr (by omega))
        refine z_iinc (i := 4) (v := 1) [_, _, _, _, _, _, _] dX5_leastFilled_127 rfl (by decide) (by decide) rfl rfl ?_
        refine z_goto 60 dX5_leastFilled_130 (by decide) ?_
        refine z_iload (i := 4) dX5_leastFilled_60 rfl ?_
        refine z_bipush (v := 15) dX5_leastFilled_62 (by decide) ?_
        rw [nI_1]
        refine z_icmp_ge 133 dX5_leastFilled_64 (by decide) (fun h_64 => ?_) (fun h_64 => ?_)
        · refine z_iconst (v := (-1)) dX5_leastFilled_133 (by decide) ?_
          have h14 : lo = 14 := by have := hlt15.mp h_64; omega
          have := hQ c1 hz
          rw [fi_none (fun x y hx hy hw => by have a1 := inv' x y hx hy hw; have a2 := tk_3 x hx y (by omega); rw [h14] at a1; exact absurd a2 (Nat.not_lt.mpr a1))] at this
          exact z_ret dX5_leastFilled_134 this trivial rfl
        · refine z_iconst (v := 1) dX5_leastFilled_67 (by decide) ?_
          refine z_istore (i := 5) [_, _, _, _, _, _, _] dX5_leastFilled_68 (by decide) rfl rfl ?_
          refine ih (lo + 1) 1 c1 _ (by have := mt hlt15.mpr h_64; omega) (by omega) (by have := mt hlt15.mpr h_64; omega) (by omega) (by omega) (fun x y hx hy hw => ?_) hz
          unfold pkN
          rw [if_pos (by omega)]
          exact inv' x y hx hy hw
  have single : ∀ (r h : Nat) (c1 : zS) (x5 x6 : Option Value), 15 - h < r → 1 ≤ h → h ≤ 15 → (∀ x y, x < 15 → y ≤ x → vfN f p cell k x y → skN h ≤ tkN x y) → zth c c1 → zW l E ad RX5 cX5_leastFilled 7 1 d Qf 16 [some (.ref (ad 33)), some (.int (nI p)), some (.int cell), some (.int (nI k)), some (.int (nI h)), x5, x6] [] c1 := by
    intro r
    induction r with
    | zero => intro h c1 x5 x6 q; omega
    | succ r ih =>
      intro h c1 x5 x6 hr h1 h15 inv hz
      have hlt := nI_leI (a := 15) (b := h) (by omega) (by omega)
      have hR1 := zth_PR8 hR hz
      have hL1 := zth_LW hL hz
      by_cases hh : h < 15
      · have inv' : ∀ x y, x < 15 → y ≤ x → vfN f p cell k x y → tkN h 0 ≤ tkN x y := by
          intro x y hx hy hw
          have := inv x y hx hy hw
          unfold skN at this
          rw [if_pos hh] at this
          exact this
        have go51 : ∀ (c2 : zS), zth c c2 → ¬ vfN f p cell k h 0 → zW l E ad RX5 cX5_leastFilled 7 1 d Qf 51 [some (.ref (ad 33)), some (.int (nI p)), some (.int cell), some (.int (nI k)), some (.int (nI h)), x5, x6] [] c2 := by
          intro c2 hz2 hno
          refine z_iinc (i := 4) (v := 1) [_, _, _, _, _, _, _] dX5_leastFilled_51 rfl (by decide) (by decide) rfl rfl ?_
          refine z_goto 16 dX5_leastFilled_54 (by decide) ?_
          rw [nI_1]
          exact ih (h + 1) c2 _ _ (by omega) (by omega) (by omega) (fun x y hx hy hw => tk_1 h hh x hx y (by omega) (by omega) (nxt h 0 hh (by omega) hno inv' x y hx hy hw)) hz2
        refine z_iload (i := 4) dX5_leastFilled_16 rfl ?_
        refine z_bipush (v := 15) dX5_leastFilled_18 (by decide) ?_
        refine z_icmp_ge 57 dX5_leastFilled_20 (by decide) (fun h_20 => ?_) (fun h_20 => ?_)
        · exfalso; have := hlt.mp h_20; omega
        refine z_aload_n (i := 0) dX5_leastFilled_23 rfl rfl ?_
        refine z_iload (i := 4) dX5_leastFilled_24 rfl ?_
        refine z_Vb (As := [_]) dX5_leastFilled_26 (by rfl) v_X5_isDrop l_X5_64 (by first | decide | assumption | omega) rfl rfl rfl (by omega) (by decide) (Nat.le_of_ble_eq_true rfl) ?_
        refine c_isDrop hR1 ?_
        refine z_if_eq 51 dX5_leastFilled_29 (by decide) (fun h_29 => ?_) (fun h_29 => ?_)
        · first
          | (refine go51 c1 hz (fun w => ?_)
             rw [vf1 h (by omega) hh] at w
             exact bite.mp h_29 w.1)
          | (refine go51 c2 (zth_tr hz z2) (fun w => ?_)
             rw [vf1 h (by omega) hh] at w
             exact bite.mp h_43 w.2)
        · refine z_aload_n (i := 0) dX5_leastFilled_32 rfl rfl ?_
          refine z_iconst (v := 1) dX5_leastFilled_33 (by decide) ?_
          refine z_iload (i := 4) dX5_leastFilled_34 rfl ?_
          refine z_ishl dX5_leastFilled_36 ?_
          refine z_iload_n (i := 1) dX5_leastFilled_37 rfl rfl ?_
          refine z_iload_n (i := 2) dX5_leastFilled_38 rfl rfl ?_
          refine z_iload_n (i := 3) dX5_leastFilled_39 rfl rfl ?_
          refine z_Vb (As := [_, _, _, _]) dX5_leastFilled_40 (by rfl) v_X5_comesWithout l_X5_60 (by first | decide | assumption | omega) rfl rfl rfl (by omega) (by decide) (Nat.le_of_ble_eq_true rfl) ?_
          refine c_comesWithout hR1 hL1 hv hb hp hk (by omega) (fun c2 z2 => ?_)
          refine z_if_eq 51 dX5_leastFilled_43 (by decide) (fun h_43 => ?_) (fun h_43 => ?_)
          · first
            | (refine go51 c1 hz (fun w => ?_)
               rw [vf1 h (by omega) hh] at w
               exact bite.mp h_29 w.1)
            | (refine go51 c2 (zth_tr hz z2) (fun w => ?_)
               rw [vf1 h (by omega) hh] at w
               exact bite.mp h_43 w.2)
          · refine z_iconst (v := 1) dX5_leastFilled_46 (by decide) ?_
            refine z_iload (i := 4) dX5_leastFilled_47 rfl ?_
            refine z_ishl dX5_leastFilled_49 ?_
            have hw : vfN f p cell k h 0 := (vf1 h (by omega) hh).mpr ⟨Classical.byContradiction (fun w => h_29 (bite.mpr w)), Classical.byContradiction (fun w => h_43 (bite.mpr w))⟩
            have := hQ c2 (zth_tr hz z2)
            rw [fi_first hh (by omega) hw inv', tw_s (by omega)] at this
            exact z_ret dX5_leastFilled_50 this trivial rfl
      · have e15 : h = 15 := by omega
        subst e15
        refine z_iload (i := 4) dX5_leastFilled_16 rfl ?_
        refine z_bipush (v := 15) dX5_leastFilled_18 (by decide) ?_
        refine z_icmp_ge 57 dX5_leastFilled_20 (by decide) (fun h_20 => ?_) (fun h_20 => ?_)
        rotate_left
        · exfalso; exact h_20 (by decide)
        refine z_iconst (v := 2) dX5_leastFilled_57 (by decide) ?_
        refine z_istore (i := 4) [_, _, _, _, _, _, _] dX5_leastFilled_58 (by decide) rfl rfl ?_
        refine z_iload (i := 4) dX5_leastFilled_60 rfl ?_
        refine z_bipush (v := 15) dX5_leastFilled_62 (by decide) ?_
        refine z_icmp_ge 133 dX5_leastFilled_64 (by decide) (fun h_64 => ?_) (fun h_64 => ?_)
        · exfalso; revert h_64; decide
        refine z_iconst (v := 1) dX5_leastFilled_67 (by decide) ?_
        refine z_istore (i := 5) [_, _, _, _, _, _, _] dX5_leastFilled_68 (by decide) rfl rfl ?_
        refine pair 1000 2 1 c1 _ (by omega) (by omega) (by omega) (by omega) (by omega) (fun x y hx hy hw => ?_) hz
        exact inv x y hx hy hw
  have vf0 : vfN f p cell k 0 0 ↔ coutF f p cell k 0 = true := by
    unfold vfN
    rw [show twF 0 0 = 0 from rfl, Int32.zero_and]
    exact ⟨fun w => w.2, fun w => ⟨rfl, w⟩⟩
  refine z_aload_n (i := 0) dX5_leastFilled_0 rfl rfl ?_
  refine z_iconst (v := 0) dX5_leastFilled_1 (by decide) ?_
  refine z_iload_n (i := 1) dX5_leastFilled_2 rfl rfl ?_
  refine z_iload_n (i := 2) dX5_leastFilled_3 rfl rfl ?_
  refine z_iload_n (i := 3) dX5_leastFilled_4 rfl rfl ?_
  refine z_Vb (As := [_, _, _, _]) dX5_leastFilled_5 (by rfl) v_X5_comesWithout l_X5_60 (by first | decide | assumption | omega) rfl rfl rfl (by omega) (by decide) (Nat.le_of_ble_eq_true rfl) ?_
  refine c_comesWithout hR hL hv hb hp hk (by omega) (fun c2 z2 => ?_)
  refine z_if_eq 13 dX5_leastFilled_8 (by decide) (fun h_8 => ?_) (fun h_8 => ?_)
  · refine z_iconst (v := 1) dX5_leastFilled_13 (by decide) ?_
    refine z_istore (i := 4) [_, _, _, _, _, _, _] dX5_leastFilled_14 (by decide) rfl rfl ?_
    refine single 1000 1 c2 _ _ (by omega) (by omega) (by omega) (fun x y hx hy hw => ?_) z2
    have hno : ¬ vfN f p cell k 0 0 := fun w => bite.mp h_8 (vf0.mp w)
    exact tk_0 x hx y (by omega) (nxt 0 0 (by omega) (by omega) hno (fun x' y' _ _ _ => Nat.zero_le _) x y hx hy hw)
  · refine z_iconst (v := 0) dX5_leastFilled_11 (by decide) ?_
    have hw : vfN f p cell k 0 0 := vf0.mpr (Classical.byContradiction (fun w => h_8 (bite.mpr w)))
    have := hQ c2 z2
    rw [fi_first (x := 0) (y := 0) (by omega) (by omega) hw (fun x' y' _ _ _ => Nat.zero_le _)] at this
    exact z_ret dX5_leastFilled_12 this trivial rfl
end FI
