/-! the class's calls: travellers -/
theorem upd_cm {f : zN} {i j : Nat} {a b : Int32} (h : i ≠ j) : upd (upd f i a) j b = upd (upd f j b) i a := by
  funext k
  unfold upd
  by_cases e1 : k = i
  · rw [if_pos e1, if_pos e1, if_neg (by omega)]
  · rw [if_neg e1, if_neg e1]
theorem km_nI : ∀ j, j < 70 → nI j / 10 = nI (j / 10) := by decide
theorem SI_5 {f : zN} {n t m K : Nat} (h : SI f n t m) (hn : n < 6) (hK : K ≤ 6) (hk : f (8 + 5 * n) = nI K) (hl : f (8 + 5 * n + 4) = 0) : SI (upd f 5 (nI (n + 1))) (n + 1) t m := by
  obtain ⟨a1, a2, a3, a4, a5, a6, a7, a8, a9, a10, a11⟩ := h
  refine ⟨⟨pk_us, by omega, wfT_up (by decide) a1.2.2.1, wfT_up (by decide) a1.2.2.2⟩, by rw [pk_un (by decide)]; exact a2, a3, by rw [pk_un (by decide)]; exact a4, a5, fun j hj => ?_, fun j hj => ?_, by rw [pk_un (by decide)]; exact a8, fun j hj => by rw [pk_un (by omega)]; exact a9 j hj, stG_cg (by decide) a10 (fun k hk => pk_un (by omega)), stG_cg (by decide) a11 (fun k hk => pk_un (by omega))⟩
  · rw [pk_un (by omega)]
    by_cases e : j = n
    · subst e; exact ⟨K, hK, hk⟩
    · exact a6 j (by omega)
  · rw [pk_un (by omega)]
    by_cases e : j = n
    · subst e; exact Or.inl hl
    · exact a7 j (by omega)
theorem tp_b : ∀ h, h < 15 → (1 <<< (nI h &&& 31) : Int32).toBitVec = BitVec.twoPow 32 h := by
  intro h hh
  rcases (show h = 0 ∨ h = 1 ∨ h = 2 ∨ h = 3 ∨ h = 4 ∨ h = 5 ∨ h = 6 ∨ h = 7 ∨ h = 8 ∨ h = 9 ∨ h = 10 ∨ h = 11 ∨ h = 12 ∨ h = 13 ∨ h = 14 by omega) with rfl | rfl | rfl | rfl | rfl | rfl | rfl | rfl | rfl | rfl | rfl | rfl | rfl | rfl | rfl <;> rfl
/-- a bit of x, and what is told of it -/
theorem dr_b {x : Int32} {h : Nat} (hh : h < 15) : ((x >>> (nI h &&& 31)) &&& (1 : Int32) = 1 → x = (x &&& (((1 : Int32) <<< (nI h &&& 31)) ^^^ (-1 : Int32))) ||| ((1 : Int32) <<< (nI h &&& 31)) ∧ x ^^^ ((1 : Int32) <<< (nI h &&& 31)) = (x &&& (((1 : Int32) <<< (nI h &&& 31)) ^^^ (-1 : Int32)))) ∧ (¬ (x >>> (nI h &&& 31)) &&& (1 : Int32) = 1 → x = (x &&& (((1 : Int32) <<< (nI h &&& 31)) ^^^ (-1 : Int32))) ∧ x ^^^ ((1 : Int32) <<< (nI h &&& 31)) = (x &&& (((1 : Int32) <<< (nI h &&& 31)) ^^^ (-1 : Int32))) ||| ((1 : Int32) <<< (nI h &&& 31))) := by
  rw [bt_a h hh]
  simp only [← Int32.toBitVec_inj, Int32.toBitVec_and, Int32.toBitVec_or, Int32.toBitVec_xor, tp_b h hh]
  have em : ∀ i, i < 32 → (-1 : Int32).toBitVec.getLsbD i = true := by decide
  generalize (-1 : Int32).toBitVec = M at em
  generalize x.toBitVec = X
  have t1 : ∀ p : Bool, p = true → p = ((p && (true ^^ true)) || true) ∧ (p ^^ true) = (p && (true ^^ true)) := by decide
  have t2 : ∀ p : Bool, p = ((p && (false ^^ true)) || false) ∧ (p ^^ false) = (p && (false ^^ true)) := by decide
  have t3 : ∀ p : Bool, p = false → p = (p && (true ^^ true)) ∧ (p ^^ true) = ((p && (true ^^ true)) || true) := by decide
  have t4 : ∀ p : Bool, p = (p && (false ^^ true)) ∧ (p ^^ false) = ((p && (false ^^ true)) || false) := by decide
  have bT : ∀ i, i < 32 → (BitVec.twoPow 32 h).getLsbD i = decide (i = h) := by
    intro i hi
    rw [BitVec.getLsbD_twoPow]
    by_cases e : i = h
    · subst e; simp [hi]
    · simp [e, Ne.symm e]
  constructor
  · intro hx
    constructor
    · apply BitVec.eq_of_getLsbD_eq
      intro i hi
      rw [BitVec.getLsbD_or, BitVec.getLsbD_and, BitVec.getLsbD_xor, bT i hi, em i hi]
      by_cases e : i = h
      · subst e; rw [decide_eq_true rfl]; exact (t1 _ hx).1
      · rw [decide_eq_false e]; exact (t2 _).1
    · apply BitVec.eq_of_getLsbD_eq
      intro i hi
      rw [BitVec.getLsbD_xor, BitVec.getLsbD_and, BitVec.getLsbD_xor, bT i hi, em i hi]
      by_cases e : i = h
      · subst e; rw [decide_eq_true rfl]; exact (t1 _ hx).2
      · rw [decide_eq_false e]; exact (t2 _).2
  · intro hx
    have hx : X.getLsbD h = false := by simpa using hx
    constructor
    · apply BitVec.eq_of_getLsbD_eq
      intro i hi
      rw [BitVec.getLsbD_and, BitVec.getLsbD_xor, bT i hi, em i hi]
      by_cases e : i = h
      · subst e; rw [decide_eq_true rfl]; exact (t3 _ hx).1
      · rw [decide_eq_false e]; exact (t4 _).1
    · apply BitVec.eq_of_getLsbD_eq
      intro i hi
      rw [BitVec.getLsbD_xor, BitVec.getLsbD_or, BitVec.getLsbD_and, BitVec.getLsbD_xor, bT i hi, em i hi]
      by_cases e : i = h
      · subst e; rw [decide_eq_true rfl]; exact (t3 _ hx).2
      · rw [decide_eq_false e]; exact (t4 _).2
section X1
variable {l : Launch} {E : zE} {ad : Nat → Nat} {c : zS} {Qf : Int32 → zS → Prop} {d n : Nat} {σ : zT}
theorem x_person {km sure : Int32} (hX : RX c σ) (hd : 8 ≤ d) (hQ : WX c Qf (o_person σ km sure)) : zCl l E ad mX7_person d [.ref (ad 0), .int km, .int sure] c Qf := by
  obtain ⟨n, t, m, hS, hI⟩ := id hX.1
  have hn6 := hI.1.2.1
  have e5 : σ.1 5 = nI n := hI.1.1
  have e6 : nI n = 6 ↔ n = 6 := nI_eq (a := n) (b := 6) (by omega) (by omega)
  have l6 : nI n < (6 : Int32) ↔ n < 6 := nI_ltI (a := n) (b := 6) (by omega) (by omega)
  have epn : pn (nI n) = n := pn_nI (by omega)
  unfold o_person at hQ
  rw [e5, epn] at hQ
  refine z_enter (own := RX7) [some (.ref (ad 0)), some (.int km), some (.int sure), none] (by decide +kernel) rfl rfl rfl (Nat.le_of_ble_eq_true rfl) ?_
  refine z_iload_n (i := 1) dX7_person_0 rfl rfl ?_
  refine z_Sb (As := [_]) dX7_person_1 (by rfl) v_X7_isKindAndNumber l_X7_66 rfl (by omega) (by decide) (Nat.le_of_ble_eq_true rfl) ?_
  refine s_isKindAndNumber (by omega) ?_
  refine z_if_eq 14 dX7_person_4 (by decide) (fun h_4 => ?_) (fun h_4 => ?_)
  · refine z_aload_n (i := 0) dX7_person_14 rfl rfl ?_
    refine z_iconst (v := 1) dX7_person_15 (by decide) ?_
    refine z_Vi (As := [_]) dX7_person_16 (by rfl) v_X7_refuse l_X7_73 (by first | decide | assumption | omega) rfl rfl rfl (by omega) (by decide) (Nat.le_of_ble_eq_true rfl) ?_
    refine s_refuse (by rfl) (by decide) ?_
    rw [if_neg (by grind)] at hQ
    exact z_ret dX7_person_19 (WX_err hX hQ) trivial rfl
  · refine z_iload_n (i := 2) dX7_person_7 rfl rfl ?_
    refine z_Sb (As := [_]) dX7_person_8 (by rfl) v_X7_isSure l_X7_70 rfl (by omega) (by decide) (Nat.le_of_ble_eq_true rfl) ?_
    refine s_isSure (by omega) ?_
    refine z_if_ne 20 dX7_person_11 (by decide) (fun h_11 => ?_) (fun h_11 => ?_)
    · rw [if_pos (by grind)] at hQ
      refine z_aload_n (i := 0) dX7_person_20 rfl rfl ?_
      refine z_getf dX7_person_21 f_X7_10 (by first | decide | assumption | omega) rfl (by rfl) ?_
      refine z_getf dX7_person_24 f_X7_34 (by first | decide | assumption | omega) rfl (by rfl) ?_
      refine z_astore_n (i := 3) [_, _, _, _] dX7_person_27 rfl (by decide) rfl rfl ?_
      refine z_aload_n (i := 3) dX7_person_28 rfl rfl ?_
      refine z_getf dX7_person_29 f_X7_77 (by first | decide | assumption | omega) rfl (by rfl) ?_
      refine z_bipush (v := 6) dX7_person_32 (by decide) ?_
      rw [hS.1.1]
      refine z_icmp_lt 43 dX7_person_34 (by decide) (fun h_34 => ?_) (fun h_34 => ?_)
      · have hn5 : n < 6 := l6.mp h_34
        have hkm : 0 ≤ km ∧ km ≤ 69 := by grind
        obtain ⟨j, hj, rfl⟩ := zj_of (x := km) (n := 70) hkm.1 (by have := hkm.2; show km < (70 : Int32); grind) (by decide)
        rw [if_neg (fun w => by have := e6.mp w; omega)] at hQ
        refine z_aload_n (i := 3) dX7_person_43 rfl rfl ?_
        refine z_iload_n (i := 1) dX7_person_44 rfl rfl ?_
        refine z_bipush (v := 10) dX7_person_45 (by decide) ?_
        refine z_idiv dX7_person_47 (by first | decide | assumption) ?_
        refine z_iload_n (i := 1) dX7_person_48 rfl rfl ?_
        refine z_bipush (v := 10) dX7_person_49 (by decide) ?_
        refine z_irem dX7_person_51 (by first | decide | assumption) ?_
        refine z_iload_n (i := 2) dX7_person_52 rfl rfl ?_
        refine z_Vi (As := [_, _, _]) dX7_person_53 (by rfl) v_X1_takesIn l_X7_82 (by first | decide | assumption | omega) rfl rfl rfl (by omega) (by decide) (Nat.le_of_ble_eq_true rfl) ?_
        refine s_takesIn (v := nI n + 1) hS.1 hn5 (by omega) (fun c' hP hf => ?_)
        refine z_ret dX7_person_56 (WX_now hX hQ ⟨hf 0 (by omega), fun k a b e g => hf k (by omega)⟩ ⟨n + 1, t, m, ST_pr hS hP (fun k hk => hf k (by omega)) (fun k hk => ?_) ?_, ?_⟩) trivial rfl
        · simp (disch := omega) only [pk_un]
        · simp (disch := omega) only [pk_un]
        · rw [nI_1]
          refine SI_5 (K := j / 10) (SI_u (SI_u (SI_u (SI_u (SI_u hI (by omega) (by omega) (by omega) (by omega) (fun i hi e => by omega) (fun i hi e => by omega) (fun e => by omega)) (by omega) (by omega) (by omega) (by omega) (fun i hi e => by omega) (fun i hi e => by omega) (fun e => by omega)) (by omega) (by omega) (by omega) (by omega) (fun i hi e => by omega) (fun i hi e => by omega) (fun e => by omega)) (by omega) (by omega) (by omega) (by omega) (fun i hi e => by omega) (fun i hi e => by omega) (fun e => by omega)) (by omega) (by omega) (by omega) (by omega) (fun i hi e => by omega) (fun i hi e => by omega) (fun e => by omega)) hn5 (by omega) ?_ pk_us
          rw [pk_un (by omega), pk_un (by omega), pk_un (by omega), pk_un (by omega), pk_us, km_nI j hj]
      · refine z_aload_n (i := 0) dX7_person_37 rfl rfl ?_
        refine z_iconst (v := 4) dX7_person_38 (by decide) ?_
        refine z_Vi (As := [_]) dX7_person_39 (by rfl) v_X7_refuse l_X7_73 (by first | decide | assumption | omega) rfl rfl rfl (by omega) (by decide) (Nat.le_of_ble_eq_true rfl) ?_
        refine s_refuse (by rfl) (by decide) ?_
        rw [if_pos (e6.mpr (by have := mt l6.mpr h_34; omega))] at hQ
        exact z_ret dX7_person_42 (WX_err hX hQ) trivial rfl
    · refine z_aload_n (i := 0) dX7_person_14 rfl rfl ?_
      refine z_iconst (v := 1) dX7_person_15 (by decide) ?_
      refine z_Vi (As := [_]) dX7_person_16 (by rfl) v_X7_refuse l_X7_73 (by first | decide | assumption | omega) rfl rfl rfl (by omega) (by decide) (Nat.le_of_ble_eq_true rfl) ?_
      refine s_refuse (by rfl) (by decide) ?_
      rw [if_neg (by grind)] at hQ
      exact z_ret dX7_person_19 (WX_err hX hQ) trivial rfl
theorem x_personIs {p w : Int32} (hX : RX c σ) (hd : 8 ≤ d) (hQ : WX c Qf (o_personIs σ p w)) : zCl l E ad mX7_personIs d [.ref (ad 0), .int p, .int w] c Qf := by
  obtain ⟨n, t, m, hS, hI⟩ := id hX.1
  have hn6 := hI.1.2.1
  have hLW : LW c σ.1 := ⟨hS.2.1, hS.2.2.1, hI.2.2.2.2.2.2.2.2.2.1, hI.2.2.2.2.2.2.2.2.2.2⟩
  have zt : ∀ k g, k = 4 ∨ k = 7 → zth c (zup c k g) := fun k g hk i a b e => zup_n (by omega)
  have zt2 : ∀ g g2, zth c (zup (zup c 4 g) 7 g2) := fun g g2 i a b e => by rw [zup_n (by omega), zup_n (by omega)]
  refine z_enter (own := RX7) [some (.ref (ad 0)), some (.int p), some (.int w), none] (by decide +kernel) rfl rfl rfl (Nat.le_of_ble_eq_true rfl) ?_
  by_cases hp : isP σ p
  · obtain ⟨j, hj, rfl⟩ := isP_of (f := σ.1) hp hI.1.1 hn6
    have epj : pn (nI j) = j := pn_nI (by omega)
    have hR := hS.1.2.2.2 j hj
    have key : ∀ i : Nat, i < 8 → w = nI i → WX c Qf ((if w = 5 then cleF σ.1 j else if w = 6 then pacF σ.1 j else if w = 7 then (if faF σ.1 j = true then 1 else 0) else σ.1 (8 + 5 * j + pn w)), σ) := by
      intro i hi e
      unfold o_personIs at hQ
      rw [if_pos ⟨hp, by rw [e]; exact nI_pos' (by omega), by rw [e]; exact (nI_leI (a := i) (b := 7) (by omega) (by omega)).mpr (by omega)⟩, epj] at hQ
      exact hQ
    refine z_aload_n (i := 0) dX7_personIs_0 rfl rfl ?_
    refine z_iload_n (i := 1) dX7_personIs_1 rfl rfl ?_
    refine z_Vb (As := [_]) dX7_personIs_2 (by rfl) v_X7_isPerson l_X7_86 (by first | decide | assumption | omega) rfl rfl rfl (by omega) (by decide) (Nat.le_of_ble_eq_true rfl) ?_
    refine s_isPerson hX ?_
    refine z_if_ne 14 dX7_personIs_5 (by decide) (fun h_5 => ?_) (fun h_5 => ?_)
    rotate_left
    · exfalso; have hpc : 0 ≤ nI j ∧ nI j ≤ σ.1 5 - 1 := hp; exact absurd hpc (bite.mp (by first | exact h_5 | exact Classical.not_not.mp h_5))
    refine z_aload_n (i := 0) dX7_personIs_14 rfl rfl ?_
    refine z_getf dX7_personIs_15 f_X7_10 (by first | decide | assumption | omega) rfl (by rfl) ?_
    refine z_getf dX7_personIs_18 f_X7_34 (by first | decide | assumption | omega) rfl (by rfl) ?_
    refine z_astore_n (i := 3) [_, _, _, _] dX7_personIs_21 rfl (by decide) rfl rfl ?_
    refine z_iload_n (i := 2) dX7_personIs_22 rfl rfl ?_
    by_cases h_23_0 : w = 0
    · refine z_table (v := 0) 68 dX7_personIs_23 h_23_0 (by decide) (by decide) rfl (by decide) ?_
      refine z_aload_n (i := 3) dX7_personIs_68 rfl rfl ?_
      refine z_getf dX7_personIs_69 f_X7_89 (by first | decide | assumption | omega) rfl (by rfl) ?_
      refine z_iload_n (i := 1) dX7_personIs_72 rfl rfl ?_
      refine z_iald (j := j) dX7_personIs_73 (by first | decide | assumption | omega) rfl (by rfl) (by first | decide | omega) (by first | decide | omega) ?_
      exact z_ret dX7_personIs_74 (WX_rf hX (by have := key 0 (by decide) h_23_0; rw [h_23_0] at this; rw [hR.1]; exact this)) trivial rfl
    by_cases h_23_1 : w = 1
    · refine z_table (v := 1) 75 dX7_personIs_23 h_23_1 (by decide) (by decide) rfl (by decide) ?_
      refine z_aload_n (i := 3) dX7_personIs_75 rfl rfl ?_
      refine z_getf dX7_personIs_76 f_X7_92 (by first | decide | assumption | omega) rfl (by rfl) ?_
      refine z_iload_n (i := 1) dX7_personIs_79 rfl rfl ?_
      refine z_iald (j := j) dX7_personIs_80 (by first | decide | assumption | omega) rfl (by rfl) (by first | decide | omega) (by first | decide | omega) ?_
      exact z_ret dX7_personIs_81 (WX_rf hX (by have := key 1 (by decide) h_23_1; rw [h_23_1] at this; rw [hR.2.1]; exact this)) trivial rfl
    by_cases h_23_2 : w = 2
    · refine z_table (v := 2) 82 dX7_personIs_23 h_23_2 (by decide) (by decide) rfl (by decide) ?_
      refine z_aload_n (i := 3) dX7_personIs_82 rfl rfl ?_
      refine z_getf dX7_personIs_83 f_X7_95 (by first | decide | assumption | omega) rfl (by rfl) ?_
      refine z_iload_n (i := 1) dX7_personIs_86 rfl rfl ?_
      refine z_iald (j := j) dX7_personIs_87 (by first | decide | assumption | omega) rfl (by rfl) (by first | decide | omega) (by first | decide | omega) ?_
      exact z_ret dX7_personIs_88 (WX_rf hX (by have := key 2 (by decide) h_23_2; rw [h_23_2] at this; rw [hR.2.2.1]; exact this)) trivial rfl
    by_cases h_23_3 : w = 3
    · refine z_table (v := 3) 89 dX7_personIs_23 h_23_3 (by decide) (by decide) rfl (by decide) ?_
      refine z_aload_n (i := 3) dX7_personIs_89 rfl rfl ?_
      refine z_getf dX7_personIs_90 f_X7_98 (by first | decide | assumption | omega) rfl (by rfl) ?_
      refine z_iload_n (i := 1) dX7_personIs_93 rfl rfl ?_
      refine z_iald (j := j) dX7_personIs_94 (by first | decide | assumption | omega) rfl (by rfl) (by first | decide | omega) (by first | decide | omega) ?_
      exact z_ret dX7_personIs_95 (WX_rf hX (by have := key 3 (by decide) h_23_3; rw [h_23_3] at this; rw [hR.2.2.2.1]; exact this)) trivial rfl
    by_cases h_23_4 : w = 4
    · refine z_table (v := 4) 96 dX7_personIs_23 h_23_4 (by decide) (by decide) rfl (by decide) ?_
      refine z_aload_n (i := 3) dX7_personIs_96 rfl rfl ?_
      refine z_getf dX7_personIs_97 f_X7_101 (by first | decide | assumption | omega) rfl (by rfl) ?_
      refine z_iload_n (i := 1) dX7_personIs_100 rfl rfl ?_
      refine z_zald (j := j) dX7_personIs_101 (by first | decide | assumption | omega) rfl (by rfl) (by first | decide | omega) (by first | decide | omega) ?_
      refine z_if_eq 109 dX7_personIs_102 (by decide) (fun h_102 => ?_) (fun h_102 => ?_)
      · refine z_iconst (v := 0) dX7_personIs_109 (by decide) ?_
        have hk4 := key 4 (by decide) h_23_4
        rw [h_23_4] at hk4
        have hk4 : WX c Qf (σ.1 (8 + 5 * j + 4), σ) := hk4
        rw [← hR.2.2.2.2] at hk4
        have hb := hI.2.2.2.2.2.2.1 j hj
        rw [← hR.2.2.2.2] at hb
        first
        | exact z_ret (r := 0) dX7_personIs_110 (WX_rf hX (by rw [show c 13 j = 0 by first | exact h_102 | exact Classical.not_not.mp h_102] at hk4; exact hk4)) trivial rfl
        | exact z_ret (r := 1) dX7_personIs_110 (WX_rf hX (by rw [hb.resolve_left h_102] at hk4; exact hk4)) trivial rfl
      · refine z_iconst (v := 1) dX7_personIs_105 (by decide) ?_
        refine z_goto 110 dX7_personIs_106 (by decide) ?_
        have hk4 := key 4 (by decide) h_23_4
        rw [h_23_4] at hk4
        have hk4 : WX c Qf (σ.1 (8 + 5 * j + 4), σ) := hk4
        rw [← hR.2.2.2.2] at hk4
        have hb := hI.2.2.2.2.2.2.1 j hj
        rw [← hR.2.2.2.2] at hb
        first
        | exact z_ret (r := 0) dX7_personIs_110 (WX_rf hX (by rw [show c 13 j = 0 by first | exact h_102 | exact Classical.not_not.mp h_102] at hk4; exact hk4)) trivial rfl
        | exact z_ret (r := 1) dX7_personIs_110 (WX_rf hX (by rw [hb.resolve_left h_102] at hk4; exact hk4)) trivial rfl
    by_cases h_23_5 : w = 5
    · refine z_table (v := 5) 111 dX7_personIs_23 h_23_5 (by decide) (by decide) rfl (by decide) ?_
      refine z_aload_n (i := 3) dX7_personIs_111 rfl rfl ?_
      refine z_iload_n (i := 1) dX7_personIs_112 rfl rfl ?_
      refine z_Vi (As := [_]) dX7_personIs_113 (by rfl) v_X1_clearFor l_X7_105 (by first | decide | assumption | omega) rfl rfl rfl (by omega) (by decide) (Nat.le_of_ble_eq_true rfl) ?_
      refine s_clearFor8 hS.1 hLW hI.1 hj (by omega) (fun g => ?_)
      exact z_ret dX7_personIs_116 (WX_zth hX (by have := key 5 (by decide) h_23_5; rw [h_23_5] at this; exact this) (zt 4 _ (by decide))) trivial rfl
    by_cases h_23_6 : w = 6
    · refine z_table (v := 6) 117 dX7_personIs_23 h_23_6 (by decide) (by decide) rfl (by decide) ?_
      refine z_aload_n (i := 3) dX7_personIs_117 rfl rfl ?_
      refine z_iload_n (i := 1) dX7_personIs_118 rfl rfl ?_
      refine z_aload_n (i := 3) dX7_personIs_119 rfl rfl ?_
      refine z_iload_n (i := 1) dX7_personIs_120 rfl rfl ?_
      refine z_Vi (As := [_]) dX7_personIs_121 (by rfl) v_X1_clearFor l_X7_105 (by first | decide | assumption | omega) rfl rfl rfl (by omega) (by decide) (Nat.le_of_ble_eq_true rfl) ?_
      refine s_clearFor8 hS.1 hLW hI.1 hj (by omega) (fun g => ?_)
      refine z_Vi (As := [_, _]) dX7_personIs_124 (by rfl) v_X1_paceOf l_X7_108 (by first | decide | assumption | omega) rfl rfl rfl (by omega) (by decide) (Nat.le_of_ble_eq_true rfl) ?_
      refine s_paceOf8 (PR_cg hS.1 (fun k a b => zup_n (by omega))) (LW_cg hLW (fun _ _ => rfl) rfl rfl rfl rfl) hI.1 hj (by omega) (fun g2 => ?_)
      exact z_ret dX7_personIs_127 (WX_zth hX (by have := key 6 (by decide) h_23_6; rw [h_23_6] at this; exact this) (zt2 _ _)) trivial rfl
    by_cases h_23_7 : w = 7
    · refine z_table (v := 7) 128 dX7_personIs_23 h_23_7 (by decide) (by decide) rfl (by decide) ?_
      refine z_aload_n (i := 3) dX7_personIs_128 rfl rfl ?_
      refine z_iload_n (i := 1) dX7_personIs_129 rfl rfl ?_
      refine z_Vb (As := [_]) dX7_personIs_130 (by rfl) v_X1_falls l_X7_112 (by first | decide | assumption | omega) rfl rfl rfl (by omega) (by decide) (Nat.le_of_ble_eq_true rfl) ?_
      refine s_falls8 hS.1 hn6 hj ?_
      refine z_if_eq 140 dX7_personIs_133 (by decide) (fun h_133 => ?_) (fun h_133 => ?_)
      · refine z_iconst (v := 0) dX7_personIs_140 (by decide) ?_
        have hk7 := key 7 (by decide) h_23_7
        rw [h_23_7] at hk7
        have hk7 : WX c Qf ((if faF σ.1 j = true then 1 else 0), σ) := hk7
        first
        | exact z_ret (r := 0) dX7_personIs_141 (WX_rf hX (by rw [if_neg (bite.mp (by first | exact h_133 | exact Classical.not_not.mp h_133))] at hk7; exact hk7)) trivial rfl
        | exact z_ret (r := 1) dX7_personIs_141 (WX_rf hX (by rw [if_pos (Classical.byContradiction (fun q => h_133 (bite.mpr q)))] at hk7; exact hk7)) trivial rfl
      · refine z_iconst (v := 1) dX7_personIs_136 (by decide) ?_
        refine z_goto 141 dX7_personIs_137 (by decide) ?_
        have hk7 := key 7 (by decide) h_23_7
        rw [h_23_7] at hk7
        have hk7 : WX c Qf ((if faF σ.1 j = true then 1 else 0), σ) := hk7
        first
        | exact z_ret (r := 0) dX7_personIs_141 (WX_rf hX (by rw [if_neg (bite.mp (by first | exact h_133 | exact Classical.not_not.mp h_133))] at hk7; exact hk7)) trivial rfl
        | exact z_ret (r := 1) dX7_personIs_141 (WX_rf hX (by rw [if_pos (Classical.byContradiction (fun q => h_133 (bite.mpr q)))] at hk7; exact hk7)) trivial rfl
    refine z_tableD 142 dX7_personIs_23 (by have a0 := zt_ne (k := 0) (by decide) h_23_0; have a1 := zt_ne (k := 1) (by decide) h_23_1; have a2 := zt_ne (k := 2) (by decide) h_23_2; have a3 := zt_ne (k := 3) (by decide) h_23_3; have a4 := zt_ne (k := 4) (by decide) h_23_4; have a5 := zt_ne (k := 5) (by decide) h_23_5; have a6 := zt_ne (k := 6) (by decide) h_23_6; have a7 := zt_ne (k := 7) (by decide) h_23_7; omega) (by decide) ?_
    refine z_aload_n (i := 0) dX7_personIs_142 rfl rfl ?_
    refine z_iconst (v := 1) dX7_personIs_143 (by decide) ?_
    refine z_Vi (As := [_]) dX7_personIs_144 (by rfl) v_X7_refuse l_X7_73 (by first | decide | assumption | omega) rfl rfl rfl (by omega) (by decide) (Nat.le_of_ble_eq_true rfl) ?_
    refine s_refuse (by rfl) (by decide) ?_
    have hno : ¬ (0 ≤ w ∧ w ≤ 7) := by
      intro q
      obtain ⟨i, hi, e⟩ := zj_of (x := w) (n := 8) q.1 (by have := q.2; show w < (8 : Int32); grind) (by decide)
      subst e
      rcases (show i = 0 ∨ i = 1 ∨ i = 2 ∨ i = 3 ∨ i = 4 ∨ i = 5 ∨ i = 6 ∨ i = 7 by omega) with rfl | rfl | rfl | rfl | rfl | rfl | rfl | rfl
      · exact h_23_0 rfl
      · exact h_23_1 rfl
      · exact h_23_2 rfl
      · exact h_23_3 rfl
      · exact h_23_4 rfl
      · exact h_23_5 rfl
      · exact h_23_6 rfl
      · exact h_23_7 rfl
    unfold o_personIs at hQ
    rw [if_neg (fun q => hno q.2)] at hQ
    exact z_ret dX7_personIs_147 (WX_err hX hQ) trivial rfl
  · unfold o_personIs at hQ
    rw [if_neg (fun q => hp q.1)] at hQ
    refine z_aload_n (i := 0) dX7_personIs_0 rfl rfl ?_
    refine z_iload_n (i := 1) dX7_personIs_1 rfl rfl ?_
    refine z_Vb (As := [_]) dX7_personIs_2 (by rfl) v_X7_isPerson l_X7_86 (by first | decide | assumption | omega) rfl rfl rfl (by omega) (by decide) (Nat.le_of_ble_eq_true rfl) ?_
    refine s_isPerson hX ?_
    refine z_if_ne 14 dX7_personIs_5 (by decide) (fun h_5 => ?_) (fun h_5 => ?_)
    · exfalso; exact hp (Classical.byContradiction (fun q => h_5 (bite.mpr q)))
    refine z_aload_n (i := 0) dX7_personIs_8 rfl rfl ?_
    refine z_iconst (v := 1) dX7_personIs_9 (by decide) ?_
    refine z_Vi (As := [_]) dX7_personIs_10 (by rfl) v_X7_refuse l_X7_73 (by first | decide | assumption | omega) rfl rfl rfl (by omega) (by decide) (Nat.le_of_ble_eq_true rfl) ?_
    refine s_refuse (by rfl) (by decide) ?_
    exact z_ret dX7_personIs_13 (WX_err hX hQ) trivial rfl
end X1
