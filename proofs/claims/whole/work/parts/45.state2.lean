/-! the class: lawOf, takesBytes -/
section SB
variable {l : Launch} {E : zE} {ad : Nat → Nat} {c : zS} {Qf : Int32 → zS → Prop} {d n : Nat}
theorem c_isDrop {f : zN} {h : Int32} (hR : PR c 8 n f) (hQ : Qf (if (f 1 >>> (h &&& 31)) &&& 1 = 1 then 1 else 0) c) : zCl l E ad mX5_isDrop d [.ref (ad 33), .int h] c Qf := by
  refine z_enter (own := RX5) [some (.ref (ad 33)), some (.int h)] (by decide +kernel) rfl rfl rfl (Nat.le_of_ble_eq_true rfl) ?_
  refine z_aload_n (i := 0) dX5_isDrop_0 rfl rfl ?_
  refine z_getf dX5_isDrop_1 f_X5_9 (by first | decide | assumption | omega) rfl (by rfl) ?_
  refine z_getf dX5_isDrop_4 f_X5_56 (by first | decide | assumption | omega) rfl (by rfl) ?_
  rw [hR.2.1]
  refine z_iload_n (i := 1) dX5_isDrop_7 rfl rfl ?_
  refine z_ishr dX5_isDrop_8 ?_
  refine z_iconst (v := 1) dX5_isDrop_9 (by decide) ?_
  refine z_iand dX5_isDrop_10 ?_
  refine z_if_eq 18 dX5_isDrop_11 (by decide) (fun h_11 => ?_) (fun h_11 => ?_)
  · refine z_iconst (v := 0) dX5_isDrop_18 (by decide) ?_
    first
    | (rw [if_neg (fun w => by rw [w] at h_11; revert h_11; decide)] at hQ
       exact z_ret (r := 0) dX5_isDrop_19 hQ (by rfl) rfl)
    | (rw [if_pos ((and1 _).resolve_left h_11)] at hQ
       exact z_ret (r := 1) dX5_isDrop_19 hQ (by rfl) rfl)
  · refine z_iconst (v := 1) dX5_isDrop_14 (by decide) ?_
    refine z_goto 19 dX5_isDrop_15 (by decide) ?_
    first
    | (rw [if_neg (fun w => by rw [w] at h_11; revert h_11; decide)] at hQ
       exact z_ret (r := 0) dX5_isDrop_19 hQ (by rfl) rfl)
    | (rw [if_pos ((and1 _).resolve_left h_11)] at hQ
       exact z_ret (r := 1) dX5_isDrop_19 hQ (by rfl) rfl)
theorem c_lawOf0 (hQ : Qf 2 c) : zCl l E ad mX4_lawOf d [.ref (ad 1), .int 0] c Qf := by
  refine z_enter (own := RX4) [some (.ref (ad 1)), some (.int 0)] (by decide +kernel) rfl ⟨_, rfl⟩ rfl (Nat.le_of_ble_eq_true rfl) ?_
  refine z_iload_n (i := 1) dX4_lawOf_0 rfl rfl ?_
  refine z_if_ne 11 dX4_lawOf_1 (by decide) (fun h_1 => ?_) (fun h_1 => ?_)
  · exact absurd rfl h_1
  refine z_aload_n (i := 0) dX4_lawOf_4 rfl rfl ?_
  refine z_getf dX4_lawOf_5 f_X4_14 (by first | decide | assumption | omega) rfl (by rfl) ?_
  refine z_goto 15 dX4_lawOf_8 (by decide) ?_
  exact z_ret (r := 2) dX4_lawOf_15 hQ trivial rfl
theorem c_lawOf1 (hQ : Qf 5 c) : zCl l E ad mX4_lawOf d [.ref (ad 1), .int 1] c Qf := by
  refine z_enter (own := RX4) [some (.ref (ad 1)), some (.int 1)] (by decide +kernel) rfl ⟨_, rfl⟩ rfl (Nat.le_of_ble_eq_true rfl) ?_
  refine z_iload_n (i := 1) dX4_lawOf_0 rfl rfl ?_
  refine z_if_ne 11 dX4_lawOf_1 (by decide) (fun h_1 => ?_) (fun h_1 => ?_)
  rotate_left
  · exfalso; revert h_1; decide
  refine z_aload_n (i := 0) dX4_lawOf_11 rfl rfl ?_
  refine z_getf dX4_lawOf_12 f_X4_20 (by first | decide | assumption | omega) rfl (by rfl) ?_
  exact z_ret (r := 5) dX4_lawOf_15 hQ trivial rfl
end SB
