/-! the class: bytes for the tape -/
theorem by_eq (w : Int64) : ∀ k, k < 8 → (((w.toUInt64 >>> ((8 * nI k).toInt64.toUInt64 &&& Int64.toUInt64 63)).toInt64).toInt32 &&& 255) = ((w >>> ((8 * nI k).toInt64 &&& 63)) &&& 255).toInt32 := by
  intro k hk
  have L : (((w.toUInt64 >>> ((8 * nI k).toInt64.toUInt64 &&& Int64.toUInt64 63)).toInt64).toInt32 &&& 255).toBitVec = ((w.toBitVec >>> (8 * k)).signExtend 32) &&& 255#32 := by
    rcases (show k = 0 ∨ k = 1 ∨ k = 2 ∨ k = 3 ∨ k = 4 ∨ k = 5 ∨ k = 6 ∨ k = 7 by omega) with rfl | rfl | rfl | rfl | rfl | rfl | rfl | rfl <;> rfl
  have R : (((w >>> ((8 * nI k).toInt64 &&& 63)) &&& 255).toInt32).toBitVec = ((w.toBitVec.sshiftRight (8 * k)) &&& 255#64).signExtend 32 := by
    rcases (show k = 0 ∨ k = 1 ∨ k = 2 ∨ k = 3 ∨ k = 4 ∨ k = 5 ∨ k = 6 ∨ k = 7 by omega) with rfl | rfl | rfl | rfl | rfl | rfl | rfl | rfl <;> rfl
  rw [← Int32.toBitVec_inj, L, R]
  have a32 : ∀ i, i < 32 → (255#32).getLsbD i = decide (i < 8) := by decide
  have a64 : ∀ i, i < 32 → (255#64).getLsbD i = decide (i < 8) := by decide
  apply BitVec.eq_of_getLsbD_eq
  intro i hi
  rw [BitVec.getLsbD_and, a32 i hi, BitVec.getLsbD_signExtend, BitVec.getLsbD_signExtend, if_pos (by omega), if_pos (by omega), BitVec.getLsbD_and, a64 i hi, BitVec.getLsbD_ushiftRight, BitVec.getLsbD_sshiftRight]
  by_cases h8 : i < 8
  · rw [if_pos (by omega)]
    simp [hi, h8]
    intro _
    omega
  · simp [h8]
theorem by_255 (w : Int64) (k : Nat) (hk : k < 8) : ∃ b : Nat, b < 256 ∧ ((w >>> ((8 * nI k).toInt64 &&& 63)) &&& 255).toInt32 = nI b := by
  rw [← by_eq w k hk]
  generalize ((w.toUInt64 >>> ((8 * nI k).toInt64.toUInt64 &&& Int64.toUInt64 63)).toInt64).toInt32 = y
  have h : (y &&& 255).toBitVec.toNat = y.toBitVec.toNat % 256 := by
    rw [Int32.toBitVec_and, BitVec.toNat_and]
    exact Nat.and_two_pow_sub_one_eq_mod _ 8
  refine ⟨y.toBitVec.toNat % 256, Nat.mod_lt _ (by decide), ?_⟩
  apply Int32.toBitVec_inj.mp
  apply BitVec.eq_of_toNat_eq
  rw [h]
  show _ = (BitVec.ofInt 32 ((y.toBitVec.toNat % 256 : Nat) : Int)).toNat
  rw [BitVec.ofInt_natCast, BitVec.toNat_ofNat]
  have := Nat.mod_lt y.toBitVec.toNat (show 256 > 0 by decide)
  omega
theorem fd_3 {w : Int64} {f : zN} {t : Nat} (h3 : f 3 = nI t) : ∀ i, fdN w i f 3 = nI (t + i)
  | 0 => h3
  | i + 1 => by
    rw [show fdN w (i + 1) f = upd (upd (fdN w i f) (288 + pn (fdN w i f 3)) (((w >>> ((8 * nI i).toInt64 &&& 63)) &&& 255).toInt32)) 3 (fdN w i f 3 + 1) from rfl, pk_us, fd_3 h3 i, nI_1]
    rfl
theorem fd_un {w : Int64} {f : zN} {t : Nat} (h3 : f 3 = nI t) (ht : t ≤ 60) {k : Nat} (hk : k ≠ 3) (hk2 : k < 288 + t ∨ 348 ≤ k) : ∀ i, t + i ≤ 60 → fdN w i f k = f k
  | 0, _ => rfl
  | i + 1, hi => by
    rw [show fdN w (i + 1) f = upd (upd (fdN w i f) (288 + pn (fdN w i f 3)) (((w >>> ((8 * nI i).toInt64 &&& 63)) &&& 255).toInt32)) 3 (fdN w i f 3 + 1) from rfl, pk_un hk, fd_3 h3 i, pn_nI (by omega), pk_un (by omega)]
    exact fd_un h3 ht hk hk2 i (by omega)
/-- bytes of the tape -/
theorem fd_by {w : Int64} {f : zN} {t : Nat} (h3 : f 3 = nI t) (hb : ∀ j, j < t → ∃ b : Nat, b < 256 ∧ f (288 + j) = nI b) : ∀ i, i ≤ 8 → t + i ≤ 60 → ∀ j, j < t + i → ∃ b : Nat, b < 256 ∧ fdN w i f (288 + j) = nI b
  | 0, _, _ => hb
  | i + 1, h8, hi => by
    intro j hj
    rw [show fdN w (i + 1) f = upd (upd (fdN w i f) (288 + pn (fdN w i f 3)) (((w >>> ((8 * nI i).toInt64 &&& 63)) &&& 255).toInt32)) 3 (fdN w i f 3 + 1) from rfl, pk_un (by omega), fd_3 h3 i, pn_nI (by omega)]
    by_cases e : j = t + i
    · subst e
      rw [pk_us]
      exact by_255 w i (by omega)
    · rw [pk_un (by omega)]
      exact fd_by h3 hb i (by omega) (by omega) j (by omega)
section TB
variable {l : Launch} {E : zE} {ad : Nat → Nat} {c : zS} {Qf : Int32 → zS → Prop} {d n : Nat}
theorem s_takesBytes {w : Int64} {m t : Nat} {f : zN} (h4 : c 1 4 = f 3) (h3 : f 3 = nI t) (hA : ∀ i, i < t → c 14 i = f (288 + i)) (hm : m ≤ 8) (ht : t + m ≤ 60) (hQ : ∀ c', c' 1 4 = fdN w m f 3 → (∀ i, i < t + m → c' 14 i = fdN w m f (288 + i)) → (∀ k, k ≠ 1 → k ≠ 14 → c' k = c k) → (∀ i, i ≠ 4 → c' 1 i = c 1 i) → Qf 0 c') : zCl l E ad mX4_takesBytes d [.ref (ad 1), .long w, .int (nI m)] c Qf := by
  refine z_enter (own := RX4) [some (.ref (ad 1)), some (.long w), none, some (.int (nI m)), none] (by decide +kernel) rfl rfl rfl (Nat.le_of_ble_eq_true rfl) ?_
  have loop : ∀ (r i : Nat) (c1 : zS), m - i < r → i ≤ m → c1 1 4 = nI (t + i) → (∀ j, j < t + i → c1 14 j = fdN w i f (288 + j)) → (∀ k, k ≠ 1 → k ≠ 14 → c1 k = c k) → (∀ i, i ≠ 4 → c1 1 i = c 1 i) → zW l E ad RX4 cX4_takesBytes 5 0 d Qf 3 [some (.ref (ad 1)), some (.long w), none, some (.int (nI m)), some (.int (nI i))] [] c1 := by
    intro r
    induction r with
    | zero => intro i c1 q; omega
    | succ r ih =>
      intro i c1 hr hi e4 eA hf hf1
      have hlt := nI_leI (a := m) (b := i) (by omega) (by omega)
      have h60 := nI_leI (a := 60) (b := t + i) (by omega) (by omega)
      refine z_iload (i := 4) dX4_takesBytes_3 rfl ?_
      refine z_iload_n (i := 3) dX4_takesBytes_5 rfl rfl ?_
      refine z_icmp_ge 55 dX4_takesBytes_6 (by decide) (fun h_6 => ?_) (fun h_6 => ?_)
      · first
        | (have him : i = m := by have := hlt.mp h_6; omega
           subst him
           exact z_ret (r := 0) dX4_takesBytes_55 (hQ c1 (by rw [e4, fd_3 h3]) eA hf hf1) rfl rfl)
      · have him : i < m := by have := mt hlt.mpr h_6; omega
        refine z_aload_n (i := 0) dX4_takesBytes_9 rfl rfl ?_
        refine z_getf dX4_takesBytes_10 f_X4_36 (by first | decide | assumption | omega) rfl (by rfl) ?_
        refine z_bipush (v := 60) dX4_takesBytes_13 (by decide) ?_
        refine z_icmp_ge 55 dX4_takesBytes_15 (by decide) (fun h_15 => ?_) (fun h_15 => ?_)
        · exfalso; rw [e4] at h_15; have := h60.mp h_15; omega
        refine z_aload_n (i := 0) dX4_takesBytes_18 rfl rfl ?_
        refine z_getf dX4_takesBytes_19 f_X4_32 (by first | decide | assumption | omega) rfl (by rfl) ?_
        refine z_aload_n (i := 0) dX4_takesBytes_22 rfl rfl ?_
        refine z_getf dX4_takesBytes_23 f_X4_36 (by first | decide | assumption | omega) rfl (by rfl) ?_
        rw [e4]
        refine z_lload_n (i := 1) dX4_takesBytes_26 rfl rfl ?_
        refine z_bipush (v := 8) dX4_takesBytes_27 (by decide) ?_
        refine z_iload (i := 4) dX4_takesBytes_29 rfl ?_
        refine z_imul dX4_takesBytes_31 ?_
        refine z_lushr dX4_takesBytes_32 ?_
        refine z_l2i dX4_takesBytes_33 ?_
        refine z_sipush (v := 255) dX4_takesBytes_34 (by decide) ?_
        refine z_iand dX4_takesBytes_37 ?_
        rw [by_eq w i (by omega)]
        refine z_iast (j := t + i) dX4_takesBytes_38 (by first | decide | assumption | omega) (fun _ => rfl) (by rfl) (by first | decide | omega) (by first | decide | omega) ?_
        refine z_aload_n (i := 0) dX4_takesBytes_39 rfl rfl ?_
        refine z_dup dX4_takesBytes_40 rfl ?_
        refine z_getf dX4_takesBytes_41 f_X4_36 (by first | decide | assumption | omega) rfl (by rfl) ?_
        refine z_iconst (v := 1) dX4_takesBytes_44 (by decide) ?_
        refine z_iadd dX4_takesBytes_45 ?_
        refine z_putfi dX4_takesBytes_46 f_X4_36 fp_X4_4 (by first | decide | assumption | omega) rfl (by exact Nat.le_of_ble_eq_true rfl) rfl ?_
        refine z_iinc (i := 4) (v := 1) [_, _, _, _, _] dX4_takesBytes_49 rfl (by decide) (by decide) rfl rfl ?_
        refine z_goto 3 dX4_takesBytes_52 (by decide) ?_
        rw [nI_1]
        refine ih (i + 1) _ (by omega) (by omega) ?_ (fun j hj => ?_) (fun k a b => by rw [zup_n a, zup_n b]; exact hf k a b) (fun j a => by rw [zup_s, pk_un a]; exact hf1 j a)
        · rw [zup_s, pk_us]
          show c1 1 4 + 1 = _
          rw [e4, nI_1]
          rfl
        · rw [zup_n (by decide), zup_s, show fdN w (i + 1) f = upd (upd (fdN w i f) (288 + pn (fdN w i f 3)) (((w >>> ((8 * nI i).toInt64 &&& 63)) &&& 255).toInt32)) 3 (fdN w i f 3 + 1) from rfl, pk_un (show 288 + j ≠ 3 by omega), fd_3 h3 i, pn_nI (by omega)]
          by_cases q : j = t + i
          · subst q
            rw [pk_us, pk_us]
          · rw [pk_un q, pk_un (show 288 + j ≠ 288 + (t + i) by omega)]
            exact eA j (by omega)
  refine z_iconst (v := 0) dX4_takesBytes_0 (by decide) ?_
  refine z_istore (i := 4) [_, _, _, _, _] dX4_takesBytes_1 (by decide) rfl rfl ?_
  exact loop (m + 1) 0 c (by omega) (by omega) (h4.trans h3) hA (fun _ _ _ => rfl) (fun _ _ => rfl)
end TB
