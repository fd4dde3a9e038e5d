/-! the steps of a TEXT: what they may be -/
def okS (u : Nat) (w v : Int32) : Prop := (w = 0 ∧ ∃ a : Nat, a ≤ 9999 ∧ v = nI a) ∨ (w = 1 ∧ nmB u v) ∨ (w = 2 ∧ v = 0) ∨ (w = 3 ∧ rkF v < 9)
def okQ (u : Nat) (q : pS) : Prop := ∀ k, k < q.2.1 → okS u (q.2.2 (2 * k)) (q.2.2 (2 * k + 1))
theorem okQ_stp {u : Nat} {w v : Int32} {q : pS} (h : okQ u q) (hv : okS u w v) : okQ u (stp w v q) := by
  intro k hk
  unfold stp upd at *
  dsimp only at *
  by_cases e : k = q.2.1
  · subst e
    rw [if_neg (by omega), if_pos (by omega), if_pos (by omega)]
    exact hv
  · rw [if_neg (by omega), if_neg (by omega), if_neg (by omega), if_neg (by omega)]
    exact h k (by omega)
theorem nb_st {lk : Nat → Int32} {u : Nat} : ∀ {k a : Nat} {q : pS}, (a + 1) * 10 ^ k ≤ 10000 → okQ u q → okQ u (nbF lk k (nI a) q)
  | 0, a, q, h, hw => by
    unfold nbF
    exact okQ_stp hw (Or.inl ⟨rfl, a, by omega, rfl⟩)
  | k + 1, a, q, h, hw => by
    have h1 : 1 ≤ 10 ^ k := Nat.one_le_pow _ _ (by omega)
    have ha : a ≤ 9999 := by
      have := Nat.mul_le_mul_left (a + 1) (show 1 ≤ 10 ^ (k + 1) from Nat.one_le_pow _ _ (by omega))
      omega
    unfold nbF
    split
    · next hd =>
      obtain ⟨b, hb, eb⟩ := zj_of (x := lk q.1) (n := 58) (by have := hd.1; grind) (by show lk q.1 < (58 : Int32); have := hd.2; grind) (by decide)
      rw [eb] at hd ⊢
      have h48 := (nI_leI (a := 48) (b := b) (by omega) (by omega)).mp hd.1
      have e : 10 * nI a + nI b - 48 = nI (10 * a + (b - 48)) := by
        have e1 : (10 : Int32) * nI a + nI b = nI (10 * a + (b - 48)) + 48 := by
          show nI 10 * nI a + nI b = nI (10 * a + (b - 48)) + nI 48
          rw [pk_mul, nI_add, nI_add]
          congr 1
          omega
        rw [e1]
        grind
      rw [e]
      refine nb_st (q := adv q) (Nat.le_trans ?_ h) hw
      rw [Nat.pow_succ, Nat.mul_comm (10 ^ k) 10, ← Nat.mul_assoc]
      exact Nat.mul_le_mul_right _ (by omega)
    · exact okQ_stp hw (Or.inl ⟨rfl, a, ha, rfl⟩)
theorem pr_st {lk : Nat → Int32} {u : Nat} : ∀ (f r o : Nat) (q : pS), r ≤ 14 → okQ u q → okQ u (prF lk u f r o q).2
  | 0, r, o, q, _, hw => hw
  | f + 1, r, o, q, hr, hw => by
    have ih := pr_st (lk := lk) (u := u) f
    unfold prF
    by_cases r5 : r < 5
    · rw [if_pos r5]
      have i1 := ih (r + 1) o q (by omega) hw
      split
      · exact ih (10 + r) o _ (by omega) i1
      · exact i1
    · rw [if_neg r5]
      by_cases r6 : r = 5
      · rw [if_pos r6]
        split
        · next hn => exact okQ_stp (q := adv q) hw (Or.inr (Or.inl ⟨rfl, hn⟩))
        · split
          · exact nb_st (a := 0) (k := 4) (by omega) hw
          · split
            · have i1 := ih 5 (o + 1) (adv q) (by omega) hw
              split
              · exact hw
              · split
                · exact okQ_stp i1 (Or.inr (Or.inr (Or.inl ⟨rfl, rfl⟩)))
                · exact i1
            · split
              · have i1 := ih 0 (o + 1) (adv q) (by omega) hw
                split
                · exact hw
                · split
                  · split
                    · exact i1
                    · exact i1
                  · exact i1
              · exact hw
      · rw [if_neg r6]
        split
        · next hn =>
          have i1 := ih (r - 9) o (adv q) (by omega) hw
          split
          · have i3 : okQ u (stp 3 (lk q.1) (prF lk u f (r - 9) o (adv q)).2) := okQ_stp i1 (Or.inr (Or.inr (Or.inr ⟨rfl, by omega⟩)))
            split
            · exact i3
            · exact ih r o _ hr i3
          · exact i1
        · exact hw
/-- the steps in the row -/
def stG (f : zN) (u : Nat) : Prop := ∀ k, k < pn (f (38 + 125 * u)) → okS u (f (38 + 125 * u + 1 + 2 * k)) (f (38 + 125 * u + 2 + 2 * k))
theorem tx_st {f : zN} {u : Nat} : ∀ k, k < (txR f u).2.2.1 → okS u ((txR f u).2.2.2 (2 * k)) ((txR f u).2.2.2 (2 * k + 1)) := by
  exact pr_st (lk := lkF (fun i => f (288 + i)) (pn (f 3))) (u := u) 500 0 0 (0, 0, fun _ => 0) (by omega) (fun k hk => absurd hk (Nat.not_lt_zero _))
/-- the code in which the class keeps a step -/
def enc (u : Nat) (w v : Int32) : Int32 := if w = 0 then v else if w = 1 then (if v = 99 then 10000 else if v = (if u = 0 then 115 else 109) then 10001 else 10002) else if w = 2 then -33 else -v
