/-! the reader of TEXTS, as a function: (place, steps, the steps) -/
abbrev pS : Type := Nat × Nat × zN
def stp (w v : Int32) (q : pS) : pS := (q.1, q.2.1 + 1, upd (upd q.2.2 (2 * q.2.1) w) (2 * q.2.1 + 1) v)
def adv (q : pS) : pS := (q.1 + 1, q.2)
def lkF (tp : zN) (len i : Nat) : Int32 := if i < len then tp i else -1
def rkF (b : Int32) : Nat := if b = 124 then 0 else if b = 38 then 1 else if b = 60 ∨ b = 61 ∨ b = 62 then 2 else if b = 43 ∨ b = 45 then 3 else if b = 42 ∨ b = 47 ∨ b = 37 then 4 else 9
abbrev nmB (u : Nat) (b : Int32) : Prop := b = 99 ∨ b = (if u = 0 then 115 else 109) ∨ b = (if u = 0 then 104 else 107)
def nbF (lk : Nat → Int32) : Nat → Int32 → pS → pS
  | 0, v, q => stp 0 v q
  | k + 1, v, q => if 48 ≤ lk q.1 ∧ lk q.1 ≤ 57 then nbF lk k (10 * v + lk q.1 - 48) (adv q) else stp 0 v q
/-- mode 0 to 4: parts joined by the signs of a rank; 5: a unit; from 10 on: what follows the first part -/
def prF (lk : Nat → Int32) (u : Nat) : Nat → Nat → Nat → pS → Bool × pS
  | 0, _, _, q => (false, q)
  | f + 1, r, o, q =>
    if r < 5 then (if (prF lk u f (r + 1) o q).1 = true then prF lk u f (10 + r) o (prF lk u f (r + 1) o q).2 else prF lk u f (r + 1) o q)
    else if r = 5 then (
      if nmB u (lk q.1) then (true, stp 1 (lk q.1) (adv q))
      else if 48 ≤ lk q.1 ∧ lk q.1 ≤ 57 then (true, nbF lk 4 0 q)
      else if lk q.1 = 33 then (if o = 5 then (false, q) else if (prF lk u f 5 (o + 1) (adv q)).1 = true then (true, stp 2 0 (prF lk u f 5 (o + 1) (adv q)).2) else prF lk u f 5 (o + 1) (adv q))
      else if lk q.1 = 40 then (if o = 5 then (false, q) else if (prF lk u f 0 (o + 1) (adv q)).1 = true then (if lk (prF lk u f 0 (o + 1) (adv q)).2.1 = 41 then (true, adv (prF lk u f 0 (o + 1) (adv q)).2) else (false, (prF lk u f 0 (o + 1) (adv q)).2)) else prF lk u f 0 (o + 1) (adv q))
      else (false, q))
    else if rkF (lk q.1) = r - 10 then (if (prF lk u f (r - 9) o (adv q)).1 = true then (if r = 12 then (true, stp 3 (lk q.1) (prF lk u f (r - 9) o (adv q)).2) else prF lk u f r o (stp 3 (lk q.1) (prF lk u f (r - 9) o (adv q)).2)) else prF lk u f (r - 9) o (adv q))
    else (true, q)
theorem lk_lt {tp : zN} {len i : Nat} (h : ¬ lkF tp len i = -1) : i < len := by
  unfold lkF at h
  split at h
  · assumption
  · exact absurd rfl h
theorem rk_lt {tp : zN} {len i r : Nat} (h : rkF (lkF tp len i) = r) (hr : r < 9) : i < len := by
  refine lk_lt (tp := tp) (fun q => ?_)
  rw [q] at h
  have : rkF (-1) = 9 := by decide
  omega
/-- p places on, n steps more -/
abbrev gO (len : Nat) (q a : pS) : Prop := q.1 ≤ a.1 ∧ a.1 ≤ len ∧ q.2.1 ≤ a.2.1 ∧ a.2.1 + q.1 ≤ a.1 + q.2.1
theorem nb_ok {tp : zN} {len : Nat} : ∀ {k : Nat} {v : Int32} {q q0 : pS}, q0.1 + 1 ≤ q.1 → q.1 ≤ len → q.2.1 = q0.2.1 → gO len q0 (nbF (lkF tp len) k v q)
  | 0, v, q, q0, h1, h2, h3 => by
    unfold nbF stp
    unfold gO
    dsimp only
    omega
  | k + 1, v, q, q0, h1, h2, h3 => by
    unfold nbF
    split
    · next h =>
      have := lk_lt (tp := tp) (len := len) (i := q.1) (fun e => by rw [e] at h; exact absurd h.1 (by decide))
      exact nb_ok (by show q0.1 + 1 ≤ q.1 + 1; omega) (by show q.1 + 1 ≤ len; omega) h3
    · unfold stp
      unfold gO
      dsimp only
      omega
theorem pr_ok {tp : zN} {len u : Nat} : ∀ (f r o : Nat) (q : pS), q.1 ≤ len → r ≤ 14 → gO len q (prF (lkF tp len) u f r o q).2
  | 0, r, o, q, h, _ => ⟨Nat.le_refl _, h, Nat.le_refl _, Nat.le_of_eq (Nat.add_comm _ _)⟩
  | f + 1, r, o, q, h, hr => by
    have ih := pr_ok (tp := tp) (len := len) (u := u) f
    unfold prF
    by_cases r5 : r < 5
    · rw [if_pos r5]
      have i1 := ih (r + 1) o q h (by omega)
      split
      · have i2 := ih (10 + r) o (prF (lkF tp len) u f (r + 1) o q).2 i1.2.1 (by omega)
        unfold gO at *
        omega
      · exact i1
    · rw [if_neg r5]
      by_cases r6 : r = 5
      · rw [if_pos r6]
        split
        · next hn =>
          have hp := lk_lt (tp := tp) (len := len) (i := q.1) (fun e => by rw [e] at hn; revert hn; unfold nmB; split <;> decide)
          unfold gO stp adv
          dsimp only
          omega
        · split
          · next hn =>
            have hp := lk_lt (tp := tp) (len := len) (i := q.1) (fun e => by rw [e] at hn; exact absurd hn.1 (by decide))
            unfold nbF
            rw [if_pos hn]
            exact nb_ok (by show q.1 + 1 ≤ q.1 + 1; omega) (by show q.1 + 1 ≤ len; omega) rfl
          · split
            · next hn =>
              have hp := lk_lt (tp := tp) (len := len) (i := q.1) (fun e => by rw [e] at hn; exact absurd hn (by decide))
              have i1 := ih 5 (o + 1) (adv q) (by show q.1 + 1 ≤ len; omega) (by omega)
              unfold gO at *
              unfold adv at i1 ⊢
              dsimp only at i1 ⊢
              split
              · dsimp only; omega
              · split
                · unfold stp; dsimp only; omega
                · omega
            · split
              · next hn =>
                have hp := lk_lt (tp := tp) (len := len) (i := q.1) (fun e => by rw [e] at hn; exact absurd hn (by decide))
                have i1 := ih 0 (o + 1) (adv q) (by show q.1 + 1 ≤ len; omega) (by omega)
                split
                · unfold gO; dsimp only; omega
                · split
                  · split
                    · next h41 =>
                      have hp2 := lk_lt (tp := tp) (len := len) (fun e => by rw [e] at h41; exact absurd h41 (by decide))
                      unfold gO at *
                      unfold adv at i1 hp2 ⊢
                      dsimp only at i1 hp2 ⊢
                      omega
                    · unfold gO at *
                      unfold adv at i1 ⊢
                      dsimp only at i1 ⊢
                      omega
                  · unfold gO at *
                    unfold adv at i1 ⊢
                    dsimp only at i1 ⊢
                    omega
              · unfold gO; dsimp only; omega
      · rw [if_neg r6]
        split
        · next hn =>
          have hp := rk_lt hn (by omega)
          have i1 := ih (r - 9) o (adv q) (by show q.1 + 1 ≤ len; omega) (by omega)
          split
          · split
            · unfold gO at *
              unfold adv at i1 ⊢
              unfold stp
              dsimp only at i1 ⊢
              omega
            · have i2 := ih r o (stp 3 (lkF tp len q.1) (prF (lkF tp len) u f (r - 9) o (adv q)).2) i1.2.1 hr
              unfold gO at *
              unfold stp at i2 ⊢
              unfold adv at i1 i2 ⊢
              dsimp only at i1 i2 ⊢
              omega
          · unfold gO at *
            unfold adv at i1 ⊢
            dsimp only at i1 ⊢
            omega
        · exact ⟨Nat.le_refl _, h, Nat.le_refl _, Nat.le_of_eq (Nat.add_comm _ _)⟩
/-- how many numbers the steps leave, and that their names are the USE's -/
def dpQ (q : pS) : Option Nat := dpR (fun i => q.2.2 (i - 1)) 0 q.2.1
def wnQ (u : Nat) (q : pS) : Prop := ∀ k, k < q.2.1 → q.2.2 (2 * k) = 1 → nmB u (q.2.2 (2 * k + 1))
theorem dpR_cg {f f' : zN} {b b' : Nat} : ∀ {n : Nat}, (∀ k, k < n → f (b + 1 + 2 * k) = f' (b' + 1 + 2 * k) ∧ f (b + 2 + 2 * k) = f' (b' + 2 + 2 * k)) → dpR f b n = dpR f' b' n
  | 0, _ => rfl
  | n + 1, h => by
    unfold dpR
    rw [dpR_cg (n := n) (fun k hk => h k (by omega)), (h n (by omega)).1, (h n (by omega)).2]
theorem dpR_n {f : zN} {b : Nat} : ∀ {k m : Nat}, dpR f b k = some m → m ≤ k
  | 0, m, h => by
    simp only [dpR, Option.some.injEq] at h
    omega
  | k + 1, m, h => by
    simp only [dpR] at h
    cases hk : dpR f b k with
    | none => rw [hk] at h; simp at h
    | some j =>
      rw [hk, Option.bind_some] at h
      have ih := dpR_n hk
      simp only [dpS] at h
      grind
theorem dpQ_stp {w v : Int32} {q : pS} : dpQ (stp w v q) = (dpQ q).bind (dpS w v) := by
  unfold dpQ stp
  dsimp only
  rw [dpR]
  congr 1
  · exact dpR_cg (fun k hk => by
      unfold upd
      constructor <;> rw [if_neg (by omega), if_neg (by omega)])
  · unfold upd
    rw [if_neg (by omega), if_pos (by omega), if_pos (by omega)]
theorem wnQ_stp {u : Nat} {w v : Int32} {q : pS} (h : wnQ u q) (hv : w = 1 → nmB u v) : wnQ u (stp w v q) := by
  intro k hk h1
  unfold stp upd at *
  dsimp only at *
  by_cases e : k = q.2.1
  · subst e
    rw [if_neg (by omega), if_pos (by omega)] at h1
    rw [if_pos (by omega)]
    exact hv h1
  · rw [if_neg (by omega), if_neg (by omega)] at h1
    rw [if_neg (by omega), if_neg (by omega)]
    exact h k (by omega) h1
theorem nm_in {u : Nat} {v : Int32} (h : nmB u v) : 0 ≤ v ∧ v < 128 := by
  unfold nmB at h
  split at h <;> rcases h with rfl | rfl | rfl <;> decide
theorem nb_dp {lk : Nat → Int32} {u m : Nat} : ∀ {k : Nat} {v : Int32} {q : pS}, dpQ q = some m → m < 60 → wnQ u q → dpQ (nbF lk k v q) = some (m + 1) ∧ wnQ u (nbF lk k v q)
  | 0, v, q, h, hm, hw => by
    unfold nbF
    refine ⟨?_, wnQ_stp hw (fun e => absurd e (by decide))⟩
    rw [dpQ_stp, h]
    simp [dpS, hm]
  | k + 1, v, q, h, hm, hw => by
    unfold nbF
    split
    · exact nb_dp (q := adv q) h hm hw
    · refine ⟨?_, wnQ_stp hw (fun e => absurd e (by decide))⟩
      rw [dpQ_stp, h]
      simp [dpS, hm]
theorem pr_dp {tp : zN} {len u : Nat} (hlen : len ≤ 60) : ∀ (f r o m : Nat) (q : pS), q.1 ≤ len → r ≤ 14 → q.2.1 ≤ q.1 → dpQ q = some m → wnQ u q → (r ≥ 6 → 0 < m) → (prF (lkF tp len) u f r o q).1 = true → dpQ (prF (lkF tp len) u f r o q).2 = some (if r ≥ 6 then m else m + 1) ∧ wnQ u (prF (lkF tp len) u f r o q).2
  | 0, r, o, m, q, _, _, _, _, _, _, h => by
    exact absurd h (by simp [prF])
  | f + 1, r, o, m, q, hq, hr, hn, hd, hw, hm, h => by
    have ih := pr_dp (tp := tp) (u := u) hlen f
    have ok := pr_ok (tp := tp) (len := len) (u := u) f
    have hmn : m ≤ q.2.1 := dpR_n hd
    unfold prF at h ⊢
    by_cases r5 : r < 5
    · rw [if_pos r5] at h ⊢
      rw [if_neg (show ¬ r ≥ 6 by omega)]
      have i0 := ok (r + 1) o q hq (by omega)
      have i1 := ih (r + 1) o m q hq (by omega) hn hd hw (by omega)
      rw [if_neg (show ¬ _ ≥ 6 by omega)] at i1
      split at h
      · next h1 =>
        rw [if_pos h1]
        have i1 := i1 h1
        have i2 := ih (10 + r) o (m + 1) _ i0.2.1 (by omega) (by unfold gO at i0; omega) i1.1 i1.2 (by omega) h
        rw [if_pos (show _ ≥ 6 by omega)] at i2
        exact i2
      · next h1 => exact absurd h h1
    · rw [if_neg r5] at h ⊢
      by_cases r6 : r = 5
      · rw [if_pos r6] at h ⊢
        rw [if_neg (show ¬ r ≥ 6 by omega)]
        split
        · next hn1 =>
          have hp := lk_lt (tp := tp) (len := len) (i := q.1) (fun e => by rw [e] at hn1; revert hn1; unfold nmB; split <;> decide)
          refine ⟨?_, wnQ_stp hw (fun _ => hn1)⟩
          rw [dpQ_stp, show dpQ (adv q) = some m from hd, Option.bind_some]
          unfold dpS
          rw [if_neg (by decide), if_pos rfl, if_pos ⟨by omega, nm_in hn1⟩]
        · next c1 =>
          rw [if_neg c1] at h
          split
          · next hn1 =>
            have hp := lk_lt (tp := tp) (len := len) (i := q.1) (fun e => by rw [e] at hn1; exact absurd hn1.1 (by decide))
            exact nb_dp hd (by omega) hw
          · next c2 =>
            rw [if_neg c2] at h
            split
            · next hn1 =>
              rw [if_pos hn1] at h
              have hp := lk_lt (tp := tp) (len := len) (i := q.1) (fun e => by rw [e] at hn1; exact absurd hn1 (by decide))
              split
              · next c4 => rw [if_pos c4] at h; exact absurd h Bool.false_ne_true
              · next c4 =>
                rw [if_neg c4] at h
                have i1 := ih 5 (o + 1) m (adv q) (by show q.1 + 1 ≤ len; omega) (by omega) (by show q.2.1 ≤ q.1 + 1; omega) hd hw (by omega)
                rw [if_neg (show ¬ _ ≥ 6 by omega)] at i1
                split
                · next h1 =>
                  have i1 := i1 h1
                  refine ⟨?_, wnQ_stp i1.2 (fun e => absurd e (by decide))⟩
                  rw [dpQ_stp, i1.1, Option.bind_some]
                  unfold dpS
                  rw [if_neg (by decide), if_neg (by decide), if_pos rfl, if_pos (by omega)]
                · next h1 => rw [if_neg h1] at h; exact absurd h h1
            · next c3 =>
              rw [if_neg c3] at h
              split
              · next hn1 =>
                rw [if_pos hn1] at h
                have hp := lk_lt (tp := tp) (len := len) (i := q.1) (fun e => by rw [e] at hn1; exact absurd hn1 (by decide))
                split
                · next c4 => rw [if_pos c4] at h; exact absurd h Bool.false_ne_true
                · next c4 =>
                  rw [if_neg c4] at h
                  have i1 := ih 0 (o + 1) m (adv q) (by show q.1 + 1 ≤ len; omega) (by omega) (by show q.2.1 ≤ q.1 + 1; omega) hd hw (by omega)
                  rw [if_neg (show ¬ _ ≥ 6 by omega)] at i1
                  split
                  · next h1 =>
                    rw [if_pos h1] at h
                    have i1 := i1 h1
                    split
                    · exact i1
                    · next h2 => rw [if_neg h2] at h; exact absurd h Bool.false_ne_true
                  · next h1 => rw [if_neg h1] at h; exact absurd h h1
              · next c4 => rw [if_neg c4] at h; exact absurd h Bool.false_ne_true
      · rw [if_neg r6] at h ⊢
        rw [if_pos (show r ≥ 6 by omega)]
        have hm0 := hm (by omega)
        split
        · next hn1 =>
          rw [if_pos hn1] at h
          have hp := rk_lt hn1 (by omega)
          have i0 := ok (r - 9) o (adv q) (by show q.1 + 1 ≤ len; omega) (by omega)
          have i1 := ih (r - 9) o m (adv q) (by show q.1 + 1 ≤ len; omega) (by omega) (by show q.2.1 ≤ q.1 + 1; omega) hd hw (by omega)
          rw [if_neg (show ¬ _ ≥ 6 by omega)] at i1
          split
          · next h1 =>
            rw [if_pos h1] at h
            have i1 := i1 h1
            have i3 : dpQ (stp 3 (lkF tp len q.1) (prF (lkF tp len) u f (r - 9) o (adv q)).2) = some m := by
              rw [dpQ_stp, i1.1, Option.bind_some]
              unfold dpS
              rw [if_neg (by decide), if_neg (by decide), if_neg (by decide), if_pos (by omega)]
              rfl
            have i4 : wnQ u (stp 3 (lkF tp len q.1) (prF (lkF tp len) u f (r - 9) o (adv q)).2) := wnQ_stp i1.2 (fun e => absurd e (by decide))
            split
            · exact ⟨i3, i4⟩
            · next h2 =>
              rw [if_neg h2] at h
              have i2 := ih r o m (stp 3 (lkF tp len q.1) (prF (lkF tp len) u f (r - 9) o (adv q)).2) i0.2.1 hr (by have i9 := i0; generalize (prF (lkF tp len) u f (r - 9) o (adv q)).2 = A at i9 ⊢; unfold gO adv at i9; unfold stp; dsimp only at i9 ⊢; omega) i3 i4 (fun _ => hm0) h
              rw [if_pos (show _ ≥ 6 by omega)] at i2
              exact i2
          · next h1 => rw [if_neg h1] at h; exact absurd h h1
        · exact ⟨hd, hw⟩
