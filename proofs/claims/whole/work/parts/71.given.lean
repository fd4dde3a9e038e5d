/-! what the Statement gives of the start -/
section GV
variable {args : Array Value} {s : State} {A : Nat → Prop}
def tmS (i : Nat) : Term := .string "AnswerPass$Reader" (if i = 0 then 25 else if i = 1 then 34 else 36)
theorem gv_above (hs : ∀ c ∈ flatC (Jvm.Cond.and given_1 narrow_1), c.before args s = true) (hA : ∀ a, a < s.heap.size → ¬ A a) : ∃ t : Nat, (Term.static "AnswerPass" "ABOVE" "[I").eval args s none [] s = some (.ref t) ∧ va_T .int t 7 (fun j => .int (zAbove.getD j 0)) A s s.heap := by
  refine va_Tof (by decide) (hs _ (by decide +kernel)) (va_eqt (hs _ (by decide +kernel))) (fun j hj => ?_) hA
  rcases (show j = 0 ∨ j = 1 ∨ j = 2 ∨ j = 3 ∨ j = 4 ∨ j = 5 ∨ j = 6 by omega) with rfl | rfl | rfl | rfl | rfl | rfl | rfl <;> exact va_eqt (hs _ (by decide +kernel))
theorem gv_bodies (hs : ∀ c ∈ flatC (Jvm.Cond.and given_1 narrow_1), c.before args s = true) (hA : ∀ a, a < s.heap.size → ¬ A a) : ∃ t : Nat, (Term.static "AnswerPass$Voices" "BODIES" "[I").eval args s none [] s = some (.ref t) ∧ va_T .int t 28 (fun j => .int (zBodies.getD j 0)) A s s.heap := by
  refine va_Tof (by decide) (hs _ (by decide +kernel)) (va_eqt (hs _ (by decide +kernel))) (fun j hj => ?_) hA
  rcases (show j = 0 ∨ j = 1 ∨ j = 2 ∨ j = 3 ∨ j = 4 ∨ j = 5 ∨ j = 6 ∨ j = 7 ∨ j = 8 ∨ j = 9 ∨ j = 10 ∨ j = 11 ∨ j = 12 ∨ j = 13 ∨ j = 14 ∨ j = 15 ∨ j = 16 ∨ j = 17 ∨ j = 18 ∨ j = 19 ∨ j = 20 ∨ j = 21 ∨ j = 22 ∨ j = 23 ∨ j = 24 ∨ j = 25 ∨ j = 26 ∨ j = 27 by omega) with rfl | rfl | rfl | rfl | rfl | rfl | rfl | rfl | rfl | rfl | rfl | rfl | rfl | rfl | rfl | rfl | rfl | rfl | rfl | rfl | rfl | rfl | rfl | rfl | rfl | rfl | rfl | rfl <;> exact va_eqt (hs _ (by decide +kernel))
theorem gv_strings (hs : ∀ c ∈ flatC (Jvm.Cond.and given_1 narrow_1), c.before args s = true) (hA : ∀ a, a < s.heap.size → ¬ A a) : ∃ adK adV : Nat → Nat, vk_S 3 [0, 3, 3] [[], [99, 115, 104], [99, 109, 107]] adK adV A s s.heap ∧ ∀ i : Nat, i < 3 → (tmS i).eval args s none [] s = some (.ref (adK i)) := by
  refine vk_Sof (fun i hi => ?_) (fun i hi => ?_) (fun i hi => ?_) (fun i hi => ?_) (fun i hi => ?_) (fun i hi j hj => ?_) (fun i j hi hj hij => ?_) hA
  · rcases (show i = 0 ∨ i = 1 ∨ i = 2 by omega) with rfl | rfl | rfl <;> decide
  · rcases (show i = 0 ∨ i = 1 ∨ i = 2 by omega) with rfl | rfl | rfl <;> exact hs _ (by decide +kernel)
  · rcases (show i = 0 ∨ i = 1 ∨ i = 2 by omega) with rfl | rfl | rfl <;> exact hs _ (by decide +kernel)
  · rcases (show i = 0 ∨ i = 1 ∨ i = 2 by omega) with rfl | rfl | rfl <;> exact hs _ (by decide +kernel)
  · rcases (show i = 0 ∨ i = 1 ∨ i = 2 by omega) with rfl | rfl | rfl <;> exact hs _ (by decide +kernel)
  · rcases (show i = 0 ∨ i = 1 ∨ i = 2 by omega) with rfl | rfl | rfl
    · exact absurd (show j < 0 from hj) (by omega)
    · rcases (show j = 0 ∨ j = 1 ∨ j = 2 by have : j < 3 := hj; omega) with rfl | rfl | rfl <;> exact hs _ (by decide +kernel)
    · rcases (show j = 0 ∨ j = 1 ∨ j = 2 by have : j < 3 := hj; omega) with rfl | rfl | rfl <;> exact hs _ (by decide +kernel)
  · rcases (show (i = 0 ∧ j = 1) ∨ (i = 0 ∧ j = 2) ∨ (i = 1 ∧ j = 2) ∨ (i = 1 ∧ j = 0) ∨ (i = 2 ∧ j = 0) ∨ (i = 2 ∧ j = 1) by omega) with ⟨rfl, rfl⟩ | ⟨rfl, rfl⟩ | ⟨rfl, rfl⟩ | ⟨rfl, rfl⟩ | ⟨rfl, rfl⟩ | ⟨rfl, rfl⟩
    · exact Or.inl (hs _ (by decide +kernel))
    · exact Or.inl (hs _ (by decide +kernel))
    · exact Or.inl (hs _ (by decide +kernel))
    · exact Or.inr (hs _ (by decide +kernel))
    · exact Or.inr (hs _ (by decide +kernel))
    · exact Or.inr (hs _ (by decide +kernel))
theorem gv_compact (hs : ∀ c ∈ flatC (Jvm.Cond.and given_1 narrow_1), c.before args s = true) : (Term.static "java/lang/String" "COMPACT_STRINGS" "Z").eval args s none [] s = some (.int 1) := va_eqi (hs _ (by decide +kernel))
end GV
/-! the store at the start -/
def c00 : zS := fun k => if k = 1 then upd (fun _ => 0) 7 1 else if k = 16 then upd (fun _ => 0) 7 1 else if k = 5 then upd (fun _ => 0) 0 1 else if k = 20 then upd (fun _ => 0) 0 1 else if k = 52 then upd (fun _ => 0) 2 1 else fun _ => 0
theorem RX00 : RX c00 (mst c00) := by
  have m0 : (mst c00).1 (38 + 125 * 0) = 0 := by decide +kernel
  have m1 : (mst c00).1 (38 + 125 * 1) = 0 := by decide +kernel
  have hp : pn 0 = 0 := by decide
  refine ⟨⟨0, 0, 0, ⟨⟨by decide +kernel, by decide +kernel, by decide +kernel, fun i h => absurd h (by omega)⟩, ⟨by decide +kernel, by decide +kernel, fun i h => ?_⟩, ⟨by decide +kernel, by decide +kernel, fun i h => ?_⟩, by decide +kernel, by decide +kernel, by decide +kernel, fun i h => absurd h (by omega), fun i h => absurd h (by omega)⟩, ⟨⟨by decide +kernel, by omega, hw_u m0, hw_u m1⟩, by decide +kernel, by omega, by decide +kernel, by omega, fun i h => absurd h (by omega), fun i h => absurd h (by omega), ⟨0, by omega, by decide +kernel⟩, fun i h => absurd h (by omega), hst_u m0, hst_u m1⟩⟩, by decide +kernel, fun h => absurd (show (mst c00).2.2.2.1 = 0 by decide +kernel) h, ⟨by decide +kernel, by decide +kernel⟩, rfl, ⟨by decide +kernel, rfl, 0, by omega, by decide +kernel⟩, fun j hj => ⟨rfl, Or.inl rfl, rfl, 0, by omega, by rw [nI_0]; rfl, fun i h => absurd h (by omega)⟩⟩
  · rw [m0, hp] at h; exact absurd h (by omega)
  · rw [m1, hp] at h; exact absurd h (by omega)
