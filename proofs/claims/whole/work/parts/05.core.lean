/-! THE LIGHT MACHINE: a fixed layout of 64 cells (zen), all that changes is a store of ints c : place -> slot -> Int32 (zS);
zW: from this point of a method, with locals L, stack st and store c, the method returns with Qf; zCl: a call returns with Qf.
A row an instruction (z_..), each proved once out of the kit's. -/
abbrev zS : Type := Nat → Nat → Int32
abbrev zE : Type := va_G × (ClassId × ClassId × ClassId) × (Nat × (Nat → Int32))
def zup (c : zS) (k : Nat) (f : Nat → Int32) : zS := fun j => if j = k then f else c j
theorem zup_s (c : zS) (k : Nat) (f : Nat → Int32) : zup c k f k = f := if_pos rfl
theorem zup_n {c : zS} {k j : Nat} {f : Nat → Int32} (h : j ≠ k) : zup c k f j = c j := if_neg h
abbrev zrow (cA : ClassId) (n : Nat) : (Nat → Int32) → va_E := fun f => .inl (cA, n, .inl f)
def zents (E : zE) (ad : Nat → Nat) : List ((Nat → Int32) → va_E) := [
  fun f => .inr (7, [.ref (ad 1), .ref (ad 16), .ref (ad 31), .ref (ad 33), .ref (ad 40), .ref (ad 42), .ref (ad 50), .int (f 7)]),
  fun f => .inr (4, [.ref (ad 2), .ref (ad 5), .ref (ad 8), .ref (ad 14), .int (f 4), .ref (ad 15), .int (f 6), .int (f 7)]),
  fun f => .inr (0, [.int (f 0), .ref (ad 3), .ref (ad 4), .int (f 3)]), zrow E.2.1.1 60, zrow E.2.1.1 60,
  fun f => .inr (0, [.int (f 0), .ref (ad 6), .ref (ad 7), .int (f 3)]), zrow E.2.1.1 60, zrow E.2.1.1 60,
  fun f => .inr (1, [.ref (ad 2), .ref (ad 5), .ref (ad 9), .ref (ad 10), .ref (ad 11), .ref (ad 12), .ref (ad 13), .int (f 7), .int (f 8), .int (f 9)]),
  zrow E.2.1.1 6, zrow E.2.1.1 6, zrow E.2.1.1 6, zrow E.2.1.1 6, zrow E.2.1.2.1 6,
  zrow E.2.1.1 60, zrow E.2.1.1 24,
  fun f => .inr (4, [.ref (ad 17), .ref (ad 20), .ref (ad 23), .ref (ad 29), .int (f 4), .ref (ad 30), .int (f 6), .int (f 7)]),
  fun f => .inr (0, [.int (f 0), .ref (ad 18), .ref (ad 19), .int (f 3)]), zrow E.2.1.1 60, zrow E.2.1.1 60,
  fun f => .inr (0, [.int (f 0), .ref (ad 21), .ref (ad 22), .int (f 3)]), zrow E.2.1.1 60, zrow E.2.1.1 60,
  fun f => .inr (1, [.ref (ad 17), .ref (ad 20), .ref (ad 24), .ref (ad 25), .ref (ad 26), .ref (ad 27), .ref (ad 28), .int (f 7), .int (f 8), .int (f 9)]),
  zrow E.2.1.1 6, zrow E.2.1.1 6, zrow E.2.1.1 6, zrow E.2.1.1 6, zrow E.2.1.2.1 6,
  zrow E.2.1.1 60, zrow E.2.1.1 24,
  fun f => .inr (2, [.ref (ad 14), .ref (ad 32), .int (f 2), .int (f 3), .int (f 4), .ref (ad (64 + (f 5).toNatClampNeg))]), zrow E.2.1.1 60,
  fun _ => .inr (5, [.ref (ad 8), .ref (ad 34)]),
  fun f => .inr (1, [.ref (ad 2), .ref (ad 5), .ref (ad 35), .ref (ad 36), .ref (ad 37), .ref (ad 38), .ref (ad 39), .int (f 7), .int (f 8), .int (f 9)]),
  zrow E.2.1.1 6, zrow E.2.1.1 6, zrow E.2.1.1 6, zrow E.2.1.1 6, zrow E.2.1.2.1 6,
  fun f => .inr (6, [.ref (ad 41), .int (f 1), .int (f 2), .int (f 3), .int (f 4), .int (f 5)]), zrow E.2.1.1 30,
  fun _ => .inr (3, [.ref (ad 43), .ref (ad 44), .ref (ad 45)]), zrow E.2.1.1 4, zrow E.2.1.1 4,
  fun _ => .inl (E.2.1.2.2, 4, .inr (.inr (.inr (.inr (fun i => if i < 4 then some (ad (46 + i)) else none))))),
  zrow E.2.1.1 24, zrow E.2.1.1 24, zrow E.2.1.1 24, zrow E.2.1.1 24,
  zrow E.2.1.1 7,
  fun f => .inr (8, [.ref (ad 52), .ref (ad 53), .ref (ad 54), .int (f 3), .ref (ad 55), .int (f 5), .int (f 6), .int (f 7), .int (f 8), .ref (ad 56), .ref (ad 57), .ref (ad 58), .int (f 12), .ref (ad 59), .int (f 14), .int (f 15), .ref (ad 60), .ref (ad 61), .ref (ad 62), .ref (ad 63)]),
  zrow E.2.1.1 372, zrow E.2.1.1 372, zrow E.2.1.1 38, zrow E.2.1.1 7, zrow E.2.1.1 124, zrow E.2.1.1 128, zrow E.2.1.1 64, zrow E.2.1.1 30,
  zrow E.2.1.1 4, zrow E.2.1.1 4, zrow E.2.1.1 96, zrow E.2.1.1 24]
def zen (E : zE) (ad : Nat → Nat) (k : Nat) (f : Nat → Int32) : va_E := ((zents E ad)[k]?.getD (fun _ => .inr (0, []))) f
def zwd (E : zE) (ad : Nat → Nat) (c : zS) : va_W := (List.range 64).map (fun k => (ad k, zen E ad k (c k)))
theorem zwd_at {E : zE} {ad : Nat → Nat} {c : zS} {k : Nat} (h : k < 64) : (zwd E ad c)[k]? = some (ad k, zen E ad k (c k)) := by
  unfold zwd
  rw [List.getElem?_map, List.getElem?_range h]
  rfl
theorem zwd_len {E : zE} {ad : Nat → Nat} {c : zS} : (zwd E ad c).length = 64 := by simp [zwd]
theorem zwd_set {E : zE} {ad : Nat → Nat} {c : zS} {k : Nat} (f : Nat → Int32) (h : k < 64) : (zwd E ad c).set k (ad k, zen E ad k f) = zwd E ad (zup c k f) := by
  apply List.ext_getElem?
  intro i
  by_cases hi : i < 64
  · rw [zwd_at hi]
    by_cases e : i = k
    · subst e
      rw [List.getElem?_set_self (by rw [zwd_len]; exact hi), zup_s]
    · rw [List.getElem?_set_ne (Ne.symm e), zwd_at hi, zup_n e]
  · rw [List.getElem?_eq_none (by rw [List.length_set, zwd_len]; omega), List.getElem?_eq_none (by rw [zwd_len]; omega)]
def zA (ad : Nat → Nat) : Nat → Prop := fun q => ∃ k : Nat, k < 64 ∧ q = ad k
theorem zwd_D {E : zE} {ad : Nat → Nat} {c : zS} {A : Nat → Prop} (hi : ∀ i j : Nat, i < 64 → j < 64 → ad i = ad j → i = j) (hA : ∀ k : Nat, k < 64 → A (ad k)) : va_D A (zwd E ad c) := by
  have lt : ∀ {i : Nat} {p : Nat × va_E}, (zwd E ad c)[i]? = some p → i < 64 ∧ p.1 = ad i := by
    intro i p h
    have h1 : i < 64 := by
      have := (List.getElem?_eq_some_iff.mp h).1
      rw [zwd_len] at this
      exact this
    rw [zwd_at h1] at h
    cases h
    exact ⟨h1, rfl⟩
  refine ⟨fun i j p q h1 h2 e => ?_, fun k q h => ?_⟩
  · obtain ⟨a1, a2⟩ := lt h1
    obtain ⟨b1, b2⟩ := lt h2
    exact hi i j a1 b1 (by rw [← a2, ← b2]; exact e)
  · obtain ⟨a1, a2⟩ := lt h
    rw [a2]
    exact hA k a1
def zAbove : List Int32 := [-1, 0, 0, 0, 1, 2, 0]
def zBodies : List Int32 := [10, 11, 12, 13, 20, 0, 0, 21, 0, 30, 0, 0, 0, 0, 40, 0, 50, 0, 51, 0, 0, 60, 0, 0, 70, 71, 0, 0]
/-- what holds of the machine's tables and of the cells that nobody writes -/
def zX (E : zE) (ad : Nat → Nat) (A : Nat → Prop) (U : State) (H : Heap) : Prop :=
  va_K E.1 vwCl [(E.2.1.1, .int), (E.2.1.2.1, .boolean), (E.2.1.2.2, .array .int)] U ∧ (∀ i j : Nat, i < 64 → j < 64 → ad i = ad j → i = j) ∧ (∀ k : Nat, k < 64 → A (ad k)) ∧
  va_Z "AnswerPass" "ABOVE" "[I" (.ref (ad 70)) A U H ∧ va_T .int (ad 70) 7 (fun j => .int (zAbove.getD j 0)) A U H ∧
  va_Z "AnswerPass$Voices" "BODIES" "[I" (.ref (ad 71)) A U H ∧ va_T .int (ad 71) 28 (fun j => .int (zBodies.getD j 0)) A U H ∧
  va_Z "java/lang/String" "COMPACT_STRINGS" "Z" (.int 1) A U H ∧
  (vk_R RX2 25 "" (ad 64) U ∧ vk_R RX2 34 "csh" (ad 65) U ∧ vk_R RX2 36 "cmk" (ad 66) U) ∧
  vk_S 3 [0, 3, 3] [[], [99, 115, 104], [99, 109, 107]] (fun i => ad (64 + i)) (fun i => ad (67 + i)) A U H ∧
  va_Nw (.fieldLinkNest RX6 40 "AnswerPass" "ABOVE" "[I" "AnswerPass") U ∧
  (va_X (ad 72) E.2.2.1 E.2.2.2 U H ∧ ad 72 < H.size ∧ ¬ A (ad 72))
theorem zX_to {E : zE} {ad : Nat → Nat} {A B : Nat → Prop} {s U : State} {H H1 : Heap} (hW : s.WarmedH U.vm) (hBA : ∀ q, B q → A q) (hB : ∀ k : Nat, k < 64 → B (ad k)) (hz : H.size ≤ H1.size) (hq : ∀ a : Nat, a < H.size → ¬ A a → H1[a]? = H[a]?) (h : zX E ad A s H) : zX E ad B U H1 := by
  obtain ⟨h1, h2, h3, h4, h5, h6, h7, h8, ⟨h9, h10, h11⟩, h12, h13, h14, h15, h16⟩ := h
  have hvm := hW.alike
  exact ⟨h1.moved hvm, h2, hB, ((h4.moved hvm).kept hq).narrow hBA, ((h5.moved hvm).kept hq).narrow hBA, ((h6.moved hvm).kept hq).narrow hBA, ((h7.moved hvm).kept hq).narrow hBA, ((h8.moved hvm).kept hq).narrow hBA,
    ⟨h9.warm hW, h10.warm hW, h11.warm hW⟩, ((h12.moved hvm).kept hq).narrow hBA, va_Nw.warmF hW h13, (h14.moved hvm).kept (hq _ h15 h16), Nat.lt_of_lt_of_le h15 hz, fun z => h16 (hBA _ z)⟩
theorem zX_same {E : zE} {ad : Nat → Nat} {A : Nat → Prop} {s U : State} {H : Heap} (hv : U.vm = s.vm) (h : zX E ad A s H) : zX E ad A U H := by
  obtain ⟨h1, h2, h3, h4, h5, h6, h7, h8, ⟨h9, h10, h11⟩, h12, h13, h14, h15, h16⟩ := h
  have hvm : s.vm.Alike U.vm := by rw [hv]; exact Vm.Alike.refl _
  exact ⟨h1.moved hvm, h2, h3, h4.moved hvm, h5.moved hvm, h6.moved hvm, h7.moved hvm, h8.moved hvm, ⟨h9.same hv, h10.same hv, h11.same hv⟩, h12.moved hvm, va_tabs rfl hv.symm h13, h14.moved hvm, h15, h16⟩
def zPre (E : zE) (ad : Nat → Nat) (c : zS) : State → Prop := fun U => zX E ad (zA ad) U U.heap ∧ va_P E.1 vwCl (zwd E ad c) U.heap
def zQ (E : zE) (ad : Nat → Nat) (rk : Nat) (Qf : Int32 → zS → Prop) : Array Value → State → Outcome → State → Prop := match rk with
  | 0 => va_Qv (fun c => Qf 0 c) (fun c t => va_P E.1 vwCl (zwd E ad c) t.heap) (zA ad)
  | 2 => va_Qr (fun u : Int32 × zS => Qf u.1 u.2) (fun u a t => a = ad u.1.toNatClampNeg ∧ va_P E.1 vwCl (zwd E ad u.2) t.heap) (zA ad)
  | _ => va_Qi (fun r c => Qf r c) (fun c t => va_P E.1 vwCl (zwd E ad c) t.heap) (zA ad)
def zrm (d : Nat) : Room := { frames := d, cells := 0, slots := 0, locals := 40 * d }
/-- a method: its name, code, locals, what it returns, the kind of that (0 void, 1 int, 2 a reference, 3 boolean, 4 byte) -/
abbrev zM : Type := MethodName × ByteArray × Nat × Option FieldType × Nat
def zCl (l : Launch) (E : zE) (ad : Nat → Nat) (M : zM) (d : Nat) (av : List Value) (c : zS) (Qf : Int32 → zS → Prop) : Prop :=
  Met l M.1 (.code M.1 M.2.1 M.2.2.1 M.2.2.2.1 :: tblG) (zrm d) (va_Pc av (zPre E ad c)) (zQ E ad M.2.2.2.2 Qf) 0 0 (zA ad)
def zri (rk : Nat) : Instr := match rk with
  | 0 => .return_
  | 2 => .areturn
  | _ => .ireturn
def zrs (ad : Nat → Nat) (rk : Nat) (r : Int32) : List Value := match rk with
  | 0 => []
  | 2 => [.ref (ad r.toNatClampNeg)]
  | _ => [.int r]
def zok (rk : Nat) (r : Int32) : Prop := match rk with
  | 0 => r = 0
  | 3 => narrow .boolean (.int r) = .int r
  | 4 => narrow .byte (.int r) = .int r
  | _ => True
def zrt (rk : Nat) (ret : Option FieldType) : Prop := match rk with
  | 0 => ret = none
  | 1 => ret = some .int
  | 2 => ∃ n : String, ret = some (.object n)
  | 3 => ret = some .boolean
  | 4 => ret = some .byte
  | _ => False
def zlv : Nat → List (Option Value) → List (Nat × Value)
  | _, [] => []
  | i, none :: t => zlv (i + 1) t
  | i, some v :: t => (i, v) :: zlv (i + 1) t
theorem zlv_in {v : Value} : ∀ {L : List (Option Value)} {i k : Nat}, L[k]? = some (some v) → (i + k, v) ∈ zlv i L
  | [], i, k, h => by simp at h
  | none :: t, i, k, h => by
    cases k with
    | zero => simp at h
    | succ k =>
      have := zlv_in (i := i + 1) (L := t) (k := k) (by simpa using h)
      rw [show i + (k + 1) = i + 1 + k by omega]
      exact this
  | some w :: t, i, k, h => by
    cases k with
    | zero =>
      simp only [List.getElem?_cons_zero, Option.some.injEq] at h
      subst h
      exact List.mem_cons_self
    | succ k =>
      have := zlv_in (i := i + 1) (L := t) (k := k) (by simpa using h)
      rw [show i + (k + 1) = i + 1 + k by omega]
      exact List.mem_cons_of_mem _ this
theorem zlv_of {q : Nat × Value} : ∀ {L : List (Option Value)} {i : Nat}, q ∈ zlv i L → ∃ k : Nat, q.1 = i + k ∧ L[k]? = some (some q.2)
  | [], i, h => by simp [zlv] at h
  | none :: t, i, h => by
    obtain ⟨k, h1, h2⟩ := zlv_of (L := t) (i := i + 1) h
    exact ⟨k + 1, by omega, by simpa using h2⟩
  | some w :: t, i, h => by
    rcases List.mem_cons.mp h with e | h
    · subst e
      exact ⟨0, rfl, rfl⟩
    · obtain ⟨k, h1, h2⟩ := zlv_of (L := t) (i := i + 1) h
      exact ⟨k + 1, by omega, by simpa using h2⟩
theorem zlv_at {ls : Array Slot} {nL : Nat} {L : List (Option Value)} (h : lv_has ls nL (zlv 0 L)) {k : Nat} {v : Value} (hk : L[k]? = some (some v)) : ls[k]? = some (.val v) := by
  have := h.2.2 _ (zlv_in (i := 0) hk)
  simpa using this
def zc1 (L : List (Option Value)) (i : Nat) : Bool := match i with
  | 0 => true
  | j + 1 => match L[j]? with
    | some (some w) => w.category == 1
    | _ => true
theorem zlv_set {ls : Array Slot} {nL : Nat} {L : List (Option Value)} {i : Nat} {v : Value} (hc : zc1 L i = true) (h : lv_has ls nL ((i, v) :: (zlv 0 L).filter (fun q => !(q.1 == i) && !(q.1 + 1 == i && q.2.category == 2)))) : lv_has ls nL (zlv 0 (L.set i (some v))) := by
  refine ⟨h.1, h.2.1, fun q hq => h.2.2 q ?_⟩
  obtain ⟨k, h1, h2⟩ := zlv_of hq
  have h1 : q.1 = k := by omega
  by_cases e : k = i
  · subst e
    have hl : k < L.length := by
      have := (List.getElem?_eq_some_iff.mp h2).1
      simpa using this
    rw [List.getElem?_set_self hl] at h2
    simp only [Option.some.injEq] at h2
    have : q = (k, v) := by rw [← h1, h2]
    rw [this]
    exact List.mem_cons_self
  · rw [List.getElem?_set_ne (Ne.symm e)] at h2
    refine List.mem_cons_of_mem _ (List.mem_filter.mpr ⟨?_, ?_⟩)
    · have := zlv_in (i := 0) h2
      rw [Nat.zero_add, ← h1] at this
      exact this
    · have a1 : (q.1 == i) = false := by simpa [h1] using e
      rw [a1]
      by_cases b1 : q.1 + 1 = i
      · subst b1
        have hc2 : zc1 L (k + 1) = true := by
          have h9 := hc
          rw [h1] at h9
          exact h9
        simp only [zc1, h2] at hc2
        have : q.2.category = 1 := by simpa using hc2
        simp [this]
      · simp [b1]
/-- what the machine is in, all through a method's body -/
def zC (own : String) (cc : ByteArray) (nL d : Nat) (p : Program) (R : Room) (s : State) (m : MethodId) (args : Array Value) (c0 : Code) (cells slots : Nat) : Prop :=
  p.tables.exec = Jvm.exec ∧ c0.code = cc ∧ c0.maxLocals = nL ∧ s.vm.findClass own = some m.cls ∧ (∀ w ∈ tblG, w.before args s = true) ∧ d ≤ R.frames ∧ 40 * d ≤ R.locals ∧ cells ≤ R.cells ∧ slots ≤ R.slots
def zR (l : Launch) (E : zE) (ad : Nat → Nat) (cc : ByteArray) (rk : Nat) (Qf : Int32 → zS → Prop) (p : Program) (e : Env) (R : Room) (s : State) (m : MethodId) (args : Array Value) (below : List Frame) (meth : Method) (c0 : Code) (cells slots : Nat) (Q : State → Prop) (A : Nat → Prop) : Prop :=
  ∀ (H : Heap) (locs : List Loc) (ls : Array Slot) (pc : Nat) (r : Int32) (c : zS), Qf r c → zok rk r → va_P E.1 vwCl (zwd E ad c) H → va_S A s.heap H locs → decode cc pc = .ok (zri rk, 1) → W p l e R s m args below meth c0 H locs cells slots Q (F0 m pc ls (zrs ad rk r))
def zW (l : Launch) (E : zE) (ad : Nat → Nat) (own : String) (cc : ByteArray) (nL rk d : Nat) (Qf : Int32 → zS → Prop) (pc : Nat) (L : List (Option Value)) (st : List Value) (c : zS) : Prop :=
  ∀ (p : Program) (e : Env) (R : Room) (s : State) (m : MethodId) (args : Array Value) (below : List Frame) (meth : Method) (c0 : Code) (H : Heap) (locs : List Loc) (cells slots : Nat) (Q : State → Prop) (A : Nat → Prop) (ls : Array Slot),
    zC own cc nL d p R s m args c0 cells slots → zX E ad A s s.heap → va_P E.1 vwCl (zwd E ad c) H → va_S A s.heap H locs → lv_has ls nL (zlv 0 L) → zR l E ad cc rk Qf p e R s m args below meth c0 cells slots Q A →
    W p l e R s m args below meth c0 H locs cells slots Q (F0 m pc ls st)
section ZROWS
variable {l : Launch} {E : zE} {ad : Nat → Nat} {own : String} {cc : ByteArray} {nL rk d : Nat} {Qf : Int32 → zS → Prop} {pc : Nat} {L : List (Option Value)} {st : List Value} {c : zS}
theorem z_enter {y : MethodName} {ret : Option FieldType} {av : List Value} (L : List (Option Value)) (hy : plainName y.cls = true) (ho : y.cls = own) (hr : zrt rk ret) (hL : zlv 0 L = lv_args 0 av) (hn : (lg_sl av).length ≤ nL) (k : zW l E ad own cc nL rk d Qf 0 L [] c) : zCl l E ad (y, cc, nL, ret, rk) d av c Qf := by
  refine Met.ofW (cc := cc) (maxL := nL) (ret := ret) hy rfl ?_
  intro p e s m args below meth c0 s₁ B hml hv
  obtain ⟨rfl, hX, hP⟩ := hv
  have hx := B.exec
  have hb := B.bytes
  have hret := B.returns
  have hts := atoms_spec (ws := .code y cc nL ret :: tblG) B.pre
  have hown : s.vm.findClass own = some m.cls := by rw [← ho]; exact findClass_of_methodNamed B.named
  have hlocks := B.notSynchronized
  rw [lg_entry_eq]
  have hl := lv_entry av (n := nL) hn
  generalize (lg_sl av ++ List.replicate (nL - (lg_sl av).length) Slot.unset).toArray = ls at hl ⊢
  rw [← hL] at hl
  refine k p e (zrm d) s m av.toArray below meth c0 s.heap [] 0 0 _ (zA ad) ls ⟨hx, hb, hml, hown, fun w hw => hts w (List.mem_cons_of_mem _ hw), Nat.le_refl _, Nat.le_refl _, Nat.zero_le _, Nat.zero_le _⟩ hX hP va_S.rf hl ?_
  intro H' locs' ls' pc' r c' hQ hok hP' hS' hdec
  match rk, hr, hQ, hok, hdec with
  | 0, hr, hQ, hok, hdec =>
    have hok : r = 0 := hok
    subst hok
    exact W.vret hx hb (hret.trans hr) (fun t ht hW => ⟨⟨c', rfl, hQ, by subst ht; exact hP'⟩, hS'.F ht⟩) hS'.2.2 hdec
  | 1, hr, hQ, hok, hdec => exact W.iret (v := r) hx hb (hret.trans hr) (fun t ht hW => ⟨⟨r, c', rfl, hQ, by subst ht; exact hP'⟩, hS'.F ht⟩) hS'.2.2 hdec
  | 2, hr, hQ, hok, hdec =>
    obtain ⟨n, hr⟩ := hr
    exact W.aret (v := .ref (ad r.toNatClampNeg)) hx hb (hret.trans hr) (Or.inl ⟨n, rfl⟩) (Or.inr ⟨_, rfl⟩) (fun t ht hW => ⟨⟨(r, c'), _, rfl, hQ, rfl, by subst ht; exact hP'⟩, hS'.F ht⟩) hS'.2.2 hdec
  | 3, hr, hQ, hok, hdec => exact W.zret (v := r) hx hb (hret.trans hr) hok (fun t ht hW => ⟨⟨r, c', rfl, hQ, by subst ht; exact hP'⟩, hS'.F ht⟩) hS'.2.2 hdec
  | 4, hr, hQ, hok, hdec => exact W.zret (v := r) hx hb (hret.trans hr) hok (fun t ht hW => ⟨⟨r, c', rfl, hQ, by subst ht; exact hP'⟩, hS'.F ht⟩) hS'.2.2 hdec
  | n + 5, hr, hQ, hok, hdec => exact absurd hr id
theorem z_iadd {a b : Int32} (hd : decode cc pc = .ok (.iadd, 1)) (k : zW l E ad own cc nL rk d Qf (pc + 1) L (.int (a + b) :: st) c) : zW l E ad own cc nL rk d Qf pc L (.int b :: .int a :: st) c := by
  intro p e R s m args below meth c0 H locs cells slots Q A ls h1 hX hP hS hL hR
  exact lv_iadd h1.1 h1.2.1 hd  (k p e R s m args below meth c0 H locs cells slots Q A ls h1 hX hP hS hL hR)
theorem z_isub {a b : Int32} (hd : decode cc pc = .ok (.isub, 1)) (k : zW l E ad own cc nL rk d Qf (pc + 1) L (.int (a - b) :: st) c) : zW l E ad own cc nL rk d Qf pc L (.int b :: .int a :: st) c := by
  intro p e R s m args below meth c0 H locs cells slots Q A ls h1 hX hP hS hL hR
  exact lv_isub h1.1 h1.2.1 hd  (k p e R s m args below meth c0 H locs cells slots Q A ls h1 hX hP hS hL hR)
theorem z_imul {a b : Int32} (hd : decode cc pc = .ok (.imul, 1)) (k : zW l E ad own cc nL rk d Qf (pc + 1) L (.int (a * b) :: st) c) : zW l E ad own cc nL rk d Qf pc L (.int b :: .int a :: st) c := by
  intro p e R s m args below meth c0 H locs cells slots Q A ls h1 hX hP hS hL hR
  exact lv_imul h1.1 h1.2.1 hd  (k p e R s m args below meth c0 H locs cells slots Q A ls h1 hX hP hS hL hR)
theorem z_iand {a b : Int32} (hd : decode cc pc = .ok (.iand, 1)) (k : zW l E ad own cc nL rk d Qf (pc + 1) L (.int (a &&& b) :: st) c) : zW l E ad own cc nL rk d Qf pc L (.int b :: .int a :: st) c := by
  intro p e R s m args below meth c0 H locs cells slots Q A ls h1 hX hP hS hL hR
  exact lv_iand h1.1 h1.2.1 hd  (k p e R s m args below meth c0 H locs cells slots Q A ls h1 hX hP hS hL hR)
theorem z_ior {a b : Int32} (hd : decode cc pc = .ok (.ior, 1)) (k : zW l E ad own cc nL rk d Qf (pc + 1) L (.int (a ||| b) :: st) c) : zW l E ad own cc nL rk d Qf pc L (.int b :: .int a :: st) c := by
  intro p e R s m args below meth c0 H locs cells slots Q A ls h1 hX hP hS hL hR
  exact lv_ior h1.1 h1.2.1 hd  (k p e R s m args below meth c0 H locs cells slots Q A ls h1 hX hP hS hL hR)
theorem z_ixor {a b : Int32} (hd : decode cc pc = .ok (.ixor, 1)) (k : zW l E ad own cc nL rk d Qf (pc + 1) L (.int (a ^^^ b) :: st) c) : zW l E ad own cc nL rk d Qf pc L (.int b :: .int a :: st) c := by
  intro p e R s m args below meth c0 H locs cells slots Q A ls h1 hX hP hS hL hR
  exact lv_ixor h1.1 h1.2.1 hd  (k p e R s m args below meth c0 H locs cells slots Q A ls h1 hX hP hS hL hR)
theorem z_ishl {a b : Int32} (hd : decode cc pc = .ok (.ishl, 1)) (k : zW l E ad own cc nL rk d Qf (pc + 1) L (.int (a <<< (b &&& 31)) :: st) c) : zW l E ad own cc nL rk d Qf pc L (.int b :: .int a :: st) c := by
  intro p e R s m args below meth c0 H locs cells slots Q A ls h1 hX hP hS hL hR
  exact lv_ishl h1.1 h1.2.1 hd  (k p e R s m args below meth c0 H locs cells slots Q A ls h1 hX hP hS hL hR)
theorem z_ishr {a b : Int32} (hd : decode cc pc = .ok (.ishr, 1)) (k : zW l E ad own cc nL rk d Qf (pc + 1) L (.int (a >>> (b &&& 31)) :: st) c) : zW l E ad own cc nL rk d Qf pc L (.int b :: .int a :: st) c := by
  intro p e R s m args below meth c0 H locs cells slots Q A ls h1 hX hP hS hL hR
  exact lv_ishr h1.1 h1.2.1 hd  (k p e R s m args below meth c0 H locs cells slots Q A ls h1 hX hP hS hL hR)
theorem z_iushr {a b : Int32} (hd : decode cc pc = .ok (.iushr, 1)) (k : zW l E ad own cc nL rk d Qf (pc + 1) L (.int ((a.toUInt32 >>> (b.toUInt32 &&& Int32.toUInt32 31)).toInt32) :: st) c) : zW l E ad own cc nL rk d Qf pc L (.int b :: .int a :: st) c := by
  intro p e R s m args below meth c0 H locs cells slots Q A ls h1 hX hP hS hL hR
  exact lv_iushr h1.1 h1.2.1 hd rfl (k p e R s m args below meth c0 H locs cells slots Q A ls h1 hX hP hS hL hR)
theorem z_ineg {a : Int32} (hd : decode cc pc = .ok (.ineg, 1)) (k : zW l E ad own cc nL rk d Qf (pc + 1) L (.int (-a) :: st) c) : zW l E ad own cc nL rk d Qf pc L (.int a :: st) c := by
  intro p e R s m args below meth c0 H locs cells slots Q A ls h1 hX hP hS hL hR
  exact lv_ineg h1.1 h1.2.1 hd  (k p e R s m args below meth c0 H locs cells slots Q A ls h1 hX hP hS hL hR)
theorem z_idiv {a b : Int32} (hd : decode cc pc = .ok (.idiv, 1)) (h0 : ¬ b = 0) (k : zW l E ad own cc nL rk d Qf (pc + 1) L (.int (a / b) :: st) c) : zW l E ad own cc nL rk d Qf pc L (.int b :: .int a :: st) c := by
  intro p e R s m args below meth c0 H locs cells slots Q A ls h1 hX hP hS hL hR
  exact lv_idiv h1.1 h1.2.1 hd h0 (k p e R s m args below meth c0 H locs cells slots Q A ls h1 hX hP hS hL hR)
theorem z_irem {a b : Int32} (hd : decode cc pc = .ok (.irem, 1)) (h0 : ¬ b = 0) (k : zW l E ad own cc nL rk d Qf (pc + 1) L (.int (a - a / b * b) :: st) c) : zW l E ad own cc nL rk d Qf pc L (.int b :: .int a :: st) c := by
  intro p e R s m args below meth c0 H locs cells slots Q A ls h1 hX hP hS hL hR
  exact lv_irem h1.1 h1.2.1 hd h0 (k p e R s m args below meth c0 H locs cells slots Q A ls h1 hX hP hS hL hR)
theorem z_land {a b : Int64} (hd : decode cc pc = .ok (.land, 1)) (k : zW l E ad own cc nL rk d Qf (pc + 1) L (.long (a &&& b) :: st) c) : zW l E ad own cc nL rk d Qf pc L (.long b :: .long a :: st) c := by
  intro p e R s m args below meth c0 H locs cells slots Q A ls h1 hX hP hS hL hR
  exact lv_land h1.1 h1.2.1 hd  (k p e R s m args below meth c0 H locs cells slots Q A ls h1 hX hP hS hL hR)
theorem z_lor {a b : Int64} (hd : decode cc pc = .ok (.lor, 1)) (k : zW l E ad own cc nL rk d Qf (pc + 1) L (.long (a ||| b) :: st) c) : zW l E ad own cc nL rk d Qf pc L (.long b :: .long a :: st) c := by
  intro p e R s m args below meth c0 H locs cells slots Q A ls h1 hX hP hS hL hR
  exact lv_lor h1.1 h1.2.1 hd  (k p e R s m args below meth c0 H locs cells slots Q A ls h1 hX hP hS hL hR)
theorem z_lshl {a : Int64} {b : Int32} (hd : decode cc pc = .ok (.lshl, 1)) (k : zW l E ad own cc nL rk d Qf (pc + 1) L (.long (a <<< (b.toInt64 &&& 63)) :: st) c) : zW l E ad own cc nL rk d Qf pc L (.int b :: .long a :: st) c := by
  intro p e R s m args below meth c0 H locs cells slots Q A ls h1 hX hP hS hL hR
  exact lv_lshl h1.1 h1.2.1 hd rfl (k p e R s m args below meth c0 H locs cells slots Q A ls h1 hX hP hS hL hR)
theorem z_lshr {a : Int64} {b : Int32} (hd : decode cc pc = .ok (.lshr, 1)) (k : zW l E ad own cc nL rk d Qf (pc + 1) L (.long (a >>> (b.toInt64 &&& 63)) :: st) c) : zW l E ad own cc nL rk d Qf pc L (.int b :: .long a :: st) c := by
  intro p e R s m args below meth c0 H locs cells slots Q A ls h1 hX hP hS hL hR
  exact lv_lshr h1.1 h1.2.1 hd rfl (k p e R s m args below meth c0 H locs cells slots Q A ls h1 hX hP hS hL hR)
theorem z_lushr {a : Int64} {b : Int32} (hd : decode cc pc = .ok (.lushr, 1)) (k : zW l E ad own cc nL rk d Qf (pc + 1) L (.long ((a.toUInt64 >>> (b.toInt64.toUInt64 &&& Int64.toUInt64 63)).toInt64) :: st) c) : zW l E ad own cc nL rk d Qf pc L (.int b :: .long a :: st) c := by
  intro p e R s m args below meth c0 H locs cells slots Q A ls h1 hX hP hS hL hR
  exact lv_lushr h1.1 h1.2.1 hd rfl (k p e R s m args below meth c0 H locs cells slots Q A ls h1 hX hP hS hL hR)
theorem z_i2l {a : Int32} (hd : decode cc pc = .ok (.i2l, 1)) (k : zW l E ad own cc nL rk d Qf (pc + 1) L (.long a.toInt64 :: st) c) : zW l E ad own cc nL rk d Qf pc L (.int a :: st) c := by
  intro p e R s m args below meth c0 H locs cells slots Q A ls h1 hX hP hS hL hR
  exact lv_i2l h1.1 h1.2.1 hd rfl (k p e R s m args below meth c0 H locs cells slots Q A ls h1 hX hP hS hL hR)
theorem z_l2i {a : Int64} (hd : decode cc pc = .ok (.l2i, 1)) (k : zW l E ad own cc nL rk d Qf (pc + 1) L (.int a.toInt32 :: st) c) : zW l E ad own cc nL rk d Qf pc L (.long a :: st) c := by
  intro p e R s m args below meth c0 H locs cells slots Q A ls h1 hX hP hS hL hR
  exact lv_l2i h1.1 h1.2.1 hd rfl (k p e R s m args below meth c0 H locs cells slots Q A ls h1 hX hP hS hL hR)
theorem z_i2b {a : Int32} (hd : decode cc pc = .ok (.i2b, 1)) (k : zW l E ad own cc nL rk d Qf (pc + 1) L (.int a.toInt8.toInt32 :: st) c) : zW l E ad own cc nL rk d Qf pc L (.int a :: st) c := by
  intro p e R s m args below meth c0 H locs cells slots Q A ls h1 hX hP hS hL hR
  exact lv_i2b h1.1 h1.2.1 hd rfl (k p e R s m args below meth c0 H locs cells slots Q A ls h1 hX hP hS hL hR)
theorem z_i2s {a : Int32} (hd : decode cc pc = .ok (.i2s, 1)) (k : zW l E ad own cc nL rk d Qf (pc + 1) L (.int a.toInt16.toInt32 :: st) c) : zW l E ad own cc nL rk d Qf pc L (.int a :: st) c := by
  intro p e R s m args below meth c0 H locs cells slots Q A ls h1 hX hP hS hL hR
  exact lv_i2s h1.1 h1.2.1 hd rfl (k p e R s m args below meth c0 H locs cells slots Q A ls h1 hX hP hS hL hR)
theorem z_i2c {a : Int32} (hd : decode cc pc = .ok (.i2c, 1)) (k : zW l E ad own cc nL rk d Qf (pc + 1) L (.int (a.toUInt32 % 65536).toInt32 :: st) c) : zW l E ad own cc nL rk d Qf pc L (.int a :: st) c := by
  intro p e R s m args below meth c0 H locs cells slots Q A ls h1 hX hP hS hL hR
  exact lv_i2c h1.1 h1.2.1 hd rfl (k p e R s m args below meth c0 H locs cells slots Q A ls h1 hX hP hS hL hR)
theorem z_iconst {n : Int} {v : Int32} (hd : decode cc pc = .ok (.iconst n, 1)) (hv : Int32.ofInt n = v) (k : zW l E ad own cc nL rk d Qf (pc + 1) L (.int v :: st) c) : zW l E ad own cc nL rk d Qf pc L st c := by
  intro p e R s m args below meth c0 H locs cells slots Q A ls h1 hX hP hS hL hR
  exact lv_iconst h1.1 h1.2.1 hd hv (k p e R s m args below meth c0 H locs cells slots Q A ls h1 hX hP hS hL hR)
theorem z_bipush {n : Int} {v : Int32} (hd : decode cc pc = .ok (.bipush n, 2)) (hv : (Int8.ofInt n).toInt32 = v) (k : zW l E ad own cc nL rk d Qf (pc + 2) L (.int v :: st) c) : zW l E ad own cc nL rk d Qf pc L st c := by
  intro p e R s m args below meth c0 H locs cells slots Q A ls h1 hX hP hS hL hR
  exact lv_bipush h1.1 h1.2.1 hd hv (k p e R s m args below meth c0 H locs cells slots Q A ls h1 hX hP hS hL hR)
theorem z_sipush {n : Int} {v : Int32} (hd : decode cc pc = .ok (.sipush n, 3)) (hv : (Int16.ofInt n).toInt32 = v) (k : zW l E ad own cc nL rk d Qf (pc + 3) L (.int v :: st) c) : zW l E ad own cc nL rk d Qf pc L st c := by
  intro p e R s m args below meth c0 H locs cells slots Q A ls h1 hX hP hS hL hR
  exact lv_sipush h1.1 h1.2.1 hd hv (k p e R s m args below meth c0 H locs cells slots Q A ls h1 hX hP hS hL hR)
theorem z_dup {v : Value} (hd : decode cc pc = .ok (.dup, 1)) (hc : v.category = 1) (k : zW l E ad own cc nL rk d Qf (pc + 1) L (v :: v :: st) c) : zW l E ad own cc nL rk d Qf pc L (v :: st) c := by
  intro p e R s m args below meth c0 H locs cells slots Q A ls h1 hX hP hS hL hR
  exact lv_dup h1.1 h1.2.1 hd hc (k p e R s m args below meth c0 H locs cells slots Q A ls h1 hX hP hS hL hR)
theorem z_pop {v : Value} (hd : decode cc pc = .ok (.pop, 1)) (hc : v.category = 1) (k : zW l E ad own cc nL rk d Qf (pc + 1) L st c) : zW l E ad own cc nL rk d Qf pc L (v :: st) c := by
  intro p e R s m args below meth c0 H locs cells slots Q A ls h1 hX hP hS hL hR
  exact lv_pop h1.1 h1.2.1 hd hc (k p e R s m args below meth c0 H locs cells slots Q A ls h1 hX hP hS hL hR)
theorem z_dup2 {v w : Value} (hd : decode cc pc = .ok (.dup2, 1)) (hc : v.category = 1) (hw : w.category = 1) (k : zW l E ad own cc nL rk d Qf (pc + 1) L (v :: w :: v :: w :: st) c) : zW l E ad own cc nL rk d Qf pc L (v :: w :: st) c := by
  intro p e R s m args below meth c0 H locs cells slots Q A ls h1 hX hP hS hL hR
  exact lv_dup2_11 h1.1 h1.2.1 hd hc hw (k p e R s m args below meth c0 H locs cells slots Q A ls h1 hX hP hS hL hR)
theorem z_iload_n {k : Fin 4} {i : Nat} {x : Int32} (hd : decode cc pc = .ok (.iload_n k, 1)) (hi : (k : Nat) = i) (hl : L[i]? = some (some (.int x))) (kk : zW l E ad own cc nL rk d Qf (pc + 1) L (.int x :: st) c) : zW l E ad own cc nL rk d Qf pc L st c := by
  intro p e R s m args below meth c0 H locs cells slots Q A ls h1 hX hP hS hL hR
  exact lv_iload_n h1.1 h1.2.1 hd hi (zlv_at hL hl) (kk p e R s m args below meth c0 H locs cells slots Q A ls h1 hX hP hS hL hR)
theorem z_iload {i : Nat} {x : Int32} (hd : decode cc pc = .ok (.iload i, 2)) (hl : L[i]? = some (some (.int x))) (k : zW l E ad own cc nL rk d Qf (pc + 2) L (.int x :: st) c) : zW l E ad own cc nL rk d Qf pc L st c := by
  intro p e R s m args below meth c0 H locs cells slots Q A ls h1 hX hP hS hL hR
  exact lv_iload h1.1 h1.2.1 hd (zlv_at hL hl) (k p e R s m args below meth c0 H locs cells slots Q A ls h1 hX hP hS hL hR)
theorem z_aload_n {k : Fin 4} {i : Nat} {x : Nat} (hd : decode cc pc = .ok (.aload_n k, 1)) (hi : (k : Nat) = i) (hl : L[i]? = some (some (.ref x))) (kk : zW l E ad own cc nL rk d Qf (pc + 1) L (.ref x :: st) c) : zW l E ad own cc nL rk d Qf pc L st c := by
  intro p e R s m args below meth c0 H locs cells slots Q A ls h1 hX hP hS hL hR
  exact lv_aload_n h1.1 h1.2.1 hd hi (zlv_at hL hl) (kk p e R s m args below meth c0 H locs cells slots Q A ls h1 hX hP hS hL hR)
theorem z_aload {i : Nat} {x : Nat} (hd : decode cc pc = .ok (.aload i, 2)) (hl : L[i]? = some (some (.ref x))) (k : zW l E ad own cc nL rk d Qf (pc + 2) L (.ref x :: st) c) : zW l E ad own cc nL rk d Qf pc L st c := by
  intro p e R s m args below meth c0 H locs cells slots Q A ls h1 hX hP hS hL hR
  exact lv_aload h1.1 h1.2.1 hd (zlv_at hL hl) (k p e R s m args below meth c0 H locs cells slots Q A ls h1 hX hP hS hL hR)
theorem z_lload_n {k : Fin 4} {i : Nat} {x : Int64} (hd : decode cc pc = .ok (.lload_n k, 1)) (hi : (k : Nat) = i) (hl : L[i]? = some (some (.long x))) (kk : zW l E ad own cc nL rk d Qf (pc + 1) L (.long x :: st) c) : zW l E ad own cc nL rk d Qf pc L st c := by
  intro p e R s m args below meth c0 H locs cells slots Q A ls h1 hX hP hS hL hR
  exact lv_lload_n h1.1 h1.2.1 hd hi (zlv_at hL hl) (kk p e R s m args below meth c0 H locs cells slots Q A ls h1 hX hP hS hL hR)
theorem z_istore_n {k : Fin 4} {i : Nat} {x : Int32} (L' : List (Option Value)) (hd : decode cc pc = .ok (.istore_n k, 1)) (hi : (k : Nat) = i) (hn : i < nL) (hc : zc1 L i = true) (hl : L.set i (some (.int x)) = L') (kk : zW l E ad own cc nL rk d Qf (pc + 1) L' st c) : zW l E ad own cc nL rk d Qf pc L (.int x :: st) c := by
  intro p e R s m args below meth c0 H locs cells slots Q A ls h1 hX hP hS hL hR
  subst hl
  exact lv_istore_n h1.1 h1.2.1 hd hi hL hn rfl (fun ls' hL' => kk p e R s m args below meth c0 H locs cells slots Q A ls' h1 hX hP hS (zlv_set hc hL') hR)
theorem z_istore {i : Nat} {x : Int32} (L' : List (Option Value)) (hd : decode cc pc = .ok (.istore i, 2)) (hn : i < nL) (hc : zc1 L i = true) (hl : L.set i (some (.int x)) = L') (kk : zW l E ad own cc nL rk d Qf (pc + 2) L' st c) : zW l E ad own cc nL rk d Qf pc L (.int x :: st) c := by
  intro p e R s m args below meth c0 H locs cells slots Q A ls h1 hX hP hS hL hR
  subst hl
  exact lv_istore h1.1 h1.2.1 hd hL hn rfl (fun ls' hL' => kk p e R s m args below meth c0 H locs cells slots Q A ls' h1 hX hP hS (zlv_set hc hL') hR)
theorem z_astore_n {k : Fin 4} {i : Nat} {x : Nat} (L' : List (Option Value)) (hd : decode cc pc = .ok (.astore_n k, 1)) (hi : (k : Nat) = i) (hn : i < nL) (hc : zc1 L i = true) (hl : L.set i (some (.ref x)) = L') (kk : zW l E ad own cc nL rk d Qf (pc + 1) L' st c) : zW l E ad own cc nL rk d Qf pc L (.ref x :: st) c := by
  intro p e R s m args below meth c0 H locs cells slots Q A ls h1 hX hP hS hL hR
  subst hl
  exact lv_astore_n h1.1 h1.2.1 hd hi hL hn rfl (fun ls' hL' => kk p e R s m args below meth c0 H locs cells slots Q A ls' h1 hX hP hS (zlv_set hc hL') hR)
theorem z_astore {i : Nat} {x : Nat} (L' : List (Option Value)) (hd : decode cc pc = .ok (.astore i, 2)) (hn : i < nL) (hc : zc1 L i = true) (hl : L.set i (some (.ref x)) = L') (kk : zW l E ad own cc nL rk d Qf (pc + 2) L' st c) : zW l E ad own cc nL rk d Qf pc L (.ref x :: st) c := by
  intro p e R s m args below meth c0 H locs cells slots Q A ls h1 hX hP hS hL hR
  subst hl
  exact lv_astore h1.1 h1.2.1 hd hL hn rfl (fun ls' hL' => kk p e R s m args below meth c0 H locs cells slots Q A ls' h1 hX hP hS (zlv_set hc hL') hR)
theorem z_iinc {i : Nat} {n : Int} {x v : Int32} (L' : List (Option Value)) (hd : decode cc pc = .ok (.iinc i n, 3)) (hx : L[i]? = some (some (.int x))) (hv : Int32.ofInt n = v) (hn : i < nL) (hc : zc1 L i = true) (hl : L.set i (some (.int (x + v))) = L') (kk : zW l E ad own cc nL rk d Qf (pc + 3) L' st c) : zW l E ad own cc nL rk d Qf pc L st c := by
  intro p e R s m args below meth c0 H locs cells slots Q A ls h1 hX hP hS hL hR
  subst hl
  subst hv
  obtain ⟨j, hj⟩ := List.getElem?_of_mem (zlv_in (i := 0) hx)
  rw [Nat.zero_add] at hj
  exact lv_iinc h1.1 h1.2.1 hd hL hj rfl hn rfl (fun ls' hL' => kk p e R s m args below meth c0 H locs cells slots Q A ls' h1 hX hP hS (zlv_set hc hL') hR)
theorem z_if_eq {x : Int32} {off : Int} (tgt : Nat) (hd : decode cc pc = .ok (.ifCond .eq off, 3)) (ht : (pc : Int) + off = (tgt : Int)) (kt : x = 0 → zW l E ad own cc nL rk d Qf tgt L st c) (kf : ¬ x = 0 → zW l E ad own cc nL rk d Qf (pc + 3) L st c) : zW l E ad own cc nL rk d Qf pc L (.int x :: st) c := by
  intro p e R s m args below meth c0 H locs cells slots Q A ls h1 hX hP hS hL hR
  exact lv_if_eq h1.1 h1.2.1 hd ht (fun z => kt z p e R s m args below meth c0 H locs cells slots Q A ls h1 hX hP hS hL hR) (fun z => kf z p e R s m args below meth c0 H locs cells slots Q A ls h1 hX hP hS hL hR)
theorem z_if_ne {x : Int32} {off : Int} (tgt : Nat) (hd : decode cc pc = .ok (.ifCond .ne off, 3)) (ht : (pc : Int) + off = (tgt : Int)) (kt : ¬ x = 0 → zW l E ad own cc nL rk d Qf tgt L st c) (kf : x = 0 → zW l E ad own cc nL rk d Qf (pc + 3) L st c) : zW l E ad own cc nL rk d Qf pc L (.int x :: st) c := by
  intro p e R s m args below meth c0 H locs cells slots Q A ls h1 hX hP hS hL hR
  exact lv_if_ne h1.1 h1.2.1 hd ht (fun z => kt z p e R s m args below meth c0 H locs cells slots Q A ls h1 hX hP hS hL hR) (fun z => kf z p e R s m args below meth c0 H locs cells slots Q A ls h1 hX hP hS hL hR)
theorem z_if_lt {x : Int32} {off : Int} (tgt : Nat) (hd : decode cc pc = .ok (.ifCond .lt off, 3)) (ht : (pc : Int) + off = (tgt : Int)) (kt : x < 0 → zW l E ad own cc nL rk d Qf tgt L st c) (kf : ¬ x < 0 → zW l E ad own cc nL rk d Qf (pc + 3) L st c) : zW l E ad own cc nL rk d Qf pc L (.int x :: st) c := by
  intro p e R s m args below meth c0 H locs cells slots Q A ls h1 hX hP hS hL hR
  exact lv_if_lt h1.1 h1.2.1 hd ht (fun z => kt z p e R s m args below meth c0 H locs cells slots Q A ls h1 hX hP hS hL hR) (fun z => kf z p e R s m args below meth c0 H locs cells slots Q A ls h1 hX hP hS hL hR)
theorem z_if_ge {x : Int32} {off : Int} (tgt : Nat) (hd : decode cc pc = .ok (.ifCond .ge off, 3)) (ht : (pc : Int) + off = (tgt : Int)) (kt : 0 ≤ x → zW l E ad own cc nL rk d Qf tgt L st c) (kf : ¬ 0 ≤ x → zW l E ad own cc nL rk d Qf (pc + 3) L st c) : zW l E ad own cc nL rk d Qf pc L (.int x :: st) c := by
  intro p e R s m args below meth c0 H locs cells slots Q A ls h1 hX hP hS hL hR
  exact lv_if_ge h1.1 h1.2.1 hd ht (fun z => kt z p e R s m args below meth c0 H locs cells slots Q A ls h1 hX hP hS hL hR) (fun z => kf z p e R s m args below meth c0 H locs cells slots Q A ls h1 hX hP hS hL hR)
theorem z_if_gt {x : Int32} {off : Int} (tgt : Nat) (hd : decode cc pc = .ok (.ifCond .gt off, 3)) (ht : (pc : Int) + off = (tgt : Int)) (kt : 0 < x → zW l E ad own cc nL rk d Qf tgt L st c) (kf : ¬ 0 < x → zW l E ad own cc nL rk d Qf (pc + 3) L st c) : zW l E ad own cc nL rk d Qf pc L (.int x :: st) c := by
  intro p e R s m args below meth c0 H locs cells slots Q A ls h1 hX hP hS hL hR
  exact lv_if_gt h1.1 h1.2.1 hd ht (fun z => kt z p e R s m args below meth c0 H locs cells slots Q A ls h1 hX hP hS hL hR) (fun z => kf z p e R s m args below meth c0 H locs cells slots Q A ls h1 hX hP hS hL hR)
theorem z_if_le {x : Int32} {off : Int} (tgt : Nat) (hd : decode cc pc = .ok (.ifCond .le off, 3)) (ht : (pc : Int) + off = (tgt : Int)) (kt : x ≤ 0 → zW l E ad own cc nL rk d Qf tgt L st c) (kf : ¬ x ≤ 0 → zW l E ad own cc nL rk d Qf (pc + 3) L st c) : zW l E ad own cc nL rk d Qf pc L (.int x :: st) c := by
  intro p e R s m args below meth c0 H locs cells slots Q A ls h1 hX hP hS hL hR
  exact lv_if_le h1.1 h1.2.1 hd ht (fun z => kt z p e R s m args below meth c0 H locs cells slots Q A ls h1 hX hP hS hL hR) (fun z => kf z p e R s m args below meth c0 H locs cells slots Q A ls h1 hX hP hS hL hR)
theorem z_icmp_eq {x y : Int32} {off : Int} (tgt : Nat) (hd : decode cc pc = .ok (.if_icmp .eq off, 3)) (ht : (pc : Int) + off = (tgt : Int)) (kt : x = y → zW l E ad own cc nL rk d Qf tgt L st c) (kf : ¬ x = y → zW l E ad own cc nL rk d Qf (pc + 3) L st c) : zW l E ad own cc nL rk d Qf pc L (.int y :: .int x :: st) c := by
  intro p e R s m args below meth c0 H locs cells slots Q A ls h1 hX hP hS hL hR
  exact lv_icmp_eq h1.1 h1.2.1 hd ht (fun z => kt z p e R s m args below meth c0 H locs cells slots Q A ls h1 hX hP hS hL hR) (fun z => kf z p e R s m args below meth c0 H locs cells slots Q A ls h1 hX hP hS hL hR)
theorem z_icmp_ne {x y : Int32} {off : Int} (tgt : Nat) (hd : decode cc pc = .ok (.if_icmp .ne off, 3)) (ht : (pc : Int) + off = (tgt : Int)) (kt : ¬ x = y → zW l E ad own cc nL rk d Qf tgt L st c) (kf : x = y → zW l E ad own cc nL rk d Qf (pc + 3) L st c) : zW l E ad own cc nL rk d Qf pc L (.int y :: .int x :: st) c := by
  intro p e R s m args below meth c0 H locs cells slots Q A ls h1 hX hP hS hL hR
  exact lv_icmp_ne h1.1 h1.2.1 hd ht (fun z => kt z p e R s m args below meth c0 H locs cells slots Q A ls h1 hX hP hS hL hR) (fun z => kf z p e R s m args below meth c0 H locs cells slots Q A ls h1 hX hP hS hL hR)
theorem z_icmp_lt {x y : Int32} {off : Int} (tgt : Nat) (hd : decode cc pc = .ok (.if_icmp .lt off, 3)) (ht : (pc : Int) + off = (tgt : Int)) (kt : x < y → zW l E ad own cc nL rk d Qf tgt L st c) (kf : ¬ x < y → zW l E ad own cc nL rk d Qf (pc + 3) L st c) : zW l E ad own cc nL rk d Qf pc L (.int y :: .int x :: st) c := by
  intro p e R s m args below meth c0 H locs cells slots Q A ls h1 hX hP hS hL hR
  exact lv_icmp_lt h1.1 h1.2.1 hd ht (fun z => kt z p e R s m args below meth c0 H locs cells slots Q A ls h1 hX hP hS hL hR) (fun z => kf z p e R s m args below meth c0 H locs cells slots Q A ls h1 hX hP hS hL hR)
theorem z_icmp_ge {x y : Int32} {off : Int} (tgt : Nat) (hd : decode cc pc = .ok (.if_icmp .ge off, 3)) (ht : (pc : Int) + off = (tgt : Int)) (kt : y ≤ x → zW l E ad own cc nL rk d Qf tgt L st c) (kf : ¬ y ≤ x → zW l E ad own cc nL rk d Qf (pc + 3) L st c) : zW l E ad own cc nL rk d Qf pc L (.int y :: .int x :: st) c := by
  intro p e R s m args below meth c0 H locs cells slots Q A ls h1 hX hP hS hL hR
  exact lv_icmp_ge h1.1 h1.2.1 hd ht (fun z => kt z p e R s m args below meth c0 H locs cells slots Q A ls h1 hX hP hS hL hR) (fun z => kf z p e R s m args below meth c0 H locs cells slots Q A ls h1 hX hP hS hL hR)
theorem z_icmp_gt {x y : Int32} {off : Int} (tgt : Nat) (hd : decode cc pc = .ok (.if_icmp .gt off, 3)) (ht : (pc : Int) + off = (tgt : Int)) (kt : y < x → zW l E ad own cc nL rk d Qf tgt L st c) (kf : ¬ y < x → zW l E ad own cc nL rk d Qf (pc + 3) L st c) : zW l E ad own cc nL rk d Qf pc L (.int y :: .int x :: st) c := by
  intro p e R s m args below meth c0 H locs cells slots Q A ls h1 hX hP hS hL hR
  exact lv_icmp_gt h1.1 h1.2.1 hd ht (fun z => kt z p e R s m args below meth c0 H locs cells slots Q A ls h1 hX hP hS hL hR) (fun z => kf z p e R s m args below meth c0 H locs cells slots Q A ls h1 hX hP hS hL hR)
theorem z_icmp_le {x y : Int32} {off : Int} (tgt : Nat) (hd : decode cc pc = .ok (.if_icmp .le off, 3)) (ht : (pc : Int) + off = (tgt : Int)) (kt : x ≤ y → zW l E ad own cc nL rk d Qf tgt L st c) (kf : ¬ x ≤ y → zW l E ad own cc nL rk d Qf (pc + 3) L st c) : zW l E ad own cc nL rk d Qf pc L (.int y :: .int x :: st) c := by
  intro p e R s m args below meth c0 H locs cells slots Q A ls h1 hX hP hS hL hR
  exact lv_icmp_le h1.1 h1.2.1 hd ht (fun z => kt z p e R s m args below meth c0 H locs cells slots Q A ls h1 hX hP hS hL hR) (fun z => kf z p e R s m args below meth c0 H locs cells slots Q A ls h1 hX hP hS hL hR)
theorem z_goto {off : Int} (tgt : Nat) (hd : decode cc pc = .ok (.goto off, 3)) (ht : (pc : Int) + off = (tgt : Int)) (k : zW l E ad own cc nL rk d Qf tgt L st c) : zW l E ad own cc nL rk d Qf pc L st c := by
  intro p e R s m args below meth c0 H locs cells slots Q A ls h1 hX hP hS hL hR
  exact lv_goto h1.1 h1.2.1 hd ht (k p e R s m args below meth c0 H locs cells slots Q A ls h1 hX hP hS hL hR)
theorem z_table {dflt lo hi : Int} {offs : Array Int} {len : Nat} {x v : Int32} {off : Int} (tgt : Nat) (hd : decode cc pc = .ok (.tableswitch dflt lo hi offs, len)) (hx : x = v) (h2 : ¬ v.toInt < lo) (h3 : ¬ hi < v.toInt) (ho : offs[(v.toInt - lo).toNat]? = some off) (ht : (pc : Int) + off = (tgt : Int)) (k : zW l E ad own cc nL rk d Qf tgt L st c) : zW l E ad own cc nL rk d Qf pc L (.int x :: st) c := by
  intro p e R s m args below meth c0 H locs cells slots Q A ls h1 hX hP hS hL hR
  subst hx
  exact lv_tableIn h1.1 h1.2.1 hd h2 h3 ho ht (k p e R s m args below meth c0 H locs cells slots Q A ls h1 hX hP hS hL hR)
theorem z_tableD {dflt lo hi : Int} {offs : Array Int} {len : Nat} {x : Int32} (tgt : Nat) (hd : decode cc pc = .ok (.tableswitch dflt lo hi offs, len)) (hx : x.toInt < lo ∨ hi < x.toInt) (ht : (pc : Int) + dflt = (tgt : Int)) (k : zW l E ad own cc nL rk d Qf tgt L st c) : zW l E ad own cc nL rk d Qf pc L (.int x :: st) c := by
  intro p e R s m args below meth c0 H locs cells slots Q A ls h1 hX hP hS hL hR
  exact lv_tableOut h1.1 h1.2.1 hd hx ht (k p e R s m args below meth c0 H locs cells slots Q A ls h1 hX hP hS hL hR)
theorem z_lookup {dflt : Int} {ps : Array (Int × Int)} {len : Nat} {x : Int32} {off : Int} (tgt : Nat) (hd : decode cc pc = .ok (.lookupswitch dflt ps, len)) (hp : (ps.toList.zip (ps.toList.drop 1)).all (fun (a, next) => a.1 < next.1) = true) (ho : Op.lookupswitch.offset ps.toList dflt x.toInt = off) (ht : (pc : Int) + off = (tgt : Int)) (k : zW l E ad own cc nL rk d Qf tgt L st c) : zW l E ad own cc nL rk d Qf pc L (.int x :: st) c := by
  intro p e R s m args below meth c0 H locs cells slots Q A ls h1 hX hP hS hL hR
  exact lv_lookup h1.1 h1.2.1 hd hp ho ht (k p e R s m args below meth c0 H locs cells slots Q A ls h1 hX hP hS hL hR)
theorem z_ldc {i : Nat} {v : Int32} (hd : decode cc pc = .ok (.ldc i, 2)) (hw : Cond.constant own i v ∈ tblG) (k : zW l E ad own cc nL rk d Qf (pc + 2) L (.int v :: st) c) : zW l E ad own cc nL rk d Qf pc L st c := by
  intro p e R s m args below meth c0 H locs cells slots Q A ls h1 hX hP hS hL hR
  exact lv_ldc h1.1 h1.2.1 h1.2.2.2.1 (h1.2.2.2.2.1 _ hw) hd (k p e R s m args below meth c0 H locs cells slots Q A ls h1 hX hP hS hL hR)
theorem z_ldc_w {i : Nat} {v : Int32} (hd : decode cc pc = .ok (.ldc_w i, 3)) (hw : Cond.constant own i v ∈ tblG) (k : zW l E ad own cc nL rk d Qf (pc + 3) L (.int v :: st) c) : zW l E ad own cc nL rk d Qf pc L st c := by
  intro p e R s m args below meth c0 H locs cells slots Q A ls h1 hX hP hS hL hR
  exact lv_ldcw h1.1 h1.2.1 h1.2.2.2.1 (h1.2.2.2.2.1 _ hw) hd (k p e R s m args below meth c0 H locs cells slots Q A ls h1 hX hP hS hL hR)
theorem z_ldc2_w {i : Nat} {v : Int64} (hd : decode cc pc = .ok (.ldc2_w i, 3)) (hw : Cond.constantLong own i v ∈ tblG) (k : zW l E ad own cc nL rk d Qf (pc + 3) L (.long v :: st) c) : zW l E ad own cc nL rk d Qf pc L st c := by
  intro p e R s m args below meth c0 H locs cells slots Q A ls h1 hX hP hS hL hR
  exact lv_ldc2 h1.1 h1.2.1 h1.2.2.2.1 (h1.2.2.2.2.1 _ hw) hd (k p e R s m args below meth c0 H locs cells slots Q A ls h1 hX hP hS hL hR)
/-- a getfield, a putfield of a class of ours: the words of it -/
def zF (own : String) (i ci j : Nat) : Prop := ∃ (C ref : String) (T : u_T) (N : Nat), vwCl[ci]? = some (C, T, N) ∧ j < N ∧ (∀ w ∈ u_ws C T N, w ∈ tblG) ∧ Cond.fieldLink own i ref (T j).2.1 (T j).2.2.1 ∈ tblG ∧ (T j).1 = ref
def zFp (ci j : Nat) (ty : FieldType) : Prop := ∃ (C : String) (T : u_T) (N : Nat) (ty0 : Nat → FieldType), vwCl[ci]? = some (C, T, N) ∧ j < N ∧ (∀ k, k < N → parseFieldDescriptor (T k).2.2.1 = some (ty0 k)) ∧ (∀ a, a < N → ∀ b, b < N → a ≠ b → (T a).2.1 ≠ (T b).2.1) ∧ (T j).2.2.2 = false ∧ parseFieldDescriptor (T j).2.2.1 = some ty
theorem z_getf {i ci j k : Nat} {fs : List Value} {v : Value} (hd : decode cc pc = .ok (.getfield i, 3)) (hf : zF own i ci j) (hk : k < 64) (he : zen E ad k (c k) = .inr (ci, fs)) (hv : fs[j]? = some v) (kk : zW l E ad own cc nL rk d Qf (pc + 3) L (v :: st) c) : zW l E ad own cc nL rk d Qf pc L (.ref (ad k) :: st) c := by
  intro p e R s m args below meth c0 H locs cells slots Q A ls h1 hX hP hS hL hR
  obtain ⟨C, ref, T, N, hc, hj, hin, hw, hr⟩ := hf
  subst hr
  exact va_get (index := i) h1.1 h1.2.1 h1.2.2.2.2.1 hin h1.2.2.2.1 hX.1 hP k (by rw [zwd_at hk, he]) hc j hj (h1.2.2.2.2.1 _ hw) (fun _ z => z) hv hd (kk p e R s m args below meth c0 H locs cells slots Q A ls h1 hX hP hS hL hR)
theorem z_putf {i ci j k : Nat} {fs : List Value} {v : Value} {ty : FieldType} (f' : Nat → Int32) (hd : decode cc pc = .ok (.putfield i, 3)) (hf : zF own i ci j) (hfp : zFp ci j ty) (hk : k < 64) (he : zen E ad k (c k) = .inr (ci, fs)) (hl : j < fs.length) (hn : narrow ty v = v) (hfit : fits ty v = true) (he2 : zen E ad k f' = .inr (ci, fs.set j v)) (kk : zW l E ad own cc nL rk d Qf (pc + 3) L st (zup c k f')) : zW l E ad own cc nL rk d Qf pc L (v :: .ref (ad k) :: st) c := by
  intro p e R s m args below meth c0 H locs cells slots Q A ls h1 hX hP hS hL hR
  obtain ⟨C, ref, T, N, hc, hj, hin, hw, hr⟩ := hf
  obtain ⟨C', T', N', ty0, hc', hj', hty, hnm, hfin, hd0⟩ := hfp
  cases hc.symm.trans hc'
  subst hr
  have hD := zwd_D (E := E) (c := c) hX.2.1 hX.2.2.1
  refine va_put (index := i) h1.1 h1.2.1 h1.2.2.2.2.1 hin ty0 hty hnm h1.2.2.2.1 hX.1 hP hD hS k (by rw [zwd_at hk, he]) hc j hj (h1.2.2.2.2.1 _ hw) (fun _ z => z) hfin hd0 hn hfit hl hd (fun H1 locs1 hP1 hD1 hS1 => ?_)
  rw [← he2, zwd_set f' hk] at hP1
  exact kk p e R s m args below meth c0 H1 locs1 cells slots Q A ls h1 hX hP1 hS1 hL hR
theorem z_iald {k n : Nat} {i : Int32} {j : Nat} (hd : decode cc pc = .ok (.iaload, 1)) (hk : k < 64) (he : zen E ad k (c k) = .inl (E.2.1.1, n, .inl (c k))) (hi : i = nI j) (hj : j < n) (hN : n < 2147483648) (kk : zW l E ad own cc nL rk d Qf (pc + 1) L (.int (c k j) :: st) c) : zW l E ad own cc nL rk d Qf pc L (.int i :: .ref (ad k) :: st) c := by
  have hin : vp_in i (n) := by rw [hi]; exact vp_in_nI hj (by omega)
  have ei : i.toNatClampNeg = j := by rw [hi]; exact nI_clamp (by omega)
  intro p e R s m args below meth c0 H locs cells slots Q A ls h1 hX hP hS hL hR
  exact va_iald h1.1 h1.2.1 hX.1 hP k 0 (by rw [zwd_at hk, he]) rfl hin hd (by rw [ei]; exact kk p e R s m args below meth c0 H locs cells slots Q A ls h1 hX hP hS hL hR)
theorem z_zald {k n : Nat} {i : Int32} {j : Nat} (hd : decode cc pc = .ok (.baload, 1)) (hk : k < 64) (he : zen E ad k (c k) = .inl (E.2.1.2.1, n, .inl (c k))) (hi : i = nI j) (hj : j < n) (hN : n < 2147483648) (kk : zW l E ad own cc nL rk d Qf (pc + 1) L (.int (c k j) :: st) c) : zW l E ad own cc nL rk d Qf pc L (.int i :: .ref (ad k) :: st) c := by
  have hin : vp_in i (n) := by rw [hi]; exact vp_in_nI hj (by omega)
  have ei : i.toNatClampNeg = j := by rw [hi]; exact nI_clamp (by omega)
  intro p e R s m args below meth c0 H locs cells slots Q A ls h1 hX hP hS hL hR
  exact va_zald h1.1 h1.2.1 hX.1 hP k 1 (by rw [zwd_at hk, he]) rfl hin hd (by rw [ei]; exact kk p e R s m args below meth c0 H locs cells slots Q A ls h1 hX hP hS hL hR)
theorem z_iast {k n : Nat} {i x : Int32} {j : Nat} (hd : decode cc pc = .ok (.iastore, 1)) (hk : k < 64) (he : ∀ f, zen E ad k f = .inl (E.2.1.1, n, .inl f)) (hi : i = nI j) (hj : j < n) (hN : n < 2147483648) (kk : zW l E ad own cc nL rk d Qf (pc + 1) L st (zup c k (upd (c k) j x))) : zW l E ad own cc nL rk d Qf pc L (.int x :: .int i :: .ref (ad k) :: st) c := by
  have hin : vp_in i (n) := by rw [hi]; exact vp_in_nI hj (by omega)
  have ei : i.toNatClampNeg = j := by rw [hi]; exact nI_clamp (by omega)
  intro p e R s m args below meth c0 H locs cells slots Q A ls h1 hX hP hS hL hR
  have hD := zwd_D (E := E) (c := c) hX.2.1 hX.2.2.1
  refine va_iast h1.1 h1.2.1 hX.1 hP hD hS k 0 (by rw [zwd_at hk, he]) rfl hin hd (fun H1 locs1 hP1 hD1 hS1 => ?_)
  rw [← he, zwd_set _ hk, ei] at hP1
  exact kk p e R s m args below meth c0 H1 locs1 cells slots Q A ls h1 hX hP1 hS1 hL hR
theorem z_zast {k n : Nat} {i x x' : Int32} {j : Nat} (hd : decode cc pc = .ok (.bastore, 1)) (hk : k < 64) (he : ∀ f, zen E ad k f = .inl (E.2.1.2.1, n, .inl f)) (hi : i = nI j) (hj : j < n) (hN : n < 2147483648) (hx : vp_nar .boolean x = x') (kk : zW l E ad own cc nL rk d Qf (pc + 1) L st (zup c k (upd (c k) j x'))) : zW l E ad own cc nL rk d Qf pc L (.int x :: .int i :: .ref (ad k) :: st) c := by
  have hin : vp_in i (n) := by rw [hi]; exact vp_in_nI hj (by omega)
  have ei : i.toNatClampNeg = j := by rw [hi]; exact nI_clamp (by omega)
  intro p e R s m args below meth c0 H locs cells slots Q A ls h1 hX hP hS hL hR
  subst hx
  have hD := zwd_D (E := E) (c := c) hX.2.1 hX.2.2.1
  refine va_zast h1.1 h1.2.1 hX.1 hP hD hS k 1 (by rw [zwd_at hk, he]) rfl hin hd (fun H1 locs1 hP1 hD1 hS1 => ?_)
  rw [← he, zwd_set _ hk, ei] at hP1
  exact kk p e R s m args below meth c0 H1 locs1 cells slots Q A ls h1 hX hP1 hS1 hL hR
/-- one of the rows of SHEETS -/
theorem z_aald {i : Int32} {j : Nat} (hd : decode cc pc = .ok (.aaload, 1)) (hi : i = nI j) (hj : j < 4) (hN : 4 < 2147483648) (kk : zW l E ad own cc nL rk d Qf (pc + 1) L (.ref (ad (46 + j)) :: st) c) : zW l E ad own cc nL rk d Qf pc L (.int i :: .ref (ad 45) :: st) c := by
  have hin : vp_in i (4) := by rw [hi]; exact vp_in_nI hj (by omega)
  have ei : i.toNatClampNeg = j := by rw [hi]; exact nI_clamp (by omega)
  intro p e R s m args below meth c0 H locs cells slots Q A ls h1 hX hP hS hL hR
  have hlt : i.toNatClampNeg < 4 := Nat.not_le.mp fun q => hin (Or.inr q)
  have ha : va_at E.1 vwCl (ad 45, .inl (E.2.1.2.2, 4, .inr (.inr (.inr (.inr (fun i => if i < 4 then some (ad (46 + i)) else none)))))) H := hP 45 _ (zwd_at (by decide))
  exact W.aald (v := .ref (ad (46 + i.toNatClampNeg))) (ty := .array .int) h1.1 h1.2.1 ha ((hX.1.2 2 _ rfl).1 4 (fun j => va_rf (if j < 4 then some (ad (46 + j)) else none))) rfl (fun q => by cases q) (by show ¬ (i < 0 ∨ (arrV _ _ _).slots.size ≤ _); rw [arrV_size]; exact hin) (by show (arrV _ _ _).slots[_]? = _; rw [arrV_read _ _ hlt]; simp only [if_pos hlt]; rfl) rfl rfl hd (by rw [ei]; exact kk p e R s m args below meth c0 H locs cells slots Q A ls h1 hX hP hS hL hR)
theorem z_sald {i : Int32} {j : Nat} (hd : decode cc pc = .ok (.iaload, 1)) (hi : i = nI j) (hj : j < E.2.2.1) (hN : E.2.2.1 < 2147483648) (kk : zW l E ad own cc nL rk d Qf (pc + 1) L (.int (E.2.2.2 j) :: st) c) : zW l E ad own cc nL rk d Qf pc L (.int i :: .ref (ad 72) :: st) c := by
  have hin : vp_in i (E.2.2.1) := by rw [hi]; exact vp_in_nI hj (by omega)
  have ei : i.toNatClampNeg = j := by rw [hi]; exact nI_clamp (by omega)
  intro p e R s m args below meth c0 H locs cells slots Q A ls h1 hX hP hS hL hR
  obtain ⟨-, -, -, -, -, -, -, -, -, -, -, hX1, hX2, hX3⟩ := id hX
  exact va_sld h1.1 h1.2.1 hX1 hX2 hX3 hS hin hd (by rw [ei]; exact kk p e R s m args below meth c0 H locs cells slots Q A ls h1 hX hP hS hL hR)
theorem z_slen (hd : decode cc pc = .ok (.arraylength, 1)) (kk : zW l E ad own cc nL rk d Qf (pc + 1) L (.int (Int32.ofNat E.2.2.1) :: st) c) : zW l E ad own cc nL rk d Qf pc L (.ref (ad 72) :: st) c := by
  intro p e R s m args below meth c0 H locs cells slots Q A ls h1 hX hP hS hL hR
  obtain ⟨-, -, -, -, -, -, -, -, -, -, -, hX1, hX2, hX3⟩ := id hX
  exact va_slen h1.1 h1.2.1 hX1 hX2 hX3 hS hd (kk p e R s m args below meth c0 H locs cells slots Q A ls h1 hX hP hS hL hR)
theorem z_above {i : Int32} {j : Nat} {v : Int32} (hd : decode cc pc = .ok (.iaload, 1)) (hi : i = nI j) (hj : j < 7) (hN : 7 < 2147483648) (hv : zAbove.getD j 0 = v) (kk : zW l E ad own cc nL rk d Qf (pc + 1) L (.int v :: st) c) : zW l E ad own cc nL rk d Qf pc L (.int i :: .ref (ad 70) :: st) c := by
  have hin : vp_in i (7) := by rw [hi]; exact vp_in_nI hj (by omega)
  have ei : i.toNatClampNeg = j := by rw [hi]; exact nI_clamp (by omega)
  intro p e R s m args below meth c0 H locs cells slots Q A ls h1 hX hP hS hL hR
  exact va_ti h1.1 h1.2.1 hX.2.2.2.2.1 hS hin (by rw [ei, ← hv]) hd (kk p e R s m args below meth c0 H locs cells slots Q A ls h1 hX hP hS hL hR)
theorem z_bodies {i : Int32} {j : Nat} {v : Int32} (hd : decode cc pc = .ok (.iaload, 1)) (hi : i = nI j) (hj : j < 28) (hN : 28 < 2147483648) (hv : zBodies.getD j 0 = v) (kk : zW l E ad own cc nL rk d Qf (pc + 1) L (.int v :: st) c) : zW l E ad own cc nL rk d Qf pc L (.int i :: .ref (ad 71) :: st) c := by
  have hin : vp_in i (28) := by rw [hi]; exact vp_in_nI hj (by omega)
  have ei : i.toNatClampNeg = j := by rw [hi]; exact nI_clamp (by omega)
  intro p e R s m args below meth c0 H locs cells slots Q A ls h1 hX hP hS hL hR
  exact va_ti h1.1 h1.2.1 hX.2.2.2.2.2.2.1 hS hin (by rw [ei, ← hv]) hd (kk p e R s m args below meth c0 H locs cells slots Q A ls h1 hX hP hS hL hR)
theorem z_gsAbove {i : Nat} (hd : decode cc pc = .ok (.getstatic i, 3)) (hw : Cond.fieldLink own i "AnswerPass" "ABOVE" "[I" ∈ tblG) (kk : zW l E ad own cc nL rk d Qf (pc + 3) L (.ref (ad 70) :: st) c) : zW l E ad own cc nL rk d Qf pc L st c := by
  intro p e R s m args below meth c0 H locs cells slots Q A ls h1 hX hP hS hL hR
  exact va_gets (index := i) h1.1 h1.2.1 hX.2.2.2.1 hS h1.2.2.2.1 (h1.2.2.2.2.1 _ hw) (fun _ z => z) hd (kk p e R s m args below meth c0 H locs cells slots Q A ls h1 hX hP hS hL hR)
theorem z_gsAboveN (hd : decode cc pc = .ok (.getstatic 40, 3)) (ho : own = RX6) (kk : zW l E ad own cc nL rk d Qf (pc + 3) L (.ref (ad 70) :: st) c) : zW l E ad own cc nL rk d Qf pc L st c := by
  intro p e R s m args below meth c0 H locs cells slots Q A ls h1 hX hP hS hL hR
  subst ho
  exact va_getsN h1.1 h1.2.1 hX.2.2.2.1 hS h1.2.2.2.1 (va_tabs rfl rfl hX.2.2.2.2.2.2.2.2.2.2.1) (fun _ z => z) hd (kk p e R s m args below meth c0 H locs cells slots Q A ls h1 hX hP hS hL hR)
theorem z_gsBodies {i : Nat} (hd : decode cc pc = .ok (.getstatic i, 3)) (hw : Cond.fieldLink own i "AnswerPass$Voices" "BODIES" "[I" ∈ tblG) (kk : zW l E ad own cc nL rk d Qf (pc + 3) L (.ref (ad 71) :: st) c) : zW l E ad own cc nL rk d Qf pc L st c := by
  intro p e R s m args below meth c0 H locs cells slots Q A ls h1 hX hP hS hL hR
  exact va_gets (index := i) h1.1 h1.2.1 hX.2.2.2.2.2.1 hS h1.2.2.2.1 (h1.2.2.2.2.1 _ hw) (fun _ z => z) hd (kk p e R s m args below meth c0 H locs cells slots Q A ls h1 hX hP hS hL hR)
theorem z_gsCompact {i : Nat} (hd : decode cc pc = .ok (.getstatic i, 3)) (hw : Cond.fieldLink own i "java/lang/String" "COMPACT_STRINGS" "Z" ∈ tblG) (kk : zW l E ad own cc nL rk d Qf (pc + 3) L (.int 1 :: st) c) : zW l E ad own cc nL rk d Qf pc L st c := by
  intro p e R s m args below meth c0 H locs cells slots Q A ls h1 hX hP hS hL hR
  exact va_gets (index := i) h1.1 h1.2.1 hX.2.2.2.2.2.2.2.1 hS h1.2.2.2.1 (h1.2.2.2.2.1 _ hw) (fun _ z => z) hd (kk p e R s m args below meth c0 H locs cells slots Q A ls h1 hX hP hS hL hR)
theorem z_min {i : Nat} {x y : Int32} (hd : decode cc pc = .ok (.invokestatic i, 3)) (hdp : 1 ≤ d) (hst : (st.map fun v => v.category).sum ≤ 8) (hw : Cond.methodLink own i Lib.Math.min.name ∈ tblG) (hw2 : Cond.static Lib.Math.min.name ∈ tblG) (hw3 : Cond.initialized "java/lang/Math" ∈ tblG) (hw4 : Cond.code Lib.Math.min.name Lib.Math.min.code 2 (some .int) ∈ tblG) (kk : zW l E ad own cc nL rk d Qf (pc + 3) L (.int (if y < x then y else x) :: st) c) : zW l E ad own cc nL rk d Qf pc L (.int y :: .int x :: st) c := by
  intro p e R s m args below meth c0 H locs cells slots Q A ls h1 hX hP hS hL hR
  exact va_mmin (index := i) h1.1 h1.2.1 (h1.2.2.1.trans hL.1.symm) h1.2.2.2.1 (h1.2.2.2.2.1 _ hw) (h1.2.2.2.2.1 _ hw2) (h1.2.2.2.2.1 _ hw3) (h1.2.2.2.2.1 _ hw4) (by have := h1.2.2.2.2.2.1; omega) (by have := h1.2.2.2.2.2.2.1; omega) h1.2.2.2.2.2.2.2.1 h1.2.2.2.2.2.2.2.2 hd (kk p e R s m args below meth c0 H locs cells slots Q A ls h1 hX hP hS hL hR)
theorem z_max {i : Nat} {x y : Int32} (hd : decode cc pc = .ok (.invokestatic i, 3)) (hdp : 1 ≤ d) (hst : (st.map fun v => v.category).sum ≤ 8) (hw : Cond.methodLink own i Lib.Math.max.name ∈ tblG) (hw2 : Cond.static Lib.Math.max.name ∈ tblG) (hw3 : Cond.initialized "java/lang/Math" ∈ tblG) (hw4 : Cond.code Lib.Math.max.name Lib.Math.max.code 2 (some .int) ∈ tblG) (kk : zW l E ad own cc nL rk d Qf (pc + 3) L (.int (if x < y then y else x) :: st) c) : zW l E ad own cc nL rk d Qf pc L (.int y :: .int x :: st) c := by
  intro p e R s m args below meth c0 H locs cells slots Q A ls h1 hX hP hS hL hR
  exact va_mmax (index := i) h1.1 h1.2.1 (h1.2.2.1.trans hL.1.symm) h1.2.2.2.1 (h1.2.2.2.2.1 _ hw) (h1.2.2.2.2.1 _ hw2) (h1.2.2.2.2.1 _ hw3) (h1.2.2.2.2.1 _ hw4) (by have := h1.2.2.2.2.2.1; omega) (by have := h1.2.2.2.2.2.2.1; omega) h1.2.2.2.2.2.2.2.1 h1.2.2.2.2.2.2.2.2 hd (kk p e R s m args below meth c0 H locs cells slots Q A ls h1 hX hP hS hL hR)
theorem z_copy {i k0 k1 n0 n1 : Nat} {sp dp n : Int32} (hd : decode cc pc = .ok (.invokestatic i, 3)) (hdp : 2 ≤ d) (hst : (st.map fun v => v.category).sum ≤ 8) (hw : Cond.methodLink own i arraycopyName ∈ tblG) (hw2 : Cond.native arraycopyName ∈ tblG) (hw3 : Cond.static arraycopyName ∈ tblG) (hw4 : Cond.initialized "java/lang/System" ∈ tblG) (hk0 : k0 < 64) (hk1 : k1 < 64) (he0 : zen E ad k0 (c k0) = .inl (E.2.1.1, n0, .inl (c k0))) (he1 : ∀ f, zen E ad k1 f = .inl (E.2.1.1, n1, .inl f)) (g1 : ¬ sp < 0) (g2 : ¬ dp < 0) (g3 : ¬ n < 0) (g4 : sp.toNatClampNeg + n.toNatClampNeg ≤ n0) (g5 : dp.toNatClampNeg + n.toNatClampNeg ≤ n1) (kk : zW l E ad own cc nL rk d Qf (pc + 3) L st (zup c k1 (va_cpy (c k0) (c k1) sp.toNatClampNeg dp.toNatClampNeg n.toNatClampNeg))) : zW l E ad own cc nL rk d Qf pc L (.int n :: .int dp :: .ref (ad k1) :: .int sp :: .ref (ad k0) :: st) c := by
  intro p e R s m args below meth c0 H locs cells slots Q A ls h1 hX hP hS hL hR
  have hD := zwd_D (E := E) (c := c) hX.2.1 hX.2.2.1
  refine va_copyi (index := i) h1.1 h1.2.1 (h1.2.2.1.trans hL.1.symm) h1.2.2.2.1 (h1.2.2.2.2.1 _ hw) (h1.2.2.2.2.1 _ hw2) (h1.2.2.2.2.1 _ hw3) (h1.2.2.2.2.1 _ hw4) hX.1 hP hD hS k0 k1 0 0 (by rw [zwd_at hk0, he0]) (by rw [zwd_at hk1, he1]) rfl rfl rfl g1 g2 g3 g4 g5 (fun _ _ => rfl) (by have := h1.2.2.2.2.2.1; omega) (by have h9 := h1.2.2.2.2.2.2.1; have h8 : nativeFrameWords "java/lang/System" "arraycopy" 5 ≤ 50 := (by decide +kernel); omega) hd (fun H1 locs1 hP1 hD1 hS1 => ?_)
  rw [← he1, zwd_set _ hk1] at hP1
  exact kk p e R s m args below meth c0 H1 locs1 cells slots Q A ls h1 hX hP1 hS1 hL hR
/-- String constants -/
theorem z_str {i k : Nat} (hd : decode cc pc = .ok (.ldc i, 2)) (ho : own = RX2) (hi : i = 25 ∧ k = 64 ∨ i = 34 ∧ k = 65 ∨ i = 36 ∧ k = 66) (kk : zW l E ad own cc nL rk d Qf (pc + 2) L (.ref (ad k) :: st) c) : zW l E ad own cc nL rk d Qf pc L st c := by
  intro p e R s m args below meth c0 H locs cells slots Q A ls h1 hX hP hS hL hR
  subst ho
  obtain ⟨q1, q2, q3⟩ := hX.2.2.2.2.2.2.2.2.1
  have := kk p e R s m args below meth c0 H locs cells slots Q A ls h1 hX hP hS hL hR
  rcases hi with ⟨rfl, rfl⟩ | ⟨rfl, rfl⟩ | ⟨rfl, rfl⟩
  · exact va_ldcS h1.1 h1.2.1 h1.2.2.2.1 q1 hd this
  · exact va_ldcS h1.1 h1.2.1 h1.2.2.2.1 q2 hd this
  · exact va_ldcS h1.1 h1.2.1 h1.2.2.2.1 q3 hd this
theorem z_scoder {i k : Nat} (hd : decode cc pc = .ok (.getfield i, 3)) (hk : k < 3) (hw : Cond.fieldLink own i "java/lang/String" "coder" "B" ∈ tblG) (kk : zW l E ad own cc nL rk d Qf (pc + 3) L (.int 0 :: st) c) : zW l E ad own cc nL rk d Qf pc L (.ref (ad (64 + k)) :: st) c := by
  intro p e R s m args below meth c0 H locs cells slots Q A ls h1 hX hP hS hL hR
  exact vk_getf (index := i) h1.1 h1.2.1 (hX.2.2.2.2.2.2.2.2.2.1.1 k hk).2.1 hS h1.2.2.2.1 (h1.2.2.2.2.1 _ hw) (fun _ z => z) hd (kk p e R s m args below meth c0 H locs cells slots Q A ls h1 hX hP hS hL hR)
theorem z_svalue {i k : Nat} (hd : decode cc pc = .ok (.getfield i, 3)) (hk : k < 3) (hw : Cond.fieldLink own i "java/lang/String" "value" "[B" ∈ tblG) (kk : zW l E ad own cc nL rk d Qf (pc + 3) L (.ref (ad (67 + k)) :: st) c) : zW l E ad own cc nL rk d Qf pc L (.ref (ad (64 + k)) :: st) c := by
  intro p e R s m args below meth c0 H locs cells slots Q A ls h1 hX hP hS hL hR
  exact vk_getf (index := i) h1.1 h1.2.1 (hX.2.2.2.2.2.2.2.2.2.1.1 k hk).2.2.1 hS h1.2.2.2.1 (h1.2.2.2.2.1 _ hw) (fun _ z => z) hd (kk p e R s m args below meth c0 H locs cells slots Q A ls h1 hX hP hS hL hR)
theorem z_sbyte {k n : Nat} {i v : Int32} {j : Nat} (hd : decode cc pc = .ok (.baload, 1)) (hk : k < 3) (hn : ([0, 3, 3] : List Nat).getD k 0 = n) (hi : i = nI j) (hj : j < n) (hN : n < 2147483648) (hv : (([[], [99, 115, 104], [99, 109, 107]] : List (List Int32)).getD k []).getD j 0 = v) (kk : zW l E ad own cc nL rk d Qf (pc + 1) L (.int v :: st) c) : zW l E ad own cc nL rk d Qf pc L (.int i :: .ref (ad (67 + k)) :: st) c := by
  subst hn
  have hin : vp_in i (([0, 3, 3] : List Nat).getD k 0) := by rw [hi]; exact vp_in_nI hj (by omega)
  have ei : i.toNatClampNeg = j := by rw [hi]; exact nI_clamp (by omega)
  intro p e R s m args below meth c0 H locs cells slots Q A ls h1 hX hP hS hL hR
  exact va_tb h1.1 h1.2.1 (hX.2.2.2.2.2.2.2.2.2.1.1 k hk).2.2.2 hS hin (by rw [ei, ← hv]) hd (kk p e R s m args below meth c0 H locs cells slots Q A ls h1 hX hP hS hL hR)
theorem z_sblen {k : Nat} {v : Int32} (hd : decode cc pc = .ok (.arraylength, 1)) (hk : k < 3) (hv : Int32.ofNat (([0, 3, 3] : List Nat).getD k 0) = v) (kk : zW l E ad own cc nL rk d Qf (pc + 1) L (.int v :: st) c) : zW l E ad own cc nL rk d Qf pc L (.ref (ad (67 + k)) :: st) c := by
  intro p e R s m args below meth c0 H locs cells slots Q A ls h1 hX hP hS hL hR
  exact va_tlen h1.1 h1.2.1 (hX.2.2.2.2.2.2.2.2.2.1.1 k hk).2.2.2 hS hv hd (kk p e R s m args below meth c0 H locs cells slots Q A ls h1 hX hP hS hL hR)
/-- ends -/
theorem z_ret {r : Int32} (hd : decode cc pc = .ok (zri rk, 1)) (h : Qf r c) (hok : zok rk r) (hs : zrs ad rk r = st) : zW l E ad own cc nL rk d Qf pc L st c := by
  intro p e R s m args below meth c0 H locs cells slots Q A ls h1 hX hP hS hL hR
  subst hs
  exact hR H locs ls pc r c h hok hP hS hd
/-- weaker wish -/
theorem zW_mono {Q2 : Int32 → zS → Prop} (hq : ∀ r c, Q2 r c → Qf r c) (h : zW l E ad own cc nL rk d Q2 pc L st c) : zW l E ad own cc nL rk d Qf pc L st c := by
  intro p e R s m args below meth c0 H locs cells slots Q A ls h1 hX hP hS hL hR
  exact h p e R s m args below meth c0 H locs cells slots Q A ls h1 hX hP hS hL (fun H locs ls pc r c z => hR H locs ls pc r c (hq r c z))
theorem z_putfi {i ci j k : Nat} {fs : List Value} {x : Int32} (hd : decode cc pc = .ok (.putfield i, 3)) (hf : zF own i ci j) (hfp : zFp ci j .int) (hk : k < 64) (he : zen E ad k (c k) = .inr (ci, fs)) (hl : j < fs.length) (he2 : zen E ad k (upd (c k) j x) = .inr (ci, fs.set j (.int x))) (kk : zW l E ad own cc nL rk d Qf (pc + 3) L st (zup c k (upd (c k) j x))) : zW l E ad own cc nL rk d Qf pc L (.int x :: .ref (ad k) :: st) c := z_putf _ hd hf hfp hk he hl rfl rfl he2 kk
theorem z_putfz {i ci j k : Nat} {fs : List Value} {x : Int32} (hd : decode cc pc = .ok (.putfield i, 3)) (hf : zF own i ci j) (hfp : zFp ci j .boolean) (hk : k < 64) (he : zen E ad k (c k) = .inr (ci, fs)) (hl : j < fs.length) (hx : narrow .boolean (.int x) = .int x) (hx2 : fits .boolean (.int x) = true) (he2 : zen E ad k (upd (c k) j x) = .inr (ci, fs.set j (.int x))) (kk : zW l E ad own cc nL rk d Qf (pc + 3) L st (zup c k (upd (c k) j x))) : zW l E ad own cc nL rk d Qf pc L (.int x :: .ref (ad k) :: st) c := z_putf _ hd hf hfp hk he hl hx hx2 he2 kk
theorem z_putfn {i k : Nat} {x : Int32} (hd : decode cc pc = .ok (.putfield i, 3)) (hf : zF own i 2 5) (hfp : zFp 2 5 (.object "java/lang/String")) (hx : k = 64 + x.toNatClampNeg) (kk : zW l E ad own cc nL rk d Qf (pc + 3) L st (zup c 31 (upd (c 31) 5 x))) : zW l E ad own cc nL rk d Qf pc L (.ref (ad k) :: .ref (ad 31) :: st) c := by
  subst hx
  exact z_putf (upd (c 31) 5 x) hd hf hfp (by decide) rfl (by show 5 < 6; decide) rfl rfl rfl kk
end ZROWS

/-! calls -/
def zVok (y : MethodName) (cc : ByteArray) (nL : Nat) (ret : Option FieldType) (n : Nat) : Prop := Cond.code y cc nL ret ∈ tblG ∧ Cond.instanceMethod y ∈ tblG ∧ Cond.selects y.cls y y ∈ tblG ∧ Cond.initialized y.cls ∈ tblG ∧ y.cls ≠ "java/lang/invoke/MethodHandle" ∧ y.cls ≠ "java/lang/invoke/VarHandle" ∧ (parseMethodDescriptor y.desc).map (fun d => d.parameters.length) = some n
def zSok (y : MethodName) (cc : ByteArray) (nL : Nat) (ret : Option FieldType) (n : Nat) : Prop := Cond.code y cc nL ret ∈ tblG ∧ Cond.static y ∈ tblG ∧ Cond.initialized y.cls ∈ tblG ∧ y.cls ≠ "java/lang/invoke/MethodHandle" ∧ y.cls ≠ "java/lang/invoke/VarHandle" ∧ (parseMethodDescriptor y.desc).map (fun d => d.parameters.length) = some n
theorem zPre_blind {E : zE} {ad : Nat → Nat} {av : List Value} {c : zS} : FrameBlind (va_Pc av (zPre E ad c)) := fun _ _ _ _ h => ⟨h.1, zX_same rfl h.2.1, h.2.2⟩
theorem zPre_of {E : zE} {ad : Nat → Nat} {c : zS} {A : Nat → Prop} {s U : State} {H : Heap} {locs : List Loc} (hX : zX E ad A s s.heap) (hP : va_P E.1 vwCl (zwd E ad c) H) (hS : va_S A s.heap H locs) (hU : U.heap = H) (hW : s.WarmedH U.vm) : zPre E ad c U := by
  have hBA : ∀ q, zA ad q → A q := fun q h => by
    obtain ⟨k, hk, e⟩ := h
    rw [e]
    exact hX.2.2.1 k hk
  exact ⟨by rw [hU]; exact zX_to hW hBA (fun k hk => ⟨k, hk, rfl⟩) hS.1 hS.2.1 hX, by rw [hU]; exact hP⟩
theorem z_back {l : Launch} {E : zE} {ad : Nat → Nat} {own : String} {cc : ByteArray} {nL rk d : Nat} {Qf : Int32 → zS → Prop} {pc : Nat} {L : List (Option Value)} {S st : List Value} {rk' : Nat} {p : Program} {e : Env} {R : Room} {s : State} {m : MethodId} {args a : Array Value} {below : List Frame} {meth : Method} {c0 : Code} {H : Heap} {locs : List Loc} {cells slots : Nat} {Q : State → Prop} {A : Nat → Prop} {ls : Array Slot}
    (h1 : zC own cc nL d p R s m args c0 cells slots) (hX : zX E ad A s s.heap) (hS : va_S A s.heap H locs) (hL : lv_has ls nL (zlv 0 L)) (hR : zR l E ad cc rk Qf p e R s m args below meth c0 cells slots Q A)
    (run : va_Run p l e R s m args below meth c0 H locs cells slots 0 0 (F0 m pc ls S) st (zQ E ad rk' (fun r c' => zW l E ad own cc nL rk d Qf (pc + 3) L (zrs ad rk' r ++ st) c') a) (zA ad)) : W p l e R s m args below meth c0 H locs cells slots Q (F0 m pc ls S) := by
  have hBA : ∀ q, zA ad q → A q := fun q h => by
    obtain ⟨k, hk, e⟩ := h
    rw [e]
    exact hX.2.2.1 k hk
  match rk', run with
  | 0, run => exact va_callv (a := a) run hS (fun q _ h => hBA q h) hBA (fun u t H1 locs1 ht hvm hw hB hz hk hS1 => hw p e R s m args below meth c0 H1 locs1 cells slots Q A ls h1 hX (by rw [← ht]; exact hB) hS1 hL hR)
  | 1, run => exact va_calli (a := a) run hS (fun q _ h => hBA q h) hBA (fun r u t H1 locs1 ht hvm hw hB hz hk hS1 => hw p e R s m args below meth c0 H1 locs1 cells slots Q A ls h1 hX (by rw [← ht]; exact hB) hS1 hL hR)
  | 2, run =>
    refine va_callr (a := a) run hS (fun q _ h => hBA q h) hBA (fun u ra t H1 locs1 ht hvm hw hB hz hk hS1 => ?_)
    obtain ⟨e1, hB⟩ := hB
    subst e1
    exact hw p e R s m args below meth c0 H1 locs1 cells slots Q A ls h1 hX (by rw [← ht]; exact hB) hS1 hL hR
  | n + 3, run => exact va_calli (a := a) run hS (fun q _ h => hBA q h) hBA (fun r u t H1 locs1 ht hvm hw hB hz hk hS1 => hw p e R s m args below meth c0 H1 locs1 cells slots Q A ls h1 hX (by rw [← ht]; exact hB) hS1 hL hR)
section ZCALLS
variable {l : Launch} {E : zE} {ad : Nat → Nat} {own : String} {cc : ByteArray} {nL rk d : Nat} {Qf : Int32 → zS → Prop} {pc : Nat} {L : List (Option Value)} {S st : List Value} {c : zS}
variable {y' : MethodName} {cc' : ByteArray} {nL' n i : Nat} {ret' : Option FieldType} {As : List Value}
theorem z_call {rk' b : Nat} (hd : decode cc pc = .ok (.invokevirtual i, 3)) (hSt : S = As.reverse ++ .ref b :: st) (hM : zVok y' cc' nL' ret' n) (hl : Cond.methodLink own i y' ∈ tblG) (hrec : ∀ (s : State) (H : Heap) (locs : List Loc) (A : Nat → Prop), zX E ad A s s.heap → va_P E.1 vwCl (zwd E ad c) H → va_S A s.heap H locs → ∃ cell : Cell, H[b]? = some cell ∧ cell.vm.isStatics = false ∧ s.vm.findClass y'.cls = some cell.cls) (hn : As.length = n) (hdp : 1 ≤ d) (hnL : nL' ≤ 21) (hst : (st.map fun v => v.category).sum ≤ 8) (hc : zCl l E ad (y', cc', nL', ret', rk') (d - 1) (.ref b :: As) c (fun r c' => zW l E ad own cc nL rk d Qf (pc + 3) L (zrs ad rk' r ++ st) c')) : zW l E ad own cc nL rk d Qf pc L S c := by
  intro p e R s m args below meth c0 H locs cells slots Q A ls h1 hX hP hS hL hR
  obtain ⟨hx, hb, hml, hown, hts, hf, hlo, hce, hsl⟩ := id h1
  obtain ⟨w1, w2, w3, w4, w5, w6, w7⟩ := hM
  refine z_back h1 hX hS hL hR (va_runV (As := As) (rest := st) ⟨hx, hb, hml, hown, hts⟩ hc (cwV n hts (gW_good (fun w hw => ?_)) rfl rfl rfl ⟨rfl, w5, w6, w7⟩ ⟨?_, ?_⟩) ⟨zPre_blind, hrec s H locs A hX hP hS, fun U hU hW => ⟨rfl, zPre_of hX hP hS hU hW⟩⟩ rfl hn hL.1 hSt (lv_room hst) hd ⟨hce, hsl⟩)
  · simp only [wsV, List.cons_append, List.nil_append, List.mem_cons] at hw
    rcases hw with rfl | rfl | rfl | rfl | rfl | hw
    · exact hl
    · exact w2
    · exact w3
    · exact w4
    · exact w1
    · exact hw
  · show d - 1 + 1 ≤ R.frames
    omega
  · show 8 + (nL' + 11) + 40 * (d - 1) ≤ R.locals
    omega
theorem z_callS {rk' : Nat} (hd : decode cc pc = .ok (.invokestatic i, 3)) (hSt : S = As.reverse ++ st) (hM : zSok y' cc' nL' ret' n) (hl : Cond.methodLink own i y' ∈ tblG) (hn : As.length = n) (hdp : 1 ≤ d) (hnL : nL' ≤ 21) (hst : (st.map fun v => v.category).sum ≤ 8) (hc : zCl l E ad (y', cc', nL', ret', rk') (d - 1) As c (fun r c' => zW l E ad own cc nL rk d Qf (pc + 3) L (zrs ad rk' r ++ st) c')) : zW l E ad own cc nL rk d Qf pc L S c := by
  intro p e R s m args below meth c0 H locs cells slots Q A ls h1 hX hP hS hL hR
  obtain ⟨hx, hb, hml, hown, hts, hf, hlo, hce, hsl⟩ := id h1
  obtain ⟨w1, w2, w4, w5, w6, w7⟩ := hM
  refine z_back h1 hX hS hL hR (va_runS (As := As) (rest := st) ⟨hx, hb, hml, hown, hts⟩ hc (va_cwS n hts (gW_good (fun w hw => ?_)) rfl rfl rfl ⟨w5, w6, w7⟩ ⟨?_, ?_⟩) ⟨zPre_blind, fun U hU hW => ⟨rfl, zPre_of hX hP hS hU hW⟩⟩ rfl hn hL.1 hSt (lv_room hst) hd ⟨hce, hsl⟩)
  · simp only [va_wsS, List.cons_append, List.nil_append, List.mem_cons] at hw
    rcases hw with rfl | rfl | rfl | rfl | hw
    · exact hl
    · exact w2
    · exact w4
    · exact w1
    · exact hw
  · show d - 1 + 1 ≤ R.frames
    omega
  · show 8 + (nL' + 11) + 40 * (d - 1) ≤ R.locals
    omega
theorem z_rec {k ci : Nat} {fs : List Value} {C : String} (hk : k < 64) (he : zen E ad k (c k) = .inr (ci, fs)) (hq : (vwCl[ci]?).map (fun q => q.1) = some C) (s : State) (H : Heap) (locs : List Loc) (A : Nat → Prop) (hX : zX E ad A s s.heap) (hP : va_P E.1 vwCl (zwd E ad c) H) (_ : va_S A s.heap H locs) : ∃ cell : Cell, H[ad k]? = some cell ∧ cell.vm.isStatics = false ∧ s.vm.findClass C = some cell.cls := by
  cases h : vwCl[ci]? with
  | none => rw [h] at hq; cases hq
  | some q =>
    rw [h] at hq
    cases hq
    exact va_recv hX.1 hP h (by rw [zwd_at hk, he])
theorem z_recS {k : Nat} (hk : k < 3) (s : State) (H : Heap) (locs : List Loc) (A : Nat → Prop) (hX : zX E ad A s s.heap) (_ : va_P E.1 vwCl (zwd E ad c) H) (hS : va_S A s.heap H locs) : ∃ cell : Cell, H[ad (64 + k)]? = some cell ∧ cell.vm.isStatics = false ∧ s.vm.findClass "java/lang/String" = some cell.cls := vk_recv (i := k) hX.2.2.2.2.2.2.2.2.2.1 hk hS
theorem z_Vv {k ci : Nat} {fs : List Value} (hd : decode cc pc = .ok (.invokevirtual i, 3)) (hSt : S = As.reverse ++ .ref (ad k) :: st) (hM : zVok y' cc' nL' ret' n) (hl : Cond.methodLink own i y' ∈ tblG) (hk : k < 64) (he : zen E ad k (c k) = .inr (ci, fs)) (hq : (vwCl[ci]?).map (fun q => q.1) = some y'.cls) (hn : As.length = n) (hdp : 1 ≤ d) (hnL : nL' ≤ 21) (hst : (st.map fun v => v.category).sum ≤ 8) (hc : zCl l E ad (y', cc', nL', ret', 0) (d - 1) (.ref (ad k) :: As) c (fun _ c' => zW l E ad own cc nL rk d Qf (pc + 3) L st c')) : zW l E ad own cc nL rk d Qf pc L S c := z_call (rk' := 0) hd hSt hM hl (z_rec hk he hq) hn hdp hnL hst hc
theorem z_Sv (hd : decode cc pc = .ok (.invokestatic i, 3)) (hSt : S = As.reverse ++ st) (hM : zSok y' cc' nL' ret' n) (hl : Cond.methodLink own i y' ∈ tblG) (hn : As.length = n) (hdp : 1 ≤ d) (hnL : nL' ≤ 21) (hst : (st.map fun v => v.category).sum ≤ 8) (hc : zCl l E ad (y', cc', nL', ret', 0) (d - 1) As c (fun _ c' => zW l E ad own cc nL rk d Qf (pc + 3) L st c')) : zW l E ad own cc nL rk d Qf pc L S c := z_callS (rk' := 0) hd hSt hM hl hn hdp hnL hst hc
theorem z_Vi {k ci : Nat} {fs : List Value} (hd : decode cc pc = .ok (.invokevirtual i, 3)) (hSt : S = As.reverse ++ .ref (ad k) :: st) (hM : zVok y' cc' nL' ret' n) (hl : Cond.methodLink own i y' ∈ tblG) (hk : k < 64) (he : zen E ad k (c k) = .inr (ci, fs)) (hq : (vwCl[ci]?).map (fun q => q.1) = some y'.cls) (hn : As.length = n) (hdp : 1 ≤ d) (hnL : nL' ≤ 21) (hst : (st.map fun v => v.category).sum ≤ 8) (hc : zCl l E ad (y', cc', nL', ret', 1) (d - 1) (.ref (ad k) :: As) c (fun r c' => zW l E ad own cc nL rk d Qf (pc + 3) L (.int r :: st) c')) : zW l E ad own cc nL rk d Qf pc L S c := z_call (rk' := 1) hd hSt hM hl (z_rec hk he hq) hn hdp hnL hst hc
theorem z_Si (hd : decode cc pc = .ok (.invokestatic i, 3)) (hSt : S = As.reverse ++ st) (hM : zSok y' cc' nL' ret' n) (hl : Cond.methodLink own i y' ∈ tblG) (hn : As.length = n) (hdp : 1 ≤ d) (hnL : nL' ≤ 21) (hst : (st.map fun v => v.category).sum ≤ 8) (hc : zCl l E ad (y', cc', nL', ret', 1) (d - 1) As c (fun r c' => zW l E ad own cc nL rk d Qf (pc + 3) L (.int r :: st) c')) : zW l E ad own cc nL rk d Qf pc L S c := z_callS (rk' := 1) hd hSt hM hl hn hdp hnL hst hc
theorem z_Vr {k ci : Nat} {fs : List Value} (hd : decode cc pc = .ok (.invokevirtual i, 3)) (hSt : S = As.reverse ++ .ref (ad k) :: st) (hM : zVok y' cc' nL' ret' n) (hl : Cond.methodLink own i y' ∈ tblG) (hk : k < 64) (he : zen E ad k (c k) = .inr (ci, fs)) (hq : (vwCl[ci]?).map (fun q => q.1) = some y'.cls) (hn : As.length = n) (hdp : 1 ≤ d) (hnL : nL' ≤ 21) (hst : (st.map fun v => v.category).sum ≤ 8) (hc : zCl l E ad (y', cc', nL', ret', 2) (d - 1) (.ref (ad k) :: As) c (fun r c' => zW l E ad own cc nL rk d Qf (pc + 3) L (.ref (ad r.toNatClampNeg) :: st) c')) : zW l E ad own cc nL rk d Qf pc L S c := z_call (rk' := 2) hd hSt hM hl (z_rec hk he hq) hn hdp hnL hst hc
theorem z_Sr (hd : decode cc pc = .ok (.invokestatic i, 3)) (hSt : S = As.reverse ++ st) (hM : zSok y' cc' nL' ret' n) (hl : Cond.methodLink own i y' ∈ tblG) (hn : As.length = n) (hdp : 1 ≤ d) (hnL : nL' ≤ 21) (hst : (st.map fun v => v.category).sum ≤ 8) (hc : zCl l E ad (y', cc', nL', ret', 2) (d - 1) As c (fun r c' => zW l E ad own cc nL rk d Qf (pc + 3) L (.ref (ad r.toNatClampNeg) :: st) c')) : zW l E ad own cc nL rk d Qf pc L S c := z_callS (rk' := 2) hd hSt hM hl hn hdp hnL hst hc
theorem z_Vb {k ci : Nat} {fs : List Value} (hd : decode cc pc = .ok (.invokevirtual i, 3)) (hSt : S = As.reverse ++ .ref (ad k) :: st) (hM : zVok y' cc' nL' ret' n) (hl : Cond.methodLink own i y' ∈ tblG) (hk : k < 64) (he : zen E ad k (c k) = .inr (ci, fs)) (hq : (vwCl[ci]?).map (fun q => q.1) = some y'.cls) (hn : As.length = n) (hdp : 1 ≤ d) (hnL : nL' ≤ 21) (hst : (st.map fun v => v.category).sum ≤ 8) (hc : zCl l E ad (y', cc', nL', ret', 3) (d - 1) (.ref (ad k) :: As) c (fun r c' => zW l E ad own cc nL rk d Qf (pc + 3) L (.int r :: st) c')) : zW l E ad own cc nL rk d Qf pc L S c := z_call (rk' := 3) hd hSt hM hl (z_rec hk he hq) hn hdp hnL hst hc
theorem z_Sb (hd : decode cc pc = .ok (.invokestatic i, 3)) (hSt : S = As.reverse ++ st) (hM : zSok y' cc' nL' ret' n) (hl : Cond.methodLink own i y' ∈ tblG) (hn : As.length = n) (hdp : 1 ≤ d) (hnL : nL' ≤ 21) (hst : (st.map fun v => v.category).sum ≤ 8) (hc : zCl l E ad (y', cc', nL', ret', 3) (d - 1) As c (fun r c' => zW l E ad own cc nL rk d Qf (pc + 3) L (.int r :: st) c')) : zW l E ad own cc nL rk d Qf pc L S c := z_callS (rk' := 3) hd hSt hM hl hn hdp hnL hst hc
theorem z_Vy {k ci : Nat} {fs : List Value} (hd : decode cc pc = .ok (.invokevirtual i, 3)) (hSt : S = As.reverse ++ .ref (ad k) :: st) (hM : zVok y' cc' nL' ret' n) (hl : Cond.methodLink own i y' ∈ tblG) (hk : k < 64) (he : zen E ad k (c k) = .inr (ci, fs)) (hq : (vwCl[ci]?).map (fun q => q.1) = some y'.cls) (hn : As.length = n) (hdp : 1 ≤ d) (hnL : nL' ≤ 21) (hst : (st.map fun v => v.category).sum ≤ 8) (hc : zCl l E ad (y', cc', nL', ret', 4) (d - 1) (.ref (ad k) :: As) c (fun r c' => zW l E ad own cc nL rk d Qf (pc + 3) L (.int r :: st) c')) : zW l E ad own cc nL rk d Qf pc L S c := z_call (rk' := 4) hd hSt hM hl (z_rec hk he hq) hn hdp hnL hst hc
theorem z_Sy (hd : decode cc pc = .ok (.invokestatic i, 3)) (hSt : S = As.reverse ++ st) (hM : zSok y' cc' nL' ret' n) (hl : Cond.methodLink own i y' ∈ tblG) (hn : As.length = n) (hdp : 1 ≤ d) (hnL : nL' ≤ 21) (hst : (st.map fun v => v.category).sum ≤ 8) (hc : zCl l E ad (y', cc', nL', ret', 4) (d - 1) As c (fun r c' => zW l E ad own cc nL rk d Qf (pc + 3) L (.int r :: st) c')) : zW l E ad own cc nL rk d Qf pc L S c := z_callS (rk' := 4) hd hSt hM hl hn hdp hnL hst hc
theorem zCl_mono {M : zM} {av : List Value} {Q1 Q2 : Int32 → zS → Prop} (h : zCl l E ad M d av c Q1) (e : Q1 = Q2) : zCl l E ad M d av c Q2 := e ▸ h
end ZCALLS
