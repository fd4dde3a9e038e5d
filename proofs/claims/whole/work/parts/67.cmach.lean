/-! THE MACHINE OF THE CONSTRUCTORS: a world that grows: ws (what the caller has) ++ N (the object that is made, and what is made for it);
mkW: from this point of a method, with locals L, stack st, world ws, cells and slots used, one comes to where Sp says; mkCl: a constructor's contract. -/
def mkRm (d mc ms : Nat) : Room := { frames := d, cells := mc, slots := ms, locals := 40 * d }
def mkA (base : Nat) : Nat → Prop := fun q => base ≤ q
def nwA : Cond := .methodLinkNest RX7 9 yX4_init RX7
def nwB : Cond := .methodLinkNest RX7 47 yX6_init RX7
def nwC : Cond := .methodLinkNest RX7 54 yX3_init RX7
theorem va_AOA.moved {ty : FieldType} {u U : State} (hvm : u.vm.Alike U.vm) (h : va_AOA ty u) : va_AOA ty U := Jvm.Stand.arrayOver_alikeB hvm h
def mkX (E : zE) (eS base : Nat) (U : State) : Prop := va_K E.1 vwCl [(E.2.1.1, .int), (E.2.1.2.1, .boolean), (E.2.1.2.2, .array .int)] U ∧ vk_R RX2 25 "" eS U ∧ base ≤ U.heap.size ∧ va_Nw nwA U ∧ va_Nw nwB U ∧ va_Nw nwC U ∧ va_AOA .int U
theorem mkX_to {E : zE} {eS base : Nat} {s U : State} (hW : s.WarmedH U.vm) (hz : s.heap.size ≤ U.heap.size) (h : mkX E eS base s) : mkX E eS base U := by
  obtain ⟨h1, h2, h3, h4, h5, h6, h7⟩ := h
  have hvm := hW.alike
  exact ⟨h1.moved hvm, h2.warm hW, Nat.le_trans h3 hz, va_Nw.warmM hW h4, va_Nw.warmM hW h5, va_Nw.warmM hW h6, h7.moved hvm⟩
theorem mkX_same {E : zE} {eS base : Nat} {s U : State} (hv : U.vm = s.vm) (hz : U.heap = s.heap) (h : mkX E eS base s) : mkX E eS base U := by
  obtain ⟨h1, h2, h3, h4, h5, h6, h7⟩ := h
  have hvm : s.vm.Alike U.vm := by rw [hv]; exact Vm.Alike.refl _
  exact ⟨h1.moved hvm, h2.same hv, by rw [hz]; exact h3, va_tabs rfl hv.symm h4, va_tabs rfl hv.symm h5, va_tabs rfl hv.symm h6, h7.moved hvm⟩
def mkC (own : String) (cc : ByteArray) (nL d mc ms : Nat) (p : Program) (R : Room) (s : State) (m : MethodId) (args : Array Value) (c0 : Code) : Prop :=
  p.tables.exec = Jvm.exec ∧ c0.code = cc ∧ c0.maxLocals = nL ∧ s.vm.findClass own = some m.cls ∧ (∀ w ∈ tblG, w.before args s = true) ∧ d ≤ R.frames ∧ 40 * d ≤ R.locals ∧ mc ≤ R.cells ∧ ms ≤ R.slots
abbrev mkT : Type := Nat → List (Option Value) → List Value → va_W → Nat → Nat → Prop
def mkW (l : Launch) (E : zE) (eS base : Nat) (own : String) (cc : ByteArray) (nL d mc ms : Nat) (ini : Bool) (Sp : mkT) (pc : Nat) (L : List (Option Value)) (st : List Value) (ws : va_W) (cells slots : Nat) : Prop :=
  ∀ (p : Program) (e : Env) (R : Room) (s : State) (m : MethodId) (args : Array Value) (below : List Frame) (meth : Method) (c0 : Code) (H : Heap) (locs : List Loc) (Q : State → Prop) (ls : Array Slot),
    mkC own cc nL d mc ms p R s m args c0 → mkX E eS base s → (ini = true → meth.name = "<init>") → va_P E.1 vwCl ws H → va_D (mkA base) ws → va_S (mkA base) s.heap H locs → lv_has ls nL (zlv 0 L) →
    (∀ (H : Heap) (locs : List Loc) (ls : Array Slot) (pc : Nat) (L : List (Option Value)) (st : List Value) (ws : va_W) (cells slots : Nat), Sp pc L st ws cells slots → va_P E.1 vwCl ws H → va_D (mkA base) ws → va_S (mkA base) s.heap H locs → lv_has ls nL (zlv 0 L) → W p l e R s m args below meth c0 H locs cells slots Q (F0 m pc ls st)) →
    W p l e R s m args below meth c0 H locs cells slots Q (F0 m pc ls st)
def mkCl (l : Launch) (E : zE) (eS base : Nat) (M : zM) (d mc ms : Nat) (av : List Value) (ws : va_W) (Qn : va_W → Prop) : Prop :=
  Met l M.1 (.code M.1 M.2.1 M.2.2.1 M.2.2.2.1 :: tblG) (mkRm d mc ms) (va_Pc av (fun U => mkX E eS base U ∧ va_P E.1 vwCl ws U.heap ∧ va_D (mkA base) ws)) (va_Qv Qn (fun ws' t => va_P E.1 vwCl ws' t.heap ∧ va_D (mkA base) ws') (mkA base)) mc ms (mkA base)
section MK
variable {l : Launch} {E : zE} {eS base : Nat} {own : String} {cc : ByteArray} {nL d mc ms : Nat} {ini : Bool} {Sp : mkT} {pc : Nat} {L : List (Option Value)} {st : List Value} {ws : va_W} {cells slots : Nat}
theorem mk_enter {y : MethodName} {av : List Value} {Qn : va_W → Prop} (L : List (Option Value)) (hy : plainName y.cls = true) (ho : y.cls = own) (hyn : y.name = "<init>") (hL : zlv 0 L = lv_args 0 av) (hn : (lg_sl av).length ≤ nL) (k : mkW l E eS base own cc nL d mc ms true (fun pc L st ws c s => st = [] ∧ decode cc pc = .ok (.return_, 1) ∧ Qn ws ∧ c = mc ∧ s = ms) 0 L [] ws 0 0) : mkCl l E eS base (y, cc, nL, none, 0) d mc ms av ws Qn := by
  refine Met.ofW (cc := cc) (maxL := nL) (ret := none) hy rfl ?_
  intro p e s m args below meth c s₁ B hml hv
  obtain ⟨rfl, hX, hP, hD⟩ := hv
  have hx := B.exec
  have hb := B.bytes
  have hret := B.returns
  have hts := atoms_spec (ws := .code y cc nL none :: tblG) B.pre
  have hown : s.vm.findClass own = some m.cls := by rw [← ho]; exact findClass_of_methodNamed B.named
  have hlocks := B.notSynchronized
  have hin : meth.name = "<init>" := by rw [← hyn]; exact (name_of_methodNamed B.named B.method).1
  rw [lg_entry_eq]
  have hl := lv_entry av (n := nL) hn
  generalize (lg_sl av ++ List.replicate (nL - (lg_sl av).length) Slot.unset).toArray = ls at hl ⊢
  rw [← hL] at hl
  refine k p e (mkRm d mc ms) s m av.toArray below meth c s.heap [] _ ls ⟨hx, hb, hml, hown, fun w hw => hts w (List.mem_cons_of_mem _ hw), Nat.le_refl _, Nat.le_refl _, Nat.le_refl _, Nat.le_refl _⟩ hX (fun _ => hin) hP hD va_S.rf hl ?_
  intro H' locs' ls' pc' L' st' ws' cells' slots' hS hP' hD' hS' hl'
  obtain ⟨rfl, hdec, hQ, rfl, rfl⟩ := hS
  exact W.vret hx hb hret (fun t ht hW => ⟨⟨ws', rfl, hQ, by subst ht; exact hP', hD'⟩, hS'.F ht⟩) hS'.2.2 hdec
theorem mk_stop (h : Sp pc L st ws cells slots) : mkW l E eS base own cc nL d mc ms ini Sp pc L st ws cells slots := by
  intro p e R s m args below meth c0 H locs Q ls h1 hX hI hP hD hS hL hR
  exact hR H locs ls pc L st ws cells slots h hP hD hS hL
theorem mk_aload_n {k : Fin 4} {i : Nat} {x : Nat} (hd : decode cc pc = .ok (.aload_n k, 1)) (hi : (k : Nat) = i) (hl : L[i]? = some (some (.ref x))) (kk : mkW l E eS base own cc nL d mc ms ini Sp (pc + 1) L (.ref x :: st) ws cells slots) : mkW l E eS base own cc nL d mc ms ini Sp pc L st ws cells slots := by
  intro p e R s m args below meth c0 H locs Q ls h1 hX hI hP hD hS hL hR
  exact lv_aload_n h1.1 h1.2.1 hd hi (zlv_at hL hl) (kk p e R s m args below meth c0 H locs Q ls h1 hX hI hP hD hS hL hR)
theorem mk_iload_n {k : Fin 4} {i : Nat} {x : Int32} (hd : decode cc pc = .ok (.iload_n k, 1)) (hi : (k : Nat) = i) (hl : L[i]? = some (some (.int x))) (kk : mkW l E eS base own cc nL d mc ms ini Sp (pc + 1) L (.int x :: st) ws cells slots) : mkW l E eS base own cc nL d mc ms ini Sp pc L st ws cells slots := by
  intro p e R s m args below meth c0 H locs Q ls h1 hX hI hP hD hS hL hR
  exact lv_iload_n h1.1 h1.2.1 hd hi (zlv_at hL hl) (kk p e R s m args below meth c0 H locs Q ls h1 hX hI hP hD hS hL hR)
theorem mk_astore_n {k : Fin 4} {i : Nat} {x : Nat} (L' : List (Option Value)) (hd : decode cc pc = .ok (.astore_n k, 1)) (hi : (k : Nat) = i) (hn : i < nL) (hc : zc1 L i = true) (hl : L.set i (some (.ref x)) = L') (kk : mkW l E eS base own cc nL d mc ms ini Sp (pc + 1) L' st ws cells slots) : mkW l E eS base own cc nL d mc ms ini Sp pc L (.ref x :: st) ws cells slots := by
  intro p e R s m args below meth c0 H locs Q ls h1 hX hI hP hD hS hL hR
  subst hl
  exact lv_astore_n h1.1 h1.2.1 hd hi hL hn rfl (fun ls' hL' => kk p e R s m args below meth c0 H locs Q ls' h1 hX hI hP hD hS (zlv_set hc hL') hR)
theorem mk_iconst {n : Int} {v : Int32} (hd : decode cc pc = .ok (.iconst n, 1)) (hv : Int32.ofInt n = v) (kk : mkW l E eS base own cc nL d mc ms ini Sp (pc + 1) L (.int v :: st) ws cells slots) : mkW l E eS base own cc nL d mc ms ini Sp pc L st ws cells slots := by
  intro p e R s m args below meth c0 H locs Q ls h1 hX hI hP hD hS hL hR
  exact lv_iconst h1.1 h1.2.1 hd hv (kk p e R s m args below meth c0 H locs Q ls h1 hX hI hP hD hS hL hR)
theorem mk_bipush {n : Int} {v : Int32} (hd : decode cc pc = .ok (.bipush n, 2)) (hv : (Int8.ofInt n).toInt32 = v) (kk : mkW l E eS base own cc nL d mc ms ini Sp (pc + 2) L (.int v :: st) ws cells slots) : mkW l E eS base own cc nL d mc ms ini Sp pc L st ws cells slots := by
  intro p e R s m args below meth c0 H locs Q ls h1 hX hI hP hD hS hL hR
  exact lv_bipush h1.1 h1.2.1 hd hv (kk p e R s m args below meth c0 H locs Q ls h1 hX hI hP hD hS hL hR)
theorem mk_sipush {n : Int} {v : Int32} (hd : decode cc pc = .ok (.sipush n, 3)) (hv : (Int16.ofInt n).toInt32 = v) (kk : mkW l E eS base own cc nL d mc ms ini Sp (pc + 3) L (.int v :: st) ws cells slots) : mkW l E eS base own cc nL d mc ms ini Sp pc L st ws cells slots := by
  intro p e R s m args below meth c0 H locs Q ls h1 hX hI hP hD hS hL hR
  exact lv_sipush h1.1 h1.2.1 hd hv (kk p e R s m args below meth c0 H locs Q ls h1 hX hI hP hD hS hL hR)
theorem mk_dup {v : Value} (hd : decode cc pc = .ok (.dup, 1)) (hc : v.category = 1) (kk : mkW l E eS base own cc nL d mc ms ini Sp (pc + 1) L (v :: v :: st) ws cells slots) : mkW l E eS base own cc nL d mc ms ini Sp pc L (v :: st) ws cells slots := by
  intro p e R s m args below meth c0 H locs Q ls h1 hX hI hP hD hS hL hR
  exact lv_dup h1.1 h1.2.1 hd hc (kk p e R s m args below meth c0 H locs Q ls h1 hX hI hP hD hS hL hR)
theorem mk_obj {i a : Nat} (hd : decode cc pc = .ok (.invokespecial i, 3)) (hl : Cond.methodLink own i Lib.objectInit ∈ tblG) (hi : Cond.instanceMethod Lib.objectInit ∈ tblG) (hc : Cond.code Lib.objectInit ⟨#[0xb1]⟩ 1 none ∈ tblG) (hst : (st.map fun v => v.category).sum ≤ 8) (hdp : 1 ≤ d) (kk : mkW l E eS base own cc nL d mc ms ini Sp (pc + 3) L st ws cells slots) : mkW l E eS base own cc nL d mc ms ini Sp pc L (.ref a :: st) ws cells slots := by
  intro p e R s m args below meth c0 H locs Q ls h1 hX hI hP hD hS hL hR
  obtain ⟨hx, hb, hml, hown, hts, hf, hlo, hce, hsl⟩ := id h1
  refine W.objInit hx hb hown (hts _ hl) (hts _ hi) (hts _ hc) rfl (by rw [hml]; exact hL.1) rfl hd (by omega) (by show 2 * 0 + _ + 12 ≤ R.locals; omega) ?_
  exact kk p e R s m args below meth c0 H locs Q ls h1 hX hI hP hD hS hL hR
theorem mk_ldc {i : Nat} (hd : decode cc pc = .ok (.ldc i, 2)) (ho : own = RX2) (hi : i = 25) (kk : mkW l E eS base own cc nL d mc ms ini Sp (pc + 2) L (.ref eS :: st) ws cells slots) : mkW l E eS base own cc nL d mc ms ini Sp pc L st ws cells slots := by
  intro p e R s m args below meth c0 H locs Q ls h1 hX hI hP hD hS hL hR
  subst ho
  subst hi
  exact va_ldcS h1.1 h1.2.1 h1.2.2.2.1 hX.2.1 hd (kk p e R s m args below meth c0 H locs Q ls h1 hX hI hP hD hS hL hR)
theorem mk_newi {n : Int32} {N : Nat} (hd : decode cc pc = .ok (.newarray .int, 2)) (hw : Cond.arrayClass .int ∈ tblG) (hn : ¬ n < 0) (hN : n.toNatClampNeg = N) (hb : N * componentBytes .int ≤ 536870912) (hc : cells + 1 ≤ mc) (hs : slots + N ≤ ms) (kk : ∀ q, mkW l E eS base own cc nL d mc ms ini Sp (pc + 2) L (.ref q :: st) (ws ++ [(q, zrow E.2.1.1 N (fun _ => 0))]) (cells + 1) (slots + N)) : mkW l E eS base own cc nL d mc ms ini Sp pc L (.int n :: st) ws cells slots := by
  intro p e R s m args below meth c0 H locs Q ls h1 hX hI hP hD hS hL hR
  obtain ⟨hx, hb0, hml, hown, hts, hf, hlo, hce, hsl⟩ := id h1
  refine va_newa (atype := .int) hx hb0 (hts _ hw) rfl hX.1 hP hD hS (fun q h => Nat.le_trans hX.2.2.1 h) (a0 := (N, .inl (fun _ => 0))) (fun cA => rfl) hn hN hb (by omega) (by omega) hd (fun q cA H1 hK1 hP1 hD1 hS1 => ?_)
  have ec : cA = E.2.1.1 := Option.some.inj ((hK1.2 3 _ rfl).2.symm.trans (hX.1.2 0 _ rfl).2)
  subst ec
  exact kk q p e R s m args below meth c0 H1 locs Q ls h1 hX hI hP1 hD1 hS1 hL hR
theorem mk_newz {n : Int32} {N : Nat} (hd : decode cc pc = .ok (.newarray .boolean, 2)) (hw : Cond.arrayClass .boolean ∈ tblG) (hn : ¬ n < 0) (hN : n.toNatClampNeg = N) (hb : N * componentBytes .boolean ≤ 536870912) (hc : cells + 1 ≤ mc) (hs : slots + N ≤ ms) (kk : ∀ q, mkW l E eS base own cc nL d mc ms ini Sp (pc + 2) L (.ref q :: st) (ws ++ [(q, zrow E.2.1.2.1 N (fun _ => 0))]) (cells + 1) (slots + N)) : mkW l E eS base own cc nL d mc ms ini Sp pc L (.int n :: st) ws cells slots := by
  intro p e R s m args below meth c0 H locs Q ls h1 hX hI hP hD hS hL hR
  obtain ⟨hx, hb0, hml, hown, hts, hf, hlo, hce, hsl⟩ := id h1
  refine va_newa (atype := .boolean) hx hb0 (hts _ hw) rfl hX.1 hP hD hS (fun q h => Nat.le_trans hX.2.2.1 h) (a0 := (N, .inl (fun _ => 0))) (fun cA => rfl) hn hN hb (by omega) (by omega) hd (fun q cA H1 hK1 hP1 hD1 hS1 => ?_)
  have ec : cA = E.2.1.2.1 := Option.some.inj ((hK1.2 3 _ rfl).2.symm.trans (hX.1.2 1 _ rfl).2)
  subst ec
  exact kk q p e R s m args below meth c0 H1 locs Q ls h1 hX hI hP1 hD1 hS1 hL hR
theorem mk_new {i ci N : Nat} {C : String} {T : u_T} {fs : List Value} (hd : decode cc pc = .ok (.new i, 3)) (hcl : Cond.classLink own i C ∈ tblG) (hinst : Cond.instantiable C N ∈ tblG) (hini : Cond.initialized C ∈ tblG) (hin : ∀ w ∈ u_ws C T N, w ∈ tblG) (ty : Nat → FieldType) (hty : ∀ k, k < N → parseFieldDescriptor (T k).2.2.1 = some (ty k)) (hv : vwCl[ci]? = some (C, T, N)) (hfs : ∀ j, j < N → defaultValue (ty j) = vp_V fs j) (hc : cells + 1 ≤ mc) (hs : slots + N ≤ ms) (kk : ∀ q, mkW l E eS base own cc nL d mc ms ini Sp (pc + 3) L (.ref q :: st) (ws ++ [(q, .inr (ci, fs))]) (cells + 1) (slots + N)) : mkW l E eS base own cc nL d mc ms ini Sp pc L st ws cells slots := by
  intro p e R s m args below meth c0 H locs Q ls h1 hX hI hP hD hS hL hR
  obtain ⟨hx, hb0, hml, hown, hts, hf, hlo, hce, hsl⟩ := id h1
  refine va_new (ci := ci) (fs := fs) (C := C) (T := T) (N := N) hx hb0 hts hin ty hty hown (hts _ hcl) (hts _ hinst) (hts _ hini) hX.1 hP hD hS (fun q h => Nat.le_trans hX.2.2.1 h) hv hfs (by omega) (by omega) hd (fun q H1 hP1 hD1 hS1 => ?_)
  exact kk q p e R s m args below meth c0 H1 locs Q ls h1 hX hI hP1 hD1 hS1 hL hR
theorem ap_at {α : Type} {ws N : List α} {i : Nat} : (ws ++ N)[ws.length + i]? = N[i]? := by
  rw [List.getElem?_append_right (by omega), Nat.add_sub_cancel_left]
theorem ap_set {α : Type} {ws N : List α} {i : Nat} {x : α} : (ws ++ N).set (ws.length + i) x = ws ++ N.set i x := by
  rw [List.set_append_right _ _ (by omega), Nat.add_sub_cancel_left]
/-- a final field in a constructor -/
def zFpF (own : String) (ci j : Nat) (ty : FieldType) : Prop := ∃ (C : String) (T : u_T) (N : Nat) (ty0 : Nat → FieldType), vwCl[ci]? = some (C, T, N) ∧ j < N ∧ (∀ k, k < N → parseFieldDescriptor (T k).2.2.1 = some (ty0 k)) ∧ (∀ a, a < N → ∀ b, b < N → a ≠ b → (T a).2.1 ≠ (T b).2.1) ∧ (T j).2.2.2 = true ∧ (T j).1 = own ∧ parseFieldDescriptor (T j).2.2.1 = some ty
theorem mk_putF {i ci j q0 a : Nat} {fs : List Value} {v : Value} {ty : FieldType} {N : va_W} (N' : va_W) (hd : decode cc pc = .ok (.putfield i, 3)) (hf : zF own i ci j) (hfp : zFpF own ci j ty) (hi : ini = true) (he : N[q0]? = some (a, .inr (ci, fs))) (hl : j < fs.length) (hn : narrow ty v = v) (hfit : fits ty v = true) (hN : N.set q0 (a, .inr (ci, fs.set j v)) = N') (kk : mkW l E eS base own cc nL d mc ms ini Sp (pc + 3) L st (ws ++ N') cells slots) : mkW l E eS base own cc nL d mc ms ini Sp pc L (v :: .ref a :: st) (ws ++ N) cells slots := by
  subst hN
  intro p e R s m args below meth c0 H locs Q ls h1 hX hI hP hD hS hL hR
  obtain ⟨C, ref, T, M, hc, hj, hin, hw, hr⟩ := hf
  obtain ⟨C', T', M', ty0, hc', hj', hty, hnm, hfin, hdl, hd0⟩ := hfp
  cases hc.symm.trans hc'
  subst hr
  refine va_putF (index := i) h1.1 h1.2.1 h1.2.2.2.2.1 hin ty0 hty hnm h1.2.2.2.1 hX.1 hP hD hS (ws.length + q0) (by rw [ap_at]; exact he) hc j hj (h1.2.2.2.2.1 _ hw) (fun _ z => z) hfin (hI hi) hdl hd0 hn hfit hl hd (fun H1 locs1 hP1 hD1 hS1 => ?_)
  rw [ap_set] at hP1 hD1
  exact kk p e R s m args below meth c0 H1 locs1 Q ls h1 hX hI hP1 hD1 hS1 hL hR
theorem mk_put {i ci j q0 a : Nat} {fs : List Value} {v : Value} {ty : FieldType} {N : va_W} (N' : va_W) (hd : decode cc pc = .ok (.putfield i, 3)) (hf : zF own i ci j) (hfp : zFp ci j ty) (he : N[q0]? = some (a, .inr (ci, fs))) (hl : j < fs.length) (hn : narrow ty v = v) (hfit : fits ty v = true) (hN : N.set q0 (a, .inr (ci, fs.set j v)) = N') (kk : mkW l E eS base own cc nL d mc ms ini Sp (pc + 3) L st (ws ++ N') cells slots) : mkW l E eS base own cc nL d mc ms ini Sp pc L (v :: .ref a :: st) (ws ++ N) cells slots := by
  subst hN
  intro p e R s m args below meth c0 H locs Q ls h1 hX hI hP hD hS hL hR
  obtain ⟨C, ref, T, M, hc, hj, hin, hw, hr⟩ := hf
  obtain ⟨C', T', M', ty0, hc', hj', hty, hnm, hfin, hd0⟩ := hfp
  cases hc.symm.trans hc'
  subst hr
  refine va_put (index := i) h1.1 h1.2.1 h1.2.2.2.2.1 hin ty0 hty hnm h1.2.2.2.1 hX.1 hP hD hS (ws.length + q0) (by rw [ap_at]; exact he) hc j hj (h1.2.2.2.2.1 _ hw) (fun _ z => z) hfin hd0 hn hfit hl hd (fun H1 locs1 hP1 hD1 hS1 => ?_)
  rw [ap_set] at hP1 hD1
  exact kk p e R s m args below meth c0 H1 locs1 Q ls h1 hX hI hP1 hD1 hS1 hL hR
theorem mk_get {i ci j q0 a : Nat} {fs : List Value} {v : Value} (hd : decode cc pc = .ok (.getfield i, 3)) (hf : zF own i ci j) (he : ws[q0]? = some (a, .inr (ci, fs))) (hv : fs[j]? = some v) (kk : mkW l E eS base own cc nL d mc ms ini Sp (pc + 3) L (v :: st) ws cells slots) : mkW l E eS base own cc nL d mc ms ini Sp pc L (.ref a :: st) ws cells slots := by
  intro p e R s m args below meth c0 H locs Q ls h1 hX hI hP hD hS hL hR
  obtain ⟨C, ref, T, N, hc, hj, hin, hw, hr⟩ := hf
  subst hr
  exact va_get (index := i) h1.1 h1.2.1 h1.2.2.2.2.1 hin h1.2.2.2.1 hX.1 hP q0 he hc j hj (h1.2.2.2.2.1 _ hw) (fun _ z => z) hv hd (kk p e R s m args below meth c0 H locs Q ls h1 hX hI hP hD hS hL hR)
theorem mk_iast {q0 a n j : Nat} {f : Nat → Int32} {i x : Int32} {N : va_W} (N' : va_W) (hd : decode cc pc = .ok (.iastore, 1)) (he : N[q0]? = some (a, zrow E.2.1.1 n f)) (hi : i = nI j) (hj : j < n) (hn : n < 2147483648) (hN : N.set q0 (a, zrow E.2.1.1 n (upd f j x)) = N') (kk : mkW l E eS base own cc nL d mc ms ini Sp (pc + 1) L st (ws ++ N') cells slots) : mkW l E eS base own cc nL d mc ms ini Sp pc L (.int x :: .int i :: .ref a :: st) (ws ++ N) cells slots := by
  subst hN
  have hin : vp_in i n := by rw [hi]; exact vp_in_nI hj (by omega)
  have ei : i.toNatClampNeg = j := by rw [hi]; exact nI_clamp (by omega)
  intro p e R s m args below meth c0 H locs Q ls h1 hX hI hP hD hS hL hR
  refine va_iast h1.1 h1.2.1 hX.1 hP hD hS (ws.length + q0) 0 (by rw [ap_at]; exact he) rfl hin hd (fun H1 locs1 hP1 hD1 hS1 => ?_)
  rw [ap_set, ei] at hP1 hD1
  exact kk p e R s m args below meth c0 H1 locs1 Q ls h1 hX hI hP1 hD1 hS1 hL hR
theorem mk_mna {i : Nat} {n k : Int32} {N K : Nat} (hd : decode cc pc = .ok (.multianewarray i 2, 4)) (hcl : Cond.classLink own i "[[I" ∈ tblG) (hw : Cond.arrayClass .int ∈ tblG) (hn : ¬ n < 0) (hk : ¬ k < 0) (hN : n.toNatClampNeg = N) (hK : k.toNatClampNeg = K) (hb1 : N * 4 ≤ 536870912) (hb2 : K * componentBytes .int ≤ 536870912) (hb3 : K ≤ 536870912) (hc : cells + (1 + N) ≤ mc) (hs : slots + (N + N * K) ≤ ms) (kk : ∀ (q : Nat) (r : Nat → Nat), mkW l E eS base own cc nL d mc ms ini Sp (pc + 4) L (.ref q :: st) (ws ++ ([(q, .inl (E.2.1.2.2, N, .inr (.inr (.inr (.inr (fun i => if i < N then some (r i) else none))))))] ++ (List.range N).map (fun i => (r i, zrow E.2.1.1 K (fun _ => 0))))) (cells + 1 + N) (slots + N + N * K)) : mkW l E eS base own cc nL d mc ms ini Sp pc L (.int k :: .int n :: st) ws cells slots := by
  intro p e R s m args below meth c0 H locs Q ls h1 hX hI hP hD hS hL hR
  obtain ⟨hx, hb0, hml, hown, hts, hf, hlo, hce, hsl⟩ := id h1
  have e0 : ws ++ va_pl [] (fun _ => zrow E.2.1.1 K (fun _ => 0)) = ws := by unfold va_pl; rw [List.map_nil, List.append_nil]
  refine va_mna (X := ws) (L := []) (f := fun _ => zrow E.2.1.1 K (fun _ => 0)) (ty := .int) (cy := E.2.1.1) (z := (K, .inl (fun _ => 0))) hx hb0 hown (hts _ hcl) hX.2.2.2.2.2.2 (hts _ hw) (hX.1.2 0 _ rfl).2 hX.1 (by rw [e0]; exact hP) (by rw [e0]; exact hD) hS (fun q h => Nat.le_trans hX.2.2.1 h) hn hk hN hK hb1 hb2 hb3 rfl rfl (by omega) (by omega) (fun c => ?_) hd (fun q r cA H1 hr1 hr2 hK1 hP1 hD1 hS1 => ?_)
  · exact arrV_new c K (.int 0)
  · have ec : cA = E.2.1.2.2 := Option.some.inj ((hK1.2 3 _ rfl).2.symm.trans (hX.1.2 2 _ rfl).2)
    subst ec
    have ew : (ws ++ [(q, .inl (E.2.1.2.2, N, .inr (.inr (.inr (.inr (fun i => if i < N then some (r i) else none))))))]) ++ va_pl ([] ++ (List.range N).map r) (vr_up (fun _ => zrow E.2.1.1 K (fun _ => 0)) ((List.range N).map r) (.inl (E.2.1.1, K, .inl (fun _ => 0)))) = ws ++ ([(q, .inl (E.2.1.2.2, N, .inr (.inr (.inr (.inr (fun i => if i < N then some (r i) else none))))))] ++ (List.range N).map (fun i => (r i, zrow E.2.1.1 K (fun _ => 0)))) := by
      rw [List.append_assoc]
      congr 2
      unfold va_pl
      rw [List.nil_append, List.map_map]
      apply List.map_congr_left
      intro i hi
      show (r i, vr_up _ _ _ (r i)) = _
      rw [vr_up_in (List.mem_map.mpr ⟨i, hi, rfl⟩)]
    rw [ew] at hP1 hD1
    exact kk q r p e R s m args below meth c0 H1 locs Q ls h1 hX hI hP1 hD1 hS1 hL hR
theorem mk_blind {av : List Value} : FrameBlind (va_Pc av (fun U => mkX E eS base U ∧ va_P E.1 vwCl ws U.heap ∧ va_D (mkA base) ws)) := fun _ _ _ _ h => ⟨h.1, mkX_same rfl rfl h.2.1, h.2.2⟩
theorem mk_call {y' : MethodName} {cc' : ByteArray} {nL' n i b mc' ms' : Nat} {As S : List Value} {Qn : va_W → Prop} (hd : decode cc pc = .ok (.invokespecial i, 3)) (hSt : S = As.reverse ++ .ref b :: st) (hcd : Cond.code y' cc' nL' none ∈ tblG) (him : Cond.instanceMethod y' ∈ tblG) (hini : Cond.initialized y'.cls ∈ tblG) (hl : Cond.methodLink own i y' ∈ tblG) (hy1 : y'.name = "<init>") (hpl : y'.cls ≠ "java/lang/invoke/MethodHandle" ∧ y'.cls ≠ "java/lang/invoke/VarHandle" ∧ (parseMethodDescriptor y'.desc).map (fun d => d.parameters.length) = some n) (hn : As.length = n) (hdp : 1 ≤ d) (hnL : nL' ≤ 21) (hst : (st.map fun v => v.category).sum ≤ 8) (hm : cells + mc' ≤ mc) (hs : slots + ms' ≤ ms) (hc : mkCl l E eS base (y', cc', nL', none, 0) (d - 1) mc' ms' (.ref b :: As) ws Qn) (kk : ∀ ws', Qn ws' → mkW l E eS base own cc nL d mc ms ini Sp (pc + 3) L st ws' (cells + mc') (slots + ms')) : mkW l E eS base own cc nL d mc ms ini Sp pc L S ws cells slots := by
  intro p e R s m args below meth c0 H locs Q ls h1 hX hI hP hD hS hL hR
  obtain ⟨hx, hb, hml, hown, hts, hf, hlo, hce, hsl⟩ := id h1
  refine va_callv (va_runI (As := As) (rest := st) ⟨hx, hb, hml, hown, hts⟩ hc (cwI n hts (gW_good (fun w hw => ?_)) rfl rfl rfl (hts _ hini) (hts _ hl) (hts _ him) hy1 hpl ⟨?_, ?_⟩) ⟨mk_blind, fun U hU hW => ⟨rfl, mkX_to hW (by rw [hU]; exact hS.1) hX, by rw [hU]; exact hP, hD⟩⟩ rfl hn hL.1 hSt (lv_room hst) hd ⟨by omega, by omega⟩) hS (fun _ _ h => h) (fun _ h => h) (fun u t H1 locs1 ht hvm hw hB hz1 hk1 hS1 => ?_)
  · rcases List.mem_cons.mp hw with rfl | hw
    · exact hcd
    · exact hw
  · show d - 1 + 1 ≤ R.frames
    omega
  · show 8 + (nL' + 11) + 40 * (d - 1) ≤ R.locals
    omega
  · exact kk u hw p e R s m args below meth c0 H1 locs1 Q ls h1 hX hI (by rw [← ht]; exact hB.1) hB.2 hS1 hL hR
theorem mk_callN {y' : MethodName} {cc' : ByteArray} {nL' n i b mc' ms' : Nat} {As S : List Value} {Qn : va_W → Prop} (hd : decode cc pc = .ok (.invokespecial i, 3)) (hSt : S = As.reverse ++ .ref b :: st) (hcd : Cond.code y' cc' nL' none ∈ tblG) (him : Cond.instanceMethod y' ∈ tblG) (hini : Cond.initialized y'.cls ∈ tblG) (ho : own = RX7) (hl : Cond.methodLinkNest RX7 i y' RX7 = nwA ∨ Cond.methodLinkNest RX7 i y' RX7 = nwB ∨ Cond.methodLinkNest RX7 i y' RX7 = nwC) (hy1 : y'.name = "<init>") (hpl : y'.cls ≠ "java/lang/invoke/MethodHandle" ∧ y'.cls ≠ "java/lang/invoke/VarHandle" ∧ (parseMethodDescriptor y'.desc).map (fun d => d.parameters.length) = some n) (hn : As.length = n) (hdp : 1 ≤ d) (hnL : nL' ≤ 21) (hst : (st.map fun v => v.category).sum ≤ 8) (hm : cells + mc' ≤ mc) (hs : slots + ms' ≤ ms) (hc : mkCl l E eS base (y', cc', nL', none, 0) (d - 1) mc' ms' (.ref b :: As) ws Qn) (kk : ∀ ws', Qn ws' → mkW l E eS base own cc nL d mc ms ini Sp (pc + 3) L st ws' (cells + mc') (slots + ms')) : mkW l E eS base own cc nL d mc ms ini Sp pc L S ws cells slots := by
  subst ho
  intro p e R s m args below meth c0 H locs Q ls h1 hX hI hP hD hS hL hR
  obtain ⟨hx, hb, hml, hown, hts, hf, hlo, hce, hsl⟩ := id h1
  have hlk : va_Nw (.methodLinkNest RX7 i y' RX7) s := by
    rcases hl with q | q | q <;> rw [q]
    · exact hX.2.2.2.1
    · exact hX.2.2.2.2.1
    · exact hX.2.2.2.2.2.1
  refine va_callv (va_runIN (As := As) (rest := st) ⟨hx, hb, hml, hown, hts⟩ hc ⟨va_cnB n hts (gW_good (fun w hw => ?_)) rfl rfl rfl hlk (hts _ hini) hpl ⟨?_, ?_⟩, hy1, hts _ him⟩ ⟨mk_blind, fun U hU hW => ⟨rfl, mkX_to hW (by rw [hU]; exact hS.1) hX, by rw [hU]; exact hP, hD⟩⟩ rfl hn hL.1 hSt (lv_room hst) hd ⟨by omega, by omega⟩) hS (fun _ _ h => h) (fun _ h => h) (fun u t H1 locs1 ht hvm hw hB hz1 hk1 hS1 => ?_)
  · rcases List.mem_cons.mp hw with rfl | hw
    · exact hcd
    · exact hw
  · show d - 1 + 1 ≤ R.frames
    omega
  · show 8 + (nL' + 11) + 40 * (d - 1) ≤ R.locals
    omega
  · exact kk u hw p e R s m args below meth c0 H1 locs1 Q ls h1 hX hI (by rw [← ht]; exact hB.1) hB.2 hS1 hL hR
end MK
