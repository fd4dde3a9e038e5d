/-! THE CLAIM OUT OF ONE WALK OF THE LAW'S BODY. Your part is whole_start (and what it stands on); all else here is the same for every law, but numbers. -/
def R_law : String := "AnswerPassLaw"
def lw_P (b : Addr) (xs : List Int32) (args : Array Value) (s : State) : Prop := args = #[.ref b] ∧ s.IntsAt b xs ∧ xs.length ≤ 3072 ∧ (Jvm.Cond.and given_1 narrow_1).before args s = true
def lw_Q (_ : Array Value) (s : State) (o : Outcome) (t : State) : Prop := o = .returned (some (.int 1)) ∧ Framed s o t [] 600000 7302250
def lw_Z (below : List Frame) (a : Array Value) (s : State) : State → Prop := fun t => ∃ o, t.status = .running ∧ Ended t below o ∧ lw_Q a s o t
/-- the law's own end, with 1 on the stack, nothing written that was there before, its room as the claim has it -/
theorem lw_ret {p : Program} {l : Launch} {e : Env} {s : State} {m : MethodId} {below : List Frame} {meth : Method} {c : Code} {b : Nat} (hx : p.tables.exec = Jvm.exec) (hb : c.code = code) (hr : meth.sig.returnType = ret) (hlocks : meth.locks = false) {pc : Nat} {H : Heap} {ls : Array Slot} (hdg : decode code pc = .ok (.ireturn, 1)) : W p l e room_1 s m #[Value.ref b] below meth c H [] 600000 7302250 (lw_Z below #[Value.ref b] s) (F0 m pc ls [.int 1]) := by
  intro T hT X
  obtain ⟨fs, hret, hrun, hended, hW, hframe⟩ := X.leave (v := some (.int 1)) (hlocks := hlocks) (fun h => by rw [hr] at h; cases h)
  have hmeth' : T.vm.method? m = some meth := X.method'
  refine ⟨T.setFrames fs, ?_, .returned (some (.int 1)), hrun, hended, rfl, ⟨_, rfl⟩, hW, hframe⟩
  jvm_step X.here [X.here.top, hx, hb, hdg, hmeth', hr, ret, narrow_b1]
  (try refine ⟨rfl, ?_⟩); (try refine ⟨rfl, ?_⟩)
  first | (intro acts; rw [hret _ acts rfl rfl rfl]) | rw [hret _ _ rfl rfl rfl]
  exact Steps.refl _
/-- what holds at the law's entry: the machine, the code, the tables' words (any of lw_tbl by 'hts w (by decide +kernel)'), the script of L ints xs at the cell b, what the Statement gives of the start (any of its parts by flat_of_before) -/
def lw_At (p : Program) (s : State) (m : MethodId) (meth : Method) (c : Code) (b L : Nat) (xs : Nat → Int32) : Prop :=
  p.tables.exec = Jvm.exec ∧ c.code = code ∧ meth.sig.returnType = ret ∧ c.maxLocals = 4 ∧ s.vm.findClass R_law = some m.cls ∧ (∀ w ∈ lw_tbl, w.before #[Value.ref b] s = true) ∧ va_X b L xs s s.heap ∧ b < s.heap.size ∧ meth.locks = false ∧ (Jvm.Cond.and given_1 narrow_1).before #[Value.ref b] s = true
theorem whole_start {p : Program} {e : Env} {s : State} {m : MethodId} {below : List Frame} {meth : Method} {c : Code} (l : Launch) (hflags : l.flags = flags0) {b L : Nat} {xs : Nat → Int32} (hL : L ≤ 3072) (C0 : lw_At p s m meth c b L xs) : W p l e room_1 s m #[Value.ref b] below meth c s.heap [] 0 0 (lw_Z below #[Value.ref b] s) (entryFrame m ([Value.ref b] : List Value).toArray 4) := by
  obtain ⟨hx, hb, hr, hml, hown, hts, hX, hbl, hlocks, hgv⟩ := id C0
  have hbA : ¬ mkA s.heap.size b := Nat.not_le.mpr hbl
  have hA : ∀ a, a < s.heap.size → ¬ mkA s.heap.size a := fun a h => Nat.not_le.mpr h
  have hs := flat_of_before _ hgv
  obtain ⟨c0, i0, k0⟩ := u_known hts (fun w h => gW_tbl (in_X0 w h)) (hts _ (gW_tbl wi_X0))
  obtain ⟨c1, i1, k1⟩ := u_known hts (fun w h => gW_tbl (in_X1 w h)) (hts _ (gW_tbl wi_X1))
  obtain ⟨c2, i2, k2⟩ := u_known hts (fun w h => gW_tbl (in_X2 w h)) (hts _ (gW_tbl wi_X2))
  obtain ⟨c3, i3, k3⟩ := u_known hts (fun w h => gW_tbl (in_X3 w h)) (hts _ (gW_tbl wi_X3))
  obtain ⟨c4, i4, k4⟩ := u_known hts (fun w h => gW_tbl (in_X4 w h)) (hts _ (gW_tbl wi_X4))
  obtain ⟨c5, i5, k5⟩ := u_known hts (fun w h => gW_tbl (in_X5 w h)) (hts _ (gW_tbl wi_X5))
  obtain ⟨c6, i6, k6⟩ := u_known hts (fun w h => gW_tbl (in_X6 w h)) (hts _ (gW_tbl wi_X6))
  obtain ⟨c7, i7, k7⟩ := u_known hts (fun w h => gW_tbl (in_X7 w h)) (hts _ (gW_tbl wi_X7))
  obtain ⟨c8, i8, k8⟩ := u_known hts (fun w h => gW_tbl (in_X8 w h)) (hts _ (gW_tbl wi_X8))
  obtain ⟨dC, dI, hKc⟩ : ∃ (dC : Nat → ClassId) (dI : Nat → Nat → Nat), ∀ (k : Nat) (q : vw_C), vwCl[k]? = some q → u_Kn s q.1 q.2.1 q.2.2 (dC k) (dI k) := by
    refine ⟨fun k => if k = 0 then c0 else if k = 1 then c1 else if k = 2 then c2 else if k = 3 then c3 else if k = 4 then c4 else if k = 5 then c5 else if k = 6 then c6 else if k = 7 then c7 else c8, fun k => if k = 0 then i0 else if k = 1 then i1 else if k = 2 then i2 else if k = 3 then i3 else if k = 4 then i4 else if k = 5 then i5 else if k = 6 then i6 else if k = 7 then i7 else i8, ?_⟩
    intro k q hq
    match k, hq with
    | 0, hq => cases hq; exact k0
    | 1, hq => cases hq; exact k1
    | 2, hq => cases hq; exact k2
    | 3, hq => cases hq; exact k3
    | 4, hq => cases hq; exact k4
    | 5, hq => cases hq; exact k5
    | 6, hq => cases hq; exact k6
    | 7, hq => cases hq; exact k7
    | 8, hq => cases hq; exact k8
    | k + 9, hq => simp at hq
  obtain ⟨cI, kI, pI, fI, gI, uI⟩ := Cond.arrayClass_spec (hts _ (gW_tbl wa_i))
  obtain ⟨cZ, kZ, pZ, fZ, gZ, uZ⟩ := Cond.arrayClass_spec (hts _ (gW_tbl wa_z))
  have hov : (Cond.arrayOver (.array .int)).before #[Value.ref b] s = true := hts _ (List.mem_of_getElem? (i := 281) (by decide +kernel))
  obtain ⟨pR, cR, kR, -, -, gR, uR, fR⟩ := Jvm.Stand.arrayOver_specB hov
  obtain ⟨tA, eA, hTA⟩ := gv_above hs hA
  obtain ⟨tB, eB, hTB⟩ := gv_bodies hs hA
  obtain ⟨adK, adV, hSt, eK⟩ := gv_strings hs hA
  have r0 : vk_R RX2 25 "" (adK 0) s := vk_R.of (hts _ (List.mem_of_getElem? (i := 207) (by decide +kernel))) (eK 0 (by omega))
  have r1 : vk_R RX2 34 "csh" (adK 1) s := vk_R.of (hts _ (List.mem_of_getElem? (i := 433) (by decide +kernel))) (eK 1 (by omega))
  have r2 : vk_R RX2 36 "cmk" (adK 2) s := vk_R.of (hts _ (List.mem_of_getElem? (i := 434) (by decide +kernel))) (eK 2 (by omega))
  have zA1 : va_Z "AnswerPass" "ABOVE" "[I" (.ref tA) (mkA s.heap.size) s s.heap := va_Zof (hts _ (List.mem_of_getElem? (i := 397) (by decide +kernel))) (hts _ (List.mem_of_getElem? (i := 63) (by decide +kernel))) eA hA
  have zB1 : va_Z "AnswerPass$Voices" "BODIES" "[I" (.ref tB) (mkA s.heap.size) s s.heap := va_Zof (hts _ (List.mem_of_getElem? (i := 724) (by decide +kernel))) (hts _ (List.mem_of_getElem? (i := 69) (by decide +kernel))) eB hA
  have zC1 : va_Z "java/lang/String" "COMPACT_STRINGS" "Z" (.int 1) (mkA s.heap.size) s s.heap := va_Zof (hts _ (List.mem_of_getElem? (i := 471) (by decide +kernel))) (hts _ (List.mem_of_getElem? (i := 72) (by decide +kernel))) (gv_compact hs) hA
  have hNw : va_Nw (.fieldLinkNest RX6 40 "AnswerPass" "ABOVE" "[I" "AnswerPass") s := va_Nw.of rfl (hts _ (List.mem_of_getElem? (i := 725) (by decide +kernel)))
  have hnA : va_Nw nwA s := va_Nw.of rfl (hts _ (List.mem_of_getElem? (i := 90) (by decide +kernel)))
  have hnB : va_Nw nwB s := va_Nw.of rfl (hts _ (List.mem_of_getElem? (i := 248) (by decide +kernel)))
  have hnC : va_Nw nwC s := va_Nw.of rfl (hts _ (List.mem_of_getElem? (i := 276) (by decide +kernel)))
  have hAOA : va_AOA .int s := hov
  obtain ⟨E, eE⟩ : ∃ E : zE, E = ((dC, dI), (cI, cZ, cR), (L, xs)) := ⟨_, rfl⟩
  have hK : va_K E.1 vwCl [(E.2.1.1, .int), (E.2.1.2.1, .boolean), (E.2.1.2.2, .array .int)] s := by
    subst eE
    refine ⟨hKc, fun k q h => ?_⟩
    match k, h with
    | 0, h => cases h; exact ⟨fun n z => ⟨fun k h => (by cases h), kI, gI, pI, uI⟩, fI⟩
    | 1, h => cases h; exact ⟨fun n z => ⟨fun k h => (by cases h), kZ, gZ, pZ, uZ⟩, fZ⟩
    | 2, h => cases h; exact ⟨fun n z => ⟨fun k h => (by cases h), kR, gR, pR, uR⟩, fR⟩
    | k + 3, h => simp at h
  have hXE : va_X b E.2.2.1 E.2.2.2 s s.heap := by subst eE; exact hX
  have hLE : E.2.2.1 ≤ 3072 := by subst eE; exact hL
  have hl := lv_entry ([.ref b]) (n := 4) (Nat.le_of_ble_eq_true rfl)
  rw [lg_entry_eq]
  generalize (lg_sl ([.ref b]) ++ List.replicate (4 - (lg_sl ([.ref b])).length) Slot.unset).toArray = ls at hl ⊢
  have hl : lv_has ls 4 (zlv 0 [some (.ref b), none, none, none]) := hl
  refine k_law (l := l) (E := E) (eS := adK 0) (base := s.heap.size) (d := 2000) (sc := b) (by omega) p e room_1 s m #[.ref b] below meth c s.heap [] _ ls ⟨hx, hb, hml, hown, fun w h => hts w (gW_tbl h), Nat.le_of_ble_eq_true rfl, Nat.le_of_ble_eq_true rfl, Nat.le_of_ble_eq_true rfl, Nat.le_of_ble_eq_true rfl⟩ ⟨hK, r0, Nat.le_refl _, hnA, hnB, hnC, hAOA⟩ (fun h => by cases h) (fun k q h => by simp at h) ⟨fun i j p q h => by simp at h, fun k q h => by simp at h⟩ va_S.rf hl (fun H locs ls pc Lv st ws cells slots hSp hP hD hS hl => ?_)
  obtain ⟨rfl, rfl, rfl, rfl, q1, q2, q3, q4, q5, q6, q7, q8, q9, q10, q11, q12, q13, q14, q15, q16, q17, q18, q19, q20, q21, q22, q23, q24, q25, q26, q27, q28, q29, q30, q31, q32, q33, q34, q35, q36, q37, q38, q39, q40, q41, q42, q43, q44, q45, q46, r47, q48, q49, q50, q51, q52, q53, q54, q55, q56, q57, q58, q59, q60, q61, rfl, rfl⟩ := hSp
  obtain ⟨ad, ead⟩ : ∃ ad : Nat → Nat, ad = fun k => ([q1, q2, q3, q4, q5, q6, q7, q8, q9, q10, q11, q12, q13, q14, q15, q16, q17, q18, q19, q20, q21, q22, q23, q24, q25, q26, q27, q28, q29, q30, q31, q32, q33, q34, q35, q36, q37, q38, q39, q40, q41, q42, q43, q44, q45, q46, r47 0, r47 1, r47 2, r47 3, q48, q49, q50, q51, q52, q53, q54, q55, q56, q57, q58, q59, q60, q61, adK 0, adK 1, adK 2, adV 0, adV 1, adV 2, tA, tB, b] : List Nat).getD k 0 := ⟨_, rfl⟩
  have e45 : (fun i => if i < 4 then some (r47 i) else none) = (fun i => if i < 4 then some (ad (46 + i)) else none) := by
    funext i
    by_cases h : i < 4
    · rw [if_pos h, if_pos h, ead]
      rcases (show i = 0 ∨ i = 1 ∨ i = 2 ∨ i = 3 by omega) with rfl | rfl | rfl | rfl <;> rfl
    · rw [if_neg h, if_neg h]
  rw [e45] at hP hD
  have hP : va_P E.1 vwCl (zwd E ad c00) H := by
    subst ead
    exact hP
  have hD : va_D (mkA s.heap.size) (zwd E ad c00) := by
    subst ead
    exact hD
  have hinj : ∀ i j : Nat, i < 64 → j < 64 → ad i = ad j → i = j := fun i j hi hj e => hD.1 i j _ _ (zwd_at hi) (zwd_at hj) e
  have hAd : ∀ k : Nat, k < 64 → mkA s.heap.size (ad k) := fun k hk => hD.2 k _ (zwd_at hk)
  have a0 : ad 0 = q1 := by rw [ead]; rfl
  have a51 : ad 51 = q49 := by rw [ead]; rfl
  have a64 : ad 64 = adK 0 := by rw [ead]; rfl
  have a65 : ad 65 = adK 1 := by rw [ead]; rfl
  have a66 : ad 66 = adK 2 := by rw [ead]; rfl
  have a67 : ad 67 = adV 0 := by rw [ead]; rfl
  have a68 : ad 68 = adV 1 := by rw [ead]; rfl
  have a69 : ad 69 = adV 2 := by rw [ead]; rfl
  have a70 : ad 70 = tA := by rw [ead]; rfl
  have a71 : ad 71 = tB := by rw [ead]; rfl
  have a72 : ad 72 = b := by rw [ead]; rfl
  have hSS : vk_S 3 [0, 3, 3] [[], [99, 115, 104], [99, 109, 107]] (fun i => ad (64 + i)) (fun i => ad (67 + i)) (mkA s.heap.size) s s.heap := by
    refine ⟨fun i hi => ?_, fun i j hi hj h => ?_⟩
    · rcases (show i = 0 ∨ i = 1 ∨ i = 2 by omega) with rfl | rfl | rfl
      · have h := hSt.1 0 (by omega)
        rw [← a64, ← a67] at h
        exact h
      · have h := hSt.1 1 (by omega)
        rw [← a65, ← a68] at h
        exact h
      · have h := hSt.1 2 (by omega)
        rw [← a66, ← a69] at h
        exact h
    · have ev : ∀ i, i < 3 → ad (64 + i) = adK i := by
        intro i hi
        rcases (show i = 0 ∨ i = 1 ∨ i = 2 by omega) with rfl | rfl | rfl
        · exact a64
        · exact a65
        · exact a66
      have h : ad (64 + i) = ad (64 + j) := h
      rw [ev i hi, ev j hj] at h
      exact hSt.2 i j hi hj h
  have hZX : zX E ad (mkA s.heap.size) s s.heap := by
    refine ⟨hK, hinj, hAd, ?_, ?_, ?_, ?_, zC1, ⟨?_, ?_, ?_⟩, hSS, hNw, ?_, ?_, ?_⟩
    · rw [a70]; exact zA1
    · rw [a70]; exact hTA
    · rw [a71]; exact zB1
    · rw [a71]; exact hTB
    · rw [a64]; exact r0
    · rw [a65]; exact r1
    · rw [a66]; exact r2
    · rw [a72]; exact hXE
    · rw [a72]; exact hbl
    · rw [a72]; exact hbA
  have loop := law_loop (l := l) (E := E) (ad := ad) (Qf := fun r _ => r = 1) (d := 2000) hLE (by omega) (fun _ => rfl) (E.2.2.1 + 7) 0 c00 (by omega) (Nat.zero_le _) RX00
  rw [a72, a0, a51, nI_0] at loop
  have walk : zW l E ad RL cL_law 4 3 2000 (fun r _ => r = 1) 16 [some (.ref b), some (.ref q1), some (.ref q49), none] [] c00 := by
    refine z_iconst (v := 0) dL_law_16 (by decide) ?_
    refine z_istore_n (i := 3) [_, _, _, _] dL_law_17 rfl (by decide) rfl rfl ?_
    exact loop
  refine walk p e room_1 s m #[.ref b] below meth c H locs 64 2313 _ (mkA s.heap.size) ls ⟨hx, hb, hml, hown, fun w h => hts w (gW_tbl h), Nat.le_of_ble_eq_true rfl, Nat.le_of_ble_eq_true rfl, Nat.le_of_ble_eq_true rfl, Nat.le_of_ble_eq_true rfl⟩ hZX hP hS hl ?_
  intro H' locs' ls' pc' r c' hQ hok hP' hS' hdec
  have hQ : r = 1 := hQ
  subst hQ
  refine va_forget (fun q h => hS'.2.2 q h) ?_
  refine W.widen (k := 600000) (n := 7302250) (Nat.le_of_ble_eq_true rfl) (Nat.le_of_ble_eq_true rfl) ?_
  exact lw_ret hx hb hr hlocks hdec
