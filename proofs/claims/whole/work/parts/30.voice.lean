/-! the voices: what they say, and the trace -/
abbrev vT : Type := Int32 × zN
def vb (b : Int32) (t : vT) : vT := if t.1 < 30 then (t.1 + 1, upd t.2 (pn t.1) b) else t
def vok (t : vT) : Prop := ∃ a : Nat, a ≤ 30 ∧ t.1 = nI a
theorem vok_vb {b : Int32} {t : vT} (h : vok t) : vok (vb b t) := by
  obtain ⟨a, ha, e⟩ := h
  unfold vb
  split
  · next q =>
    rw [e] at q
    have := (nI_ltI (a := a) (b := 30) (by omega) (by omega)).mp q
    exact ⟨a + 1, by omega, by show t.1 + 1 = _; rw [e, nI_1]⟩
  · exact ⟨a, ha, e⟩
def sa0 (k x : Int32) (t : vT) : Int32 × vT := (x + k, vb 10 t)
def sa1 (k x : Int32) (t : vT) : Int32 × vT := ((sa0 k x (vb 20 t)).1 - 4, (sa0 k x (vb 20 t)).2)
def saF (k : Int32) (kk : Nat) (x : Int32) (t : vT) : Int32 × vT :=
  if kk = 1 then sa1 k x t else if kk = 4 then ((sa1 k x (vb 50 t)).1 * 3, (sa1 k x (vb 50 t)).2) else if kk = 6 then (9, vb 70 t) else sa0 k x t
def se0 (k : Int32) (K : Nat) (x : Int32) (t : vT) : Int32 × vT := ((saF k K x (vb 11 t)).1 * 2, (saF k K x (vb 11 t)).2)
def se2 (k : Int32) (K : Nat) (x : Int32) (t : vT) : Int32 × vT := (0 - (se0 k K x (vb 30 t)).1, (se0 k K x (vb 30 t)).2)
def seV (k m : Int32) (K kk : Nat) (x : Int32) (t : vT) : Int32 × vT :=
  if kk = 2 then se2 k K x t else if kk = 5 then se2 k K (x + 1) (vb 60 t) else if kk = 6 then ((se0 k K x (vb 71 t)).1 + m, (se0 k K x (vb 71 t)).2) else se0 k K x t
def wa0 (k m : Int32) (K : Nat) (x : Int32) (t : vT) : Int32 × vT := ((seV k m K K x (vb 12 t)).1 - m, (seV k m K K x (vb 12 t)).2)
def waV (k m : Int32) (K kk : Nat) (x : Int32) (t : vT) : Int32 × vT :=
  if kk = 3 then wa0 k m K (x / 2) (vb 40 t) else if kk = 4 then ((wa0 k m K x (vb 51 t)).1 ^^^ k, (wa0 k m K x (vb 51 t)).2) else wa0 k m K x t
def pa0 (k m x : Int32) (t : vT) : Int32 × vT := (if m - k = 0 then 0 else if m - k = -1 then -x else x / (m - k), vb 13 t)
def pa1 (k m : Int32) (K : Nat) (x : Int32) (t : vT) : Int32 × vT := if m - k = 0 then (0, (pa0 k m x (vb 21 t)).2) else ((pa0 k m x (vb 21 t)).1 + (seV k m K K 1 (pa0 k m x (vb 21 t)).2).1, (seV k m K K 1 (pa0 k m x (vb 21 t)).2).2)
def paV (k m : Int32) (K kk : Nat) (x : Int32) (t : vT) : Int32 × vT := if kk = 1 ∨ kk = 4 then pa1 k m K x t else pa0 k m x t
def voV (k m : Int32) (K : Nat) (v x : Int32) (t : vT) : Int32 × vT := if v = 0 then saF k K x t else if v = 1 then seV k m K K x t else if v = 2 then waV k m K K x t else paV k m K K x t
def wV (σ : zT) (t : vT) : zT := (σ.1, σ.2.1, σ.2.2.1, σ.2.2.2.1, t.1, t.2, σ.2.2.2.2.2.2)
def o_voice (σ : zT) (p v x : Int32) : Int32 × zT :=
  if isP σ p ∧ 0 ≤ v ∧ v ≤ 3 then (
    if v = 3 ∧ σ.1 (8 + 5 * pn p + 1) - p = 0 then err (wV σ (voV p (σ.1 (8 + 5 * pn p + 1)) (pn (σ.1 (8 + 5 * pn p))) v x (0, σ.2.2.2.2.2.1)).2) 6
    else ((voV p (σ.1 (8 + 5 * pn p + 1)) (pn (σ.1 (8 + 5 * pn p))) v x (0, σ.2.2.2.2.2.1)).1, wV σ (voV p (σ.1 (8 + 5 * pn p + 1)) (pn (σ.1 (8 + 5 * pn p))) v x (0, σ.2.2.2.2.2.1)).2)) else err σ 1
/-- the store c, but for the trace; and what the voices read -/
def zvo (c : zS) (t : vT) (c' : zS) : Prop := c' 51 12 = t.1 ∧ c' 59 = t.2 ∧ (∀ k, k ≠ 51 → k ≠ 59 → c' k = c k) ∧ (∀ i, i ≠ 12 → c' 51 i = c 51 i)
theorem zvo_tr {c0 c1 c2 : zS} {t t2 : vT} (h : zvo c0 t c1) (h2 : zvo c1 t2 c2) : zvo c0 t2 c2 := ⟨h2.1, h2.2.1, fun k a b => (h2.2.2.1 k a b).trans (h.2.2.1 k a b), fun i a => (h2.2.2.2 i a).trans (h.2.2.2 i a)⟩
def zve (k m : Int32) (j K : Nat) (c : zS) : Prop := j < 6 ∧ K ≤ 6 ∧ c 51 14 = k ∧ k = nI j ∧ c 52 (8 + 5 * j) = nI K ∧ c 52 (8 + 5 * j + 1) = m
theorem zve_tr {k m : Int32} {j K : Nat} {c c1 : zS} {t : vT} (h : zve k m j K c) (h2 : zvo c t c1) : zve k m j K c1 := by
  have e := h2.2.2.1 52 (by decide) (by decide)
  exact ⟨h.1, h.2.1, (h2.2.2.2 14 (by decide)).trans h.2.2.1, h.2.2.2.1, by rw [e]; exact h.2.2.2.2.1, by rw [e]; exact h.2.2.2.2.2⟩
theorem zvo_self {c0 c : zS} {t : vT} (h : zvo c0 t c) : zvo c t c := ⟨h.1, h.2.1, fun _ _ _ => rfl, fun _ _ => rfl⟩
section VO
variable {l : Launch} {E : zE} {ad : Nat → Nat} {c : zS} {Qf : Int32 → zS → Prop} {d n : Nat}
theorem t_above {k v : Int32} (h : (if k = 4 then 1 else if k = 5 then 2 else 0 : Int32) = v) (hQ : Qf v c) : zCl l E ad mX8_above d [.int k] c Qf := by
  subst h
  exact s_X8_above hQ
theorem s_X8_starts {b : Int32} {t : vT} (ht : vok t) (hz : zvo c t c) (hQ : ∀ c', zvo c (vb b t) c' → Qf 0 c') : zCl l E ad mX8_starts d [.ref (ad 51), .int b] c Qf := by
  obtain ⟨a, ha, e⟩ := ht
  have e1 := hz.1
  have hlt : (30 : Int32) ≤ nI a ↔ 30 ≤ a := nI_leI (a := 30) (b := a) (by omega) (by omega)
  have hltn : nI a < (30 : Int32) ↔ a < 30 := nI_ltI (a := a) (b := 30) (by omega) (by omega)
  refine z_enter (own := RX8) [some (.ref (ad 51)), some (.int b)] (by decide +kernel) rfl rfl rfl (Nat.le_of_ble_eq_true rfl) ?_
  refine z_aload_n (i := 0) dX8_starts_0 rfl rfl ?_
  refine z_getf dX8_starts_1 f_X8_221 (by first | decide | assumption | omega) rfl (by rfl) ?_
  refine z_bipush (v := 30) dX8_starts_4 (by decide) ?_
  refine z_icmp_ge 29 dX8_starts_6 (by decide) (fun h_6 => ?_) (fun h_6 => ?_)
  · first
    | (have ha3 : ¬ a < 30 := by rw [e1, e] at h_6; have := hlt.mp h_6; omega
       exact z_ret (r := 0) dX8_starts_29 (hQ c (by unfold vb; rw [e, if_neg (by rw [hltn]; exact ha3)]; exact hz)) rfl rfl)
    | (refine z_ret (r := 0) dX8_starts_29 (hQ _ ?_) rfl rfl
       unfold vb
       rw [if_pos (by rw [e, hltn]; exact ha3)]
       refine ⟨?_, ?_, fun k x y => by rw [zup_n x, zup_n y], fun i x => by rw [zup_s, pk_un x]; rfl⟩
       · rw [zup_s, pk_us]
         show c 51 12 + 1 = t.1 + 1
         rw [e1]
       · rw [zup_n (by decide), zup_s, hz.2.1]
         show upd t.2 a b = upd t.2 (pn t.1) b
         rw [e, pn_nI (by omega)])
  · have ha3 : a < 30 := by rw [e1, e] at h_6; have := mt hlt.mpr h_6; omega
    refine z_aload_n (i := 0) dX8_starts_9 rfl rfl ?_
    refine z_getf dX8_starts_10 f_X8_31 (by first | decide | assumption | omega) rfl (by rfl) ?_
    refine z_aload_n (i := 0) dX8_starts_13 rfl rfl ?_
    refine z_getf dX8_starts_14 f_X8_221 (by first | decide | assumption | omega) rfl (by rfl) ?_
    rw [e1, e]
    refine z_iload_n (i := 1) dX8_starts_17 rfl rfl ?_
    refine z_iast (j := a) dX8_starts_18 (by first | decide | assumption | omega) (fun _ => rfl) (by rfl) (by first | decide | omega) (by first | decide | omega) ?_
    refine z_aload_n (i := 0) dX8_starts_19 rfl rfl ?_
    refine z_dup dX8_starts_20 rfl ?_
    refine z_getf dX8_starts_21 f_X8_221 (by first | decide | assumption | omega) rfl (by rfl) ?_
    refine z_iconst (v := 1) dX8_starts_24 (by decide) ?_
    refine z_iadd dX8_starts_25 ?_
    refine z_putfi dX8_starts_26 f_X8_221 fp_X8_12 (by first | decide | assumption | omega) rfl (by exact Nat.le_of_ble_eq_true rfl) rfl ?_
    first
    | (have ha3 : ¬ a < 30 := by rw [e1, e] at h_6; have := hlt.mp h_6; omega
       exact z_ret (r := 0) dX8_starts_29 (hQ c (by unfold vb; rw [e, if_neg (by rw [hltn]; exact ha3)]; exact hz)) rfl rfl)
    | (refine z_ret (r := 0) dX8_starts_29 (hQ _ ?_) rfl rfl
       unfold vb
       rw [if_pos (by rw [e, hltn]; exact ha3)]
       refine ⟨?_, ?_, fun k x y => by rw [zup_n x, zup_n y], fun i x => by rw [zup_s, pk_un x]; rfl⟩
       · rw [zup_s, pk_us]
         show c 51 12 + 1 = t.1 + 1
         rw [e1]
       · rw [zup_n (by decide), zup_s, hz.2.1]
         show upd t.2 a b = upd t.2 (pn t.1) b
         rw [e, pn_nI (by omega)])
theorem s_X8_kindNow {k m : Int32} {j K : Nat} (he : zve k m j K c) (hd : 1 ≤ d) (hQ : Qf (nI K) c) : zCl l E ad mX8_kindNow d [.ref (ad 51)] c Qf := by
  have hj := he.1
  refine z_enter (own := RX8) [some (.ref (ad 51))] (by decide +kernel) rfl rfl rfl (Nat.le_of_ble_eq_true rfl) ?_
  refine z_aload_n (i := 0) dX8_kindNow_0 rfl rfl ?_
  refine z_aload_n (i := 0) dX8_kindNow_1 rfl rfl ?_
  refine z_getf dX8_kindNow_2 f_X8_224 (by first | decide | assumption | omega) rfl (by rfl) ?_
  rw [he.2.2.1, he.2.2.2.1]
  refine z_iconst (v := 0) dX8_kindNow_5 (by decide) ?_
  refine z_Vi (As := [_, _]) dX8_kindNow_6 (by rfl) v_X8_its l_X8_111 (by first | decide | assumption | omega) rfl rfl rfl (by omega) (by decide) (Nat.le_of_ble_eq_true rfl) ?_
  refine s_X8_its0 hj ?_
  rw [he.2.2.2.2.1]
  exact z_ret dX8_kindNow_9 hQ trivial rfl
theorem s_X8_mNow {k m : Int32} {j K : Nat} (he : zve k m j K c) (hd : 1 ≤ d) (hQ : Qf m c) : zCl l E ad mX8_mNow d [.ref (ad 51)] c Qf := by
  have hj := he.1
  refine z_enter (own := RX8) [some (.ref (ad 51))] (by decide +kernel) rfl rfl rfl (Nat.le_of_ble_eq_true rfl) ?_
  refine z_aload_n (i := 0) dX8_mNow_0 rfl rfl ?_
  refine z_aload_n (i := 0) dX8_mNow_1 rfl rfl ?_
  refine z_getf dX8_mNow_2 f_X8_224 (by first | decide | assumption | omega) rfl (by rfl) ?_
  rw [he.2.2.1, he.2.2.2.1]
  refine z_iconst (v := 1) dX8_mNow_5 (by decide) ?_
  refine z_Vi (As := [_, _]) dX8_mNow_6 (by rfl) v_X8_its l_X8_111 (by first | decide | assumption | omega) rfl rfl rfl (by omega) (by decide) (Nat.le_of_ble_eq_true rfl) ?_
  refine s_X8_its1 hj ?_
  rw [he.2.2.2.2.2]
  exact z_ret dX8_mNow_9 hQ trivial rfl
theorem e_says0 {k x : Int32} {t : vT} : saF k 0 x t = sa0 k x t := rfl
theorem v_says0 {k m x : Int32} {j K : Nat} {t : vT} (he : zve k m j K c) (ht : vok t) (hz : zvo c t c) (hd : 1 ≤ d) (hQ : ∀ c', zvo c (saF k 0 x t).2 c' → Qf (saF k 0 x t).1 c') : zCl l E ad mX8_saysAs d [.ref (ad 51), .int 0, .int x] c Qf := by
  rw [e_says0] at hQ
  try dsimp only at hQ
  refine z_enter (own := RX8) [some (.ref (ad 51)), some (.int 0), some (.int x)] (by decide +kernel) rfl rfl rfl (Nat.le_of_ble_eq_true rfl) ?_
  refine z_iload_n (i := 1) dX8_saysAs_0 rfl rfl ?_
  by_cases h_1_0 : (0 : Int32) = 0
  · refine z_table (v := 0) 44 dX8_saysAs_1 h_1_0 (by decide) (by decide) rfl (by decide) ?_
    refine z_aload_n (i := 0) dX8_saysAs_44 rfl rfl ?_
    refine z_bipush (v := 10) dX8_saysAs_45 (by decide) ?_
    refine z_Vv (As := [_]) dX8_saysAs_47 (by rfl) v_X8_starts l_X8_227 (by first | decide | assumption | omega) rfl rfl rfl (by omega) (by decide) (Nat.le_of_ble_eq_true rfl) ?_
    refine s_X8_starts ht hz (fun c1 h1 => ?_)
    refine z_iload_n (i := 2) dX8_saysAs_50 rfl rfl ?_
    refine z_aload_n (i := 0) dX8_saysAs_51 rfl rfl ?_
    refine z_getf dX8_saysAs_52 f_X8_224 (by first | decide | assumption | omega) rfl (by rfl) ?_
    rw [h1.2.2.2 14 (by decide), he.2.2.1]
    refine z_iadd dX8_saysAs_55 ?_
    exact z_ret dX8_saysAs_56 (hQ _ h1) trivial rfl
  exact absurd rfl h_1_0
theorem e_says1 {k x : Int32} {t : vT} : saF k 1 x t = ((sa0 k x (vb 20 t)).1 - 4, (sa0 k x (vb 20 t)).2) := rfl
theorem v_says1 {k m x : Int32} {j K : Nat} {t : vT} (he : zve k m j K c) (ht : vok t) (hz : zvo c t c) (hd : 2 ≤ d) (hQ : ∀ c', zvo c (saF k 1 x t).2 c' → Qf (saF k 1 x t).1 c') : zCl l E ad mX8_saysAs d [.ref (ad 51), .int 1, .int x] c Qf := by
  rw [e_says1] at hQ
  try dsimp only at hQ
  refine z_enter (own := RX8) [some (.ref (ad 51)), some (.int 1), some (.int x)] (by decide +kernel) rfl rfl rfl (Nat.le_of_ble_eq_true rfl) ?_
  refine z_iload_n (i := 1) dX8_saysAs_0 rfl rfl ?_
  by_cases h_1_1 : (1 : Int32) = 1
  · refine z_table (v := 1) 57 dX8_saysAs_1 h_1_1 (by decide) (by decide) rfl (by decide) ?_
    refine z_aload_n (i := 0) dX8_saysAs_57 rfl rfl ?_
    refine z_bipush (v := 20) dX8_saysAs_58 (by decide) ?_
    refine z_Vv (As := [_]) dX8_saysAs_60 (by rfl) v_X8_starts l_X8_227 (by first | decide | assumption | omega) rfl rfl rfl (by omega) (by decide) (Nat.le_of_ble_eq_true rfl) ?_
    refine s_X8_starts ht hz (fun c1 h1 => ?_)
    refine z_aload_n (i := 0) dX8_saysAs_63 rfl rfl ?_
    refine z_iconst (v := 1) dX8_saysAs_64 (by decide) ?_
    refine z_Si (As := [_]) dX8_saysAs_65 (by rfl) v_X8_above l_X8_166 rfl (by omega) (by decide) (Nat.le_of_ble_eq_true rfl) ?_
    refine t_above (v := 0) rfl ?_
    refine z_iload_n (i := 2) dX8_saysAs_68 rfl rfl ?_
    refine z_Vi (As := [_, _]) dX8_saysAs_69 (by rfl) v_X8_saysAs l_X8_230 (by first | decide | assumption | omega) rfl rfl rfl (by omega) (by decide) (Nat.le_of_ble_eq_true rfl) ?_
    refine v_says0 (x := x) (zve_tr he h1) (vok_vb ht) (zvo_self h1) (by omega) (fun c2 h2 => ?_)
    rw [show saF k 0 (x) _ = sa0 k (x) _ from rfl] at h2
    rw [show saF k 0 (x) _ = sa0 k (x) _ from rfl]
    refine z_iconst (v := 4) dX8_saysAs_72 (by decide) ?_
    refine z_isub dX8_saysAs_73 ?_
    exact z_ret dX8_saysAs_74 (hQ _ (zvo_tr h1 h2)) trivial rfl
  exact absurd rfl h_1_1
theorem e_says2 {k x : Int32} {t : vT} : saF k 2 x t = sa0 k x t := rfl
theorem v_says2 {k m x : Int32} {j K : Nat} {t : vT} (he : zve k m j K c) (ht : vok t) (hz : zvo c t c) (hd : 2 ≤ d) (hQ : ∀ c', zvo c (saF k 2 x t).2 c' → Qf (saF k 2 x t).1 c') : zCl l E ad mX8_saysAs d [.ref (ad 51), .int 2, .int x] c Qf := by
  rw [e_says2] at hQ
  try dsimp only at hQ
  refine z_enter (own := RX8) [some (.ref (ad 51)), some (.int 2), some (.int x)] (by decide +kernel) rfl rfl rfl (Nat.le_of_ble_eq_true rfl) ?_
  refine z_iload_n (i := 1) dX8_saysAs_0 rfl rfl ?_
  by_cases h_1_2 : (2 : Int32) = 2
  · refine z_table (v := 2) 102 dX8_saysAs_1 h_1_2 (by decide) (by decide) rfl (by decide) ?_
    refine z_aload_n (i := 0) dX8_saysAs_102 rfl rfl ?_
    refine z_iload_n (i := 1) dX8_saysAs_103 rfl rfl ?_
    refine z_Si (As := [_]) dX8_saysAs_104 (by rfl) v_X8_above l_X8_166 rfl (by omega) (by decide) (Nat.le_of_ble_eq_true rfl) ?_
    refine t_above (v := 0) rfl ?_
    refine z_iload_n (i := 2) dX8_saysAs_107 rfl rfl ?_
    refine z_Vi (As := [_, _]) dX8_saysAs_108 (by rfl) v_X8_saysAs l_X8_230 (by first | decide | assumption | omega) rfl rfl rfl (by omega) (by decide) (Nat.le_of_ble_eq_true rfl) ?_
    refine v_says0 he ht hz (by omega) (fun c2 h2 => ?_)
    rw [show saF k 0 (x) _ = sa0 k (x) _ from rfl] at h2
    rw [show saF k 0 (x) _ = sa0 k (x) _ from rfl]
    exact z_ret dX8_saysAs_111 (hQ _ h2) trivial rfl
  exact absurd rfl h_1_2
theorem e_says3 {k x : Int32} {t : vT} : saF k 3 x t = sa0 k x t := rfl
theorem v_says3 {k m x : Int32} {j K : Nat} {t : vT} (he : zve k m j K c) (ht : vok t) (hz : zvo c t c) (hd : 2 ≤ d) (hQ : ∀ c', zvo c (saF k 3 x t).2 c' → Qf (saF k 3 x t).1 c') : zCl l E ad mX8_saysAs d [.ref (ad 51), .int 3, .int x] c Qf := by
  rw [e_says3] at hQ
  try dsimp only at hQ
  refine z_enter (own := RX8) [some (.ref (ad 51)), some (.int 3), some (.int x)] (by decide +kernel) rfl rfl rfl (Nat.le_of_ble_eq_true rfl) ?_
  refine z_iload_n (i := 1) dX8_saysAs_0 rfl rfl ?_
  by_cases h_1_3 : (3 : Int32) = 3
  · refine z_table (v := 3) 102 dX8_saysAs_1 h_1_3 (by decide) (by decide) rfl (by decide) ?_
    refine z_aload_n (i := 0) dX8_saysAs_102 rfl rfl ?_
    refine z_iload_n (i := 1) dX8_saysAs_103 rfl rfl ?_
    refine z_Si (As := [_]) dX8_saysAs_104 (by rfl) v_X8_above l_X8_166 rfl (by omega) (by decide) (Nat.le_of_ble_eq_true rfl) ?_
    refine t_above (v := 0) rfl ?_
    refine z_iload_n (i := 2) dX8_saysAs_107 rfl rfl ?_
    refine z_Vi (As := [_, _]) dX8_saysAs_108 (by rfl) v_X8_saysAs l_X8_230 (by first | decide | assumption | omega) rfl rfl rfl (by omega) (by decide) (Nat.le_of_ble_eq_true rfl) ?_
    refine v_says0 he ht hz (by omega) (fun c2 h2 => ?_)
    rw [show saF k 0 (x) _ = sa0 k (x) _ from rfl] at h2
    rw [show saF k 0 (x) _ = sa0 k (x) _ from rfl]
    exact z_ret dX8_saysAs_111 (hQ _ h2) trivial rfl
  exact absurd rfl h_1_3
theorem e_says4 {k x : Int32} {t : vT} : saF k 4 x t = ((sa1 k x (vb 50 t)).1 * 3, (sa1 k x (vb 50 t)).2) := rfl
theorem v_says4 {k m x : Int32} {j K : Nat} {t : vT} (he : zve k m j K c) (ht : vok t) (hz : zvo c t c) (hd : 3 ≤ d) (hQ : ∀ c', zvo c (saF k 4 x t).2 c' → Qf (saF k 4 x t).1 c') : zCl l E ad mX8_saysAs d [.ref (ad 51), .int 4, .int x] c Qf := by
  rw [e_says4] at hQ
  try dsimp only at hQ
  refine z_enter (own := RX8) [some (.ref (ad 51)), some (.int 4), some (.int x)] (by decide +kernel) rfl rfl rfl (Nat.le_of_ble_eq_true rfl) ?_
  refine z_iload_n (i := 1) dX8_saysAs_0 rfl rfl ?_
  by_cases h_1_4 : (4 : Int32) = 4
  · refine z_table (v := 4) 75 dX8_saysAs_1 h_1_4 (by decide) (by decide) rfl (by decide) ?_
    refine z_aload_n (i := 0) dX8_saysAs_75 rfl rfl ?_
    refine z_bipush (v := 50) dX8_saysAs_76 (by decide) ?_
    refine z_Vv (As := [_]) dX8_saysAs_78 (by rfl) v_X8_starts l_X8_227 (by first | decide | assumption | omega) rfl rfl rfl (by omega) (by decide) (Nat.le_of_ble_eq_true rfl) ?_
    refine s_X8_starts ht hz (fun c1 h1 => ?_)
    refine z_aload_n (i := 0) dX8_saysAs_81 rfl rfl ?_
    refine z_iconst (v := 4) dX8_saysAs_82 (by decide) ?_
    refine z_Si (As := [_]) dX8_saysAs_83 (by rfl) v_X8_above l_X8_166 rfl (by omega) (by decide) (Nat.le_of_ble_eq_true rfl) ?_
    refine t_above (v := 1) rfl ?_
    refine z_iload_n (i := 2) dX8_saysAs_86 rfl rfl ?_
    refine z_Vi (As := [_, _]) dX8_saysAs_87 (by rfl) v_X8_saysAs l_X8_230 (by first | decide | assumption | omega) rfl rfl rfl (by omega) (by decide) (Nat.le_of_ble_eq_true rfl) ?_
    refine v_says1 (x := x) (zve_tr he h1) (vok_vb ht) (zvo_self h1) (by omega) (fun c2 h2 => ?_)
    rw [show saF k 1 (x) _ = sa1 k (x) _ from rfl] at h2
    rw [show saF k 1 (x) _ = sa1 k (x) _ from rfl]
    refine z_iconst (v := 3) dX8_saysAs_90 (by decide) ?_
    refine z_imul dX8_saysAs_91 ?_
    exact z_ret dX8_saysAs_92 (hQ _ (zvo_tr h1 h2)) trivial rfl
  exact absurd rfl h_1_4
theorem e_says5 {k x : Int32} {t : vT} : saF k 5 x t = sa0 k x t := rfl
theorem v_says5 {k m x : Int32} {j K : Nat} {t : vT} (he : zve k m j K c) (ht : vok t) (hz : zvo c t c) (hd : 3 ≤ d) (hQ : ∀ c', zvo c (saF k 5 x t).2 c' → Qf (saF k 5 x t).1 c') : zCl l E ad mX8_saysAs d [.ref (ad 51), .int 5, .int x] c Qf := by
  rw [e_says5] at hQ
  try dsimp only at hQ
  refine z_enter (own := RX8) [some (.ref (ad 51)), some (.int 5), some (.int x)] (by decide +kernel) rfl rfl rfl (Nat.le_of_ble_eq_true rfl) ?_
  refine z_iload_n (i := 1) dX8_saysAs_0 rfl rfl ?_
  by_cases h_1_5 : (5 : Int32) = 5
  · refine z_table (v := 5) 102 dX8_saysAs_1 h_1_5 (by decide) (by decide) rfl (by decide) ?_
    refine z_aload_n (i := 0) dX8_saysAs_102 rfl rfl ?_
    refine z_iload_n (i := 1) dX8_saysAs_103 rfl rfl ?_
    refine z_Si (As := [_]) dX8_saysAs_104 (by rfl) v_X8_above l_X8_166 rfl (by omega) (by decide) (Nat.le_of_ble_eq_true rfl) ?_
    refine t_above (v := 2) rfl ?_
    refine z_iload_n (i := 2) dX8_saysAs_107 rfl rfl ?_
    refine z_Vi (As := [_, _]) dX8_saysAs_108 (by rfl) v_X8_saysAs l_X8_230 (by first | decide | assumption | omega) rfl rfl rfl (by omega) (by decide) (Nat.le_of_ble_eq_true rfl) ?_
    refine v_says2 he ht hz (by omega) (fun c2 h2 => ?_)
    rw [show saF k 2 (x) _ = sa0 k (x) _ from rfl] at h2
    rw [show saF k 2 (x) _ = sa0 k (x) _ from rfl]
    exact z_ret dX8_saysAs_111 (hQ _ h2) trivial rfl
  exact absurd rfl h_1_5
theorem e_says6 {k x : Int32} {t : vT} : saF k 6 x t = (9, vb 70 t) := rfl
theorem v_says6 {k m x : Int32} {j K : Nat} {t : vT} (he : zve k m j K c) (ht : vok t) (hz : zvo c t c) (hd : 1 ≤ d) (hQ : ∀ c', zvo c (saF k 6 x t).2 c' → Qf (saF k 6 x t).1 c') : zCl l E ad mX8_saysAs d [.ref (ad 51), .int 6, .int x] c Qf := by
  rw [e_says6] at hQ
  try dsimp only at hQ
  refine z_enter (own := RX8) [some (.ref (ad 51)), some (.int 6), some (.int x)] (by decide +kernel) rfl rfl rfl (Nat.le_of_ble_eq_true rfl) ?_
  refine z_iload_n (i := 1) dX8_saysAs_0 rfl rfl ?_
  by_cases h_1_6 : (6 : Int32) = 6
  · refine z_table (v := 6) 93 dX8_saysAs_1 h_1_6 (by decide) (by decide) rfl (by decide) ?_
    refine z_aload_n (i := 0) dX8_saysAs_93 rfl rfl ?_
    refine z_bipush (v := 70) dX8_saysAs_94 (by decide) ?_
    refine z_Vv (As := [_]) dX8_saysAs_96 (by rfl) v_X8_starts l_X8_227 (by first | decide | assumption | omega) rfl rfl rfl (by omega) (by decide) (Nat.le_of_ble_eq_true rfl) ?_
    refine s_X8_starts ht hz (fun c1 h1 => ?_)
    refine z_bipush (v := 9) dX8_saysAs_99 (by decide) ?_
    exact z_ret dX8_saysAs_101 (hQ _ h1) trivial rfl
  exact absurd rfl h_1_6
theorem t_says {k m x : Int32} {j K kk : Nat} {t : vT} (hk : kk ≤ 6) (he : zve k m j K c) (ht : vok t) (hz : zvo c t c) (hd : 3 ≤ d) (hQ : ∀ c', zvo c (saF k kk x t).2 c' → Qf (saF k kk x t).1 c') : zCl l E ad mX8_saysAs d [.ref (ad 51), .int (nI kk), .int x] c Qf := by
  rcases (show kk = 0 ∨ kk = 1 ∨ kk = 2 ∨ kk = 3 ∨ kk = 4 ∨ kk = 5 ∨ kk = 6 by omega) with rfl | rfl | rfl | rfl | rfl | rfl | rfl
  · exact v_says0 he ht hz (by omega) hQ
  · exact v_says1 he ht hz (by omega) hQ
  · exact v_says2 he ht hz (by omega) hQ
  · exact v_says3 he ht hz (by omega) hQ
  · exact v_says4 he ht hz (by omega) hQ
  · exact v_says5 he ht hz (by omega) hQ
  · exact v_says6 he ht hz (by omega) hQ
theorem e_sees0 {k m x : Int32} {K : Nat} {t : vT} : seV k m K 0 x t = ((saF k K x (vb 11 t)).1 * 2, (saF k K x (vb 11 t)).2) := rfl
theorem v_sees0 {k m x : Int32} {j K : Nat} {t : vT} (he : zve k m j K c) (ht : vok t) (hz : zvo c t c) (hd : 4 ≤ d) (hQ : ∀ c', zvo c (seV k m K 0 x t).2 c' → Qf (seV k m K 0 x t).1 c') : zCl l E ad mX8_seesAs d [.ref (ad 51), .int 0, .int x] c Qf := by
  rw [e_sees0] at hQ
  try dsimp only at hQ
  refine z_enter (own := RX8) [some (.ref (ad 51)), some (.int 0), some (.int x)] (by decide +kernel) rfl rfl rfl (Nat.le_of_ble_eq_true rfl) ?_
  refine z_iload_n (i := 1) dX8_seesAs_0 rfl rfl ?_
  by_cases h_1_0 : (0 : Int32) = 0
  · refine z_table (v := 0) 44 dX8_seesAs_1 h_1_0 (by decide) (by decide) rfl (by decide) ?_
    refine z_aload_n (i := 0) dX8_seesAs_44 rfl rfl ?_
    refine z_bipush (v := 11) dX8_seesAs_45 (by decide) ?_
    refine z_Vv (As := [_]) dX8_seesAs_47 (by rfl) v_X8_starts l_X8_227 (by first | decide | assumption | omega) rfl rfl rfl (by omega) (by decide) (Nat.le_of_ble_eq_true rfl) ?_
    refine s_X8_starts ht hz (fun c1 h1 => ?_)
    refine z_aload_n (i := 0) dX8_seesAs_50 rfl rfl ?_
    refine z_aload_n (i := 0) dX8_seesAs_51 rfl rfl ?_
    refine z_Vi (As := []) dX8_seesAs_52 (by rfl) v_X8_kindNow l_X8_233 (by first | decide | assumption | omega) rfl rfl rfl (by omega) (by decide) (Nat.le_of_ble_eq_true rfl) ?_
    refine s_X8_kindNow (zve_tr he h1) (by omega) ?_
    refine z_iload_n (i := 2) dX8_seesAs_55 rfl rfl ?_
    refine z_Vi (As := [_, _]) dX8_seesAs_56 (by rfl) v_X8_saysAs l_X8_230 (by first | decide | assumption | omega) rfl rfl rfl (by omega) (by decide) (Nat.le_of_ble_eq_true rfl) ?_
    refine t_says he.2.1 (zve_tr he h1) (vok_vb ht) (zvo_self h1) (by omega) (fun c2 h2 => ?_)
    refine z_iconst (v := 2) dX8_seesAs_59 (by decide) ?_
    refine z_imul dX8_seesAs_60 ?_
    exact z_ret dX8_seesAs_61 (hQ _ (zvo_tr h1 h2)) trivial rfl
  exact absurd rfl h_1_0
theorem e_sees1 {k m x : Int32} {K : Nat} {t : vT} : seV k m K 1 x t = se0 k K x t := rfl
theorem v_sees1 {k m x : Int32} {j K : Nat} {t : vT} (he : zve k m j K c) (ht : vok t) (hz : zvo c t c) (hd : 5 ≤ d) (hQ : ∀ c', zvo c (seV k m K 1 x t).2 c' → Qf (seV k m K 1 x t).1 c') : zCl l E ad mX8_seesAs d [.ref (ad 51), .int 1, .int x] c Qf := by
  rw [e_sees1] at hQ
  try dsimp only at hQ
  refine z_enter (own := RX8) [some (.ref (ad 51)), some (.int 1), some (.int x)] (by decide +kernel) rfl rfl rfl (Nat.le_of_ble_eq_true rfl) ?_
  refine z_iload_n (i := 1) dX8_seesAs_0 rfl rfl ?_
  by_cases h_1_1 : (1 : Int32) = 1
  · refine z_table (v := 1) 120 dX8_seesAs_1 h_1_1 (by decide) (by decide) rfl (by decide) ?_
    refine z_aload_n (i := 0) dX8_seesAs_120 rfl rfl ?_
    refine z_iload_n (i := 1) dX8_seesAs_121 rfl rfl ?_
    refine z_Si (As := [_]) dX8_seesAs_122 (by rfl) v_X8_above l_X8_166 rfl (by omega) (by decide) (Nat.le_of_ble_eq_true rfl) ?_
    refine t_above (v := 0) rfl ?_
    refine z_iload_n (i := 2) dX8_seesAs_125 rfl rfl ?_
    refine z_Vi (As := [_, _]) dX8_seesAs_126 (by rfl) v_X8_seesAs l_X8_236 (by first | decide | assumption | omega) rfl rfl rfl (by omega) (by decide) (Nat.le_of_ble_eq_true rfl) ?_
    refine v_sees0 he ht hz (by omega) (fun c2 h2 => ?_)
    rw [show seV k m K 0 (x) _ = se0 k K (x) _ from rfl] at h2
    rw [show seV k m K 0 (x) _ = se0 k K (x) _ from rfl]
    exact z_ret dX8_seesAs_129 (hQ _ h2) trivial rfl
  exact absurd rfl h_1_1
theorem e_sees2 {k m x : Int32} {K : Nat} {t : vT} : seV k m K 2 x t = (0 - (se0 k K x (vb 30 t)).1, (se0 k K x (vb 30 t)).2) := rfl
theorem v_sees2 {k m x : Int32} {j K : Nat} {t : vT} (he : zve k m j K c) (ht : vok t) (hz : zvo c t c) (hd : 5 ≤ d) (hQ : ∀ c', zvo c (seV k m K 2 x t).2 c' → Qf (seV k m K 2 x t).1 c') : zCl l E ad mX8_seesAs d [.ref (ad 51), .int 2, .int x] c Qf := by
  rw [e_sees2] at hQ
  try dsimp only at hQ
  refine z_enter (own := RX8) [some (.ref (ad 51)), some (.int 2), some (.int x)] (by decide +kernel) rfl rfl rfl (Nat.le_of_ble_eq_true rfl) ?_
  refine z_iload_n (i := 1) dX8_seesAs_0 rfl rfl ?_
  by_cases h_1_2 : (2 : Int32) = 2
  · refine z_table (v := 2) 62 dX8_seesAs_1 h_1_2 (by decide) (by decide) rfl (by decide) ?_
    refine z_aload_n (i := 0) dX8_seesAs_62 rfl rfl ?_
    refine z_bipush (v := 30) dX8_seesAs_63 (by decide) ?_
    refine z_Vv (As := [_]) dX8_seesAs_65 (by rfl) v_X8_starts l_X8_227 (by first | decide | assumption | omega) rfl rfl rfl (by omega) (by decide) (Nat.le_of_ble_eq_true rfl) ?_
    refine s_X8_starts ht hz (fun c1 h1 => ?_)
    refine z_iconst (v := 0) dX8_seesAs_68 (by decide) ?_
    refine z_aload_n (i := 0) dX8_seesAs_69 rfl rfl ?_
    refine z_iconst (v := 2) dX8_seesAs_70 (by decide) ?_
    refine z_Si (As := [_]) dX8_seesAs_71 (by rfl) v_X8_above l_X8_166 rfl (by omega) (by decide) (Nat.le_of_ble_eq_true rfl) ?_
    refine t_above (v := 0) rfl ?_
    refine z_iload_n (i := 2) dX8_seesAs_74 rfl rfl ?_
    refine z_Vi (As := [_, _]) dX8_seesAs_75 (by rfl) v_X8_seesAs l_X8_236 (by first | decide | assumption | omega) rfl rfl rfl (by omega) (by decide) (Nat.le_of_ble_eq_true rfl) ?_
    refine v_sees0 (x := x) (zve_tr he h1) (vok_vb ht) (zvo_self h1) (by omega) (fun c2 h2 => ?_)
    rw [show seV k m K 0 (x) _ = se0 k K (x) _ from rfl] at h2
    rw [show seV k m K 0 (x) _ = se0 k K (x) _ from rfl]
    refine z_isub dX8_seesAs_78 ?_
    exact z_ret dX8_seesAs_79 (hQ _ (zvo_tr h1 h2)) trivial rfl
  exact absurd rfl h_1_2
theorem e_sees3 {k m x : Int32} {K : Nat} {t : vT} : seV k m K 3 x t = se0 k K x t := rfl
theorem v_sees3 {k m x : Int32} {j K : Nat} {t : vT} (he : zve k m j K c) (ht : vok t) (hz : zvo c t c) (hd : 5 ≤ d) (hQ : ∀ c', zvo c (seV k m K 3 x t).2 c' → Qf (seV k m K 3 x t).1 c') : zCl l E ad mX8_seesAs d [.ref (ad 51), .int 3, .int x] c Qf := by
  rw [e_sees3] at hQ
  try dsimp only at hQ
  refine z_enter (own := RX8) [some (.ref (ad 51)), some (.int 3), some (.int x)] (by decide +kernel) rfl rfl rfl (Nat.le_of_ble_eq_true rfl) ?_
  refine z_iload_n (i := 1) dX8_seesAs_0 rfl rfl ?_
  by_cases h_1_3 : (3 : Int32) = 3
  · refine z_table (v := 3) 120 dX8_seesAs_1 h_1_3 (by decide) (by decide) rfl (by decide) ?_
    refine z_aload_n (i := 0) dX8_seesAs_120 rfl rfl ?_
    refine z_iload_n (i := 1) dX8_seesAs_121 rfl rfl ?_
    refine z_Si (As := [_]) dX8_seesAs_122 (by rfl) v_X8_above l_X8_166 rfl (by omega) (by decide) (Nat.le_of_ble_eq_true rfl) ?_
    refine t_above (v := 0) rfl ?_
    refine z_iload_n (i := 2) dX8_seesAs_125 rfl rfl ?_
    refine z_Vi (As := [_, _]) dX8_seesAs_126 (by rfl) v_X8_seesAs l_X8_236 (by first | decide | assumption | omega) rfl rfl rfl (by omega) (by decide) (Nat.le_of_ble_eq_true rfl) ?_
    refine v_sees0 he ht hz (by omega) (fun c2 h2 => ?_)
    rw [show seV k m K 0 (x) _ = se0 k K (x) _ from rfl] at h2
    rw [show seV k m K 0 (x) _ = se0 k K (x) _ from rfl]
    exact z_ret dX8_seesAs_129 (hQ _ h2) trivial rfl
  exact absurd rfl h_1_3
theorem e_sees4 {k m x : Int32} {K : Nat} {t : vT} : seV k m K 4 x t = se0 k K x t := rfl
theorem v_sees4 {k m x : Int32} {j K : Nat} {t : vT} (he : zve k m j K c) (ht : vok t) (hz : zvo c t c) (hd : 6 ≤ d) (hQ : ∀ c', zvo c (seV k m K 4 x t).2 c' → Qf (seV k m K 4 x t).1 c') : zCl l E ad mX8_seesAs d [.ref (ad 51), .int 4, .int x] c Qf := by
  rw [e_sees4] at hQ
  try dsimp only at hQ
  refine z_enter (own := RX8) [some (.ref (ad 51)), some (.int 4), some (.int x)] (by decide +kernel) rfl rfl rfl (Nat.le_of_ble_eq_true rfl) ?_
  refine z_iload_n (i := 1) dX8_seesAs_0 rfl rfl ?_
  by_cases h_1_4 : (4 : Int32) = 4
  · refine z_table (v := 4) 120 dX8_seesAs_1 h_1_4 (by decide) (by decide) rfl (by decide) ?_
    refine z_aload_n (i := 0) dX8_seesAs_120 rfl rfl ?_
    refine z_iload_n (i := 1) dX8_seesAs_121 rfl rfl ?_
    refine z_Si (As := [_]) dX8_seesAs_122 (by rfl) v_X8_above l_X8_166 rfl (by omega) (by decide) (Nat.le_of_ble_eq_true rfl) ?_
    refine t_above (v := 1) rfl ?_
    refine z_iload_n (i := 2) dX8_seesAs_125 rfl rfl ?_
    refine z_Vi (As := [_, _]) dX8_seesAs_126 (by rfl) v_X8_seesAs l_X8_236 (by first | decide | assumption | omega) rfl rfl rfl (by omega) (by decide) (Nat.le_of_ble_eq_true rfl) ?_
    refine v_sees1 he ht hz (by omega) (fun c2 h2 => ?_)
    rw [show seV k m K 1 (x) _ = se0 k K (x) _ from rfl] at h2
    rw [show seV k m K 1 (x) _ = se0 k K (x) _ from rfl]
    exact z_ret dX8_seesAs_129 (hQ _ h2) trivial rfl
  exact absurd rfl h_1_4
theorem e_sees5 {k m x : Int32} {K : Nat} {t : vT} : seV k m K 5 x t = se2 k K (x + 1) (vb 60 t) := rfl
theorem v_sees5 {k m x : Int32} {j K : Nat} {t : vT} (he : zve k m j K c) (ht : vok t) (hz : zvo c t c) (hd : 6 ≤ d) (hQ : ∀ c', zvo c (seV k m K 5 x t).2 c' → Qf (seV k m K 5 x t).1 c') : zCl l E ad mX8_seesAs d [.ref (ad 51), .int 5, .int x] c Qf := by
  rw [e_sees5] at hQ
  try dsimp only at hQ
  refine z_enter (own := RX8) [some (.ref (ad 51)), some (.int 5), some (.int x)] (by decide +kernel) rfl rfl rfl (Nat.le_of_ble_eq_true rfl) ?_
  refine z_iload_n (i := 1) dX8_seesAs_0 rfl rfl ?_
  by_cases h_1_5 : (5 : Int32) = 5
  · refine z_table (v := 5) 80 dX8_seesAs_1 h_1_5 (by decide) (by decide) rfl (by decide) ?_
    refine z_aload_n (i := 0) dX8_seesAs_80 rfl rfl ?_
    refine z_bipush (v := 60) dX8_seesAs_81 (by decide) ?_
    refine z_Vv (As := [_]) dX8_seesAs_83 (by rfl) v_X8_starts l_X8_227 (by first | decide | assumption | omega) rfl rfl rfl (by omega) (by decide) (Nat.le_of_ble_eq_true rfl) ?_
    refine s_X8_starts ht hz (fun c1 h1 => ?_)
    refine z_aload_n (i := 0) dX8_seesAs_86 rfl rfl ?_
    refine z_iconst (v := 5) dX8_seesAs_87 (by decide) ?_
    refine z_Si (As := [_]) dX8_seesAs_88 (by rfl) v_X8_above l_X8_166 rfl (by omega) (by decide) (Nat.le_of_ble_eq_true rfl) ?_
    refine t_above (v := 2) rfl ?_
    refine z_iload_n (i := 2) dX8_seesAs_91 rfl rfl ?_
    refine z_iconst (v := 1) dX8_seesAs_92 (by decide) ?_
    refine z_iadd dX8_seesAs_93 ?_
    refine z_Vi (As := [_, _]) dX8_seesAs_94 (by rfl) v_X8_seesAs l_X8_236 (by first | decide | assumption | omega) rfl rfl rfl (by omega) (by decide) (Nat.le_of_ble_eq_true rfl) ?_
    refine v_sees2 (x := x + 1) (zve_tr he h1) (vok_vb ht) (zvo_self h1) (by omega) (fun c2 h2 => ?_)
    rw [show seV k m K 2 (x + 1) _ = se2 k K (x + 1) _ from rfl] at h2
    rw [show seV k m K 2 (x + 1) _ = se2 k K (x + 1) _ from rfl]
    exact z_ret dX8_seesAs_97 (hQ _ (zvo_tr h1 h2)) trivial rfl
  exact absurd rfl h_1_5
theorem e_sees6 {k m x : Int32} {K : Nat} {t : vT} : seV k m K 6 x t = ((se0 k K x (vb 71 t)).1 + m, (se0 k K x (vb 71 t)).2) := rfl
theorem v_sees6 {k m x : Int32} {j K : Nat} {t : vT} (he : zve k m j K c) (ht : vok t) (hz : zvo c t c) (hd : 5 ≤ d) (hQ : ∀ c', zvo c (seV k m K 6 x t).2 c' → Qf (seV k m K 6 x t).1 c') : zCl l E ad mX8_seesAs d [.ref (ad 51), .int 6, .int x] c Qf := by
  rw [e_sees6] at hQ
  try dsimp only at hQ
  refine z_enter (own := RX8) [some (.ref (ad 51)), some (.int 6), some (.int x)] (by decide +kernel) rfl rfl rfl (Nat.le_of_ble_eq_true rfl) ?_
  refine z_iload_n (i := 1) dX8_seesAs_0 rfl rfl ?_
  by_cases h_1_6 : (6 : Int32) = 6
  · refine z_table (v := 6) 98 dX8_seesAs_1 h_1_6 (by decide) (by decide) rfl (by decide) ?_
    refine z_aload_n (i := 0) dX8_seesAs_98 rfl rfl ?_
    refine z_bipush (v := 71) dX8_seesAs_99 (by decide) ?_
    refine z_Vv (As := [_]) dX8_seesAs_101 (by rfl) v_X8_starts l_X8_227 (by first | decide | assumption | omega) rfl rfl rfl (by omega) (by decide) (Nat.le_of_ble_eq_true rfl) ?_
    refine s_X8_starts ht hz (fun c1 h1 => ?_)
    refine z_aload_n (i := 0) dX8_seesAs_104 rfl rfl ?_
    refine z_bipush (v := 6) dX8_seesAs_105 (by decide) ?_
    refine z_Si (As := [_]) dX8_seesAs_107 (by rfl) v_X8_above l_X8_166 rfl (by omega) (by decide) (Nat.le_of_ble_eq_true rfl) ?_
    refine t_above (v := 0) rfl ?_
    refine z_iload_n (i := 2) dX8_seesAs_110 rfl rfl ?_
    refine z_Vi (As := [_, _]) dX8_seesAs_111 (by rfl) v_X8_seesAs l_X8_236 (by first | decide | assumption | omega) rfl rfl rfl (by omega) (by decide) (Nat.le_of_ble_eq_true rfl) ?_
    refine v_sees0 (x := x) (zve_tr he h1) (vok_vb ht) (zvo_self h1) (by omega) (fun c2 h2 => ?_)
    rw [show seV k m K 0 (x) _ = se0 k K (x) _ from rfl] at h2
    rw [show seV k m K 0 (x) _ = se0 k K (x) _ from rfl]
    refine z_aload_n (i := 0) dX8_seesAs_114 rfl rfl ?_
    refine z_Vi (As := []) dX8_seesAs_115 (by rfl) v_X8_mNow l_X8_239 (by first | decide | assumption | omega) rfl rfl rfl (by omega) (by decide) (Nat.le_of_ble_eq_true rfl) ?_
    refine s_X8_mNow (zve_tr (zve_tr he h1) h2) (by omega) ?_
    refine z_iadd dX8_seesAs_118 ?_
    exact z_ret dX8_seesAs_119 (hQ _ (zvo_tr h1 h2)) trivial rfl
  exact absurd rfl h_1_6
theorem t_sees {k m x : Int32} {j K kk : Nat} {t : vT} (hk : kk ≤ 6) (he : zve k m j K c) (ht : vok t) (hz : zvo c t c) (hd : 6 ≤ d) (hQ : ∀ c', zvo c (seV k m K kk x t).2 c' → Qf (seV k m K kk x t).1 c') : zCl l E ad mX8_seesAs d [.ref (ad 51), .int (nI kk), .int x] c Qf := by
  rcases (show kk = 0 ∨ kk = 1 ∨ kk = 2 ∨ kk = 3 ∨ kk = 4 ∨ kk = 5 ∨ kk = 6 by omega) with rfl | rfl | rfl | rfl | rfl | rfl | rfl
  · exact v_sees0 he ht hz (by omega) hQ
  · exact v_sees1 he ht hz (by omega) hQ
  · exact v_sees2 he ht hz (by omega) hQ
  · exact v_sees3 he ht hz (by omega) hQ
  · exact v_sees4 he ht hz (by omega) hQ
  · exact v_sees5 he ht hz (by omega) hQ
  · exact v_sees6 he ht hz (by omega) hQ
theorem e_walks0 {k m x : Int32} {K : Nat} {t : vT} : waV k m K 0 x t = ((seV k m K K x (vb 12 t)).1 - m, (seV k m K K x (vb 12 t)).2) := rfl
theorem v_walks0 {k m x : Int32} {j K : Nat} {t : vT} (he : zve k m j K c) (ht : vok t) (hz : zvo c t c) (hd : 7 ≤ d) (hQ : ∀ c', zvo c (waV k m K 0 x t).2 c' → Qf (waV k m K 0 x t).1 c') : zCl l E ad mX8_walksAs d [.ref (ad 51), .int 0, .int x] c Qf := by
  rw [e_walks0] at hQ
  try dsimp only at hQ
  refine z_enter (own := RX8) [some (.ref (ad 51)), some (.int 0), some (.int x)] (by decide +kernel) rfl rfl rfl (Nat.le_of_ble_eq_true rfl) ?_
  refine z_iload_n (i := 1) dX8_walksAs_0 rfl rfl ?_
  by_cases h_1_0 : (0 : Int32) = 0
  · refine z_table (v := 0) 36 dX8_walksAs_1 h_1_0 (by decide) (by decide) rfl (by decide) ?_
    refine z_aload_n (i := 0) dX8_walksAs_36 rfl rfl ?_
    refine z_bipush (v := 12) dX8_walksAs_37 (by decide) ?_
    refine z_Vv (As := [_]) dX8_walksAs_39 (by rfl) v_X8_starts l_X8_227 (by first | decide | assumption | omega) rfl rfl rfl (by omega) (by decide) (Nat.le_of_ble_eq_true rfl) ?_
    refine s_X8_starts ht hz (fun c1 h1 => ?_)
    refine z_aload_n (i := 0) dX8_walksAs_42 rfl rfl ?_
    refine z_aload_n (i := 0) dX8_walksAs_43 rfl rfl ?_
    refine z_Vi (As := []) dX8_walksAs_44 (by rfl) v_X8_kindNow l_X8_233 (by first | decide | assumption | omega) rfl rfl rfl (by omega) (by decide) (Nat.le_of_ble_eq_true rfl) ?_
    refine s_X8_kindNow (zve_tr he h1) (by omega) ?_
    refine z_iload_n (i := 2) dX8_walksAs_47 rfl rfl ?_
    refine z_Vi (As := [_, _]) dX8_walksAs_48 (by rfl) v_X8_seesAs l_X8_236 (by first | decide | assumption | omega) rfl rfl rfl (by omega) (by decide) (Nat.le_of_ble_eq_true rfl) ?_
    refine t_sees he.2.1 (zve_tr he h1) (vok_vb ht) (zvo_self h1) (by omega) (fun c2 h2 => ?_)
    refine z_aload_n (i := 0) dX8_walksAs_51 rfl rfl ?_
    refine z_Vi (As := []) dX8_walksAs_52 (by rfl) v_X8_mNow l_X8_239 (by first | decide | assumption | omega) rfl rfl rfl (by omega) (by decide) (Nat.le_of_ble_eq_true rfl) ?_
    refine s_X8_mNow (zve_tr (zve_tr he h1) h2) (by omega) ?_
    refine z_isub dX8_walksAs_55 ?_
    exact z_ret dX8_walksAs_56 (hQ _ (zvo_tr h1 h2)) trivial rfl
  exact absurd rfl h_1_0
theorem e_walks1 {k m x : Int32} {K : Nat} {t : vT} : waV k m K 1 x t = wa0 k m K x t := rfl
theorem v_walks1 {k m x : Int32} {j K : Nat} {t : vT} (he : zve k m j K c) (ht : vok t) (hz : zvo c t c) (hd : 8 ≤ d) (hQ : ∀ c', zvo c (waV k m K 1 x t).2 c' → Qf (waV k m K 1 x t).1 c') : zCl l E ad mX8_walksAs d [.ref (ad 51), .int 1, .int x] c Qf := by
  rw [e_walks1] at hQ
  try dsimp only at hQ
  refine z_enter (own := RX8) [some (.ref (ad 51)), some (.int 1), some (.int x)] (by decide +kernel) rfl rfl rfl (Nat.le_of_ble_eq_true rfl) ?_
  refine z_iload_n (i := 1) dX8_walksAs_0 rfl rfl ?_
  by_cases h_1_1 : (1 : Int32) = 1
  · refine z_table (v := 1) 96 dX8_walksAs_1 h_1_1 (by decide) (by decide) rfl (by decide) ?_
    refine z_aload_n (i := 0) dX8_walksAs_96 rfl rfl ?_
    refine z_iload_n (i := 1) dX8_walksAs_97 rfl rfl ?_
    refine z_Si (As := [_]) dX8_walksAs_98 (by rfl) v_X8_above l_X8_166 rfl (by omega) (by decide) (Nat.le_of_ble_eq_true rfl) ?_
    refine t_above (v := 0) rfl ?_
    refine z_iload_n (i := 2) dX8_walksAs_101 rfl rfl ?_
    refine z_Vi (As := [_, _]) dX8_walksAs_102 (by rfl) v_X8_walksAs l_X8_242 (by first | decide | assumption | omega) rfl rfl rfl (by omega) (by decide) (Nat.le_of_ble_eq_true rfl) ?_
    refine v_walks0 he ht hz (by omega) (fun c2 h2 => ?_)
    rw [show waV k m K 0 (x) _ = wa0 k m K (x) _ from rfl] at h2
    rw [show waV k m K 0 (x) _ = wa0 k m K (x) _ from rfl]
    exact z_ret dX8_walksAs_105 (hQ _ h2) trivial rfl
  exact absurd rfl h_1_1
theorem e_walks2 {k m x : Int32} {K : Nat} {t : vT} : waV k m K 2 x t = wa0 k m K x t := rfl
theorem v_walks2 {k m x : Int32} {j K : Nat} {t : vT} (he : zve k m j K c) (ht : vok t) (hz : zvo c t c) (hd : 8 ≤ d) (hQ : ∀ c', zvo c (waV k m K 2 x t).2 c' → Qf (waV k m K 2 x t).1 c') : zCl l E ad mX8_walksAs d [.ref (ad 51), .int 2, .int x] c Qf := by
  rw [e_walks2] at hQ
  try dsimp only at hQ
  refine z_enter (own := RX8) [some (.ref (ad 51)), some (.int 2), some (.int x)] (by decide +kernel) rfl rfl rfl (Nat.le_of_ble_eq_true rfl) ?_
  refine z_iload_n (i := 1) dX8_walksAs_0 rfl rfl ?_
  by_cases h_1_2 : (2 : Int32) = 2
  · refine z_table (v := 2) 96 dX8_walksAs_1 h_1_2 (by decide) (by decide) rfl (by decide) ?_
    refine z_aload_n (i := 0) dX8_walksAs_96 rfl rfl ?_
    refine z_iload_n (i := 1) dX8_walksAs_97 rfl rfl ?_
    refine z_Si (As := [_]) dX8_walksAs_98 (by rfl) v_X8_above l_X8_166 rfl (by omega) (by decide) (Nat.le_of_ble_eq_true rfl) ?_
    refine t_above (v := 0) rfl ?_
    refine z_iload_n (i := 2) dX8_walksAs_101 rfl rfl ?_
    refine z_Vi (As := [_, _]) dX8_walksAs_102 (by rfl) v_X8_walksAs l_X8_242 (by first | decide | assumption | omega) rfl rfl rfl (by omega) (by decide) (Nat.le_of_ble_eq_true rfl) ?_
    refine v_walks0 he ht hz (by omega) (fun c2 h2 => ?_)
    rw [show waV k m K 0 (x) _ = wa0 k m K (x) _ from rfl] at h2
    rw [show waV k m K 0 (x) _ = wa0 k m K (x) _ from rfl]
    exact z_ret dX8_walksAs_105 (hQ _ h2) trivial rfl
  exact absurd rfl h_1_2
theorem e_walks3 {k m x : Int32} {K : Nat} {t : vT} : waV k m K 3 x t = wa0 k m K (x / 2) (vb 40 t) := rfl
theorem v_walks3 {k m x : Int32} {j K : Nat} {t : vT} (he : zve k m j K c) (ht : vok t) (hz : zvo c t c) (hd : 8 ≤ d) (hQ : ∀ c', zvo c (waV k m K 3 x t).2 c' → Qf (waV k m K 3 x t).1 c') : zCl l E ad mX8_walksAs d [.ref (ad 51), .int 3, .int x] c Qf := by
  rw [e_walks3] at hQ
  try dsimp only at hQ
  refine z_enter (own := RX8) [some (.ref (ad 51)), some (.int 3), some (.int x)] (by decide +kernel) rfl rfl rfl (Nat.le_of_ble_eq_true rfl) ?_
  refine z_iload_n (i := 1) dX8_walksAs_0 rfl rfl ?_
  by_cases h_1_3 : (3 : Int32) = 3
  · refine z_table (v := 3) 57 dX8_walksAs_1 h_1_3 (by decide) (by decide) rfl (by decide) ?_
    refine z_aload_n (i := 0) dX8_walksAs_57 rfl rfl ?_
    refine z_bipush (v := 40) dX8_walksAs_58 (by decide) ?_
    refine z_Vv (As := [_]) dX8_walksAs_60 (by rfl) v_X8_starts l_X8_227 (by first | decide | assumption | omega) rfl rfl rfl (by omega) (by decide) (Nat.le_of_ble_eq_true rfl) ?_
    refine s_X8_starts ht hz (fun c1 h1 => ?_)
    refine z_aload_n (i := 0) dX8_walksAs_63 rfl rfl ?_
    refine z_iconst (v := 3) dX8_walksAs_64 (by decide) ?_
    refine z_Si (As := [_]) dX8_walksAs_65 (by rfl) v_X8_above l_X8_166 rfl (by omega) (by decide) (Nat.le_of_ble_eq_true rfl) ?_
    refine t_above (v := 0) rfl ?_
    refine z_iload_n (i := 2) dX8_walksAs_68 rfl rfl ?_
    refine z_iconst (v := 2) dX8_walksAs_69 (by decide) ?_
    refine z_idiv dX8_walksAs_70 (by first | decide | assumption) ?_
    refine z_Vi (As := [_, _]) dX8_walksAs_71 (by rfl) v_X8_walksAs l_X8_242 (by first | decide | assumption | omega) rfl rfl rfl (by omega) (by decide) (Nat.le_of_ble_eq_true rfl) ?_
    refine v_walks0 (x := x / 2) (zve_tr he h1) (vok_vb ht) (zvo_self h1) (by omega) (fun c2 h2 => ?_)
    rw [show waV k m K 0 (x / 2) _ = wa0 k m K (x / 2) _ from rfl] at h2
    rw [show waV k m K 0 (x / 2) _ = wa0 k m K (x / 2) _ from rfl]
    exact z_ret dX8_walksAs_74 (hQ _ (zvo_tr h1 h2)) trivial rfl
  exact absurd rfl h_1_3
theorem e_walks4 {k m x : Int32} {K : Nat} {t : vT} : waV k m K 4 x t = ((wa0 k m K x (vb 51 t)).1 ^^^ k, (wa0 k m K x (vb 51 t)).2) := rfl
theorem v_walks4 {k m x : Int32} {j K : Nat} {t : vT} (he : zve k m j K c) (ht : vok t) (hz : zvo c t c) (hd : 9 ≤ d) (hQ : ∀ c', zvo c (waV k m K 4 x t).2 c' → Qf (waV k m K 4 x t).1 c') : zCl l E ad mX8_walksAs d [.ref (ad 51), .int 4, .int x] c Qf := by
  rw [e_walks4] at hQ
  try dsimp only at hQ
  refine z_enter (own := RX8) [some (.ref (ad 51)), some (.int 4), some (.int x)] (by decide +kernel) rfl rfl rfl (Nat.le_of_ble_eq_true rfl) ?_
  refine z_iload_n (i := 1) dX8_walksAs_0 rfl rfl ?_
  by_cases h_1_4 : (4 : Int32) = 4
  · refine z_table (v := 4) 75 dX8_walksAs_1 h_1_4 (by decide) (by decide) rfl (by decide) ?_
    refine z_aload_n (i := 0) dX8_walksAs_75 rfl rfl ?_
    refine z_bipush (v := 51) dX8_walksAs_76 (by decide) ?_
    refine z_Vv (As := [_]) dX8_walksAs_78 (by rfl) v_X8_starts l_X8_227 (by first | decide | assumption | omega) rfl rfl rfl (by omega) (by decide) (Nat.le_of_ble_eq_true rfl) ?_
    refine s_X8_starts ht hz (fun c1 h1 => ?_)
    refine z_aload_n (i := 0) dX8_walksAs_81 rfl rfl ?_
    refine z_iconst (v := 4) dX8_walksAs_82 (by decide) ?_
    refine z_Si (As := [_]) dX8_walksAs_83 (by rfl) v_X8_above l_X8_166 rfl (by omega) (by decide) (Nat.le_of_ble_eq_true rfl) ?_
    refine t_above (v := 1) rfl ?_
    refine z_iload_n (i := 2) dX8_walksAs_86 rfl rfl ?_
    refine z_Vi (As := [_, _]) dX8_walksAs_87 (by rfl) v_X8_walksAs l_X8_242 (by first | decide | assumption | omega) rfl rfl rfl (by omega) (by decide) (Nat.le_of_ble_eq_true rfl) ?_
    refine v_walks1 (x := x) (zve_tr he h1) (vok_vb ht) (zvo_self h1) (by omega) (fun c2 h2 => ?_)
    rw [show waV k m K 1 (x) _ = wa0 k m K (x) _ from rfl] at h2
    rw [show waV k m K 1 (x) _ = wa0 k m K (x) _ from rfl]
    refine z_aload_n (i := 0) dX8_walksAs_90 rfl rfl ?_
    refine z_getf dX8_walksAs_91 f_X8_224 (by first | decide | assumption | omega) rfl (by rfl) ?_
    rw [(zvo_tr h1 h2).2.2.2 14 (by decide), he.2.2.1]
    refine z_ixor dX8_walksAs_94 ?_
    exact z_ret dX8_walksAs_95 (hQ _ (zvo_tr h1 h2)) trivial rfl
  exact absurd rfl h_1_4
theorem e_walks5 {k m x : Int32} {K : Nat} {t : vT} : waV k m K 5 x t = wa0 k m K x t := rfl
theorem v_walks5 {k m x : Int32} {j K : Nat} {t : vT} (he : zve k m j K c) (ht : vok t) (hz : zvo c t c) (hd : 9 ≤ d) (hQ : ∀ c', zvo c (waV k m K 5 x t).2 c' → Qf (waV k m K 5 x t).1 c') : zCl l E ad mX8_walksAs d [.ref (ad 51), .int 5, .int x] c Qf := by
  rw [e_walks5] at hQ
  try dsimp only at hQ
  refine z_enter (own := RX8) [some (.ref (ad 51)), some (.int 5), some (.int x)] (by decide +kernel) rfl rfl rfl (Nat.le_of_ble_eq_true rfl) ?_
  refine z_iload_n (i := 1) dX8_walksAs_0 rfl rfl ?_
  refine z_tableD 96 dX8_walksAs_1 (by decide) (by decide) ?_
  refine z_aload_n (i := 0) dX8_walksAs_96 rfl rfl ?_
  refine z_iload_n (i := 1) dX8_walksAs_97 rfl rfl ?_
  refine z_Si (As := [_]) dX8_walksAs_98 (by rfl) v_X8_above l_X8_166 rfl (by omega) (by decide) (Nat.le_of_ble_eq_true rfl) ?_
  refine t_above (v := 2) rfl ?_
  refine z_iload_n (i := 2) dX8_walksAs_101 rfl rfl ?_
  refine z_Vi (As := [_, _]) dX8_walksAs_102 (by rfl) v_X8_walksAs l_X8_242 (by first | decide | assumption | omega) rfl rfl rfl (by omega) (by decide) (Nat.le_of_ble_eq_true rfl) ?_
  refine v_walks2 he ht hz (by omega) (fun c2 h2 => ?_)
  rw [show waV k m K 2 (x) _ = wa0 k m K (x) _ from rfl] at h2
  rw [show waV k m K 2 (x) _ = wa0 k m K (x) _ from rfl]
  exact z_ret dX8_walksAs_105 (hQ _ h2) trivial rfl
theorem e_walks6 {k m x : Int32} {K : Nat} {t : vT} : waV k m K 6 x t = wa0 k m K x t := rfl
theorem v_walks6 {k m x : Int32} {j K : Nat} {t : vT} (he : zve k m j K c) (ht : vok t) (hz : zvo c t c) (hd : 8 ≤ d) (hQ : ∀ c', zvo c (waV k m K 6 x t).2 c' → Qf (waV k m K 6 x t).1 c') : zCl l E ad mX8_walksAs d [.ref (ad 51), .int 6, .int x] c Qf := by
  rw [e_walks6] at hQ
  try dsimp only at hQ
  refine z_enter (own := RX8) [some (.ref (ad 51)), some (.int 6), some (.int x)] (by decide +kernel) rfl rfl rfl (Nat.le_of_ble_eq_true rfl) ?_
  refine z_iload_n (i := 1) dX8_walksAs_0 rfl rfl ?_
  refine z_tableD 96 dX8_walksAs_1 (by decide) (by decide) ?_
  refine z_aload_n (i := 0) dX8_walksAs_96 rfl rfl ?_
  refine z_iload_n (i := 1) dX8_walksAs_97 rfl rfl ?_
  refine z_Si (As := [_]) dX8_walksAs_98 (by rfl) v_X8_above l_X8_166 rfl (by omega) (by decide) (Nat.le_of_ble_eq_true rfl) ?_
  refine t_above (v := 0) rfl ?_
  refine z_iload_n (i := 2) dX8_walksAs_101 rfl rfl ?_
  refine z_Vi (As := [_, _]) dX8_walksAs_102 (by rfl) v_X8_walksAs l_X8_242 (by first | decide | assumption | omega) rfl rfl rfl (by omega) (by decide) (Nat.le_of_ble_eq_true rfl) ?_
  refine v_walks0 he ht hz (by omega) (fun c2 h2 => ?_)
  rw [show waV k m K 0 (x) _ = wa0 k m K (x) _ from rfl] at h2
  rw [show waV k m K 0 (x) _ = wa0 k m K (x) _ from rfl]
  exact z_ret dX8_walksAs_105 (hQ _ h2) trivial rfl
theorem t_walks {k m x : Int32} {j K kk : Nat} {t : vT} (hk : kk ≤ 6) (he : zve k m j K c) (ht : vok t) (hz : zvo c t c) (hd : 9 ≤ d) (hQ : ∀ c', zvo c (waV k m K kk x t).2 c' → Qf (waV k m K kk x t).1 c') : zCl l E ad mX8_walksAs d [.ref (ad 51), .int (nI kk), .int x] c Qf := by
  rcases (show kk = 0 ∨ kk = 1 ∨ kk = 2 ∨ kk = 3 ∨ kk = 4 ∨ kk = 5 ∨ kk = 6 by omega) with rfl | rfl | rfl | rfl | rfl | rfl | rfl
  · exact v_walks0 he ht hz (by omega) hQ
  · exact v_walks1 he ht hz (by omega) hQ
  · exact v_walks2 he ht hz (by omega) hQ
  · exact v_walks3 he ht hz (by omega) hQ
  · exact v_walks4 he ht hz (by omega) hQ
  · exact v_walks5 he ht hz (by omega) hQ
  · exact v_walks6 he ht hz (by omega) hQ
/-- the same, where one may have parted -/
def zvp (c : zS) (t : vT) (b : Int32) (c' : zS) : Prop := c' 51 12 = t.1 ∧ c' 59 = t.2 ∧ c' 51 15 = b ∧ (∀ k, k ≠ 51 → k ≠ 59 → c' k = c k) ∧ (∀ i, i ≠ 12 → i ≠ 15 → c' 51 i = c 51 i)
theorem zvp_tr {c0 c1 c2 : zS} {t t2 : vT} {b : Int32} (h : zvo c0 t c1) (h2 : zvp c1 t2 b c2) : zvp c0 t2 b c2 := ⟨h2.1, h2.2.1, h2.2.2.1, fun k x y => (h2.2.2.2.1 k x y).trans (h.2.2.1 k x y), fun i x y => (h2.2.2.2.2 i x y).trans (h.2.2.2 i x)⟩
theorem zvp_tr2 {c0 c1 c2 : zS} {t t2 : vT} {b : Int32} (h : zvp c0 t b c1) (h2 : zvo c1 t2 c2) : zvp c0 t2 b c2 := ⟨h2.1, h2.2.1, (h2.2.2.2 15 (by decide)).trans h.2.2.1, fun k x y => (h2.2.2.1 k x y).trans (h.2.2.2.1 k x y), fun i x y => (h2.2.2.2 i x).trans (h.2.2.2.2 i x y)⟩
theorem zve_tp {k m b : Int32} {j K : Nat} {c c1 : zS} {t : vT} (h : zve k m j K c) (h2 : zvp c t b c1) : zve k m j K c1 := by
  have e := h2.2.2.2.1 52 (by decide) (by decide)
  exact ⟨h.1, h.2.1, (h2.2.2.2.2 14 (by decide) (by decide)).trans h.2.2.1, h.2.2.2.1, by rw [e]; exact h.2.2.2.2.1, by rw [e]; exact h.2.2.2.2.2⟩
theorem zvo_sp {c0 c : zS} {t : vT} {b : Int32} (h : zvp c0 t b c) : zvo c t c := ⟨h.1, h.2.1, fun _ _ _ => rfl, fun _ _ => rfl⟩
theorem zvp_put {c : zS} {t : vT} {b : Int32} (h : zvo c t c) : zvp c t b (zup c 51 (upd (c 51) 15 b)) := ⟨by rw [zup_s, pk_un (by decide)]; exact h.1, by rw [zup_n (by decide)]; exact h.2.1, by rw [zup_s, pk_us], fun k x y => zup_n x, fun i x y => by rw [zup_s, pk_un y]⟩
abbrev paB (k m : Int32) : Int32 := if m - k = 0 then 1 else 0
theorem v_parts0 {k m x : Int32} {j K : Nat} {t : vT} (he : zve k m j K c) (ht : vok t) (hz : zvo c t c) (hd : 2 ≤ d) (hQ : ∀ c', zvp c (vb 13 t) (paB k m) c' → Qf (if m - k = 0 then 0 else if m - k = -1 then -x else x / (m - k)) c') : zCl l E ad mX8_partsAs d [.ref (ad 51), .int 0, .int x] c Qf := by
  refine z_enter (own := RX8) [some (.ref (ad 51)), some (.int 0), some (.int x), none, none] (by decide +kernel) rfl rfl rfl (Nat.le_of_ble_eq_true rfl) ?_
  refine z_iload_n (i := 1) dX8_partsAs_0 rfl rfl ?_
  by_cases h_1_0 : (0 : Int32) = 0
  · refine z_lookup 28 dX8_partsAs_1 rfl (by first | (rw [h_1_0]; rfl) | rw [h_1_0]) (by decide) ?_
    refine z_aload_n (i := 0) dX8_partsAs_28 rfl rfl ?_
    refine z_bipush (v := 13) dX8_partsAs_29 (by decide) ?_
    refine z_Vv (As := [_]) dX8_partsAs_31 (by rfl) v_X8_starts l_X8_227 (by first | decide | assumption | omega) rfl rfl rfl (by omega) (by decide) (Nat.le_of_ble_eq_true rfl) ?_
    refine s_X8_starts ht hz (fun c1 h1 => ?_)
    refine z_aload_n (i := 0) dX8_partsAs_34 rfl rfl ?_
    refine z_Vi (As := []) dX8_partsAs_35 (by rfl) v_X8_mNow l_X8_239 (by first | decide | assumption | omega) rfl rfl rfl (by omega) (by decide) (Nat.le_of_ble_eq_true rfl) ?_
    refine s_X8_mNow (zve_tr he h1) (by omega) ?_
    refine z_aload_n (i := 0) dX8_partsAs_38 rfl rfl ?_
    refine z_getf dX8_partsAs_39 f_X8_224 (by first | decide | assumption | omega) rfl (by rfl) ?_
    rw [h1.2.2.2 14 (by decide), he.2.2.1]
    refine z_isub dX8_partsAs_42 ?_
    refine z_istore_n (i := 3) [_, _, _, _, _] dX8_partsAs_43 rfl (by decide) rfl rfl ?_
    refine z_aload_n (i := 0) dX8_partsAs_44 rfl rfl ?_
    refine z_iload_n (i := 3) dX8_partsAs_45 rfl rfl ?_
    refine z_if_ne 53 dX8_partsAs_46 (by decide) (fun h_46 => ?_) (fun h_46 => ?_)
    · refine z_iconst (v := 0) dX8_partsAs_53 (by decide) ?_
      refine z_putfz dX8_partsAs_54 f_X8_245 fp_X8_15 (by first | decide | assumption | omega) rfl (by exact Nat.le_of_ble_eq_true rfl) rfl rfl rfl ?_
      refine z_iload_n (i := 3) dX8_partsAs_57 rfl rfl ?_
      refine z_if_ne 65 dX8_partsAs_58 (by decide) (fun h_58 => ?_) (fun h_58 => ?_)
      · refine z_iload_n (i := 3) dX8_partsAs_65 rfl rfl ?_
        refine z_iconst (v := (-1)) dX8_partsAs_66 (by decide) ?_
        refine z_icmp_ne 75 dX8_partsAs_67 (by decide) (fun h_67 => ?_) (fun h_67 => ?_)
        · refine z_iload_n (i := 2) dX8_partsAs_75 rfl rfl ?_
          refine z_iload_n (i := 3) dX8_partsAs_76 rfl rfl ?_
          refine z_idiv dX8_partsAs_77 (by first | decide | assumption) ?_
          first
          | (exfalso; contradiction)
          | (have h0 : m - k = 0 := by first | exact h_46 | exact Classical.not_not.mp h_46
             have hQ2 := hQ _ (zvp_tr h1 (by unfold paB; rw [if_pos h0]; exact zvp_put (zvo_self h1)))
             rw [if_pos h0] at hQ2
             exact z_ret dX8_partsAs_78 hQ2 trivial rfl)
          | (have h0 : ¬ m - k = 0 := by assumption
             have hQ2 := hQ _ (zvp_tr h1 (by unfold paB; rw [if_neg h0]; exact zvp_put (zvo_self h1)))
             rw [if_neg h0] at hQ2
             first
             | (rw [if_pos (by first | exact h_67 | exact Classical.not_not.mp h_67)] at hQ2
                exact z_ret dX8_partsAs_78 hQ2 trivial rfl)
             | (rw [if_neg (by first | exact h_67 | assumption)] at hQ2
                exact z_ret dX8_partsAs_78 hQ2 trivial rfl))
          | (exfalso; exact absurd (by first | exact h_46 | exact Classical.not_not.mp h_46) h_58)
          | (exfalso; exact absurd h_58 (by assumption))
        · refine z_iload_n (i := 2) dX8_partsAs_70 rfl rfl ?_
          refine z_ineg dX8_partsAs_71 ?_
          refine z_goto 78 dX8_partsAs_72 (by decide) ?_
          first
          | (exfalso; contradiction)
          | (have h0 : m - k = 0 := by first | exact h_46 | exact Classical.not_not.mp h_46
             have hQ2 := hQ _ (zvp_tr h1 (by unfold paB; rw [if_pos h0]; exact zvp_put (zvo_self h1)))
             rw [if_pos h0] at hQ2
             exact z_ret dX8_partsAs_78 hQ2 trivial rfl)
          | (have h0 : ¬ m - k = 0 := by assumption
             have hQ2 := hQ _ (zvp_tr h1 (by unfold paB; rw [if_neg h0]; exact zvp_put (zvo_self h1)))
             rw [if_neg h0] at hQ2
             first
             | (rw [if_pos (by first | exact h_67 | exact Classical.not_not.mp h_67)] at hQ2
                exact z_ret dX8_partsAs_78 hQ2 trivial rfl)
             | (rw [if_neg (by first | exact h_67 | assumption)] at hQ2
                exact z_ret dX8_partsAs_78 hQ2 trivial rfl))
          | (exfalso; exact absurd (by first | exact h_46 | exact Classical.not_not.mp h_46) h_58)
          | (exfalso; exact absurd h_58 (by assumption))
      · refine z_iconst (v := 0) dX8_partsAs_61 (by decide) ?_
        refine z_goto 78 dX8_partsAs_62 (by decide) ?_
        first
        | (exfalso; contradiction)
        | (have h0 : m - k = 0 := by first | exact h_46 | exact Classical.not_not.mp h_46
           have hQ2 := hQ _ (zvp_tr h1 (by unfold paB; rw [if_pos h0]; exact zvp_put (zvo_self h1)))
           rw [if_pos h0] at hQ2
           exact z_ret dX8_partsAs_78 hQ2 trivial rfl)
        | (have h0 : ¬ m - k = 0 := by assumption
           have hQ2 := hQ _ (zvp_tr h1 (by unfold paB; rw [if_neg h0]; exact zvp_put (zvo_self h1)))
           rw [if_neg h0] at hQ2
           first
           | (rw [if_pos (by first | exact h_67 | exact Classical.not_not.mp h_67)] at hQ2
              exact z_ret dX8_partsAs_78 hQ2 trivial rfl)
           | (rw [if_neg (by first | exact h_67 | assumption)] at hQ2
              exact z_ret dX8_partsAs_78 hQ2 trivial rfl))
        | (exfalso; exact absurd (by first | exact h_46 | exact Classical.not_not.mp h_46) h_58)
        | (exfalso; exact absurd h_58 (by assumption))
    · refine z_iconst (v := 1) dX8_partsAs_49 (by decide) ?_
      refine z_goto 54 dX8_partsAs_50 (by decide) ?_
      refine z_putfz dX8_partsAs_54 f_X8_245 fp_X8_15 (by first | decide | assumption | omega) rfl (by exact Nat.le_of_ble_eq_true rfl) rfl rfl rfl ?_
      refine z_iload_n (i := 3) dX8_partsAs_57 rfl rfl ?_
      refine z_if_ne 65 dX8_partsAs_58 (by decide) (fun h_58 => ?_) (fun h_58 => ?_)
      · refine z_iload_n (i := 3) dX8_partsAs_65 rfl rfl ?_
        refine z_iconst (v := (-1)) dX8_partsAs_66 (by decide) ?_
        refine z_icmp_ne 75 dX8_partsAs_67 (by decide) (fun h_67 => ?_) (fun h_67 => ?_)
        · refine z_iload_n (i := 2) dX8_partsAs_75 rfl rfl ?_
          refine z_iload_n (i := 3) dX8_partsAs_76 rfl rfl ?_
          refine z_idiv dX8_partsAs_77 (by first | decide | assumption) ?_
          first
          | (exfalso; contradiction)
          | (have h0 : m - k = 0 := by first | exact h_46 | exact Classical.not_not.mp h_46
             have hQ2 := hQ _ (zvp_tr h1 (by unfold paB; rw [if_pos h0]; exact zvp_put (zvo_self h1)))
             rw [if_pos h0] at hQ2
             exact z_ret dX8_partsAs_78 hQ2 trivial rfl)
          | (have h0 : ¬ m - k = 0 := by assumption
             have hQ2 := hQ _ (zvp_tr h1 (by unfold paB; rw [if_neg h0]; exact zvp_put (zvo_self h1)))
             rw [if_neg h0] at hQ2
             first
             | (rw [if_pos (by first | exact h_67 | exact Classical.not_not.mp h_67)] at hQ2
                exact z_ret dX8_partsAs_78 hQ2 trivial rfl)
             | (rw [if_neg (by first | exact h_67 | assumption)] at hQ2
                exact z_ret dX8_partsAs_78 hQ2 trivial rfl))
          | (exfalso; exact absurd (by first | exact h_46 | exact Classical.not_not.mp h_46) h_58)
          | (exfalso; exact absurd h_58 (by assumption))
        · refine z_iload_n (i := 2) dX8_partsAs_70 rfl rfl ?_
          refine z_ineg dX8_partsAs_71 ?_
          refine z_goto 78 dX8_partsAs_72 (by decide) ?_
          first
          | (exfalso; contradiction)
          | (have h0 : m - k = 0 := by first | exact h_46 | exact Classical.not_not.mp h_46
             have hQ2 := hQ _ (zvp_tr h1 (by unfold paB; rw [if_pos h0]; exact zvp_put (zvo_self h1)))
             rw [if_pos h0] at hQ2
             exact z_ret dX8_partsAs_78 hQ2 trivial rfl)
          | (have h0 : ¬ m - k = 0 := by assumption
             have hQ2 := hQ _ (zvp_tr h1 (by unfold paB; rw [if_neg h0]; exact zvp_put (zvo_self h1)))
             rw [if_neg h0] at hQ2
             first
             | (rw [if_pos (by first | exact h_67 | exact Classical.not_not.mp h_67)] at hQ2
                exact z_ret dX8_partsAs_78 hQ2 trivial rfl)
             | (rw [if_neg (by first | exact h_67 | assumption)] at hQ2
                exact z_ret dX8_partsAs_78 hQ2 trivial rfl))
          | (exfalso; exact absurd (by first | exact h_46 | exact Classical.not_not.mp h_46) h_58)
          | (exfalso; exact absurd h_58 (by assumption))
      · refine z_iconst (v := 0) dX8_partsAs_61 (by decide) ?_
        refine z_goto 78 dX8_partsAs_62 (by decide) ?_
        first
        | (exfalso; contradiction)
        | (have h0 : m - k = 0 := by first | exact h_46 | exact Classical.not_not.mp h_46
           have hQ2 := hQ _ (zvp_tr h1 (by unfold paB; rw [if_pos h0]; exact zvp_put (zvo_self h1)))
           rw [if_pos h0] at hQ2
           exact z_ret dX8_partsAs_78 hQ2 trivial rfl)
        | (have h0 : ¬ m - k = 0 := by assumption
           have hQ2 := hQ _ (zvp_tr h1 (by unfold paB; rw [if_neg h0]; exact zvp_put (zvo_self h1)))
           rw [if_neg h0] at hQ2
           first
           | (rw [if_pos (by first | exact h_67 | exact Classical.not_not.mp h_67)] at hQ2
              exact z_ret dX8_partsAs_78 hQ2 trivial rfl)
           | (rw [if_neg (by first | exact h_67 | assumption)] at hQ2
              exact z_ret dX8_partsAs_78 hQ2 trivial rfl))
        | (exfalso; exact absurd (by first | exact h_46 | exact Classical.not_not.mp h_46) h_58)
        | (exfalso; exact absurd h_58 (by assumption))
  exact absurd rfl h_1_0
theorem v_parts1 {k m x : Int32} {j K : Nat} {t : vT} (he : zve k m j K c) (ht : vok t) (hz : zvo c t c) (hd : 8 ≤ d) (hQ : ∀ c', zvp c (pa1 k m K x t).2 (paB k m) c' → Qf (pa1 k m K x t).1 c') : zCl l E ad mX8_partsAs d [.ref (ad 51), .int 1, .int x] c Qf := by
  unfold pa1 pa0 at hQ
  dsimp only at hQ
  refine z_enter (own := RX8) [some (.ref (ad 51)), some (.int 1), some (.int x), none, none] (by decide +kernel) rfl rfl rfl (Nat.le_of_ble_eq_true rfl) ?_
  refine z_iload_n (i := 1) dX8_partsAs_0 rfl rfl ?_
  by_cases h_1_1 : (1 : Int32) = 1
  · refine z_lookup 79 dX8_partsAs_1 rfl (by first | (rw [h_1_1]; rfl) | rw [h_1_1]) (by decide) ?_
    refine z_aload_n (i := 0) dX8_partsAs_79 rfl rfl ?_
    refine z_bipush (v := 21) dX8_partsAs_80 (by decide) ?_
    refine z_Vv (As := [_]) dX8_partsAs_82 (by rfl) v_X8_starts l_X8_227 (by first | decide | assumption | omega) rfl rfl rfl (by omega) (by decide) (Nat.le_of_ble_eq_true rfl) ?_
    refine s_X8_starts ht hz (fun c1 h1 => ?_)
    refine z_aload_n (i := 0) dX8_partsAs_85 rfl rfl ?_
    refine z_iconst (v := 1) dX8_partsAs_86 (by decide) ?_
    refine z_Si (As := [_]) dX8_partsAs_87 (by rfl) v_X8_above l_X8_166 rfl (by omega) (by decide) (Nat.le_of_ble_eq_true rfl) ?_
    refine t_above (v := 0) rfl ?_
    refine z_iload_n (i := 2) dX8_partsAs_90 rfl rfl ?_
    refine z_Vi (As := [_, _]) dX8_partsAs_91 (by rfl) v_X8_partsAs l_X8_249 (by first | decide | assumption | omega) rfl rfl rfl (by omega) (by decide) (Nat.le_of_ble_eq_true rfl) ?_
    refine v_parts0 (x := x) (zve_tr he h1) (vok_vb ht) (zvo_self h1) (by omega) (fun c2 h2 => ?_)
    refine z_istore (i := 4) [_, _, _, _, _] dX8_partsAs_94 (by decide) rfl rfl ?_
    refine z_aload_n (i := 0) dX8_partsAs_96 rfl rfl ?_
    refine z_getf dX8_partsAs_97 f_X8_245 (by first | decide | assumption | omega) rfl (by rfl) ?_
    have e15 : c2 51 15 = paB k m := h2.2.2.1
    refine z_if_eq 107 dX8_partsAs_100 (by decide) (fun h_100 => ?_) (fun h_100 => ?_)
    · have h0 : ¬ m - k = 0 := fun w => absurd (e15.symm.trans h_100) (by unfold paB; rw [if_pos w]; decide)
      refine z_iload (i := 4) dX8_partsAs_107 rfl ?_
      refine z_aload_n (i := 0) dX8_partsAs_109 rfl rfl ?_
      refine z_aload_n (i := 0) dX8_partsAs_110 rfl rfl ?_
      refine z_Vi (As := []) dX8_partsAs_111 (by rfl) v_X8_kindNow l_X8_233 (by first | decide | assumption | omega) rfl rfl rfl (by omega) (by decide) (Nat.le_of_ble_eq_true rfl) ?_
      refine s_X8_kindNow (zve_tp (zve_tr he h1) h2) (by omega) ?_
      refine z_iconst (v := 1) dX8_partsAs_114 (by decide) ?_
      refine z_Vi (As := [_, _]) dX8_partsAs_115 (by rfl) v_X8_seesAs l_X8_236 (by first | decide | assumption | omega) rfl rfl rfl (by omega) (by decide) (Nat.le_of_ble_eq_true rfl) ?_
      refine t_sees (x := 1) he.2.1 (zve_tp (zve_tr he h1) h2) (vok_vb (vok_vb ht)) (zvo_sp h2) (by omega) (fun c3 h3 => ?_)
      refine z_iadd dX8_partsAs_118 ?_
      first
      | (rw [if_pos h0] at hQ
         exact z_ret dX8_partsAs_119 (hQ _ (zvp_tr h1 h2)) trivial rfl)
      | (have e0 := hQ c3
         rw [if_neg h0] at e0
         dsimp only at e0
         have e1 := e0 (zvp_tr2 (zvp_tr h1 h2) h3)
         rw [if_neg h0] at e1 ⊢
         exact z_ret dX8_partsAs_119 e1 trivial rfl)
    · have h0 : m - k = 0 := Classical.byContradiction (fun w => h_100 (by rw [e15]; exact if_neg w))
      refine z_iconst (v := 0) dX8_partsAs_103 (by decide) ?_
      refine z_goto 119 dX8_partsAs_104 (by decide) ?_
      first
      | (rw [if_pos h0] at hQ
         exact z_ret dX8_partsAs_119 (hQ _ (zvp_tr h1 h2)) trivial rfl)
      | (have e0 := hQ c3
         rw [if_neg h0] at e0
         dsimp only at e0
         have e1 := e0 (zvp_tr2 (zvp_tr h1 h2) h3)
         rw [if_neg h0] at e1 ⊢
         exact z_ret dX8_partsAs_119 e1 trivial rfl)
  exact absurd rfl h_1_1
theorem v_parts2 {k m x : Int32} {j K : Nat} {t : vT} (he : zve k m j K c) (ht : vok t) (hz : zvo c t c) (hd : 3 ≤ d) (hQ : ∀ c', zvp c (pa0 k m x t).2 (paB k m) c' → Qf (pa0 k m x t).1 c') : zCl l E ad mX8_partsAs d [.ref (ad 51), .int 2, .int x] c Qf := by
  refine z_enter (own := RX8) [some (.ref (ad 51)), some (.int 2), some (.int x), none, none] (by decide +kernel) rfl rfl rfl (Nat.le_of_ble_eq_true rfl) ?_
  refine z_iload_n (i := 1) dX8_partsAs_0 rfl rfl ?_
  refine z_lookup 120 dX8_partsAs_1 rfl (by rfl) (by decide) ?_
  refine z_aload_n (i := 0) dX8_partsAs_120 rfl rfl ?_
  refine z_iload_n (i := 1) dX8_partsAs_121 rfl rfl ?_
  refine z_Si (As := [_]) dX8_partsAs_122 (by rfl) v_X8_above l_X8_166 rfl (by omega) (by decide) (Nat.le_of_ble_eq_true rfl) ?_
  refine t_above (v := 0) rfl ?_
  refine z_iload_n (i := 2) dX8_partsAs_125 rfl rfl ?_
  refine z_Vi (As := [_, _]) dX8_partsAs_126 (by rfl) v_X8_partsAs l_X8_249 (by first | decide | assumption | omega) rfl rfl rfl (by omega) (by decide) (Nat.le_of_ble_eq_true rfl) ?_
  refine v_parts0 he ht hz (by omega) (fun c2 h2 => ?_)
  exact z_ret dX8_partsAs_129 (hQ _ h2) trivial rfl
theorem v_parts3 {k m x : Int32} {j K : Nat} {t : vT} (he : zve k m j K c) (ht : vok t) (hz : zvo c t c) (hd : 3 ≤ d) (hQ : ∀ c', zvp c (pa0 k m x t).2 (paB k m) c' → Qf (pa0 k m x t).1 c') : zCl l E ad mX8_partsAs d [.ref (ad 51), .int 3, .int x] c Qf := by
  refine z_enter (own := RX8) [some (.ref (ad 51)), some (.int 3), some (.int x), none, none] (by decide +kernel) rfl rfl rfl (Nat.le_of_ble_eq_true rfl) ?_
  refine z_iload_n (i := 1) dX8_partsAs_0 rfl rfl ?_
  refine z_lookup 120 dX8_partsAs_1 rfl (by rfl) (by decide) ?_
  refine z_aload_n (i := 0) dX8_partsAs_120 rfl rfl ?_
  refine z_iload_n (i := 1) dX8_partsAs_121 rfl rfl ?_
  refine z_Si (As := [_]) dX8_partsAs_122 (by rfl) v_X8_above l_X8_166 rfl (by omega) (by decide) (Nat.le_of_ble_eq_true rfl) ?_
  refine t_above (v := 0) rfl ?_
  refine z_iload_n (i := 2) dX8_partsAs_125 rfl rfl ?_
  refine z_Vi (As := [_, _]) dX8_partsAs_126 (by rfl) v_X8_partsAs l_X8_249 (by first | decide | assumption | omega) rfl rfl rfl (by omega) (by decide) (Nat.le_of_ble_eq_true rfl) ?_
  refine v_parts0 he ht hz (by omega) (fun c2 h2 => ?_)
  exact z_ret dX8_partsAs_129 (hQ _ h2) trivial rfl
theorem v_parts6 {k m x : Int32} {j K : Nat} {t : vT} (he : zve k m j K c) (ht : vok t) (hz : zvo c t c) (hd : 3 ≤ d) (hQ : ∀ c', zvp c (pa0 k m x t).2 (paB k m) c' → Qf (pa0 k m x t).1 c') : zCl l E ad mX8_partsAs d [.ref (ad 51), .int 6, .int x] c Qf := by
  refine z_enter (own := RX8) [some (.ref (ad 51)), some (.int 6), some (.int x), none, none] (by decide +kernel) rfl rfl rfl (Nat.le_of_ble_eq_true rfl) ?_
  refine z_iload_n (i := 1) dX8_partsAs_0 rfl rfl ?_
  refine z_lookup 120 dX8_partsAs_1 rfl (by rfl) (by decide) ?_
  refine z_aload_n (i := 0) dX8_partsAs_120 rfl rfl ?_
  refine z_iload_n (i := 1) dX8_partsAs_121 rfl rfl ?_
  refine z_Si (As := [_]) dX8_partsAs_122 (by rfl) v_X8_above l_X8_166 rfl (by omega) (by decide) (Nat.le_of_ble_eq_true rfl) ?_
  refine t_above (v := 0) rfl ?_
  refine z_iload_n (i := 2) dX8_partsAs_125 rfl rfl ?_
  refine z_Vi (As := [_, _]) dX8_partsAs_126 (by rfl) v_X8_partsAs l_X8_249 (by first | decide | assumption | omega) rfl rfl rfl (by omega) (by decide) (Nat.le_of_ble_eq_true rfl) ?_
  refine v_parts0 he ht hz (by omega) (fun c2 h2 => ?_)
  exact z_ret dX8_partsAs_129 (hQ _ h2) trivial rfl
theorem v_parts4 {k m x : Int32} {j K : Nat} {t : vT} (he : zve k m j K c) (ht : vok t) (hz : zvo c t c) (hd : 9 ≤ d) (hQ : ∀ c', zvp c (pa1 k m K x t).2 (paB k m) c' → Qf (pa1 k m K x t).1 c') : zCl l E ad mX8_partsAs d [.ref (ad 51), .int 4, .int x] c Qf := by
  refine z_enter (own := RX8) [some (.ref (ad 51)), some (.int 4), some (.int x), none, none] (by decide +kernel) rfl rfl rfl (Nat.le_of_ble_eq_true rfl) ?_
  refine z_iload_n (i := 1) dX8_partsAs_0 rfl rfl ?_
  refine z_lookup 120 dX8_partsAs_1 rfl (by rfl) (by decide) ?_
  refine z_aload_n (i := 0) dX8_partsAs_120 rfl rfl ?_
  refine z_iload_n (i := 1) dX8_partsAs_121 rfl rfl ?_
  refine z_Si (As := [_]) dX8_partsAs_122 (by rfl) v_X8_above l_X8_166 rfl (by omega) (by decide) (Nat.le_of_ble_eq_true rfl) ?_
  refine t_above (v := 1) rfl ?_
  refine z_iload_n (i := 2) dX8_partsAs_125 rfl rfl ?_
  refine z_Vi (As := [_, _]) dX8_partsAs_126 (by rfl) v_X8_partsAs l_X8_249 (by first | decide | assumption | omega) rfl rfl rfl (by omega) (by decide) (Nat.le_of_ble_eq_true rfl) ?_
  refine v_parts1 he ht hz (by omega) (fun c2 h2 => ?_)
  exact z_ret dX8_partsAs_129 (hQ _ h2) trivial rfl
theorem v_parts5 {k m x : Int32} {j K : Nat} {t : vT} (he : zve k m j K c) (ht : vok t) (hz : zvo c t c) (hd : 4 ≤ d) (hQ : ∀ c', zvp c (pa0 k m x t).2 (paB k m) c' → Qf (pa0 k m x t).1 c') : zCl l E ad mX8_partsAs d [.ref (ad 51), .int 5, .int x] c Qf := by
  refine z_enter (own := RX8) [some (.ref (ad 51)), some (.int 5), some (.int x), none, none] (by decide +kernel) rfl rfl rfl (Nat.le_of_ble_eq_true rfl) ?_
  refine z_iload_n (i := 1) dX8_partsAs_0 rfl rfl ?_
  refine z_lookup 120 dX8_partsAs_1 rfl (by rfl) (by decide) ?_
  refine z_aload_n (i := 0) dX8_partsAs_120 rfl rfl ?_
  refine z_iload_n (i := 1) dX8_partsAs_121 rfl rfl ?_
  refine z_Si (As := [_]) dX8_partsAs_122 (by rfl) v_X8_above l_X8_166 rfl (by omega) (by decide) (Nat.le_of_ble_eq_true rfl) ?_
  refine t_above (v := 2) rfl ?_
  refine z_iload_n (i := 2) dX8_partsAs_125 rfl rfl ?_
  refine z_Vi (As := [_, _]) dX8_partsAs_126 (by rfl) v_X8_partsAs l_X8_249 (by first | decide | assumption | omega) rfl rfl rfl (by omega) (by decide) (Nat.le_of_ble_eq_true rfl) ?_
  refine v_parts2 he ht hz (by omega) (fun c2 h2 => ?_)
  exact z_ret dX8_partsAs_129 (hQ _ h2) trivial rfl
theorem t_parts {k m x : Int32} {j K kk : Nat} {t : vT} (hk : kk ≤ 6) (he : zve k m j K c) (ht : vok t) (hz : zvo c t c) (hd : 9 ≤ d) (hQ : ∀ c', zvp c (paV k m K kk x t).2 (paB k m) c' → Qf (paV k m K kk x t).1 c') : zCl l E ad mX8_partsAs d [.ref (ad 51), .int (nI kk), .int x] c Qf := by
  unfold paV at hQ
  rcases (show kk = 0 ∨ kk = 1 ∨ kk = 2 ∨ kk = 3 ∨ kk = 4 ∨ kk = 5 ∨ kk = 6 by omega) with rfl | rfl | rfl | rfl | rfl | rfl | rfl
  · rw [if_neg (by decide)] at hQ; exact v_parts0 he ht hz (by omega) hQ
  · rw [if_pos (by decide)] at hQ; exact v_parts1 he ht hz (by omega) hQ
  · rw [if_neg (by decide)] at hQ; exact v_parts2 he ht hz (by omega) hQ
  · rw [if_neg (by decide)] at hQ; exact v_parts3 he ht hz (by omega) hQ
  · rw [if_pos (by decide)] at hQ; exact v_parts4 he ht hz (by omega) hQ
  · rw [if_neg (by decide)] at hQ; exact v_parts5 he ht hz (by omega) hQ
  · rw [if_neg (by decide)] at hQ; exact v_parts6 he ht hz (by omega) hQ
end VO
