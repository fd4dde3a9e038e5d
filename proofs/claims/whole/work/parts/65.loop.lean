/-! the law's loop -/
section LL
variable {l : Launch} {E : zE} {ad : Nat → Nat} {c : zS} {Qf : Int32 → zS → Prop} {d : Nat}
theorem law_loop (hL : E.2.2.1 ≤ 3072) (hd : 120 ≤ d) (hQ : ∀ c', Qf 1 c') : ∀ (r i : Nat) (c : zS), E.2.2.1 + 6 - i < r → i ≤ E.2.2.1 → RX c (mst c) → zW l E ad RL cL_law 4 3 d Qf 18 [some (.ref (ad 72)), some (.ref (ad 0)), some (.ref (ad 51)), some (.int (nI i))] [] c := by
  intro r
  induction r with
  | zero => intro i c q; omega
  | succ r ih =>
    intro i c hr hi hX
    have fin : zW l E ad RL cL_law 4 3 d Qf 1349 [some (.ref (ad 72)), some (.ref (ad 0)), some (.ref (ad 51)), some (.int (nI i))] [] c := by
      refine z_iconst (v := 1) dL_law_1349 (by decide) ?_
      exact z_ret (r := 1) dL_law_1350 (hQ c) (by rfl) rfl
    have e6 : Int32.ofNat E.2.2.1 - 6 < nI i ↔ E.2.2.1 < i + 6 := by
      rw [Int32.lt_iff_toInt_lt, Int32.toInt_sub, show (Int32.ofNat E.2.2.1).toInt = (E.2.2.1 : Int) from nI_toInt (by omega), nI_toInt (by omega), show (6 : Int32).toInt = 6 from rfl, Int.bmod_eq_of_le (by omega) (by omega)]
      omega
    by_cases hin : i + 6 ≤ E.2.2.1
    · have nxt : ∀ c2, RX c2 (mst c2) → zW l E ad RL cL_law 4 3 d Qf 1343 [some (.ref (ad 72)), some (.ref (ad 0)), some (.ref (ad 51)), some (.int (nI i))] [] c2 := by
        intro c2 hX2
        refine z_iinc (i := 3) (v := 6) [_, _, _, _] dL_law_1343 rfl (by decide) (by decide) rfl rfl ?_
        refine z_goto 18 dL_law_1346 (by decide) ?_
        rw [show nI i + 6 = nI (i + 6) from sx i 6]
        exact ih (i + 6) c2 (by omega) (by omega) hX2
      refine z_iload_n (i := 3) dL_law_18 rfl rfl ?_
      refine z_aload_n (i := 0) dL_law_19 rfl rfl ?_
      refine z_slen dL_law_20 ?_
      refine z_bipush (v := 6) dL_law_21 (by decide) ?_
      refine z_isub dL_law_23 ?_
      refine z_icmp_gt 1349 dL_law_24 (by decide) (fun h_24 => ?_) (fun h_24 => ?_)
      · exfalso; have := e6.mp h_24; omega
      refine z_aload_n (i := 0) dL_law_27 rfl rfl ?_
      refine z_iload_n (i := 3) dL_law_28 rfl rfl ?_
      refine z_sald (j := i) dL_law_29 (by rfl) (by omega) (by first | decide | omega) ?_
      refine z_bipush (v := 63) dL_law_30 (by decide) ?_
      refine z_iand dL_law_32 ?_
      by_cases h_33_0 : E.2.2.2 i &&& 63 = 0
      · refine z_table (v := 0) 188 dL_law_33 h_33_0 (by decide) (by decide) rfl (by decide) ?_
        exact lw_person hX hin hL hd nxt
      by_cases h_33_1 : E.2.2.2 i &&& 63 = 1
      · refine z_table (v := 1) 221 dL_law_33 h_33_1 (by decide) (by decide) rfl (by decide) ?_
        exact lw_personIs hX hin hL hd nxt
      by_cases h_33_2 : E.2.2.2 i &&& 63 = 2
      · refine z_table (v := 2) 254 dL_law_33 h_33_2 (by decide) (by decide) rfl (by decide) ?_
        exact lw_become hX hin hL hd nxt
      by_cases h_33_3 : E.2.2.2 i &&& 63 = 3
      · refine z_table (v := 3) 287 dL_law_33 h_33_3 (by decide) (by decide) rfl (by decide) ?_
        exact lw_as hX hin hL hd nxt
      by_cases h_33_4 : E.2.2.2 i &&& 63 = 4
      · refine z_table (v := 4) 320 dL_law_33 h_33_4 (by decide) (by decide) rfl (by decide) ?_
        exact lw_answers hX hin hL hd nxt
      by_cases h_33_5 : E.2.2.2 i &&& 63 = 5
      · refine z_table (v := 5) 353 dL_law_33 h_33_5 (by decide) (by decide) rfl (by decide) ?_
        exact lw_puts hX hin hL hd nxt
      by_cases h_33_6 : E.2.2.2 i &&& 63 = 6
      · refine z_table (v := 6) 386 dL_law_33 h_33_6 (by decide) (by decide) rfl (by decide) ?_
        exact lw_drop hX hin hL hd nxt
      by_cases h_33_7 : E.2.2.2 i &&& 63 = 7
      · refine z_table (v := 7) 419 dL_law_33 h_33_7 (by decide) (by decide) rfl (by decide) ?_
        exact lw_feed hX hin hL hd nxt
      by_cases h_33_8 : E.2.2.2 i &&& 63 = 8
      · refine z_table (v := 8) 482 dL_law_33 h_33_8 (by decide) (by decide) rfl (by decide) ?_
        exact lw_text hX hin hL hd nxt
      by_cases h_33_9 : E.2.2.2 i &&& 63 = 9
      · refine z_table (v := 9) 505 dL_law_33 h_33_9 (by decide) (by decide) rfl (by decide) ?_
        exact lw_untell hX hin hL hd nxt
      by_cases h_33_10 : E.2.2.2 i &&& 63 = 10
      · refine z_table (v := 10) 528 dL_law_33 h_33_10 (by decide) (by decide) rfl (by decide) ?_
        exact lw_law hX hin hL hd nxt
      by_cases h_33_11 : E.2.2.2 i &&& 63 = 11
      · refine z_table (v := 11) 581 dL_law_33 h_33_11 (by decide) (by decide) rfl (by decide) ?_
        exact lw_hours hX hin hL hd nxt
      by_cases h_33_12 : E.2.2.2 i &&& 63 = 12
      · refine z_table (v := 12) 604 dL_law_33 h_33_12 (by decide) (by decide) rfl (by decide) ?_
        exact lw_loose hX hin hL hd nxt
      by_cases h_33_13 : E.2.2.2 i &&& 63 = 13
      · refine z_table (v := 13) 627 dL_law_33 h_33_13 (by decide) (by decide) rfl (by decide) ?_
        exact lw_hour hX hin hL hd nxt
      by_cases h_33_14 : E.2.2.2 i &&& 63 = 14
      · refine z_table (v := 14) 650 dL_law_33 h_33_14 (by decide) (by decide) rfl (by decide) ?_
        exact lw_seed hX hin hL hd nxt
      by_cases h_33_15 : E.2.2.2 i &&& 63 = 15
      · refine z_table (v := 15) 673 dL_law_33 h_33_15 (by decide) (by decide) rfl (by decide) ?_
        exact lw_then hX hin hL hd nxt
      by_cases h_33_16 : E.2.2.2 i &&& 63 = 16
      · refine z_table (v := 16) 716 dL_law_33 h_33_16 (by decide) (by decide) rfl (by decide) ?_
        exact lw_soonest hX hin hL hd nxt
      by_cases h_33_17 : E.2.2.2 i &&& 63 = 17
      · refine z_table (v := 17) 749 dL_law_33 h_33_17 (by decide) (by decide) rfl (by decide) ?_
        exact lw_least hX hin hL hd nxt
      by_cases h_33_18 : E.2.2.2 i &&& 63 = 18
      · refine z_table (v := 18) 792 dL_law_33 h_33_18 (by decide) (by decide) rfl (by decide) ?_
        exact lw_fills hX hin hL hd nxt
      by_cases h_33_19 : E.2.2.2 i &&& 63 = 19
      · refine z_table (v := 19) 845 dL_law_33 h_33_19 (by decide) (by decide) rfl (by decide) ?_
        exact lw_withWhom hX hin hL hd nxt
      by_cases h_33_20 : E.2.2.2 i &&& 63 = 20
      · refine z_table (v := 20) 878 dL_law_33 h_33_20 (by decide) (by decide) rfl (by decide) ?_
        exact lw_odds hX hin hL hd nxt
      by_cases h_33_21 : E.2.2.2 i &&& 63 = 21
      · refine z_table (v := 21) 931 dL_law_33 h_33_21 (by decide) (by decide) rfl (by decide) ?_
        exact lw_fits hX hin hL hd nxt
      by_cases h_33_22 : E.2.2.2 i &&& 63 = 22
      · refine z_table (v := 22) 974 dL_law_33 h_33_22 (by decide) (by decide) rfl (by decide) ?_
        exact lw_voice hX hin hL hd nxt
      by_cases h_33_23 : E.2.2.2 i &&& 63 = 23
      · refine z_table (v := 23) 1017 dL_law_33 h_33_23 (by decide) (by decide) rfl (by decide) ?_
        exact lw_body hX hin hL hd nxt
      by_cases h_33_24 : E.2.2.2 i &&& 63 = 24
      · refine z_table (v := 24) 1040 dL_law_33 h_33_24 (by decide) (by decide) rfl (by decide) ?_
        exact lw_sheet hX hin hL hd nxt
      by_cases h_33_25 : E.2.2.2 i &&& 63 = 25
      · refine z_table (v := 25) 1083 dL_law_33 h_33_25 (by decide) (by decide) rfl (by decide) ?_
        exact lw_put hX hin hL hd nxt
      by_cases h_33_26 : E.2.2.2 i &&& 63 = 26
      · refine z_table (v := 26) 1126 dL_law_33 h_33_26 (by decide) (by decide) rfl (by decide) ?_
        exact lw_move hX hin hL hd nxt
      by_cases h_33_27 : E.2.2.2 i &&& 63 = 27
      · refine z_table (v := 27) 1189 dL_law_33 h_33_27 (by decide) (by decide) rfl (by decide) ?_
        exact lw_sures hX hin hL hd nxt
      by_cases h_33_28 : E.2.2.2 i &&& 63 = 28
      · refine z_table (v := 28) 1212 dL_law_33 h_33_28 (by decide) (by decide) rfl (by decide) ?_
        exact lw_judge hX hin hL hd nxt
      by_cases h_33_29 : E.2.2.2 i &&& 63 = 29
      · refine z_table (v := 29) 1235 dL_law_33 h_33_29 (by decide) (by decide) rfl (by decide) ?_
        exact lw_image hX hin hL hd nxt
      by_cases h_33_30 : E.2.2.2 i &&& 63 = 30
      · refine z_table (v := 30) 1248 dL_law_33 h_33_30 (by decide) (by decide) rfl (by decide) ?_
        exact lw_restore hX hin hL hd nxt
      by_cases h_33_31 : E.2.2.2 i &&& 63 = 31
      · refine z_table (v := 31) 1261 dL_law_33 h_33_31 (by decide) (by decide) rfl (by decide) ?_
        exact lw_tell hX hin hL hd nxt
      by_cases h_33_32 : E.2.2.2 i &&& 63 = 32
      · refine z_table (v := 32) 1284 dL_law_33 h_33_32 (by decide) (by decide) rfl (by decide) ?_
        exact lw_check hX hin hL hd nxt
      by_cases h_33_33 : E.2.2.2 i &&& 63 = 33
      · refine z_table (v := 33) 1297 dL_law_33 h_33_33 (by decide) (by decide) rfl (by decide) ?_
        exact lw_count hX hin hL hd nxt
      by_cases h_33_34 : E.2.2.2 i &&& 63 = 34
      · refine z_table (v := 34) 1320 dL_law_33 h_33_34 (by decide) (by decide) rfl (by decide) ?_
        exact lw_told hX hin hL hd nxt
      refine z_tableD 1343 dL_law_33 (by have a0 := zt_ne (k := 0) (by decide) h_33_0; have a1 := zt_ne (k := 1) (by decide) h_33_1; have a2 := zt_ne (k := 2) (by decide) h_33_2; have a3 := zt_ne (k := 3) (by decide) h_33_3; have a4 := zt_ne (k := 4) (by decide) h_33_4; have a5 := zt_ne (k := 5) (by decide) h_33_5; have a6 := zt_ne (k := 6) (by decide) h_33_6; have a7 := zt_ne (k := 7) (by decide) h_33_7; have a8 := zt_ne (k := 8) (by decide) h_33_8; have a9 := zt_ne (k := 9) (by decide) h_33_9; have a10 := zt_ne (k := 10) (by decide) h_33_10; have a11 := zt_ne (k := 11) (by decide) h_33_11; have a12 := zt_ne (k := 12) (by decide) h_33_12; have a13 := zt_ne (k := 13) (by decide) h_33_13; have a14 := zt_ne (k := 14) (by decide) h_33_14; have a15 := zt_ne (k := 15) (by decide) h_33_15; have a16 := zt_ne (k := 16) (by decide) h_33_16; have a17 := zt_ne (k := 17) (by decide) h_33_17; have a18 := zt_ne (k := 18) (by decide) h_33_18; have a19 := zt_ne (k := 19) (by decide) h_33_19; have a20 := zt_ne (k := 20) (by decide) h_33_20; have a21 := zt_ne (k := 21) (by decide) h_33_21; have a22 := zt_ne (k := 22) (by decide) h_33_22; have a23 := zt_ne (k := 23) (by decide) h_33_23; have a24 := zt_ne (k := 24) (by decide) h_33_24; have a25 := zt_ne (k := 25) (by decide) h_33_25; have a26 := zt_ne (k := 26) (by decide) h_33_26; have a27 := zt_ne (k := 27) (by decide) h_33_27; have a28 := zt_ne (k := 28) (by decide) h_33_28; have a29 := zt_ne (k := 29) (by decide) h_33_29; have a30 := zt_ne (k := 30) (by decide) h_33_30; have a31 := zt_ne (k := 31) (by decide) h_33_31; have a32 := zt_ne (k := 32) (by decide) h_33_32; have a33 := zt_ne (k := 33) (by decide) h_33_33; have a34 := zt_ne (k := 34) (by decide) h_33_34; omega) (by decide) ?_
      exact nxt c hX
    · skip
      refine z_iload_n (i := 3) dL_law_18 rfl rfl ?_
      refine z_aload_n (i := 0) dL_law_19 rfl rfl ?_
      refine z_slen dL_law_20 ?_
      refine z_bipush (v := 6) dL_law_21 (by decide) ?_
      refine z_isub dL_law_23 ?_
      refine z_icmp_gt 1349 dL_law_24 (by decide) (fun h_24 => ?_) (fun h_24 => ?_)
      rotate_left
      · exfalso; exact h_24 (e6.mpr (by omega))
      exact fin
end LL
