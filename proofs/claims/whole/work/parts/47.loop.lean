set_option maxRecDepth 100000 in
set_option maxHeartbeats 4000000 in
theorem law_loop {p : Program} {l : Launch} {e : Env} {s : State} {m : MethodId} {below : List Frame} {meth : Method} {c : Code} {b L : Nat} {xs : Nat → Int32} {D : va_G} {y : Nat → ClassId} {a g : Nat → Nat}
    (FX : CallFix p m c cL_law 4 s #[Value.ref b] lw_tbl RL) (hK : KK D y s) (hX : va_X b L xs s s.heap) (hbl : b < s.heap.size) (hL : L ≤ 3072) (hA : CA a 44) (hB : CA g 26) (hAx : ∀ q, AC a q → s.heap.size ≤ q) (hBx : ∀ q, AM g q → s.heap.size ≤ q) (hAB : ∀ q, AM g q → ¬ AC a q) (hr : meth.sig.returnType = ret) (hlocks : meth.locks = false) :
    ∀ (N i : Nat), i ≤ L → L - i < N → ∀ (P X M : PT) (row : Value) (H : Heap) (locs : List Loc) (ls : Array Slot), va_P D vwCl (wC y a P X row) H → va_P D vwCl (wM y g M) H → va_S (fun q => s.heap.size ≤ q) s.heap H locs → RQ P M → INE P → lv_has ls 4 [(3, .int (nI i)), (0, .ref b), (1, .ref (a 0)), (2, .ref (g 0))] →
      W p l e room_1 s m #[Value.ref b] below meth c H locs 70 1597 (lw_Z below #[Value.ref b] s) (F0 m 18 ls []) := by
  obtain ⟨hx, hb, hml, hown, hts⟩ := id FX
  have hbA : ¬ (fun q : Nat => s.heap.size ≤ q) b := Nat.not_le.mpr hbl
  intro N
  induction N with
  | zero => intro i _ h; exact absurd h (Nat.not_lt_zero _)
  | succ N ih =>
    intro i hiL hN P X M row H locs ls hP hM hS hR hI hl
    refine lv_iload_n hx hb dL_law_18 rfl (lv_at hl 0 rfl) ?_
    refine lv_aload_n hx hb dL_law_19 rfl (lv_at hl 1 rfl) ?_
    refine va_slen hx hb hX hbl hbA hS dL_law_20 ?_
    refine lv_bipush (v := nI 6) hx hb dL_law_21 rfl ?_
    refine lv_isub hx hb dL_law_23 ?_
    have hsub : (nI L - nI 6).toInt = (L : Int) - 6 := pk_sub_toInt (by omega) (by omega)
    have hii : (nI i).toInt = (i : Int) := nI_toInt (by omega)
    refine lv_icmp_gt (tgt := 1298) hx hb dL_law_24 (by decide) (fun _ => ?_) (fun c24 => ?_)
    · refine lv_iconst (v := 1) hx hb dL_law_1298 rfl ?_
      refine va_forget (fun q hq => hS.2.2 q hq) ?_
      refine W.widen (k := 600000) (n := 7302250) (Nat.le_of_ble_eq_true rfl) (Nat.le_of_ble_eq_true rfl) ?_
      exact lw_ret hx hb hr hlocks dL_law_1299
    · have hi : i + 6 ≤ L := by
        have c2 : ¬ (nI L - nI 6) < nI i := c24
        rw [i_lt, hsub, hii] at c2
        omega
      have kk : ∀ (P' X' M' : PT) (row' : Value) (H' : Heap) (locs' : List Loc), va_P D vwCl (wC y a P' X' row') H' → va_P D vwCl (wM y g M') H' → va_S (fun q => s.heap.size ≤ q) s.heap H' locs' → RQ P' M' → INE P' → W p l e room_1 s m #[Value.ref b] below meth c H' locs' 70 1597 (lw_Z below #[Value.ref b] s) (F0 m 1292 ls []) := by
        intro P' X' M' row' H' locs' hP' hM' hS' hR' hI'
        refine lv_iinc (v := nI (i + 6)) (lv' := [(3, .int (nI (i + 6))), (0, .ref b), (1, .ref (a 0)), (2, .ref (g 0))]) hx hb dL_law_1292 hl (k := 0) rfl (xn_inc i 6) (by decide) rfl (fun ls hl => ?_)
        refine lv_goto (tgt := 18) hx hb dL_law_1295 (by decide) ?_
        exact ih (i + 6) hi (by omega) P' X' M' row' H' locs' ls hP' hM' hS' hR' hI' hl
      refine lv_aload_n hx hb dL_law_27 rfl (lv_at hl 1 rfl) ?_
      refine lv_iload_n hx hb dL_law_28 rfl (lv_at hl 0 rfl) ?_
      refine va_sld hx hb hX hbl hbA hS (vp_in_nI (show i < L by omega) (by omega)) dL_law_29 ?_
      refine lv_bipush (v := nI 63) hx hb dL_law_30 rfl ?_
      refine lv_iand hx hb dL_law_32 ?_
      generalize xs (nI i).toNatClampNeg &&& nI 63 = z
      by_cases c33_0 : z = 0
      · refine lv_tableIn (off := 155) (tgt := 188) hx hb dL_law_33 (by rw [c33_0]; decide) (by rw [c33_0]; decide) (by rw [c33_0]; rfl) (by decide) ?_
        exact law_0 FX hK hX hbl hL hA hB hAx hBx hAB hi hP hM hS hR hI hl kk
      by_cases c33_1 : z = 1
      · refine lv_tableIn (off := 208) (tgt := 241) hx hb dL_law_33 (by rw [c33_1]; decide) (by rw [c33_1]; decide) (by rw [c33_1]; rfl) (by decide) ?_
        exact law_1 FX hK hX hbl hL hA hB hAx hBx hAB hi hP hM hS hR hI hl kk
      by_cases c33_2 : z = 2
      · refine lv_tableIn (off := 241) (tgt := 274) hx hb dL_law_33 (by rw [c33_2]; decide) (by rw [c33_2]; decide) (by rw [c33_2]; rfl) (by decide) ?_
        exact law_2 FX hK hX hbl hL hA hB hAx hBx hAB hi hP hM hS hR hI hl kk
      by_cases c33_3 : z = 3
      · refine lv_tableIn (off := 274) (tgt := 307) hx hb dL_law_33 (by rw [c33_3]; decide) (by rw [c33_3]; decide) (by rw [c33_3]; rfl) (by decide) ?_
        exact law_3 FX hK hX hbl hL hA hB hAx hBx hAB hi hP hM hS hR hI hl kk
      by_cases c33_4 : z = 4
      · refine lv_tableIn (off := 307) (tgt := 340) hx hb dL_law_33 (by rw [c33_4]; decide) (by rw [c33_4]; decide) (by rw [c33_4]; rfl) (by decide) ?_
        exact law_4 FX hK hX hbl hL hA hB hAx hBx hAB hi hP hM hS hR hI hl kk
      by_cases c33_5 : z = 5
      · refine lv_tableIn (off := 350) (tgt := 383) hx hb dL_law_33 (by rw [c33_5]; decide) (by rw [c33_5]; decide) (by rw [c33_5]; rfl) (by decide) ?_
        exact law_5 FX hK hX hbl hL hA hB hAx hBx hAB hi hP hM hS hR hI hl kk
      by_cases c33_6 : z = 6
      · refine lv_tableIn (off := 383) (tgt := 416) hx hb dL_law_33 (by rw [c33_6]; decide) (by rw [c33_6]; decide) (by rw [c33_6]; rfl) (by decide) ?_
        exact law_6 FX hK hX hbl hL hA hB hAx hBx hAB hi hP hM hS hR hI hl kk
      by_cases c33_7 : z = 7
      · refine lv_tableIn (off := 416) (tgt := 449) hx hb dL_law_33 (by rw [c33_7]; decide) (by rw [c33_7]; decide) (by rw [c33_7]; rfl) (by decide) ?_
        exact law_7 FX hK hX hbl hL hA hB hAx hBx hAB hi hP hM hS hR hI hl kk
      by_cases c33_8 : z = 8
      · refine lv_tableIn (off := 465) (tgt := 498) hx hb dL_law_33 (by rw [c33_8]; decide) (by rw [c33_8]; decide) (by rw [c33_8]; rfl) (by decide) ?_
        exact law_8 FX hK hX hbl hL hA hB hAx hBx hAB hi hP hM hS hR hI hl kk
      by_cases c33_9 : z = 9
      · refine lv_tableIn (off := 498) (tgt := 531) hx hb dL_law_33 (by rw [c33_9]; decide) (by rw [c33_9]; decide) (by rw [c33_9]; rfl) (by decide) ?_
        exact law_9 FX hK hX hbl hL hA hB hAx hBx hAB hi hP hM hS hR hI hl kk
      by_cases c33_10 : z = 10
      · refine lv_tableIn (off := 521) (tgt := 554) hx hb dL_law_33 (by rw [c33_10]; decide) (by rw [c33_10]; decide) (by rw [c33_10]; rfl) (by decide) ?_
        exact law_10 FX hK hX hbl hL hA hB hAx hBx hAB hi hP hM hS hR hI hl kk
      by_cases c33_11 : z = 11
      · refine lv_tableIn (off := 544) (tgt := 577) hx hb dL_law_33 (by rw [c33_11]; decide) (by rw [c33_11]; decide) (by rw [c33_11]; rfl) (by decide) ?_
        exact law_11 FX hK hX hbl hL hA hB hAx hBx hAB hi hP hM hS hR hI hl kk
      by_cases c33_12 : z = 12
      · refine lv_tableIn (off := 557) (tgt := 590) hx hb dL_law_33 (by rw [c33_12]; decide) (by rw [c33_12]; decide) (by rw [c33_12]; rfl) (by decide) ?_
        exact law_12 FX hK hX hbl hL hA hB hAx hBx hAB hi hP hM hS hR hI hl kk
      by_cases c33_13 : z = 13
      · refine lv_tableIn (off := 590) (tgt := 623) hx hb dL_law_33 (by rw [c33_13]; decide) (by rw [c33_13]; decide) (by rw [c33_13]; rfl) (by decide) ?_
        exact law_13 FX hK hX hbl hL hA hB hAx hBx hAB hi hP hM hS hR hI hl kk
      by_cases c33_14 : z = 14
      · refine lv_tableIn (off := 614) (tgt := 647) hx hb dL_law_33 (by rw [c33_14]; decide) (by rw [c33_14]; decide) (by rw [c33_14]; rfl) (by decide) ?_
        exact law_14 FX hK hX hbl hL hA hB hAx hBx hAB hi hP hM hS hR hI hl kk
      by_cases c33_15 : z = 15
      · refine lv_tableIn (off := 647) (tgt := 680) hx hb dL_law_33 (by rw [c33_15]; decide) (by rw [c33_15]; decide) (by rw [c33_15]; rfl) (by decide) ?_
        exact law_15 FX hK hX hbl hL hA hB hAx hBx hAB hi hP hM hS hR hI hl kk
      by_cases c33_16 : z = 16
      · refine lv_tableIn (off := 680) (tgt := 713) hx hb dL_law_33 (by rw [c33_16]; decide) (by rw [c33_16]; decide) (by rw [c33_16]; rfl) (by decide) ?_
        exact law_16 FX hK hX hbl hL hA hB hAx hBx hAB hi hP hM hS hR hI hl kk
      by_cases c33_17 : z = 17
      · refine lv_tableIn (off := 713) (tgt := 746) hx hb dL_law_33 (by rw [c33_17]; decide) (by rw [c33_17]; decide) (by rw [c33_17]; rfl) (by decide) ?_
        exact law_17 FX hK hX hbl hL hA hB hAx hBx hAB hi hP hM hS hR hI hl kk
      by_cases c33_18 : z = 18
      · refine lv_tableIn (off := 756) (tgt := 789) hx hb dL_law_33 (by rw [c33_18]; decide) (by rw [c33_18]; decide) (by rw [c33_18]; rfl) (by decide) ?_
        exact law_18 FX hK hX hbl hL hA hB hAx hBx hAB hi hP hM hS hR hI hl kk
      by_cases c33_19 : z = 19
      · refine lv_tableIn (off := 790) (tgt := 823) hx hb dL_law_33 (by rw [c33_19]; decide) (by rw [c33_19]; decide) (by rw [c33_19]; rfl) (by decide) ?_
        exact law_19 FX hK hX hbl hL hA hB hAx hBx hAB hi hP hM hS hR hI hl kk
      by_cases c33_20 : z = 20
      · refine lv_tableIn (off := 813) (tgt := 846) hx hb dL_law_33 (by rw [c33_20]; decide) (by rw [c33_20]; decide) (by rw [c33_20]; rfl) (by decide) ?_
        exact law_20 FX hK hX hbl hL hA hB hAx hBx hAB hi hP hM hS hR hI hl kk
      by_cases c33_21 : z = 21
      · refine lv_tableIn (off := 856) (tgt := 889) hx hb dL_law_33 (by rw [c33_21]; decide) (by rw [c33_21]; decide) (by rw [c33_21]; rfl) (by decide) ?_
        exact law_21 FX hK hX hbl hL hA hB hAx hBx hAB hi hP hM hS hR hI hl kk
      by_cases c33_22 : z = 22
      · refine lv_tableIn (off := 879) (tgt := 912) hx hb dL_law_33 (by rw [c33_22]; decide) (by rw [c33_22]; decide) (by rw [c33_22]; rfl) (by decide) ?_
        exact law_22 FX hK hX hbl hL hA hB hAx hBx hAB hi hP hM hS hR hI hl kk
      by_cases c33_23 : z = 23
      · refine lv_tableIn (off := 892) (tgt := 925) hx hb dL_law_33 (by rw [c33_23]; decide) (by rw [c33_23]; decide) (by rw [c33_23]; rfl) (by decide) ?_
        exact law_23 FX hK hX hbl hL hA hB hAx hBx hAB hi hP hM hS hR hI hl kk
      by_cases c33_24 : z = 24
      · refine lv_tableIn (off := 915) (tgt := 948) hx hb dL_law_33 (by rw [c33_24]; decide) (by rw [c33_24]; decide) (by rw [c33_24]; rfl) (by decide) ?_
        exact law_24 FX hK hX hbl hL hA hB hAx hBx hAB hi hP hM hS hR hI hl kk
      by_cases c33_25 : z = 25
      · refine lv_tableIn (off := 958) (tgt := 991) hx hb dL_law_33 (by rw [c33_25]; decide) (by rw [c33_25]; decide) (by rw [c33_25]; rfl) (by decide) ?_
        exact law_25 FX hK hX hbl hL hA hB hAx hBx hAB hi hP hM hS hR hI hl kk
      by_cases c33_26 : z = 26
      · refine lv_tableIn (off := 981) (tgt := 1014) hx hb dL_law_33 (by rw [c33_26]; decide) (by rw [c33_26]; decide) (by rw [c33_26]; rfl) (by decide) ?_
        exact law_26 FX hK hX hbl hL hA hB hAx hBx hAB hi hP hM hS hR hI hl kk
      by_cases c33_27 : z = 27
      · refine lv_tableIn (off := 1024) (tgt := 1057) hx hb dL_law_33 (by rw [c33_27]; decide) (by rw [c33_27]; decide) (by rw [c33_27]; rfl) (by decide) ?_
        exact law_27 FX hK hX hbl hL hA hB hAx hBx hAB hi hP hM hS hR hI hl kk
      by_cases c33_28 : z = 28
      · refine lv_tableIn (off := 1068) (tgt := 1101) hx hb dL_law_33 (by rw [c33_28]; decide) (by rw [c33_28]; decide) (by rw [c33_28]; rfl) (by decide) ?_
        exact law_28 FX hK hX hbl hL hA hB hAx hBx hAB hi hP hM hS hR hI hl kk
      by_cases c33_29 : z = 29
      · refine lv_tableIn (off := 1131) (tgt := 1164) hx hb dL_law_33 (by rw [c33_29]; decide) (by rw [c33_29]; decide) (by rw [c33_29]; rfl) (by decide) ?_
        exact law_29 FX hK hX hbl hL hA hB hAx hBx hAB hi hP hM hS hR hI hl kk
      by_cases c33_30 : z = 30
      · refine lv_tableIn (off := 1154) (tgt := 1187) hx hb dL_law_33 (by rw [c33_30]; decide) (by rw [c33_30]; decide) (by rw [c33_30]; rfl) (by decide) ?_
        exact law_30 FX hK hX hbl hL hA hB hAx hBx hAB hi hP hM hS hR hI hl kk
      by_cases c33_31 : z = 31
      · refine lv_tableIn (off := 1177) (tgt := 1210) hx hb dL_law_33 (by rw [c33_31]; decide) (by rw [c33_31]; decide) (by rw [c33_31]; rfl) (by decide) ?_
        exact law_31 FX hK hX hbl hL hA hB hAx hBx hAB hi hP hM hS hR hI hl kk
      by_cases c33_32 : z = 32
      · refine lv_tableIn (off := 1210) (tgt := 1243) hx hb dL_law_33 (by rw [c33_32]; decide) (by rw [c33_32]; decide) (by rw [c33_32]; rfl) (by decide) ?_
        exact law_32 FX hK hX hbl hL hA hB hAx hBx hAB hi hP hM hS hR hI hl kk
      by_cases c33_33 : z = 33
      · refine lv_tableIn (off := 1223) (tgt := 1256) hx hb dL_law_33 (by rw [c33_33]; decide) (by rw [c33_33]; decide) (by rw [c33_33]; rfl) (by decide) ?_
        exact law_33 FX hK hX hbl hL hA hB hAx hBx hAB hi hP hM hS hR hI hl kk
      by_cases c33_34 : z = 34
      · refine lv_tableIn (off := 1236) (tgt := 1269) hx hb dL_law_33 (by rw [c33_34]; decide) (by rw [c33_34]; decide) (by rw [c33_34]; rfl) (by decide) ?_
        exact law_34 FX hK hX hbl hL hA hB hAx hBx hAB hi hP hM hS hR hI hl kk
      refine lv_tableOut (tgt := 1292) hx hb dL_law_33 (sw_out34 c33_0 c33_1 c33_2 c33_3 c33_4 c33_5 c33_6 c33_7 c33_8 c33_9 c33_10 c33_11 c33_12 c33_13 c33_14 c33_15 c33_16 c33_17 c33_18 c33_19 c33_20 c33_21 c33_22 c33_23 c33_24 c33_25 c33_26 c33_27 c33_28 c33_29 c33_30 c33_31 c33_32 c33_33 c33_34) (by decide) ?_
      exact kk P X M row H locs hP hM hS hR hI
