set_option maxRecDepth 100000 in
set_option maxHeartbeats 4000000 in
theorem law_9 {p : Program} {l : Launch} {e : Env} {s : State} {m : MethodId} {below : List Frame} {meth : Method} {c : Code} {Q : State → Prop} {b L : Nat} {xs : Nat → Int32} {D : va_G} {y : Nat → ClassId} {a g : Nat → Nat} {H : Heap} {locs : List Loc} {ls : Array Slot} {P X M : PT} {row : Value} {i : Nat}
    (FX : CallFix p m c cL_law 4 s #[Value.ref b] lw_tbl RL) (hK : KK D y s) (hX : va_X b L xs s s.heap) (hbl : b < s.heap.size) (hL : L ≤ 3072) (hA : CA a 44) (hB : CA g 26) (hAx : ∀ q, AC a q → s.heap.size ≤ q) (hBx : ∀ q, AM g q → s.heap.size ≤ q) (hAB : ∀ q, AM g q → ¬ AC a q) (hi : i + 6 ≤ L)
    (hP : va_P D vwCl (wC y a P X row) H) (hM : va_P D vwCl (wM y g M) H) (hS : va_S (fun q => s.heap.size ≤ q) s.heap H locs) (hR : RQ P M) (hI : INE P) (hl : lv_has ls 4 [(3, .int (nI i)), (0, .ref b), (1, .ref (a 0)), (2, .ref (g 0))])
    (kk : ∀ (P' X' M' : PT) (row' : Value) (H' : Heap) (locs' : List Loc), va_P D vwCl (wC y a P' X' row') H' → va_P D vwCl (wM y g M') H' → va_S (fun q => s.heap.size ≤ q) s.heap H' locs' → RQ P' M' → INE P' → W p l e room_1 s m #[Value.ref b] below meth c H' locs' 70 1597 Q (F0 m 1292 ls [])) : W p l e room_1 s m #[Value.ref b] below meth c H locs 70 1597 Q (F0 m 531 ls []) := by
  obtain ⟨hx, hb, hml, hown, hts⟩ := id FX
  have hbA : ¬ (fun q : Nat => s.heap.size ≤ q) b := Nat.not_le.mpr hbl
  obtain ⟨w, cN, n, t, rd, yr, f, hI0⟩ := id hI
  obtain ⟨hIP, hc1, hrd, hsh, hkd, hyr, hwl, hff⟩ := id hI0
  have hin : ∀ j, j < 6 → vp_in (nI (i + j)) L := fun j hj => vp_in_nI (by omega) (by omega)
  refine lv_aload_n hx hb dL_law_531 rfl (lv_at hl 2 rfl) ?_
  refine lv_aload_n hx hb dL_law_532 rfl (lv_at hl 1 rfl) ?_
  refine lv_iload_n hx hb dL_law_533 rfl (lv_at hl 0 rfl) ?_
  refine lv_iconst (v := nI 1) hx hb dL_law_534 rfl ?_
  refine xn_iadd (a := i) (b := 1) hx hb dL_law_535 ?_
  refine va_sld hx hb hX hbl hbA hS (hin 1 (by decide)) dL_law_536 ?_
  refine cViI [.int (xs (nI (i + 1)).toNatClampNeg)] [] FX hK (c_X8_number l D y a hA P X row w cN n t rd (xs (nI (i + 1)).toNatClampNeg) hIP hc1 hrd) (cwV 1 hts gL_X8_number rfl rfl rfl (by decide +kernel) ⟨(Nat.le_of_ble_eq_true rfl), (Nat.le_of_ble_eq_true rfl)⟩) hP (pre_recv hK hP (ci := 8) (q0 := 0) rfl rfl) rfl rfl hl (Nat.le_of_ble_eq_true rfl) dL_law_537 ⟨(Nat.le_of_ble_eq_true rfl), (Nat.le_of_ble_eq_true rfl)⟩ hS hAx (fun r8 u8 H8 locs8 hp8 hw8 hS8 hk8 _ => ?_)
  have hw8 : va_P D vwCl (wC y a u8.1 u8.2 row) H8 := hw8
  have hM8 : va_P D vwCl (wM y g M) H8 := hM.kept (fun k q hq => hk8 q.1 (hM k q hq).lt (hAB q.1 ((wM_D hB).2 k q hq)))
  refine lv_aload_n hx hb dL_law_540 rfl (lv_at hl 3 rfl) ?_
  refine lv_aload_n hx hb dL_law_541 rfl (lv_at hl 1 rfl) ?_
  refine lv_iload_n hx hb dL_law_542 rfl (lv_at hl 0 rfl) ?_
  refine lv_iconst (v := nI 1) hx hb dL_law_543 rfl ?_
  refine xn_iadd (a := i) (b := 1) hx hb dL_law_544 ?_
  refine va_sld hx hb hX hbl hbA hS8 (hin 1 (by decide)) dL_law_545 ?_
  refine cViI [.int (xs (nI (i + 1)).toNatClampNeg)] [.int r8] FX hK (c_X9_number l D y g hB M P w cN n t rd (xs (nI (i + 1)).toNatClampNeg) hR hIP hc1 hrd) (cwV 1 hts gL_X9_number rfl rfl rfl (by decide +kernel) ⟨(Nat.le_of_ble_eq_true rfl), (Nat.le_of_ble_eq_true rfl)⟩) hM8 (pre_recv hK hM8 (ci := 9) (q0 := 0) rfl rfl) rfl rfl hl (Nat.le_of_ble_eq_true rfl) dL_law_546 ⟨(Nat.le_of_ble_eq_true rfl), (Nat.le_of_ble_eq_true rfl)⟩ hS8 hBx (fun r9 u9 H9 locs9 hp9 hw9 hS9 hk9 _ => ?_)
  have hw9 : va_P D vwCl (wM y g u9) H9 := hw9
  have hP9 : va_P D vwCl (wC y a u8.1 u8.2 row) H9 := hw8.kept (fun k q hq => hk9 q.1 (hw8 k q hq).lt (fun z => hAB q.1 z ((wC_D hA).2 k q hq)))
  have e : r8 = r9 := (congrArg Prod.fst hp8).trans hp9.1.symm
  have eP := congrArg Prod.snd hp8
  have hIn : INE u8.1 := by
    rw [show u8.1 = _ from eP, s_number]; exact hI
  have hRn : RQ u8.1 u9 := (show u8.1 = _ from eP) ▸ hp9.2
  refine lv_icmp_eq (tgt := 1292) hx hb dL_law_549 (by decide) (fun _ => ?_) (fun h => by first | exact absurd e h | exact absurd e.symm h)
  exact kk _ _ _ _ _ _ hP9 hw9 hS9 hRn hIn

set_option maxRecDepth 100000 in
set_option maxHeartbeats 4000000 in
theorem law_10 {p : Program} {l : Launch} {e : Env} {s : State} {m : MethodId} {below : List Frame} {meth : Method} {c : Code} {Q : State → Prop} {b L : Nat} {xs : Nat → Int32} {D : va_G} {y : Nat → ClassId} {a g : Nat → Nat} {H : Heap} {locs : List Loc} {ls : Array Slot} {P X M : PT} {row : Value} {i : Nat}
    (FX : CallFix p m c cL_law 4 s #[Value.ref b] lw_tbl RL) (hK : KK D y s) (hX : va_X b L xs s s.heap) (hbl : b < s.heap.size) (hL : L ≤ 3072) (hA : CA a 44) (hB : CA g 26) (hAx : ∀ q, AC a q → s.heap.size ≤ q) (hBx : ∀ q, AM g q → s.heap.size ≤ q) (hAB : ∀ q, AM g q → ¬ AC a q) (hi : i + 6 ≤ L)
    (hP : va_P D vwCl (wC y a P X row) H) (hM : va_P D vwCl (wM y g M) H) (hS : va_S (fun q => s.heap.size ≤ q) s.heap H locs) (hR : RQ P M) (hI : INE P) (hl : lv_has ls 4 [(3, .int (nI i)), (0, .ref b), (1, .ref (a 0)), (2, .ref (g 0))])
    (kk : ∀ (P' X' M' : PT) (row' : Value) (H' : Heap) (locs' : List Loc), va_P D vwCl (wC y a P' X' row') H' → va_P D vwCl (wM y g M') H' → va_S (fun q => s.heap.size ≤ q) s.heap H' locs' → RQ P' M' → INE P' → W p l e room_1 s m #[Value.ref b] below meth c H' locs' 70 1597 Q (F0 m 1292 ls [])) : W p l e room_1 s m #[Value.ref b] below meth c H locs 70 1597 Q (F0 m 554 ls []) := by
  obtain ⟨hx, hb, hml, hown, hts⟩ := id FX
  have hbA : ¬ (fun q : Nat => s.heap.size ≤ q) b := Nat.not_le.mpr hbl
  obtain ⟨w, cN, n, t, rd, yr, f, hI0⟩ := id hI
  obtain ⟨hIP, hc1, hrd, hsh, hkd, hyr, hwl, hff⟩ := id hI0
  have hin : ∀ j, j < 6 → vp_in (nI (i + j)) L := fun j hj => vp_in_nI (by omega) (by omega)
  refine lv_aload_n hx hb dL_law_554 rfl (lv_at hl 2 rfl) ?_
  refine lv_aload_n hx hb dL_law_555 rfl (lv_at hl 1 rfl) ?_
  refine lv_iload_n hx hb dL_law_556 rfl (lv_at hl 0 rfl) ?_
  refine lv_iconst (v := nI 1) hx hb dL_law_557 rfl ?_
  refine xn_iadd (a := i) (b := 1) hx hb dL_law_558 ?_
  refine va_sld hx hb hX hbl hbA hS (hin 1 (by decide)) dL_law_559 ?_
  refine cViI [.int (xs (nI (i + 1)).toNatClampNeg)] [] FX hK (c_X8_having l D y a hA P X row w cN n t rd (xs (nI (i + 1)).toNatClampNeg) hIP hc1 hrd) (cwV 1 hts gL_X8_having rfl rfl rfl (by decide +kernel) ⟨(Nat.le_of_ble_eq_true rfl), (Nat.le_of_ble_eq_true rfl)⟩) hP (pre_recv hK hP (ci := 8) (q0 := 0) rfl rfl) rfl rfl hl (Nat.le_of_ble_eq_true rfl) dL_law_560 ⟨(Nat.le_of_ble_eq_true rfl), (Nat.le_of_ble_eq_true rfl)⟩ hS hAx (fun r8 u8 H8 locs8 hp8 hw8 hS8 hk8 _ => ?_)
  have hw8 : va_P D vwCl (wC y a u8.1 u8.2 row) H8 := hw8
  have hM8 : va_P D vwCl (wM y g M) H8 := hM.kept (fun k q hq => hk8 q.1 (hM k q hq).lt (hAB q.1 ((wM_D hB).2 k q hq)))
  refine lv_aload_n hx hb dL_law_563 rfl (lv_at hl 3 rfl) ?_
  refine lv_aload_n hx hb dL_law_564 rfl (lv_at hl 1 rfl) ?_
  refine lv_iload_n hx hb dL_law_565 rfl (lv_at hl 0 rfl) ?_
  refine lv_iconst (v := nI 1) hx hb dL_law_566 rfl ?_
  refine xn_iadd (a := i) (b := 1) hx hb dL_law_567 ?_
  refine va_sld hx hb hX hbl hbA hS8 (hin 1 (by decide)) dL_law_568 ?_
  refine cViI [.int (xs (nI (i + 1)).toNatClampNeg)] [.int r8] FX hK (c_X9_having l D y g hB M P w cN n t rd (xs (nI (i + 1)).toNatClampNeg) hR hIP hc1 hrd) (cwV 1 hts gL_X9_having rfl rfl rfl (by decide +kernel) ⟨(Nat.le_of_ble_eq_true rfl), (Nat.le_of_ble_eq_true rfl)⟩) hM8 (pre_recv hK hM8 (ci := 9) (q0 := 0) rfl rfl) rfl rfl hl (Nat.le_of_ble_eq_true rfl) dL_law_569 ⟨(Nat.le_of_ble_eq_true rfl), (Nat.le_of_ble_eq_true rfl)⟩ hS8 hBx (fun r9 u9 H9 locs9 hp9 hw9 hS9 hk9 _ => ?_)
  have hw9 : va_P D vwCl (wM y g u9) H9 := hw9
  have hP9 : va_P D vwCl (wC y a u8.1 u8.2 row) H9 := hw8.kept (fun k q hq => hk9 q.1 (hw8 k q hq).lt (fun z => hAB q.1 z ((wC_D hA).2 k q hq)))
  have e : r8 = r9 := (congrArg Prod.fst hp8).trans hp9.1.symm
  have eP := congrArg Prod.snd hp8
  have hIn : INE u8.1 := by
    rw [show u8.1 = _ from eP, s_having]; exact hI
  have hRn : RQ u8.1 u9 := (show u8.1 = _ from eP) ▸ hp9.2
  refine lv_icmp_eq (tgt := 1292) hx hb dL_law_572 (by decide) (fun _ => ?_) (fun h => by first | exact absurd e h | exact absurd e.symm h)
  exact kk _ _ _ _ _ _ hP9 hw9 hS9 hRn hIn

set_option maxRecDepth 100000 in
set_option maxHeartbeats 4000000 in
theorem law_11 {p : Program} {l : Launch} {e : Env} {s : State} {m : MethodId} {below : List Frame} {meth : Method} {c : Code} {Q : State → Prop} {b L : Nat} {xs : Nat → Int32} {D : va_G} {y : Nat → ClassId} {a g : Nat → Nat} {H : Heap} {locs : List Loc} {ls : Array Slot} {P X M : PT} {row : Value} {i : Nat}
    (FX : CallFix p m c cL_law 4 s #[Value.ref b] lw_tbl RL) (hK : KK D y s) (hX : va_X b L xs s s.heap) (hbl : b < s.heap.size) (hL : L ≤ 3072) (hA : CA a 44) (hB : CA g 26) (hAx : ∀ q, AC a q → s.heap.size ≤ q) (hBx : ∀ q, AM g q → s.heap.size ≤ q) (hAB : ∀ q, AM g q → ¬ AC a q) (hi : i + 6 ≤ L)
    (hP : va_P D vwCl (wC y a P X row) H) (hM : va_P D vwCl (wM y g M) H) (hS : va_S (fun q => s.heap.size ≤ q) s.heap H locs) (hR : RQ P M) (hI : INE P) (hl : lv_has ls 4 [(3, .int (nI i)), (0, .ref b), (1, .ref (a 0)), (2, .ref (g 0))])
    (kk : ∀ (P' X' M' : PT) (row' : Value) (H' : Heap) (locs' : List Loc), va_P D vwCl (wC y a P' X' row') H' → va_P D vwCl (wM y g M') H' → va_S (fun q => s.heap.size ≤ q) s.heap H' locs' → RQ P' M' → INE P' → W p l e room_1 s m #[Value.ref b] below meth c H' locs' 70 1597 Q (F0 m 1292 ls [])) : W p l e room_1 s m #[Value.ref b] below meth c H locs 70 1597 Q (F0 m 577 ls []) := by
  obtain ⟨hx, hb, hml, hown, hts⟩ := id FX
  have hbA : ¬ (fun q : Nat => s.heap.size ≤ q) b := Nat.not_le.mpr hbl
  obtain ⟨w, cN, n, t, rd, yr, f, hI0⟩ := id hI
  obtain ⟨hIP, hc1, hrd, hsh, hkd, hyr, hwl, hff⟩ := id hI0
  have hin : ∀ j, j < 6 → vp_in (nI (i + j)) L := fun j hj => vp_in_nI (by omega) (by omega)
  refine lv_aload_n hx hb dL_law_577 rfl (lv_at hl 2 rfl) ?_
  refine cViI [] [] FX hK (c_X8_alone l D y a hA P X row w cN n t rd hIP hc1 hrd) (cwV 0 hts gL_X8_alone rfl rfl rfl (by decide +kernel) ⟨(Nat.le_of_ble_eq_true rfl), (Nat.le_of_ble_eq_true rfl)⟩) hP (pre_recv hK hP (ci := 8) (q0 := 0) rfl rfl) rfl rfl hl (Nat.le_of_ble_eq_true rfl) dL_law_578 ⟨(Nat.le_of_ble_eq_true rfl), (Nat.le_of_ble_eq_true rfl)⟩ hS hAx (fun r8 u8 H8 locs8 hp8 hw8 hS8 hk8 _ => ?_)
  have hw8 : va_P D vwCl (wC y a u8.1 u8.2 row) H8 := hw8
  have hM8 : va_P D vwCl (wM y g M) H8 := hM.kept (fun k q hq => hk8 q.1 (hM k q hq).lt (hAB q.1 ((wM_D hB).2 k q hq)))
  refine lv_aload_n hx hb dL_law_581 rfl (lv_at hl 3 rfl) ?_
  refine cViI [] [.int r8] FX hK (c_X9_alone l D y g hB M P w cN n t rd hR hIP hc1 hrd) (cwV 0 hts gL_X9_alone rfl rfl rfl (by decide +kernel) ⟨(Nat.le_of_ble_eq_true rfl), (Nat.le_of_ble_eq_true rfl)⟩) hM8 (pre_recv hK hM8 (ci := 9) (q0 := 0) rfl rfl) rfl rfl hl (Nat.le_of_ble_eq_true rfl) dL_law_582 ⟨(Nat.le_of_ble_eq_true rfl), (Nat.le_of_ble_eq_true rfl)⟩ hS8 hBx (fun r9 u9 H9 locs9 hp9 hw9 hS9 hk9 _ => ?_)
  have hw9 : va_P D vwCl (wM y g u9) H9 := hw9
  have hP9 : va_P D vwCl (wC y a u8.1 u8.2 row) H9 := hw8.kept (fun k q hq => hk9 q.1 (hw8 k q hq).lt (fun z => hAB q.1 z ((wC_D hA).2 k q hq)))
  have e : r8 = r9 := (congrArg Prod.fst hp8).trans hp9.1.symm
  have eP := congrArg Prod.snd hp8
  have hIn : INE u8.1 := by
    rw [show u8.1 = _ from eP, s_alone]; exact hI
  have hRn : RQ u8.1 u9 := (show u8.1 = _ from eP) ▸ hp9.2
  refine lv_icmp_eq (tgt := 1292) hx hb dL_law_585 (by decide) (fun _ => ?_) (fun h => by first | exact absurd e h | exact absurd e.symm h)
  exact kk _ _ _ _ _ _ hP9 hw9 hS9 hRn hIn

set_option maxRecDepth 100000 in
set_option maxHeartbeats 4000000 in
theorem law_12 {p : Program} {l : Launch} {e : Env} {s : State} {m : MethodId} {below : List Frame} {meth : Method} {c : Code} {Q : State → Prop} {b L : Nat} {xs : Nat → Int32} {D : va_G} {y : Nat → ClassId} {a g : Nat → Nat} {H : Heap} {locs : List Loc} {ls : Array Slot} {P X M : PT} {row : Value} {i : Nat}
    (FX : CallFix p m c cL_law 4 s #[Value.ref b] lw_tbl RL) (hK : KK D y s) (hX : va_X b L xs s s.heap) (hbl : b < s.heap.size) (hL : L ≤ 3072) (hA : CA a 44) (hB : CA g 26) (hAx : ∀ q, AC a q → s.heap.size ≤ q) (hBx : ∀ q, AM g q → s.heap.size ≤ q) (hAB : ∀ q, AM g q → ¬ AC a q) (hi : i + 6 ≤ L)
    (hP : va_P D vwCl (wC y a P X row) H) (hM : va_P D vwCl (wM y g M) H) (hS : va_S (fun q => s.heap.size ≤ q) s.heap H locs) (hR : RQ P M) (hI : INE P) (hl : lv_has ls 4 [(3, .int (nI i)), (0, .ref b), (1, .ref (a 0)), (2, .ref (g 0))])
    (kk : ∀ (P' X' M' : PT) (row' : Value) (H' : Heap) (locs' : List Loc), va_P D vwCl (wC y a P' X' row') H' → va_P D vwCl (wM y g M') H' → va_S (fun q => s.heap.size ≤ q) s.heap H' locs' → RQ P' M' → INE P' → W p l e room_1 s m #[Value.ref b] below meth c H' locs' 70 1597 Q (F0 m 1292 ls [])) : W p l e room_1 s m #[Value.ref b] below meth c H locs 70 1597 Q (F0 m 590 ls []) := by
  obtain ⟨hx, hb, hml, hown, hts⟩ := id FX
  have hbA : ¬ (fun q : Nat => s.heap.size ≤ q) b := Nat.not_le.mpr hbl
  obtain ⟨w, cN, n, t, rd, yr, f, hI0⟩ := id hI
  obtain ⟨hIP, hc1, hrd, hsh, hkd, hyr, hwl, hff⟩ := id hI0
  have hin : ∀ j, j < 6 → vp_in (nI (i + j)) L := fun j hj => vp_in_nI (by omega) (by omega)
  refine lv_aload_n hx hb dL_law_590 rfl (lv_at hl 2 rfl) ?_
  refine lv_aload_n hx hb dL_law_591 rfl (lv_at hl 1 rfl) ?_
  refine lv_iload_n hx hb dL_law_592 rfl (lv_at hl 0 rfl) ?_
  refine lv_iconst (v := nI 1) hx hb dL_law_593 rfl ?_
  refine xn_iadd (a := i) (b := 1) hx hb dL_law_594 ?_
  refine va_sld hx hb hX hbl hbA hS (hin 1 (by decide)) dL_law_595 ?_
  refine lv_aload_n hx hb dL_law_596 rfl (lv_at hl 1 rfl) ?_
  refine lv_iload_n hx hb dL_law_597 rfl (lv_at hl 0 rfl) ?_
  refine lv_iconst (v := nI 2) hx hb dL_law_598 rfl ?_
  refine xn_iadd (a := i) (b := 2) hx hb dL_law_599 ?_
  refine va_sld hx hb hX hbl hbA hS (hin 2 (by decide)) dL_law_600 ?_
  refine cViI [.int (xs (nI (i + 1)).toNatClampNeg), .int (xs (nI (i + 2)).toNatClampNeg)] [] FX hK (c_X8_letter l D y a hA P X row w cN n t rd (xs (nI (i + 1)).toNatClampNeg) (xs (nI (i + 2)).toNatClampNeg) hIP hc1 hrd) (cwV 2 hts gL_X8_letter rfl rfl rfl (by decide +kernel) ⟨(Nat.le_of_ble_eq_true rfl), (Nat.le_of_ble_eq_true rfl)⟩) hP (pre_recv hK hP (ci := 8) (q0 := 0) rfl rfl) rfl rfl hl (Nat.le_of_ble_eq_true rfl) dL_law_601 ⟨(Nat.le_of_ble_eq_true rfl), (Nat.le_of_ble_eq_true rfl)⟩ hS hAx (fun r8 u8 H8 locs8 hp8 hw8 hS8 hk8 _ => ?_)
  have hw8 : va_P D vwCl (wC y a u8.1 u8.2 row) H8 := hw8
  have hM8 : va_P D vwCl (wM y g M) H8 := hM.kept (fun k q hq => hk8 q.1 (hM k q hq).lt (hAB q.1 ((wM_D hB).2 k q hq)))
  refine lv_aload_n hx hb dL_law_604 rfl (lv_at hl 3 rfl) ?_
  refine lv_aload_n hx hb dL_law_605 rfl (lv_at hl 1 rfl) ?_
  refine lv_iload_n hx hb dL_law_606 rfl (lv_at hl 0 rfl) ?_
  refine lv_iconst (v := nI 1) hx hb dL_law_607 rfl ?_
  refine xn_iadd (a := i) (b := 1) hx hb dL_law_608 ?_
  refine va_sld hx hb hX hbl hbA hS8 (hin 1 (by decide)) dL_law_609 ?_
  refine lv_aload_n hx hb dL_law_610 rfl (lv_at hl 1 rfl) ?_
  refine lv_iload_n hx hb dL_law_611 rfl (lv_at hl 0 rfl) ?_
  refine lv_iconst (v := nI 2) hx hb dL_law_612 rfl ?_
  refine xn_iadd (a := i) (b := 2) hx hb dL_law_613 ?_
  refine va_sld hx hb hX hbl hbA hS8 (hin 2 (by decide)) dL_law_614 ?_
  refine cViI [.int (xs (nI (i + 1)).toNatClampNeg), .int (xs (nI (i + 2)).toNatClampNeg)] [.int r8] FX hK (c_X9_letter l D y g hB M P w cN n t rd (xs (nI (i + 1)).toNatClampNeg) (xs (nI (i + 2)).toNatClampNeg) hR hIP hc1 hrd) (cwV 2 hts gL_X9_letter rfl rfl rfl (by decide +kernel) ⟨(Nat.le_of_ble_eq_true rfl), (Nat.le_of_ble_eq_true rfl)⟩) hM8 (pre_recv hK hM8 (ci := 9) (q0 := 0) rfl rfl) rfl rfl hl (Nat.le_of_ble_eq_true rfl) dL_law_615 ⟨(Nat.le_of_ble_eq_true rfl), (Nat.le_of_ble_eq_true rfl)⟩ hS8 hBx (fun r9 u9 H9 locs9 hp9 hw9 hS9 hk9 _ => ?_)
  have hw9 : va_P D vwCl (wM y g u9) H9 := hw9
  have hP9 : va_P D vwCl (wC y a u8.1 u8.2 row) H9 := hw8.kept (fun k q hq => hk9 q.1 (hw8 k q hq).lt (fun z => hAB q.1 z ((wC_D hA).2 k q hq)))
  have e : r8 = r9 := (congrArg Prod.fst hp8).trans hp9.1.symm
  have eP := congrArg Prod.snd hp8
  have hIn : INE u8.1 := by
    rw [show u8.1 = _ from eP, s_letter]; exact hI
  have hRn : RQ u8.1 u9 := (show u8.1 = _ from eP) ▸ hp9.2
  refine lv_icmp_eq (tgt := 1292) hx hb dL_law_618 (by decide) (fun _ => ?_) (fun h => by first | exact absurd e h | exact absurd e.symm h)
  exact kk _ _ _ _ _ _ hP9 hw9 hS9 hRn hIn

set_option maxRecDepth 100000 in
set_option maxHeartbeats 4000000 in
theorem law_13 {p : Program} {l : Launch} {e : Env} {s : State} {m : MethodId} {below : List Frame} {meth : Method} {c : Code} {Q : State → Prop} {b L : Nat} {xs : Nat → Int32} {D : va_G} {y : Nat → ClassId} {a g : Nat → Nat} {H : Heap} {locs : List Loc} {ls : Array Slot} {P X M : PT} {row : Value} {i : Nat}
    (FX : CallFix p m c cL_law 4 s #[Value.ref b] lw_tbl RL) (hK : KK D y s) (hX : va_X b L xs s s.heap) (hbl : b < s.heap.size) (hL : L ≤ 3072) (hA : CA a 44) (hB : CA g 26) (hAx : ∀ q, AC a q → s.heap.size ≤ q) (hBx : ∀ q, AM g q → s.heap.size ≤ q) (hAB : ∀ q, AM g q → ¬ AC a q) (hi : i + 6 ≤ L)
    (hP : va_P D vwCl (wC y a P X row) H) (hM : va_P D vwCl (wM y g M) H) (hS : va_S (fun q => s.heap.size ≤ q) s.heap H locs) (hR : RQ P M) (hI : INE P) (hl : lv_has ls 4 [(3, .int (nI i)), (0, .ref b), (1, .ref (a 0)), (2, .ref (g 0))])
    (kk : ∀ (P' X' M' : PT) (row' : Value) (H' : Heap) (locs' : List Loc), va_P D vwCl (wC y a P' X' row') H' → va_P D vwCl (wM y g M') H' → va_S (fun q => s.heap.size ≤ q) s.heap H' locs' → RQ P' M' → INE P' → W p l e room_1 s m #[Value.ref b] below meth c H' locs' 70 1597 Q (F0 m 1292 ls [])) : W p l e room_1 s m #[Value.ref b] below meth c H locs 70 1597 Q (F0 m 623 ls []) := by
  obtain ⟨hx, hb, hml, hown, hts⟩ := id FX
  have hbA : ¬ (fun q : Nat => s.heap.size ≤ q) b := Nat.not_le.mpr hbl
  obtain ⟨w, cN, n, t, rd, yr, f, hI0⟩ := id hI
  obtain ⟨hIP, hc1, hrd, hsh, hkd, hyr, hwl, hff⟩ := id hI0
  have hin : ∀ j, j < 6 → vp_in (nI (i + j)) L := fun j hj => vp_in_nI (by omega) (by omega)
  refine lv_aload_n hx hb dL_law_623 rfl (lv_at hl 2 rfl) ?_
  refine lv_aload_n hx hb dL_law_624 rfl (lv_at hl 1 rfl) ?_
  refine lv_iload_n hx hb dL_law_625 rfl (lv_at hl 0 rfl) ?_
  refine lv_iconst (v := nI 1) hx hb dL_law_626 rfl ?_
  refine xn_iadd (a := i) (b := 1) hx hb dL_law_627 ?_
  refine va_sld hx hb hX hbl hbA hS (hin 1 (by decide)) dL_law_628 ?_
  refine cViL [.int (xs (nI (i + 1)).toNatClampNeg)] [] FX hK (c_X8_mean l D y a hA P X row w cN n t rd (xs (nI (i + 1)).toNatClampNeg) hIP hc1 hrd) (cwV 1 hts gL_X8_mean rfl rfl rfl (by decide +kernel) ⟨(Nat.le_of_ble_eq_true rfl), (Nat.le_of_ble_eq_true rfl)⟩) hP (pre_recv hK hP (ci := 8) (q0 := 0) rfl rfl) rfl rfl hl (Nat.le_of_ble_eq_true rfl) dL_law_629 ⟨(Nat.le_of_ble_eq_true rfl), (Nat.le_of_ble_eq_true rfl)⟩ hS hAx (fun r8 u8 H8 locs8 hp8 hw8 hS8 hk8 _ => ?_)
  have hw8 : va_P D vwCl (wC y a u8.1 u8.2 row) H8 := hw8
  have hM8 : va_P D vwCl (wM y g M) H8 := hM.kept (fun k q hq => hk8 q.1 (hM k q hq).lt (hAB q.1 ((wM_D hB).2 k q hq)))
  refine lv_aload_n hx hb dL_law_632 rfl (lv_at hl 3 rfl) ?_
  refine lv_aload_n hx hb dL_law_633 rfl (lv_at hl 1 rfl) ?_
  refine lv_iload_n hx hb dL_law_634 rfl (lv_at hl 0 rfl) ?_
  refine lv_iconst (v := nI 1) hx hb dL_law_635 rfl ?_
  refine xn_iadd (a := i) (b := 1) hx hb dL_law_636 ?_
  refine va_sld hx hb hX hbl hbA hS8 (hin 1 (by decide)) dL_law_637 ?_
  refine cViL [.int (xs (nI (i + 1)).toNatClampNeg)] [.long r8] FX hK (c_X9_mean l D y g hB M P w cN n t rd (xs (nI (i + 1)).toNatClampNeg) hR hIP hc1 hrd) (cwV 1 hts gL_X9_mean rfl rfl rfl (by decide +kernel) ⟨(Nat.le_of_ble_eq_true rfl), (Nat.le_of_ble_eq_true rfl)⟩) hM8 (pre_recv hK hM8 (ci := 9) (q0 := 0) rfl rfl) rfl rfl hl (Nat.le_of_ble_eq_true rfl) dL_law_638 ⟨(Nat.le_of_ble_eq_true rfl), (Nat.le_of_ble_eq_true rfl)⟩ hS8 hBx (fun r9 u9 H9 locs9 hp9 hw9 hS9 hk9 _ => ?_)
  have hw9 : va_P D vwCl (wM y g u9) H9 := hw9
  have hP9 : va_P D vwCl (wC y a u8.1 u8.2 row) H9 := hw8.kept (fun k q hq => hk9 q.1 (hw8 k q hq).lt (fun z => hAB q.1 z ((wC_D hA).2 k q hq)))
  refine W.lcmp hx hb dL_law_641 ?_
  have e : r8 = r9 := (congrArg Prod.fst hp8).trans hp9.1.symm
  have eP := congrArg Prod.snd hp8
  have hIn : INE u8.1 := by
    rw [show u8.1 = _ from eP, s_mean]; exact hI
  have hRn : RQ u8.1 u9 := (show u8.1 = _ from eP) ▸ hp9.2
  refine lv_if_eq (tgt := 1292) hx hb dL_law_642 (by decide) (fun _ => ?_) (fun h => by rw [e] at h; exact absurd (lgc_self r9) h)
  exact kk _ _ _ _ _ _ hP9 hw9 hS9 hRn hIn

set_option maxRecDepth 100000 in
set_option maxHeartbeats 4000000 in
theorem law_14 {p : Program} {l : Launch} {e : Env} {s : State} {m : MethodId} {below : List Frame} {meth : Method} {c : Code} {Q : State → Prop} {b L : Nat} {xs : Nat → Int32} {D : va_G} {y : Nat → ClassId} {a g : Nat → Nat} {H : Heap} {locs : List Loc} {ls : Array Slot} {P X M : PT} {row : Value} {i : Nat}
    (FX : CallFix p m c cL_law 4 s #[Value.ref b] lw_tbl RL) (hK : KK D y s) (hX : va_X b L xs s s.heap) (hbl : b < s.heap.size) (hL : L ≤ 3072) (hA : CA a 44) (hB : CA g 26) (hAx : ∀ q, AC a q → s.heap.size ≤ q) (hBx : ∀ q, AM g q → s.heap.size ≤ q) (hAB : ∀ q, AM g q → ¬ AC a q) (hi : i + 6 ≤ L)
    (hP : va_P D vwCl (wC y a P X row) H) (hM : va_P D vwCl (wM y g M) H) (hS : va_S (fun q => s.heap.size ≤ q) s.heap H locs) (hR : RQ P M) (hI : INE P) (hl : lv_has ls 4 [(3, .int (nI i)), (0, .ref b), (1, .ref (a 0)), (2, .ref (g 0))])
    (kk : ∀ (P' X' M' : PT) (row' : Value) (H' : Heap) (locs' : List Loc), va_P D vwCl (wC y a P' X' row') H' → va_P D vwCl (wM y g M') H' → va_S (fun q => s.heap.size ≤ q) s.heap H' locs' → RQ P' M' → INE P' → W p l e room_1 s m #[Value.ref b] below meth c H' locs' 70 1597 Q (F0 m 1292 ls [])) : W p l e room_1 s m #[Value.ref b] below meth c H locs 70 1597 Q (F0 m 647 ls []) := by
  obtain ⟨hx, hb, hml, hown, hts⟩ := id FX
  have hbA : ¬ (fun q : Nat => s.heap.size ≤ q) b := Nat.not_le.mpr hbl
  obtain ⟨w, cN, n, t, rd, yr, f, hI0⟩ := id hI
  obtain ⟨hIP, hc1, hrd, hsh, hkd, hyr, hwl, hff⟩ := id hI0
  have hin : ∀ j, j < 6 → vp_in (nI (i + j)) L := fun j hj => vp_in_nI (by omega) (by omega)
  refine lv_aload_n hx hb dL_law_647 rfl (lv_at hl 2 rfl) ?_
  refine lv_aload_n hx hb dL_law_648 rfl (lv_at hl 1 rfl) ?_
  refine lv_iload_n hx hb dL_law_649 rfl (lv_at hl 0 rfl) ?_
  refine lv_iconst (v := nI 1) hx hb dL_law_650 rfl ?_
  refine xn_iadd (a := i) (b := 1) hx hb dL_law_651 ?_
  refine va_sld hx hb hX hbl hbA hS (hin 1 (by decide)) dL_law_652 ?_
  refine lv_aload_n hx hb dL_law_653 rfl (lv_at hl 1 rfl) ?_
  refine lv_iload_n hx hb dL_law_654 rfl (lv_at hl 0 rfl) ?_
  refine lv_iconst (v := nI 2) hx hb dL_law_655 rfl ?_
  refine xn_iadd (a := i) (b := 2) hx hb dL_law_656 ?_
  refine va_sld hx hb hX hbl hbA hS (hin 2 (by decide)) dL_law_657 ?_
  refine cViI [.int (xs (nI (i + 1)).toNatClampNeg), .int (xs (nI (i + 2)).toNatClampNeg)] [] FX hK (c_X8_walled l D y a hA P X row w cN n t rd (xs (nI (i + 1)).toNatClampNeg) (xs (nI (i + 2)).toNatClampNeg) hIP hc1 hrd) (cwV 2 hts gL_X8_walled rfl rfl rfl (by decide +kernel) ⟨(Nat.le_of_ble_eq_true rfl), (Nat.le_of_ble_eq_true rfl)⟩) hP (pre_recv hK hP (ci := 8) (q0 := 0) rfl rfl) rfl rfl hl (Nat.le_of_ble_eq_true rfl) dL_law_658 ⟨(Nat.le_of_ble_eq_true rfl), (Nat.le_of_ble_eq_true rfl)⟩ hS hAx (fun r8 u8 H8 locs8 hp8 hw8 hS8 hk8 _ => ?_)
  have hw8 : va_P D vwCl (wC y a u8.1 u8.2 row) H8 := hw8
  have hM8 : va_P D vwCl (wM y g M) H8 := hM.kept (fun k q hq => hk8 q.1 (hM k q hq).lt (hAB q.1 ((wM_D hB).2 k q hq)))
  refine lv_aload_n hx hb dL_law_661 rfl (lv_at hl 3 rfl) ?_
  refine lv_aload_n hx hb dL_law_662 rfl (lv_at hl 1 rfl) ?_
  refine lv_iload_n hx hb dL_law_663 rfl (lv_at hl 0 rfl) ?_
  refine lv_iconst (v := nI 1) hx hb dL_law_664 rfl ?_
  refine xn_iadd (a := i) (b := 1) hx hb dL_law_665 ?_
  refine va_sld hx hb hX hbl hbA hS8 (hin 1 (by decide)) dL_law_666 ?_
  refine lv_aload_n hx hb dL_law_667 rfl (lv_at hl 1 rfl) ?_
  refine lv_iload_n hx hb dL_law_668 rfl (lv_at hl 0 rfl) ?_
  refine lv_iconst (v := nI 2) hx hb dL_law_669 rfl ?_
  refine xn_iadd (a := i) (b := 2) hx hb dL_law_670 ?_
  refine va_sld hx hb hX hbl hbA hS8 (hin 2 (by decide)) dL_law_671 ?_
  refine cViI [.int (xs (nI (i + 1)).toNatClampNeg), .int (xs (nI (i + 2)).toNatClampNeg)] [.int r8] FX hK (c_X9_walled l D y g hB M P w cN n t rd (xs (nI (i + 1)).toNatClampNeg) (xs (nI (i + 2)).toNatClampNeg) hR hIP hc1 hrd) (cwV 2 hts gL_X9_walled rfl rfl rfl (by decide +kernel) ⟨(Nat.le_of_ble_eq_true rfl), (Nat.le_of_ble_eq_true rfl)⟩) hM8 (pre_recv hK hM8 (ci := 9) (q0 := 0) rfl rfl) rfl rfl hl (Nat.le_of_ble_eq_true rfl) dL_law_672 ⟨(Nat.le_of_ble_eq_true rfl), (Nat.le_of_ble_eq_true rfl)⟩ hS8 hBx (fun r9 u9 H9 locs9 hp9 hw9 hS9 hk9 _ => ?_)
  have hw9 : va_P D vwCl (wM y g u9) H9 := hw9
  have hP9 : va_P D vwCl (wC y a u8.1 u8.2 row) H9 := hw8.kept (fun k q hq => hk9 q.1 (hw8 k q hq).lt (fun z => hAB q.1 z ((wC_D hA).2 k q hq)))
  have e : r8 = r9 := (congrArg Prod.fst hp8).trans hp9.1.symm
  have eP := congrArg Prod.snd hp8
  have hIn : INE u8.1 := by
    rw [show u8.1 = _ from eP, s_walled]; exact hI
  have hRn : RQ u8.1 u9 := (show u8.1 = _ from eP) ▸ hp9.2
  refine lv_icmp_eq (tgt := 1292) hx hb dL_law_675 (by decide) (fun _ => ?_) (fun h => by first | exact absurd e h | exact absurd e.symm h)
  exact kk _ _ _ _ _ _ hP9 hw9 hS9 hRn hIn

set_option maxRecDepth 100000 in
set_option maxHeartbeats 4000000 in
theorem law_15 {p : Program} {l : Launch} {e : Env} {s : State} {m : MethodId} {below : List Frame} {meth : Method} {c : Code} {Q : State → Prop} {b L : Nat} {xs : Nat → Int32} {D : va_G} {y : Nat → ClassId} {a g : Nat → Nat} {H : Heap} {locs : List Loc} {ls : Array Slot} {P X M : PT} {row : Value} {i : Nat}
    (FX : CallFix p m c cL_law 4 s #[Value.ref b] lw_tbl RL) (hK : KK D y s) (hX : va_X b L xs s s.heap) (hbl : b < s.heap.size) (hL : L ≤ 3072) (hA : CA a 44) (hB : CA g 26) (hAx : ∀ q, AC a q → s.heap.size ≤ q) (hBx : ∀ q, AM g q → s.heap.size ≤ q) (hAB : ∀ q, AM g q → ¬ AC a q) (hi : i + 6 ≤ L)
    (hP : va_P D vwCl (wC y a P X row) H) (hM : va_P D vwCl (wM y g M) H) (hS : va_S (fun q => s.heap.size ≤ q) s.heap H locs) (hR : RQ P M) (hI : INE P) (hl : lv_has ls 4 [(3, .int (nI i)), (0, .ref b), (1, .ref (a 0)), (2, .ref (g 0))])
    (kk : ∀ (P' X' M' : PT) (row' : Value) (H' : Heap) (locs' : List Loc), va_P D vwCl (wC y a P' X' row') H' → va_P D vwCl (wM y g M') H' → va_S (fun q => s.heap.size ≤ q) s.heap H' locs' → RQ P' M' → INE P' → W p l e room_1 s m #[Value.ref b] below meth c H' locs' 70 1597 Q (F0 m 1292 ls [])) : W p l e room_1 s m #[Value.ref b] below meth c H locs 70 1597 Q (F0 m 680 ls []) := by
  obtain ⟨hx, hb, hml, hown, hts⟩ := id FX
  have hbA : ¬ (fun q : Nat => s.heap.size ≤ q) b := Nat.not_le.mpr hbl
  obtain ⟨w, cN, n, t, rd, yr, f, hI0⟩ := id hI
  obtain ⟨hIP, hc1, hrd, hsh, hkd, hyr, hwl, hff⟩ := id hI0
  have hin : ∀ j, j < 6 → vp_in (nI (i + j)) L := fun j hj => vp_in_nI (by omega) (by omega)
  refine lv_aload_n hx hb dL_law_680 rfl (lv_at hl 2 rfl) ?_
  refine lv_aload_n hx hb dL_law_681 rfl (lv_at hl 1 rfl) ?_
  refine lv_iload_n hx hb dL_law_682 rfl (lv_at hl 0 rfl) ?_
  refine lv_iconst (v := nI 1) hx hb dL_law_683 rfl ?_
  refine xn_iadd (a := i) (b := 1) hx hb dL_law_684 ?_
  refine va_sld hx hb hX hbl hbA hS (hin 1 (by decide)) dL_law_685 ?_
  refine lv_aload_n hx hb dL_law_686 rfl (lv_at hl 1 rfl) ?_
  refine lv_iload_n hx hb dL_law_687 rfl (lv_at hl 0 rfl) ?_
  refine lv_iconst (v := nI 2) hx hb dL_law_688 rfl ?_
  refine xn_iadd (a := i) (b := 2) hx hb dL_law_689 ?_
  refine va_sld hx hb hX hbl hbA hS (hin 2 (by decide)) dL_law_690 ?_
  refine cViI [.int (xs (nI (i + 1)).toNatClampNeg), .int (xs (nI (i + 2)).toNatClampNeg)] [] FX hK (c_X8_raised l D y a hA P X row w cN n t rd (xs (nI (i + 1)).toNatClampNeg) (xs (nI (i + 2)).toNatClampNeg) hIP hc1 hrd) (cwV 2 hts gL_X8_raised rfl rfl rfl (by decide +kernel) ⟨(Nat.le_of_ble_eq_true rfl), (Nat.le_of_ble_eq_true rfl)⟩) hP (pre_recv hK hP (ci := 8) (q0 := 0) rfl rfl) rfl rfl hl (Nat.le_of_ble_eq_true rfl) dL_law_691 ⟨(Nat.le_of_ble_eq_true rfl), (Nat.le_of_ble_eq_true rfl)⟩ hS hAx (fun r8 u8 H8 locs8 hp8 hw8 hS8 hk8 _ => ?_)
  have hw8 : va_P D vwCl (wC y a u8.1 u8.2 row) H8 := hw8
  have hM8 : va_P D vwCl (wM y g M) H8 := hM.kept (fun k q hq => hk8 q.1 (hM k q hq).lt (hAB q.1 ((wM_D hB).2 k q hq)))
  refine lv_aload_n hx hb dL_law_694 rfl (lv_at hl 3 rfl) ?_
  refine lv_aload_n hx hb dL_law_695 rfl (lv_at hl 1 rfl) ?_
  refine lv_iload_n hx hb dL_law_696 rfl (lv_at hl 0 rfl) ?_
  refine lv_iconst (v := nI 1) hx hb dL_law_697 rfl ?_
  refine xn_iadd (a := i) (b := 1) hx hb dL_law_698 ?_
  refine va_sld hx hb hX hbl hbA hS8 (hin 1 (by decide)) dL_law_699 ?_
  refine lv_aload_n hx hb dL_law_700 rfl (lv_at hl 1 rfl) ?_
  refine lv_iload_n hx hb dL_law_701 rfl (lv_at hl 0 rfl) ?_
  refine lv_iconst (v := nI 2) hx hb dL_law_702 rfl ?_
  refine xn_iadd (a := i) (b := 2) hx hb dL_law_703 ?_
  refine va_sld hx hb hX hbl hbA hS8 (hin 2 (by decide)) dL_law_704 ?_
  refine cViI [.int (xs (nI (i + 1)).toNatClampNeg), .int (xs (nI (i + 2)).toNatClampNeg)] [.int r8] FX hK (c_X9_raised l D y g hB M P w cN n t rd (xs (nI (i + 1)).toNatClampNeg) (xs (nI (i + 2)).toNatClampNeg) hR hIP hc1 hrd) (cwV 2 hts gL_X9_raised rfl rfl rfl (by decide +kernel) ⟨(Nat.le_of_ble_eq_true rfl), (Nat.le_of_ble_eq_true rfl)⟩) hM8 (pre_recv hK hM8 (ci := 9) (q0 := 0) rfl rfl) rfl rfl hl (Nat.le_of_ble_eq_true rfl) dL_law_705 ⟨(Nat.le_of_ble_eq_true rfl), (Nat.le_of_ble_eq_true rfl)⟩ hS8 hBx (fun r9 u9 H9 locs9 hp9 hw9 hS9 hk9 _ => ?_)
  have hw9 : va_P D vwCl (wM y g u9) H9 := hw9
  have hP9 : va_P D vwCl (wC y a u8.1 u8.2 row) H9 := hw8.kept (fun k q hq => hk9 q.1 (hw8 k q hq).lt (fun z => hAB q.1 z ((wC_D hA).2 k q hq)))
  have e : r8 = r9 := (congrArg Prod.fst hp8).trans hp9.1.symm
  have eP := congrArg Prod.snd hp8
  have hIn : INE u8.1 := by
    rw [show u8.1 = _ from eP, s_raised]; exact hI
  have hRn : RQ u8.1 u9 := (show u8.1 = _ from eP) ▸ hp9.2
  refine lv_icmp_eq (tgt := 1292) hx hb dL_law_708 (by decide) (fun _ => ?_) (fun h => by first | exact absurd e h | exact absurd e.symm h)
  exact kk _ _ _ _ _ _ hP9 hw9 hS9 hRn hIn

set_option maxRecDepth 100000 in
set_option maxHeartbeats 4000000 in
theorem law_16 {p : Program} {l : Launch} {e : Env} {s : State} {m : MethodId} {below : List Frame} {meth : Method} {c : Code} {Q : State → Prop} {b L : Nat} {xs : Nat → Int32} {D : va_G} {y : Nat → ClassId} {a g : Nat → Nat} {H : Heap} {locs : List Loc} {ls : Array Slot} {P X M : PT} {row : Value} {i : Nat}
    (FX : CallFix p m c cL_law 4 s #[Value.ref b] lw_tbl RL) (hK : KK D y s) (hX : va_X b L xs s s.heap) (hbl : b < s.heap.size) (hL : L ≤ 3072) (hA : CA a 44) (hB : CA g 26) (hAx : ∀ q, AC a q → s.heap.size ≤ q) (hBx : ∀ q, AM g q → s.heap.size ≤ q) (hAB : ∀ q, AM g q → ¬ AC a q) (hi : i + 6 ≤ L)
    (hP : va_P D vwCl (wC y a P X row) H) (hM : va_P D vwCl (wM y g M) H) (hS : va_S (fun q => s.heap.size ≤ q) s.heap H locs) (hR : RQ P M) (hI : INE P) (hl : lv_has ls 4 [(3, .int (nI i)), (0, .ref b), (1, .ref (a 0)), (2, .ref (g 0))])
    (kk : ∀ (P' X' M' : PT) (row' : Value) (H' : Heap) (locs' : List Loc), va_P D vwCl (wC y a P' X' row') H' → va_P D vwCl (wM y g M') H' → va_S (fun q => s.heap.size ≤ q) s.heap H' locs' → RQ P' M' → INE P' → W p l e room_1 s m #[Value.ref b] below meth c H' locs' 70 1597 Q (F0 m 1292 ls [])) : W p l e room_1 s m #[Value.ref b] below meth c H locs 70 1597 Q (F0 m 713 ls []) := by
  obtain ⟨hx, hb, hml, hown, hts⟩ := id FX
  have hbA : ¬ (fun q : Nat => s.heap.size ≤ q) b := Nat.not_le.mpr hbl
  obtain ⟨w, cN, n, t, rd, yr, f, hI0⟩ := id hI
  obtain ⟨hIP, hc1, hrd, hsh, hkd, hyr, hwl, hff⟩ := id hI0
  have hin : ∀ j, j < 6 → vp_in (nI (i + j)) L := fun j hj => vp_in_nI (by omega) (by omega)
  refine lv_aload_n hx hb dL_law_713 rfl (lv_at hl 2 rfl) ?_
  refine lv_aload_n hx hb dL_law_714 rfl (lv_at hl 1 rfl) ?_
  refine lv_iload_n hx hb dL_law_715 rfl (lv_at hl 0 rfl) ?_
  refine lv_iconst (v := nI 1) hx hb dL_law_716 rfl ?_
  refine xn_iadd (a := i) (b := 1) hx hb dL_law_717 ?_
  refine va_sld hx hb hX hbl hbA hS (hin 1 (by decide)) dL_law_718 ?_
  refine lv_aload_n hx hb dL_law_719 rfl (lv_at hl 1 rfl) ?_
  refine lv_iload_n hx hb dL_law_720 rfl (lv_at hl 0 rfl) ?_
  refine lv_iconst (v := nI 2) hx hb dL_law_721 rfl ?_
  refine xn_iadd (a := i) (b := 2) hx hb dL_law_722 ?_
  refine va_sld hx hb hX hbl hbA hS (hin 2 (by decide)) dL_law_723 ?_
  refine cViI [.int (xs (nI (i + 1)).toNatClampNeg), .int (xs (nI (i + 2)).toNatClampNeg)] [] FX hK (c_X8_felling l D y a hA P X row w cN n t rd (xs (nI (i + 1)).toNatClampNeg) (xs (nI (i + 2)).toNatClampNeg) hIP hc1 hrd) (cwV 2 hts gL_X8_felling rfl rfl rfl (by decide +kernel) ⟨(Nat.le_of_ble_eq_true rfl), (Nat.le_of_ble_eq_true rfl)⟩) hP (pre_recv hK hP (ci := 8) (q0 := 0) rfl rfl) rfl rfl hl (Nat.le_of_ble_eq_true rfl) dL_law_724 ⟨(Nat.le_of_ble_eq_true rfl), (Nat.le_of_ble_eq_true rfl)⟩ hS hAx (fun r8 u8 H8 locs8 hp8 hw8 hS8 hk8 _ => ?_)
  have hw8 : va_P D vwCl (wC y a u8.1 u8.2 row) H8 := hw8
  have hM8 : va_P D vwCl (wM y g M) H8 := hM.kept (fun k q hq => hk8 q.1 (hM k q hq).lt (hAB q.1 ((wM_D hB).2 k q hq)))
  refine lv_aload_n hx hb dL_law_727 rfl (lv_at hl 3 rfl) ?_
  refine lv_aload_n hx hb dL_law_728 rfl (lv_at hl 1 rfl) ?_
  refine lv_iload_n hx hb dL_law_729 rfl (lv_at hl 0 rfl) ?_
  refine lv_iconst (v := nI 1) hx hb dL_law_730 rfl ?_
  refine xn_iadd (a := i) (b := 1) hx hb dL_law_731 ?_
  refine va_sld hx hb hX hbl hbA hS8 (hin 1 (by decide)) dL_law_732 ?_
  refine lv_aload_n hx hb dL_law_733 rfl (lv_at hl 1 rfl) ?_
  refine lv_iload_n hx hb dL_law_734 rfl (lv_at hl 0 rfl) ?_
  refine lv_iconst (v := nI 2) hx hb dL_law_735 rfl ?_
  refine xn_iadd (a := i) (b := 2) hx hb dL_law_736 ?_
  refine va_sld hx hb hX hbl hbA hS8 (hin 2 (by decide)) dL_law_737 ?_
  refine cViI [.int (xs (nI (i + 1)).toNatClampNeg), .int (xs (nI (i + 2)).toNatClampNeg)] [.int r8] FX hK (c_X9_felling l D y g hB M P w cN n t rd f (xs (nI (i + 1)).toNatClampNeg) (xs (nI (i + 2)).toNatClampNeg) hR hIP hc1 hrd hff.1 hff.2) (cwV 2 hts gL_X9_felling rfl rfl rfl (by decide +kernel) ⟨(Nat.le_of_ble_eq_true rfl), (Nat.le_of_ble_eq_true rfl)⟩) hM8 (pre_recv hK hM8 (ci := 9) (q0 := 0) rfl rfl) rfl rfl hl (Nat.le_of_ble_eq_true rfl) dL_law_738 ⟨(Nat.le_of_ble_eq_true rfl), (Nat.le_of_ble_eq_true rfl)⟩ hS8 hBx (fun r9 u9 H9 locs9 hp9 hw9 hS9 hk9 _ => ?_)
  have hw9 : va_P D vwCl (wM y g u9) H9 := hw9
  have hP9 : va_P D vwCl (wC y a u8.1 u8.2 row) H9 := hw8.kept (fun k q hq => hk9 q.1 (hw8 k q hq).lt (fun z => hAB q.1 z ((wC_D hA).2 k q hq)))
  have e : r8 = r9 := (congrArg Prod.fst hp8).trans hp9.1.symm
  have eP := congrArg Prod.snd hp8
  have hIn : INE u8.1 := by
    rw [show u8.1 = _ from eP, s_felling]; exact hI
  have hRn : RQ u8.1 u9 := (show u8.1 = _ from eP) ▸ hp9.2
  refine lv_icmp_eq (tgt := 1292) hx hb dL_law_741 (by decide) (fun _ => ?_) (fun h => by first | exact absurd e h | exact absurd e.symm h)
  exact kk _ _ _ _ _ _ hP9 hw9 hS9 hRn hIn

set_option maxRecDepth 100000 in
set_option maxHeartbeats 4000000 in
theorem law_17 {p : Program} {l : Launch} {e : Env} {s : State} {m : MethodId} {below : List Frame} {meth : Method} {c : Code} {Q : State → Prop} {b L : Nat} {xs : Nat → Int32} {D : va_G} {y : Nat → ClassId} {a g : Nat → Nat} {H : Heap} {locs : List Loc} {ls : Array Slot} {P X M : PT} {row : Value} {i : Nat}
    (FX : CallFix p m c cL_law 4 s #[Value.ref b] lw_tbl RL) (hK : KK D y s) (hX : va_X b L xs s s.heap) (hbl : b < s.heap.size) (hL : L ≤ 3072) (hA : CA a 44) (hB : CA g 26) (hAx : ∀ q, AC a q → s.heap.size ≤ q) (hBx : ∀ q, AM g q → s.heap.size ≤ q) (hAB : ∀ q, AM g q → ¬ AC a q) (hi : i + 6 ≤ L)
    (hP : va_P D vwCl (wC y a P X row) H) (hM : va_P D vwCl (wM y g M) H) (hS : va_S (fun q => s.heap.size ≤ q) s.heap H locs) (hR : RQ P M) (hI : INE P) (hl : lv_has ls 4 [(3, .int (nI i)), (0, .ref b), (1, .ref (a 0)), (2, .ref (g 0))])
    (kk : ∀ (P' X' M' : PT) (row' : Value) (H' : Heap) (locs' : List Loc), va_P D vwCl (wC y a P' X' row') H' → va_P D vwCl (wM y g M') H' → va_S (fun q => s.heap.size ≤ q) s.heap H' locs' → RQ P' M' → INE P' → W p l e room_1 s m #[Value.ref b] below meth c H' locs' 70 1597 Q (F0 m 1292 ls [])) : W p l e room_1 s m #[Value.ref b] below meth c H locs 70 1597 Q (F0 m 746 ls []) := by
  obtain ⟨hx, hb, hml, hown, hts⟩ := id FX
  have hbA : ¬ (fun q : Nat => s.heap.size ≤ q) b := Nat.not_le.mpr hbl
  obtain ⟨w, cN, n, t, rd, yr, f, hI0⟩ := id hI
  obtain ⟨hIP, hc1, hrd, hsh, hkd, hyr, hwl, hff⟩ := id hI0
  have hin : ∀ j, j < 6 → vp_in (nI (i + j)) L := fun j hj => vp_in_nI (by omega) (by omega)
  refine lv_aload_n hx hb dL_law_746 rfl (lv_at hl 2 rfl) ?_
  refine lv_aload_n hx hb dL_law_747 rfl (lv_at hl 1 rfl) ?_
  refine lv_iload_n hx hb dL_law_748 rfl (lv_at hl 0 rfl) ?_
  refine lv_iconst (v := nI 1) hx hb dL_law_749 rfl ?_
  refine xn_iadd (a := i) (b := 1) hx hb dL_law_750 ?_
  refine va_sld hx hb hX hbl hbA hS (hin 1 (by decide)) dL_law_751 ?_
  refine lv_aload_n hx hb dL_law_752 rfl (lv_at hl 1 rfl) ?_
  refine lv_iload_n hx hb dL_law_753 rfl (lv_at hl 0 rfl) ?_
  refine lv_iconst (v := nI 2) hx hb dL_law_754 rfl ?_
  refine xn_iadd (a := i) (b := 2) hx hb dL_law_755 ?_
  refine va_sld hx hb hX hbl hbA hS (hin 2 (by decide)) dL_law_756 ?_
  refine lv_aload_n hx hb dL_law_757 rfl (lv_at hl 1 rfl) ?_
  refine lv_iload_n hx hb dL_law_758 rfl (lv_at hl 0 rfl) ?_
  refine lv_iconst (v := nI 3) hx hb dL_law_759 rfl ?_
  refine xn_iadd (a := i) (b := 3) hx hb dL_law_760 ?_
  refine va_sld hx hb hX hbl hbA hS (hin 3 (by decide)) dL_law_761 ?_
  refine cViI [.int (xs (nI (i + 1)).toNatClampNeg), .int (xs (nI (i + 2)).toNatClampNeg), .int (xs (nI (i + 3)).toNatClampNeg)] [] FX hK (c_X8_fresh l D y a hA P X row w cN n t rd (xs (nI (i + 1)).toNatClampNeg) (xs (nI (i + 2)).toNatClampNeg) (xs (nI (i + 3)).toNatClampNeg) hIP hc1 hrd) (cwV 3 hts gL_X8_fresh rfl rfl rfl (by decide +kernel) ⟨(Nat.le_of_ble_eq_true rfl), (Nat.le_of_ble_eq_true rfl)⟩) hP (pre_recv hK hP (ci := 8) (q0 := 0) rfl rfl) rfl rfl hl (Nat.le_of_ble_eq_true rfl) dL_law_762 ⟨(Nat.le_of_ble_eq_true rfl), (Nat.le_of_ble_eq_true rfl)⟩ hS hAx (fun r8 u8 H8 locs8 hp8 hw8 hS8 hk8 _ => ?_)
  have hw8 : va_P D vwCl (wC y a u8.1 u8.2 row) H8 := hw8
  have hM8 : va_P D vwCl (wM y g M) H8 := hM.kept (fun k q hq => hk8 q.1 (hM k q hq).lt (hAB q.1 ((wM_D hB).2 k q hq)))
  refine lv_aload_n hx hb dL_law_765 rfl (lv_at hl 3 rfl) ?_
  refine lv_aload_n hx hb dL_law_766 rfl (lv_at hl 1 rfl) ?_
  refine lv_iload_n hx hb dL_law_767 rfl (lv_at hl 0 rfl) ?_
  refine lv_iconst (v := nI 1) hx hb dL_law_768 rfl ?_
  refine xn_iadd (a := i) (b := 1) hx hb dL_law_769 ?_
  refine va_sld hx hb hX hbl hbA hS8 (hin 1 (by decide)) dL_law_770 ?_
  refine lv_aload_n hx hb dL_law_771 rfl (lv_at hl 1 rfl) ?_
  refine lv_iload_n hx hb dL_law_772 rfl (lv_at hl 0 rfl) ?_
  refine lv_iconst (v := nI 2) hx hb dL_law_773 rfl ?_
  refine xn_iadd (a := i) (b := 2) hx hb dL_law_774 ?_
  refine va_sld hx hb hX hbl hbA hS8 (hin 2 (by decide)) dL_law_775 ?_
  refine lv_aload_n hx hb dL_law_776 rfl (lv_at hl 1 rfl) ?_
  refine lv_iload_n hx hb dL_law_777 rfl (lv_at hl 0 rfl) ?_
  refine lv_iconst (v := nI 3) hx hb dL_law_778 rfl ?_
  refine xn_iadd (a := i) (b := 3) hx hb dL_law_779 ?_
  refine va_sld hx hb hX hbl hbA hS8 (hin 3 (by decide)) dL_law_780 ?_
  refine cViI [.int (xs (nI (i + 1)).toNatClampNeg), .int (xs (nI (i + 2)).toNatClampNeg), .int (xs (nI (i + 3)).toNatClampNeg)] [.int r8] FX hK (c_X9_fresh l D y g hB M P w cN n t rd (xs (nI (i + 1)).toNatClampNeg) (xs (nI (i + 2)).toNatClampNeg) (xs (nI (i + 3)).toNatClampNeg) hR hIP hc1 hrd hwl) (cwV 3 hts gL_X9_fresh rfl rfl rfl (by decide +kernel) ⟨(Nat.le_of_ble_eq_true rfl), (Nat.le_of_ble_eq_true rfl)⟩) hM8 (pre_recv hK hM8 (ci := 9) (q0 := 0) rfl rfl) rfl rfl hl (Nat.le_of_ble_eq_true rfl) dL_law_781 ⟨(Nat.le_of_ble_eq_true rfl), (Nat.le_of_ble_eq_true rfl)⟩ hS8 hBx (fun r9 u9 H9 locs9 hp9 hw9 hS9 hk9 _ => ?_)
  have hw9 : va_P D vwCl (wM y g u9) H9 := hw9
  have hP9 : va_P D vwCl (wC y a u8.1 u8.2 row) H9 := hw8.kept (fun k q hq => hk9 q.1 (hw8 k q hq).lt (fun z => hAB q.1 z ((wC_D hA).2 k q hq)))
  have e : r8 = r9 := (congrArg Prod.fst hp8).trans hp9.1.symm
  have eP := congrArg Prod.snd hp8
  have hIn : INE u8.1 := by
    rw [show u8.1 = _ from eP, s_fresh]; exact hI
  have hRn : RQ u8.1 u9 := (show u8.1 = _ from eP) ▸ hp9.2
  refine lv_icmp_eq (tgt := 1292) hx hb dL_law_784 (by decide) (fun _ => ?_) (fun h => by first | exact absurd e h | exact absurd e.symm h)
  exact kk _ _ _ _ _ _ hP9 hw9 hS9 hRn hIn

