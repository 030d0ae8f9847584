set_option maxRecDepth 100000 in
set_option maxHeartbeats 4000000 in
theorem law_18 {p : Program} {l : Launch} {e : Env} {s : State} {m : MethodId} {below : List Frame} {meth : Method} {c : Code} {Q : State → Prop} {b L : Nat} {xs : Nat → Int32} {D : va_G} {y : Nat → ClassId} {a g : Nat → Nat} {H : Heap} {locs : List Loc} {ls : Array Slot} {P X M : PT} {row : Value} {i : Nat}
    (FX : CallFix p m c cL_law 4 s #[Value.ref b] lw_tbl RL) (hK : KK D y s) (hX : va_X b L xs s s.heap) (hbl : b < s.heap.size) (hL : L ≤ 3072) (hA : CA a 44) (hB : CA g 26) (hAx : ∀ q, AC a q → s.heap.size ≤ q) (hBx : ∀ q, AM g q → s.heap.size ≤ q) (hAB : ∀ q, AM g q → ¬ AC a q) (hi : i + 6 ≤ L)
    (hP : va_P D vwCl (wC y a P X row) H) (hM : va_P D vwCl (wM y g M) H) (hS : va_S (fun q => s.heap.size ≤ q) s.heap H locs) (hR : RQ P M) (hI : INE P) (hl : lv_has ls 4 [(3, .int (nI i)), (0, .ref b), (1, .ref (a 0)), (2, .ref (g 0))])
    (kk : ∀ (P' X' M' : PT) (row' : Value) (H' : Heap) (locs' : List Loc), va_P D vwCl (wC y a P' X' row') H' → va_P D vwCl (wM y g M') H' → va_S (fun q => s.heap.size ≤ q) s.heap H' locs' → RQ P' M' → INE P' → W p l e room_1 s m #[Value.ref b] below meth c H' locs' 70 1597 Q (F0 m 1292 ls [])) : W p l e room_1 s m #[Value.ref b] below meth c H locs 70 1597 Q (F0 m 789 ls []) := by
  obtain ⟨hx, hb, hml, hown, hts⟩ := id FX
  have hbA : ¬ (fun q : Nat => s.heap.size ≤ q) b := Nat.not_le.mpr hbl
  obtain ⟨w, cN, n, t, rd, yr, f, hI0⟩ := id hI
  obtain ⟨hIP, hc1, hrd, hsh, hkd, hyr, hwl, hff⟩ := id hI0
  have hin : ∀ j, j < 6 → vp_in (nI (i + j)) L := fun j hj => vp_in_nI (by omega) (by omega)
  refine lv_aload_n hx hb dL_law_789 rfl (lv_at hl 2 rfl) ?_
  refine lv_aload_n hx hb dL_law_790 rfl (lv_at hl 1 rfl) ?_
  refine lv_iload_n hx hb dL_law_791 rfl (lv_at hl 0 rfl) ?_
  refine lv_iconst (v := nI 1) hx hb dL_law_792 rfl ?_
  refine xn_iadd (a := i) (b := 1) hx hb dL_law_793 ?_
  refine va_sld hx hb hX hbl hbA hS (hin 1 (by decide)) dL_law_794 ?_
  refine lv_aload_n hx hb dL_law_795 rfl (lv_at hl 1 rfl) ?_
  refine lv_iload_n hx hb dL_law_796 rfl (lv_at hl 0 rfl) ?_
  refine lv_iconst (v := nI 2) hx hb dL_law_797 rfl ?_
  refine xn_iadd (a := i) (b := 2) hx hb dL_law_798 ?_
  refine va_sld hx hb hX hbl hbA hS (hin 2 (by decide)) dL_law_799 ?_
  refine cViL [.int (xs (nI (i + 1)).toNatClampNeg), .int (xs (nI (i + 2)).toNatClampNeg)] [] FX hK (c_X8_free l D y a hA P X row w cN n t rd (xs (nI (i + 1)).toNatClampNeg) (xs (nI (i + 2)).toNatClampNeg) hIP hc1 hrd) (cwV 2 hts gL_X8_free rfl rfl rfl (by decide +kernel) ⟨(Nat.le_of_ble_eq_true rfl), (Nat.le_of_ble_eq_true rfl)⟩) hP (pre_recv hK hP (ci := 8) (q0 := 0) rfl rfl) rfl rfl hl (Nat.le_of_ble_eq_true rfl) dL_law_800 ⟨(Nat.le_of_ble_eq_true rfl), (Nat.le_of_ble_eq_true rfl)⟩ hS hAx (fun r8 u8 H8 locs8 hp8 hw8 hS8 hk8 _ => ?_)
  have hw8 : va_P D vwCl (wC y a u8.1 u8.2 row) H8 := hw8
  have hM8 : va_P D vwCl (wM y g M) H8 := hM.kept (fun k q hq => hk8 q.1 (hM k q hq).lt (hAB q.1 ((wM_D hB).2 k q hq)))
  refine lv_aload_n hx hb dL_law_803 rfl (lv_at hl 3 rfl) ?_
  refine lv_aload_n hx hb dL_law_804 rfl (lv_at hl 1 rfl) ?_
  refine lv_iload_n hx hb dL_law_805 rfl (lv_at hl 0 rfl) ?_
  refine lv_iconst (v := nI 1) hx hb dL_law_806 rfl ?_
  refine xn_iadd (a := i) (b := 1) hx hb dL_law_807 ?_
  refine va_sld hx hb hX hbl hbA hS8 (hin 1 (by decide)) dL_law_808 ?_
  refine lv_aload_n hx hb dL_law_809 rfl (lv_at hl 1 rfl) ?_
  refine lv_iload_n hx hb dL_law_810 rfl (lv_at hl 0 rfl) ?_
  refine lv_iconst (v := nI 2) hx hb dL_law_811 rfl ?_
  refine xn_iadd (a := i) (b := 2) hx hb dL_law_812 ?_
  refine va_sld hx hb hX hbl hbA hS8 (hin 2 (by decide)) dL_law_813 ?_
  refine cViL [.int (xs (nI (i + 1)).toNatClampNeg), .int (xs (nI (i + 2)).toNatClampNeg)] [.long r8] FX hK (c_X9_free l D y g hB M P w cN n t rd (xs (nI (i + 1)).toNatClampNeg) (xs (nI (i + 2)).toNatClampNeg) hR hIP hc1 hrd) (cwV 2 hts gL_X9_free rfl rfl rfl (by decide +kernel) ⟨(Nat.le_of_ble_eq_true rfl), (Nat.le_of_ble_eq_true rfl)⟩) hM8 (pre_recv hK hM8 (ci := 9) (q0 := 0) rfl rfl) rfl rfl hl (Nat.le_of_ble_eq_true rfl) dL_law_814 ⟨(Nat.le_of_ble_eq_true rfl), (Nat.le_of_ble_eq_true rfl)⟩ hS8 hBx (fun r9 u9 H9 locs9 hp9 hw9 hS9 hk9 _ => ?_)
  have hw9 : va_P D vwCl (wM y g u9) H9 := hw9
  have hP9 : va_P D vwCl (wC y a u8.1 u8.2 row) H9 := hw8.kept (fun k q hq => hk9 q.1 (hw8 k q hq).lt (fun z => hAB q.1 z ((wC_D hA).2 k q hq)))
  refine W.lcmp hx hb dL_law_817 ?_
  have e : r8 = r9 := (congrArg Prod.fst hp8).trans hp9.1.symm
  have eP := congrArg Prod.snd hp8
  have hIn : INE u8.1 := by
    rw [show u8.1 = _ from eP, s_free]; exact hI
  have hRn : RQ u8.1 u9 := (show u8.1 = _ from eP) ▸ hp9.2
  refine lv_if_eq (tgt := 1292) hx hb dL_law_818 (by decide) (fun _ => ?_) (fun h => by rw [e] at h; exact absurd (lgc_self r9) h)
  exact kk _ _ _ _ _ _ hP9 hw9 hS9 hRn hIn

set_option maxRecDepth 100000 in
set_option maxHeartbeats 4000000 in
theorem law_19 {p : Program} {l : Launch} {e : Env} {s : State} {m : MethodId} {below : List Frame} {meth : Method} {c : Code} {Q : State → Prop} {b L : Nat} {xs : Nat → Int32} {D : va_G} {y : Nat → ClassId} {a g : Nat → Nat} {H : Heap} {locs : List Loc} {ls : Array Slot} {P X M : PT} {row : Value} {i : Nat}
    (FX : CallFix p m c cL_law 4 s #[Value.ref b] lw_tbl RL) (hK : KK D y s) (hX : va_X b L xs s s.heap) (hbl : b < s.heap.size) (hL : L ≤ 3072) (hA : CA a 44) (hB : CA g 26) (hAx : ∀ q, AC a q → s.heap.size ≤ q) (hBx : ∀ q, AM g q → s.heap.size ≤ q) (hAB : ∀ q, AM g q → ¬ AC a q) (hi : i + 6 ≤ L)
    (hP : va_P D vwCl (wC y a P X row) H) (hM : va_P D vwCl (wM y g M) H) (hS : va_S (fun q => s.heap.size ≤ q) s.heap H locs) (hR : RQ P M) (hI : INE P) (hl : lv_has ls 4 [(3, .int (nI i)), (0, .ref b), (1, .ref (a 0)), (2, .ref (g 0))])
    (kk : ∀ (P' X' M' : PT) (row' : Value) (H' : Heap) (locs' : List Loc), va_P D vwCl (wC y a P' X' row') H' → va_P D vwCl (wM y g M') H' → va_S (fun q => s.heap.size ≤ q) s.heap H' locs' → RQ P' M' → INE P' → W p l e room_1 s m #[Value.ref b] below meth c H' locs' 70 1597 Q (F0 m 1292 ls [])) : W p l e room_1 s m #[Value.ref b] below meth c H locs 70 1597 Q (F0 m 823 ls []) := by
  obtain ⟨hx, hb, hml, hown, hts⟩ := id FX
  have hbA : ¬ (fun q : Nat => s.heap.size ≤ q) b := Nat.not_le.mpr hbl
  obtain ⟨w, cN, n, t, rd, yr, f, hI0⟩ := id hI
  obtain ⟨hIP, hc1, hrd, hsh, hkd, hyr, hwl, hff⟩ := id hI0
  have hin : ∀ j, j < 6 → vp_in (nI (i + j)) L := fun j hj => vp_in_nI (by omega) (by omega)
  refine lv_aload_n hx hb dL_law_823 rfl (lv_at hl 2 rfl) ?_
  refine lv_aload_n hx hb dL_law_824 rfl (lv_at hl 1 rfl) ?_
  refine lv_iload_n hx hb dL_law_825 rfl (lv_at hl 0 rfl) ?_
  refine lv_iconst (v := nI 1) hx hb dL_law_826 rfl ?_
  refine xn_iadd (a := i) (b := 1) hx hb dL_law_827 ?_
  refine va_sld hx hb hX hbl hbA hS (hin 1 (by decide)) dL_law_828 ?_
  refine cViI [.int (xs (nI (i + 1)).toNatClampNeg)] [] FX hK (c_X8_change l D y a hA P X row w cN n t rd yr (xs (nI (i + 1)).toNatClampNeg) hIP hc1 hrd hyr.1 hyr.2) (cwV 1 hts gL_X8_change rfl rfl rfl (by decide +kernel) ⟨(Nat.le_of_ble_eq_true rfl), (Nat.le_of_ble_eq_true rfl)⟩) hP (pre_recv hK hP (ci := 8) (q0 := 0) rfl rfl) rfl rfl hl (Nat.le_of_ble_eq_true rfl) dL_law_829 ⟨(Nat.le_of_ble_eq_true rfl), (Nat.le_of_ble_eq_true rfl)⟩ hS hAx (fun r8 u8 H8 locs8 hp8 hw8 hS8 hk8 _ => ?_)
  have hw8 : va_P D vwCl (wC y a u8.1 u8.2 row) H8 := hw8
  have hM8 : va_P D vwCl (wM y g M) H8 := hM.kept (fun k q hq => hk8 q.1 (hM k q hq).lt (hAB q.1 ((wM_D hB).2 k q hq)))
  refine lv_aload_n hx hb dL_law_832 rfl (lv_at hl 3 rfl) ?_
  refine lv_aload_n hx hb dL_law_833 rfl (lv_at hl 1 rfl) ?_
  refine lv_iload_n hx hb dL_law_834 rfl (lv_at hl 0 rfl) ?_
  refine lv_iconst (v := nI 1) hx hb dL_law_835 rfl ?_
  refine xn_iadd (a := i) (b := 1) hx hb dL_law_836 ?_
  refine va_sld hx hb hX hbl hbA hS8 (hin 1 (by decide)) dL_law_837 ?_
  refine cViI [.int (xs (nI (i + 1)).toNatClampNeg)] [.int r8] FX hK (c_X9_change l D y g hB M P w cN n t rd yr (xs (nI (i + 1)).toNatClampNeg) hR hIP hc1 hrd hyr.1 hyr.2) (cwV 1 hts gL_X9_change rfl rfl rfl (by decide +kernel) ⟨(Nat.le_of_ble_eq_true rfl), (Nat.le_of_ble_eq_true rfl)⟩) hM8 (pre_recv hK hM8 (ci := 9) (q0 := 0) rfl rfl) rfl rfl hl (Nat.le_of_ble_eq_true rfl) dL_law_838 ⟨(Nat.le_of_ble_eq_true rfl), (Nat.le_of_ble_eq_true rfl)⟩ hS8 hBx (fun r9 u9 H9 locs9 hp9 hw9 hS9 hk9 _ => ?_)
  have hw9 : va_P D vwCl (wM y g u9) H9 := hw9
  have hP9 : va_P D vwCl (wC y a u8.1 u8.2 row) H9 := hw8.kept (fun k q hq => hk9 q.1 (hw8 k q hq).lt (fun z => hAB q.1 z ((wC_D hA).2 k q hq)))
  have e : r8 = r9 := (congrArg Prod.fst hp8).trans hp9.1.symm
  have eP := congrArg Prod.snd hp8
  have hIn : INE u8.1 := by
    rw [show u8.1 = _ from eP, s_change]; exact hI
  have hRn : RQ u8.1 u9 := (show u8.1 = _ from eP) ▸ hp9.2
  refine lv_icmp_eq (tgt := 1292) hx hb dL_law_841 (by decide) (fun _ => ?_) (fun h => by first | exact absurd e h | exact absurd e.symm h)
  exact kk _ _ _ _ _ _ hP9 hw9 hS9 hRn hIn

set_option maxRecDepth 100000 in
set_option maxHeartbeats 4000000 in
theorem law_20 {p : Program} {l : Launch} {e : Env} {s : State} {m : MethodId} {below : List Frame} {meth : Method} {c : Code} {Q : State → Prop} {b L : Nat} {xs : Nat → Int32} {D : va_G} {y : Nat → ClassId} {a g : Nat → Nat} {H : Heap} {locs : List Loc} {ls : Array Slot} {P X M : PT} {row : Value} {i : Nat}
    (FX : CallFix p m c cL_law 4 s #[Value.ref b] lw_tbl RL) (hK : KK D y s) (hX : va_X b L xs s s.heap) (hbl : b < s.heap.size) (hL : L ≤ 3072) (hA : CA a 44) (hB : CA g 26) (hAx : ∀ q, AC a q → s.heap.size ≤ q) (hBx : ∀ q, AM g q → s.heap.size ≤ q) (hAB : ∀ q, AM g q → ¬ AC a q) (hi : i + 6 ≤ L)
    (hP : va_P D vwCl (wC y a P X row) H) (hM : va_P D vwCl (wM y g M) H) (hS : va_S (fun q => s.heap.size ≤ q) s.heap H locs) (hR : RQ P M) (hI : INE P) (hl : lv_has ls 4 [(3, .int (nI i)), (0, .ref b), (1, .ref (a 0)), (2, .ref (g 0))])
    (kk : ∀ (P' X' M' : PT) (row' : Value) (H' : Heap) (locs' : List Loc), va_P D vwCl (wC y a P' X' row') H' → va_P D vwCl (wM y g M') H' → va_S (fun q => s.heap.size ≤ q) s.heap H' locs' → RQ P' M' → INE P' → W p l e room_1 s m #[Value.ref b] below meth c H' locs' 70 1597 Q (F0 m 1292 ls [])) : W p l e room_1 s m #[Value.ref b] below meth c H locs 70 1597 Q (F0 m 846 ls []) := by
  obtain ⟨hx, hb, hml, hown, hts⟩ := id FX
  have hbA : ¬ (fun q : Nat => s.heap.size ≤ q) b := Nat.not_le.mpr hbl
  obtain ⟨w, cN, n, t, rd, yr, f, hI0⟩ := id hI
  obtain ⟨hIP, hc1, hrd, hsh, hkd, hyr, hwl, hff⟩ := id hI0
  have hin : ∀ j, j < 6 → vp_in (nI (i + j)) L := fun j hj => vp_in_nI (by omega) (by omega)
  refine lv_aload_n hx hb dL_law_846 rfl (lv_at hl 2 rfl) ?_
  refine lv_aload_n hx hb dL_law_847 rfl (lv_at hl 1 rfl) ?_
  refine lv_iload_n hx hb dL_law_848 rfl (lv_at hl 0 rfl) ?_
  refine lv_iconst (v := nI 1) hx hb dL_law_849 rfl ?_
  refine xn_iadd (a := i) (b := 1) hx hb dL_law_850 ?_
  refine va_sld hx hb hX hbl hbA hS (hin 1 (by decide)) dL_law_851 ?_
  refine lv_aload_n hx hb dL_law_852 rfl (lv_at hl 1 rfl) ?_
  refine lv_iload_n hx hb dL_law_853 rfl (lv_at hl 0 rfl) ?_
  refine lv_iconst (v := nI 2) hx hb dL_law_854 rfl ?_
  refine xn_iadd (a := i) (b := 2) hx hb dL_law_855 ?_
  refine va_sld hx hb hX hbl hbA hS (hin 2 (by decide)) dL_law_856 ?_
  refine lv_aload_n hx hb dL_law_857 rfl (lv_at hl 1 rfl) ?_
  refine lv_iload_n hx hb dL_law_858 rfl (lv_at hl 0 rfl) ?_
  refine lv_iconst (v := nI 3) hx hb dL_law_859 rfl ?_
  refine xn_iadd (a := i) (b := 3) hx hb dL_law_860 ?_
  refine va_sld hx hb hX hbl hbA hS (hin 3 (by decide)) dL_law_861 ?_
  refine cViI [.int (xs (nI (i + 1)).toNatClampNeg), .int (xs (nI (i + 2)).toNatClampNeg), .int (xs (nI (i + 3)).toNatClampNeg)] [] FX hK (c_X8_reading l D y a hA P X row w cN n t rd (xs (nI (i + 1)).toNatClampNeg) (xs (nI (i + 2)).toNatClampNeg) (xs (nI (i + 3)).toNatClampNeg) hIP hc1 hrd) (cwV 3 hts gL_X8_reading rfl rfl rfl (by decide +kernel) ⟨(Nat.le_of_ble_eq_true rfl), (Nat.le_of_ble_eq_true rfl)⟩) hP (pre_recv hK hP (ci := 8) (q0 := 0) rfl rfl) rfl rfl hl (Nat.le_of_ble_eq_true rfl) dL_law_862 ⟨(Nat.le_of_ble_eq_true rfl), (Nat.le_of_ble_eq_true rfl)⟩ hS hAx (fun r8 u8 H8 locs8 hp8 hw8 hS8 hk8 _ => ?_)
  have hw8 : va_P D vwCl (wC y a u8.1 u8.2 row) H8 := hw8
  have hM8 : va_P D vwCl (wM y g M) H8 := hM.kept (fun k q hq => hk8 q.1 (hM k q hq).lt (hAB q.1 ((wM_D hB).2 k q hq)))
  refine lv_aload_n hx hb dL_law_865 rfl (lv_at hl 3 rfl) ?_
  refine lv_aload_n hx hb dL_law_866 rfl (lv_at hl 1 rfl) ?_
  refine lv_iload_n hx hb dL_law_867 rfl (lv_at hl 0 rfl) ?_
  refine lv_iconst (v := nI 1) hx hb dL_law_868 rfl ?_
  refine xn_iadd (a := i) (b := 1) hx hb dL_law_869 ?_
  refine va_sld hx hb hX hbl hbA hS8 (hin 1 (by decide)) dL_law_870 ?_
  refine lv_aload_n hx hb dL_law_871 rfl (lv_at hl 1 rfl) ?_
  refine lv_iload_n hx hb dL_law_872 rfl (lv_at hl 0 rfl) ?_
  refine lv_iconst (v := nI 2) hx hb dL_law_873 rfl ?_
  refine xn_iadd (a := i) (b := 2) hx hb dL_law_874 ?_
  refine va_sld hx hb hX hbl hbA hS8 (hin 2 (by decide)) dL_law_875 ?_
  refine lv_aload_n hx hb dL_law_876 rfl (lv_at hl 1 rfl) ?_
  refine lv_iload_n hx hb dL_law_877 rfl (lv_at hl 0 rfl) ?_
  refine lv_iconst (v := nI 3) hx hb dL_law_878 rfl ?_
  refine xn_iadd (a := i) (b := 3) hx hb dL_law_879 ?_
  refine va_sld hx hb hX hbl hbA hS8 (hin 3 (by decide)) dL_law_880 ?_
  refine cViI [.int (xs (nI (i + 1)).toNatClampNeg), .int (xs (nI (i + 2)).toNatClampNeg), .int (xs (nI (i + 3)).toNatClampNeg)] [.int r8] FX hK (c_X9_reading l D y g hB M P w cN n t rd (xs (nI (i + 1)).toNatClampNeg) (xs (nI (i + 2)).toNatClampNeg) (xs (nI (i + 3)).toNatClampNeg) hR hIP hc1 hrd) (cwV 3 hts gL_X9_reading rfl rfl rfl (by decide +kernel) ⟨(Nat.le_of_ble_eq_true rfl), (Nat.le_of_ble_eq_true rfl)⟩) hM8 (pre_recv hK hM8 (ci := 9) (q0 := 0) rfl rfl) rfl rfl hl (Nat.le_of_ble_eq_true rfl) dL_law_881 ⟨(Nat.le_of_ble_eq_true rfl), (Nat.le_of_ble_eq_true rfl)⟩ hS8 hBx (fun r9 u9 H9 locs9 hp9 hw9 hS9 hk9 _ => ?_)
  have hw9 : va_P D vwCl (wM y g u9) H9 := hw9
  have hP9 : va_P D vwCl (wC y a u8.1 u8.2 row) H9 := hw8.kept (fun k q hq => hk9 q.1 (hw8 k q hq).lt (fun z => hAB q.1 z ((wC_D hA).2 k q hq)))
  have e : r8 = r9 := (congrArg Prod.fst hp8).trans hp9.1.symm
  have eP := congrArg Prod.snd hp8
  have hIn : INE u8.1 := (show u8.1 = _ from eP) ▸ ine_reading hI0 (xs (nI (i + 1)).toNatClampNeg) (xs (nI (i + 2)).toNatClampNeg) (xs (nI (i + 3)).toNatClampNeg)
  have hRn : RQ u8.1 u9 := (show u8.1 = _ from eP) ▸ hp9.2
  refine lv_icmp_eq (tgt := 1292) hx hb dL_law_884 (by decide) (fun _ => ?_) (fun h => by first | exact absurd e h | exact absurd e.symm h)
  exact kk _ _ _ _ _ _ hP9 hw9 hS9 hRn hIn

set_option maxRecDepth 100000 in
set_option maxHeartbeats 4000000 in
theorem law_21 {p : Program} {l : Launch} {e : Env} {s : State} {m : MethodId} {below : List Frame} {meth : Method} {c : Code} {Q : State → Prop} {b L : Nat} {xs : Nat → Int32} {D : va_G} {y : Nat → ClassId} {a g : Nat → Nat} {H : Heap} {locs : List Loc} {ls : Array Slot} {P X M : PT} {row : Value} {i : Nat}
    (FX : CallFix p m c cL_law 4 s #[Value.ref b] lw_tbl RL) (hK : KK D y s) (hX : va_X b L xs s s.heap) (hbl : b < s.heap.size) (hL : L ≤ 3072) (hA : CA a 44) (hB : CA g 26) (hAx : ∀ q, AC a q → s.heap.size ≤ q) (hBx : ∀ q, AM g q → s.heap.size ≤ q) (hAB : ∀ q, AM g q → ¬ AC a q) (hi : i + 6 ≤ L)
    (hP : va_P D vwCl (wC y a P X row) H) (hM : va_P D vwCl (wM y g M) H) (hS : va_S (fun q => s.heap.size ≤ q) s.heap H locs) (hR : RQ P M) (hI : INE P) (hl : lv_has ls 4 [(3, .int (nI i)), (0, .ref b), (1, .ref (a 0)), (2, .ref (g 0))])
    (kk : ∀ (P' X' M' : PT) (row' : Value) (H' : Heap) (locs' : List Loc), va_P D vwCl (wC y a P' X' row') H' → va_P D vwCl (wM y g M') H' → va_S (fun q => s.heap.size ≤ q) s.heap H' locs' → RQ P' M' → INE P' → W p l e room_1 s m #[Value.ref b] below meth c H' locs' 70 1597 Q (F0 m 1292 ls [])) : W p l e room_1 s m #[Value.ref b] below meth c H locs 70 1597 Q (F0 m 889 ls []) := by
  obtain ⟨hx, hb, hml, hown, hts⟩ := id FX
  have hbA : ¬ (fun q : Nat => s.heap.size ≤ q) b := Nat.not_le.mpr hbl
  obtain ⟨w, cN, n, t, rd, yr, f, hI0⟩ := id hI
  obtain ⟨hIP, hc1, hrd, hsh, hkd, hyr, hwl, hff⟩ := id hI0
  have hin : ∀ j, j < 6 → vp_in (nI (i + j)) L := fun j hj => vp_in_nI (by omega) (by omega)
  refine lv_aload_n hx hb dL_law_889 rfl (lv_at hl 2 rfl) ?_
  refine lv_aload_n hx hb dL_law_890 rfl (lv_at hl 1 rfl) ?_
  refine lv_iload_n hx hb dL_law_891 rfl (lv_at hl 0 rfl) ?_
  refine lv_iconst (v := nI 1) hx hb dL_law_892 rfl ?_
  refine xn_iadd (a := i) (b := 1) hx hb dL_law_893 ?_
  refine va_sld hx hb hX hbl hbA hS (hin 1 (by decide)) dL_law_894 ?_
  refine cViI [.int (xs (nI (i + 1)).toNatClampNeg)] [] FX hK (c_X8_back l D y a hA P X row w cN n t rd (xs (nI (i + 1)).toNatClampNeg) hIP hc1 hrd) (cwV 1 hts gL_X8_back rfl rfl rfl (by decide +kernel) ⟨(Nat.le_of_ble_eq_true rfl), (Nat.le_of_ble_eq_true rfl)⟩) hP (pre_recv hK hP (ci := 8) (q0 := 0) rfl rfl) rfl rfl hl (Nat.le_of_ble_eq_true rfl) dL_law_895 ⟨(Nat.le_of_ble_eq_true rfl), (Nat.le_of_ble_eq_true rfl)⟩ hS hAx (fun r8 u8 H8 locs8 hp8 hw8 hS8 hk8 _ => ?_)
  have hw8 : va_P D vwCl (wC y a u8.1 u8.2 row) H8 := hw8
  have hM8 : va_P D vwCl (wM y g M) H8 := hM.kept (fun k q hq => hk8 q.1 (hM k q hq).lt (hAB q.1 ((wM_D hB).2 k q hq)))
  refine lv_aload_n hx hb dL_law_898 rfl (lv_at hl 3 rfl) ?_
  refine lv_aload_n hx hb dL_law_899 rfl (lv_at hl 1 rfl) ?_
  refine lv_iload_n hx hb dL_law_900 rfl (lv_at hl 0 rfl) ?_
  refine lv_iconst (v := nI 1) hx hb dL_law_901 rfl ?_
  refine xn_iadd (a := i) (b := 1) hx hb dL_law_902 ?_
  refine va_sld hx hb hX hbl hbA hS8 (hin 1 (by decide)) dL_law_903 ?_
  refine cViI [.int (xs (nI (i + 1)).toNatClampNeg)] [.int r8] FX hK (c_X9_back l D y g hB M P w cN n t rd (xs (nI (i + 1)).toNatClampNeg) hR hIP hc1 hrd) (cwV 1 hts gL_X9_back rfl rfl rfl (by decide +kernel) ⟨(Nat.le_of_ble_eq_true rfl), (Nat.le_of_ble_eq_true rfl)⟩) hM8 (pre_recv hK hM8 (ci := 9) (q0 := 0) rfl rfl) rfl rfl hl (Nat.le_of_ble_eq_true rfl) dL_law_904 ⟨(Nat.le_of_ble_eq_true rfl), (Nat.le_of_ble_eq_true rfl)⟩ hS8 hBx (fun r9 u9 H9 locs9 hp9 hw9 hS9 hk9 _ => ?_)
  have hw9 : va_P D vwCl (wM y g u9) H9 := hw9
  have hP9 : va_P D vwCl (wC y a u8.1 u8.2 row) H9 := hw8.kept (fun k q hq => hk9 q.1 (hw8 k q hq).lt (fun z => hAB q.1 z ((wC_D hA).2 k q hq)))
  have e : r8 = r9 := (congrArg Prod.fst hp8).trans hp9.1.symm
  have eP := congrArg Prod.snd hp8
  have hIn : INE u8.1 := (show u8.1 = _ from eP) ▸ ine_back hI0 (xs (nI (i + 1)).toNatClampNeg)
  have hRn : RQ u8.1 u9 := (show u8.1 = _ from eP) ▸ hp9.2
  refine lv_icmp_eq (tgt := 1292) hx hb dL_law_907 (by decide) (fun _ => ?_) (fun h => by first | exact absurd e h | exact absurd e.symm h)
  exact kk _ _ _ _ _ _ hP9 hw9 hS9 hRn hIn

set_option maxRecDepth 100000 in
set_option maxHeartbeats 4000000 in
theorem law_22 {p : Program} {l : Launch} {e : Env} {s : State} {m : MethodId} {below : List Frame} {meth : Method} {c : Code} {Q : State → Prop} {b L : Nat} {xs : Nat → Int32} {D : va_G} {y : Nat → ClassId} {a g : Nat → Nat} {H : Heap} {locs : List Loc} {ls : Array Slot} {P X M : PT} {row : Value} {i : Nat}
    (FX : CallFix p m c cL_law 4 s #[Value.ref b] lw_tbl RL) (hK : KK D y s) (hX : va_X b L xs s s.heap) (hbl : b < s.heap.size) (hL : L ≤ 3072) (hA : CA a 44) (hB : CA g 26) (hAx : ∀ q, AC a q → s.heap.size ≤ q) (hBx : ∀ q, AM g q → s.heap.size ≤ q) (hAB : ∀ q, AM g q → ¬ AC a q) (hi : i + 6 ≤ L)
    (hP : va_P D vwCl (wC y a P X row) H) (hM : va_P D vwCl (wM y g M) H) (hS : va_S (fun q => s.heap.size ≤ q) s.heap H locs) (hR : RQ P M) (hI : INE P) (hl : lv_has ls 4 [(3, .int (nI i)), (0, .ref b), (1, .ref (a 0)), (2, .ref (g 0))])
    (kk : ∀ (P' X' M' : PT) (row' : Value) (H' : Heap) (locs' : List Loc), va_P D vwCl (wC y a P' X' row') H' → va_P D vwCl (wM y g M') H' → va_S (fun q => s.heap.size ≤ q) s.heap H' locs' → RQ P' M' → INE P' → W p l e room_1 s m #[Value.ref b] below meth c H' locs' 70 1597 Q (F0 m 1292 ls [])) : W p l e room_1 s m #[Value.ref b] below meth c H locs 70 1597 Q (F0 m 912 ls []) := by
  obtain ⟨hx, hb, hml, hown, hts⟩ := id FX
  have hbA : ¬ (fun q : Nat => s.heap.size ≤ q) b := Nat.not_le.mpr hbl
  obtain ⟨w, cN, n, t, rd, yr, f, hI0⟩ := id hI
  obtain ⟨hIP, hc1, hrd, hsh, hkd, hyr, hwl, hff⟩ := id hI0
  have hin : ∀ j, j < 6 → vp_in (nI (i + j)) L := fun j hj => vp_in_nI (by omega) (by omega)
  refine lv_aload_n hx hb dL_law_912 rfl (lv_at hl 2 rfl) ?_
  refine cViI [] [] FX hK (c_X8_fogs l D y a hA P X row w cN n t rd hIP hc1 hrd) (cwV 0 hts gL_X8_fogs rfl rfl rfl (by decide +kernel) ⟨(Nat.le_of_ble_eq_true rfl), (Nat.le_of_ble_eq_true rfl)⟩) hP (pre_recv hK hP (ci := 8) (q0 := 0) rfl rfl) rfl rfl hl (Nat.le_of_ble_eq_true rfl) dL_law_913 ⟨(Nat.le_of_ble_eq_true rfl), (Nat.le_of_ble_eq_true rfl)⟩ hS hAx (fun r8 u8 H8 locs8 hp8 hw8 hS8 hk8 _ => ?_)
  have hw8 : va_P D vwCl (wC y a u8.1 u8.2 row) H8 := hw8
  have hM8 : va_P D vwCl (wM y g M) H8 := hM.kept (fun k q hq => hk8 q.1 (hM k q hq).lt (hAB q.1 ((wM_D hB).2 k q hq)))
  refine lv_aload_n hx hb dL_law_916 rfl (lv_at hl 3 rfl) ?_
  refine cViI [] [.int r8] FX hK (c_X9_fogs l D y g hB M P w cN n t rd hR hIP hc1 hrd) (cwV 0 hts gL_X9_fogs rfl rfl rfl (by decide +kernel) ⟨(Nat.le_of_ble_eq_true rfl), (Nat.le_of_ble_eq_true rfl)⟩) hM8 (pre_recv hK hM8 (ci := 9) (q0 := 0) rfl rfl) rfl rfl hl (Nat.le_of_ble_eq_true rfl) dL_law_917 ⟨(Nat.le_of_ble_eq_true rfl), (Nat.le_of_ble_eq_true rfl)⟩ hS8 hBx (fun r9 u9 H9 locs9 hp9 hw9 hS9 hk9 _ => ?_)
  have hw9 : va_P D vwCl (wM y g u9) H9 := hw9
  have hP9 : va_P D vwCl (wC y a u8.1 u8.2 row) H9 := hw8.kept (fun k q hq => hk9 q.1 (hw8 k q hq).lt (fun z => hAB q.1 z ((wC_D hA).2 k q hq)))
  have e : r8 = r9 := (congrArg Prod.fst hp8).trans hp9.1.symm
  have eP := congrArg Prod.snd hp8
  have hIn : INE u8.1 := by
    rw [show u8.1 = _ from eP, s_fogs]; exact hI
  have hRn : RQ u8.1 u9 := (show u8.1 = _ from eP) ▸ hp9.2
  refine lv_icmp_eq (tgt := 1292) hx hb dL_law_920 (by decide) (fun _ => ?_) (fun h => by first | exact absurd e h | exact absurd e.symm h)
  exact kk _ _ _ _ _ _ hP9 hw9 hS9 hRn hIn

set_option maxRecDepth 100000 in
set_option maxHeartbeats 4000000 in
theorem law_23 {p : Program} {l : Launch} {e : Env} {s : State} {m : MethodId} {below : List Frame} {meth : Method} {c : Code} {Q : State → Prop} {b L : Nat} {xs : Nat → Int32} {D : va_G} {y : Nat → ClassId} {a g : Nat → Nat} {H : Heap} {locs : List Loc} {ls : Array Slot} {P X M : PT} {row : Value} {i : Nat}
    (FX : CallFix p m c cL_law 4 s #[Value.ref b] lw_tbl RL) (hK : KK D y s) (hX : va_X b L xs s s.heap) (hbl : b < s.heap.size) (hL : L ≤ 3072) (hA : CA a 44) (hB : CA g 26) (hAx : ∀ q, AC a q → s.heap.size ≤ q) (hBx : ∀ q, AM g q → s.heap.size ≤ q) (hAB : ∀ q, AM g q → ¬ AC a q) (hi : i + 6 ≤ L)
    (hP : va_P D vwCl (wC y a P X row) H) (hM : va_P D vwCl (wM y g M) H) (hS : va_S (fun q => s.heap.size ≤ q) s.heap H locs) (hR : RQ P M) (hI : INE P) (hl : lv_has ls 4 [(3, .int (nI i)), (0, .ref b), (1, .ref (a 0)), (2, .ref (g 0))])
    (kk : ∀ (P' X' M' : PT) (row' : Value) (H' : Heap) (locs' : List Loc), va_P D vwCl (wC y a P' X' row') H' → va_P D vwCl (wM y g M') H' → va_S (fun q => s.heap.size ≤ q) s.heap H' locs' → RQ P' M' → INE P' → W p l e room_1 s m #[Value.ref b] below meth c H' locs' 70 1597 Q (F0 m 1292 ls [])) : W p l e room_1 s m #[Value.ref b] below meth c H locs 70 1597 Q (F0 m 925 ls []) := by
  obtain ⟨hx, hb, hml, hown, hts⟩ := id FX
  have hbA : ¬ (fun q : Nat => s.heap.size ≤ q) b := Nat.not_le.mpr hbl
  obtain ⟨w, cN, n, t, rd, yr, f, hI0⟩ := id hI
  obtain ⟨hIP, hc1, hrd, hsh, hkd, hyr, hwl, hff⟩ := id hI0
  have hin : ∀ j, j < 6 → vp_in (nI (i + j)) L := fun j hj => vp_in_nI (by omega) (by omega)
  refine lv_aload_n hx hb dL_law_925 rfl (lv_at hl 2 rfl) ?_
  refine lv_aload_n hx hb dL_law_926 rfl (lv_at hl 1 rfl) ?_
  refine lv_iload_n hx hb dL_law_927 rfl (lv_at hl 0 rfl) ?_
  refine lv_iconst (v := nI 1) hx hb dL_law_928 rfl ?_
  refine xn_iadd (a := i) (b := 1) hx hb dL_law_929 ?_
  refine va_sld hx hb hX hbl hbA hS (hin 1 (by decide)) dL_law_930 ?_
  refine cViI [.int (xs (nI (i + 1)).toNatClampNeg)] [] FX hK (c_X8_stood l D y a hA P X row w cN n t rd (xs (nI (i + 1)).toNatClampNeg) hIP hc1 hrd) (cwV 1 hts gL_X8_stood rfl rfl rfl (by decide +kernel) ⟨(Nat.le_of_ble_eq_true rfl), (Nat.le_of_ble_eq_true rfl)⟩) hP (pre_recv hK hP (ci := 8) (q0 := 0) rfl rfl) rfl rfl hl (Nat.le_of_ble_eq_true rfl) dL_law_931 ⟨(Nat.le_of_ble_eq_true rfl), (Nat.le_of_ble_eq_true rfl)⟩ hS hAx (fun r8 u8 H8 locs8 hp8 hw8 hS8 hk8 _ => ?_)
  have hw8 : va_P D vwCl (wC y a u8.1 u8.2 row) H8 := hw8
  have hM8 : va_P D vwCl (wM y g M) H8 := hM.kept (fun k q hq => hk8 q.1 (hM k q hq).lt (hAB q.1 ((wM_D hB).2 k q hq)))
  refine lv_aload_n hx hb dL_law_934 rfl (lv_at hl 3 rfl) ?_
  refine lv_aload_n hx hb dL_law_935 rfl (lv_at hl 1 rfl) ?_
  refine lv_iload_n hx hb dL_law_936 rfl (lv_at hl 0 rfl) ?_
  refine lv_iconst (v := nI 1) hx hb dL_law_937 rfl ?_
  refine xn_iadd (a := i) (b := 1) hx hb dL_law_938 ?_
  refine va_sld hx hb hX hbl hbA hS8 (hin 1 (by decide)) dL_law_939 ?_
  refine cViI [.int (xs (nI (i + 1)).toNatClampNeg)] [.int r8] FX hK (c_X9_stood l D y g hB M P w cN n t rd f (xs (nI (i + 1)).toNatClampNeg) hR hIP hc1 hrd hff.1 hff.2) (cwV 1 hts gL_X9_stood rfl rfl rfl (by decide +kernel) ⟨(Nat.le_of_ble_eq_true rfl), (Nat.le_of_ble_eq_true rfl)⟩) hM8 (pre_recv hK hM8 (ci := 9) (q0 := 0) rfl rfl) rfl rfl hl (Nat.le_of_ble_eq_true rfl) dL_law_940 ⟨(Nat.le_of_ble_eq_true rfl), (Nat.le_of_ble_eq_true rfl)⟩ hS8 hBx (fun r9 u9 H9 locs9 hp9 hw9 hS9 hk9 _ => ?_)
  have hw9 : va_P D vwCl (wM y g u9) H9 := hw9
  have hP9 : va_P D vwCl (wC y a u8.1 u8.2 row) H9 := hw8.kept (fun k q hq => hk9 q.1 (hw8 k q hq).lt (fun z => hAB q.1 z ((wC_D hA).2 k q hq)))
  have e : r8 = r9 := (congrArg Prod.fst hp8).trans hp9.1.symm
  have eP := congrArg Prod.snd hp8
  have hIn : INE u8.1 := by
    rw [show u8.1 = _ from eP, s_stood]; exact hI
  have hRn : RQ u8.1 u9 := (show u8.1 = _ from eP) ▸ hp9.2
  refine lv_icmp_eq (tgt := 1292) hx hb dL_law_943 (by decide) (fun _ => ?_) (fun h => by first | exact absurd e h | exact absurd e.symm h)
  exact kk _ _ _ _ _ _ hP9 hw9 hS9 hRn hIn

set_option maxRecDepth 100000 in
set_option maxHeartbeats 4000000 in
theorem law_24 {p : Program} {l : Launch} {e : Env} {s : State} {m : MethodId} {below : List Frame} {meth : Method} {c : Code} {Q : State → Prop} {b L : Nat} {xs : Nat → Int32} {D : va_G} {y : Nat → ClassId} {a g : Nat → Nat} {H : Heap} {locs : List Loc} {ls : Array Slot} {P X M : PT} {row : Value} {i : Nat}
    (FX : CallFix p m c cL_law 4 s #[Value.ref b] lw_tbl RL) (hK : KK D y s) (hX : va_X b L xs s s.heap) (hbl : b < s.heap.size) (hL : L ≤ 3072) (hA : CA a 44) (hB : CA g 26) (hAx : ∀ q, AC a q → s.heap.size ≤ q) (hBx : ∀ q, AM g q → s.heap.size ≤ q) (hAB : ∀ q, AM g q → ¬ AC a q) (hi : i + 6 ≤ L)
    (hP : va_P D vwCl (wC y a P X row) H) (hM : va_P D vwCl (wM y g M) H) (hS : va_S (fun q => s.heap.size ≤ q) s.heap H locs) (hR : RQ P M) (hI : INE P) (hl : lv_has ls 4 [(3, .int (nI i)), (0, .ref b), (1, .ref (a 0)), (2, .ref (g 0))])
    (kk : ∀ (P' X' M' : PT) (row' : Value) (H' : Heap) (locs' : List Loc), va_P D vwCl (wC y a P' X' row') H' → va_P D vwCl (wM y g M') H' → va_S (fun q => s.heap.size ≤ q) s.heap H' locs' → RQ P' M' → INE P' → W p l e room_1 s m #[Value.ref b] below meth c H' locs' 70 1597 Q (F0 m 1292 ls [])) : W p l e room_1 s m #[Value.ref b] below meth c H locs 70 1597 Q (F0 m 948 ls []) := by
  obtain ⟨hx, hb, hml, hown, hts⟩ := id FX
  have hbA : ¬ (fun q : Nat => s.heap.size ≤ q) b := Nat.not_le.mpr hbl
  obtain ⟨w, cN, n, t, rd, yr, f, hI0⟩ := id hI
  obtain ⟨hIP, hc1, hrd, hsh, hkd, hyr, hwl, hff⟩ := id hI0
  have hin : ∀ j, j < 6 → vp_in (nI (i + j)) L := fun j hj => vp_in_nI (by omega) (by omega)
  refine lv_aload_n hx hb dL_law_948 rfl (lv_at hl 2 rfl) ?_
  refine lv_aload_n hx hb dL_law_949 rfl (lv_at hl 1 rfl) ?_
  refine lv_iload_n hx hb dL_law_950 rfl (lv_at hl 0 rfl) ?_
  refine lv_iconst (v := nI 1) hx hb dL_law_951 rfl ?_
  refine xn_iadd (a := i) (b := 1) hx hb dL_law_952 ?_
  refine va_sld hx hb hX hbl hbA hS (hin 1 (by decide)) dL_law_953 ?_
  refine lv_aload_n hx hb dL_law_954 rfl (lv_at hl 1 rfl) ?_
  refine lv_iload_n hx hb dL_law_955 rfl (lv_at hl 0 rfl) ?_
  refine lv_iconst (v := nI 2) hx hb dL_law_956 rfl ?_
  refine xn_iadd (a := i) (b := 2) hx hb dL_law_957 ?_
  refine va_sld hx hb hX hbl hbA hS (hin 2 (by decide)) dL_law_958 ?_
  refine lv_aload_n hx hb dL_law_959 rfl (lv_at hl 1 rfl) ?_
  refine lv_iload_n hx hb dL_law_960 rfl (lv_at hl 0 rfl) ?_
  refine lv_iconst (v := nI 3) hx hb dL_law_961 rfl ?_
  refine xn_iadd (a := i) (b := 3) hx hb dL_law_962 ?_
  refine va_sld hx hb hX hbl hbA hS (hin 3 (by decide)) dL_law_963 ?_
  refine cViI [.int (xs (nI (i + 1)).toNatClampNeg), .int (xs (nI (i + 2)).toNatClampNeg), .int (xs (nI (i + 3)).toNatClampNeg)] [] FX hK (c_X8_sheet l D y a hA P X row w cN n t rd (xs (nI (i + 1)).toNatClampNeg) (xs (nI (i + 2)).toNatClampNeg) (xs (nI (i + 3)).toNatClampNeg) hIP hc1 hrd) (cwV 3 hts gL_X8_sheet rfl rfl rfl (by decide +kernel) ⟨(Nat.le_of_ble_eq_true rfl), (Nat.le_of_ble_eq_true rfl)⟩) hP (pre_recv hK hP (ci := 8) (q0 := 0) rfl rfl) rfl rfl hl (Nat.le_of_ble_eq_true rfl) dL_law_964 ⟨(Nat.le_of_ble_eq_true rfl), (Nat.le_of_ble_eq_true rfl)⟩ hS hAx (fun r8 u8 H8 locs8 hp8 hw8 hS8 hk8 _ => ?_)
  have hw8 : va_P D vwCl (wC y a u8.1 u8.2 row) H8 := hw8
  have hM8 : va_P D vwCl (wM y g M) H8 := hM.kept (fun k q hq => hk8 q.1 (hM k q hq).lt (hAB q.1 ((wM_D hB).2 k q hq)))
  refine lv_aload_n hx hb dL_law_967 rfl (lv_at hl 3 rfl) ?_
  refine lv_aload_n hx hb dL_law_968 rfl (lv_at hl 1 rfl) ?_
  refine lv_iload_n hx hb dL_law_969 rfl (lv_at hl 0 rfl) ?_
  refine lv_iconst (v := nI 1) hx hb dL_law_970 rfl ?_
  refine xn_iadd (a := i) (b := 1) hx hb dL_law_971 ?_
  refine va_sld hx hb hX hbl hbA hS8 (hin 1 (by decide)) dL_law_972 ?_
  refine lv_aload_n hx hb dL_law_973 rfl (lv_at hl 1 rfl) ?_
  refine lv_iload_n hx hb dL_law_974 rfl (lv_at hl 0 rfl) ?_
  refine lv_iconst (v := nI 2) hx hb dL_law_975 rfl ?_
  refine xn_iadd (a := i) (b := 2) hx hb dL_law_976 ?_
  refine va_sld hx hb hX hbl hbA hS8 (hin 2 (by decide)) dL_law_977 ?_
  refine lv_aload_n hx hb dL_law_978 rfl (lv_at hl 1 rfl) ?_
  refine lv_iload_n hx hb dL_law_979 rfl (lv_at hl 0 rfl) ?_
  refine lv_iconst (v := nI 3) hx hb dL_law_980 rfl ?_
  refine xn_iadd (a := i) (b := 3) hx hb dL_law_981 ?_
  refine va_sld hx hb hX hbl hbA hS8 (hin 3 (by decide)) dL_law_982 ?_
  refine cViI [.int (xs (nI (i + 1)).toNatClampNeg), .int (xs (nI (i + 2)).toNatClampNeg), .int (xs (nI (i + 3)).toNatClampNeg)] [.int r8] FX hK (c_X9_sheet l D y g hB M P w cN n t rd (xs (nI (i + 1)).toNatClampNeg) (xs (nI (i + 2)).toNatClampNeg) (xs (nI (i + 3)).toNatClampNeg) hR hIP hc1 hrd) (cwV 3 hts gL_X9_sheet rfl rfl rfl (by decide +kernel) ⟨(Nat.le_of_ble_eq_true rfl), (Nat.le_of_ble_eq_true rfl)⟩) hM8 (pre_recv hK hM8 (ci := 9) (q0 := 0) rfl rfl) rfl rfl hl (Nat.le_of_ble_eq_true rfl) dL_law_983 ⟨(Nat.le_of_ble_eq_true rfl), (Nat.le_of_ble_eq_true rfl)⟩ hS8 hBx (fun r9 u9 H9 locs9 hp9 hw9 hS9 hk9 _ => ?_)
  have hw9 : va_P D vwCl (wM y g u9) H9 := hw9
  have hP9 : va_P D vwCl (wC y a u8.1 u8.2 row) H9 := hw8.kept (fun k q hq => hk9 q.1 (hw8 k q hq).lt (fun z => hAB q.1 z ((wC_D hA).2 k q hq)))
  have e : r8 = r9 := (congrArg Prod.fst hp8).trans hp9.1.symm
  have eP := congrArg Prod.snd hp8
  have hIn : INE u8.1 := (show u8.1 = _ from eP) ▸ ine_sheet hI0 (xs (nI (i + 1)).toNatClampNeg) (xs (nI (i + 2)).toNatClampNeg) (xs (nI (i + 3)).toNatClampNeg)
  have hRn : RQ u8.1 u9 := (show u8.1 = _ from eP) ▸ hp9.2
  refine lv_icmp_eq (tgt := 1292) hx hb dL_law_986 (by decide) (fun _ => ?_) (fun h => by first | exact absurd e h | exact absurd e.symm h)
  exact kk _ _ _ _ _ _ hP9 hw9 hS9 hRn hIn

set_option maxRecDepth 100000 in
set_option maxHeartbeats 4000000 in
theorem law_25 {p : Program} {l : Launch} {e : Env} {s : State} {m : MethodId} {below : List Frame} {meth : Method} {c : Code} {Q : State → Prop} {b L : Nat} {xs : Nat → Int32} {D : va_G} {y : Nat → ClassId} {a g : Nat → Nat} {H : Heap} {locs : List Loc} {ls : Array Slot} {P X M : PT} {row : Value} {i : Nat}
    (FX : CallFix p m c cL_law 4 s #[Value.ref b] lw_tbl RL) (hK : KK D y s) (hX : va_X b L xs s s.heap) (hbl : b < s.heap.size) (hL : L ≤ 3072) (hA : CA a 44) (hB : CA g 26) (hAx : ∀ q, AC a q → s.heap.size ≤ q) (hBx : ∀ q, AM g q → s.heap.size ≤ q) (hAB : ∀ q, AM g q → ¬ AC a q) (hi : i + 6 ≤ L)
    (hP : va_P D vwCl (wC y a P X row) H) (hM : va_P D vwCl (wM y g M) H) (hS : va_S (fun q => s.heap.size ≤ q) s.heap H locs) (hR : RQ P M) (hI : INE P) (hl : lv_has ls 4 [(3, .int (nI i)), (0, .ref b), (1, .ref (a 0)), (2, .ref (g 0))])
    (kk : ∀ (P' X' M' : PT) (row' : Value) (H' : Heap) (locs' : List Loc), va_P D vwCl (wC y a P' X' row') H' → va_P D vwCl (wM y g M') H' → va_S (fun q => s.heap.size ≤ q) s.heap H' locs' → RQ P' M' → INE P' → W p l e room_1 s m #[Value.ref b] below meth c H' locs' 70 1597 Q (F0 m 1292 ls [])) : W p l e room_1 s m #[Value.ref b] below meth c H locs 70 1597 Q (F0 m 991 ls []) := by
  obtain ⟨hx, hb, hml, hown, hts⟩ := id FX
  have hbA : ¬ (fun q : Nat => s.heap.size ≤ q) b := Nat.not_le.mpr hbl
  obtain ⟨w, cN, n, t, rd, yr, f, hI0⟩ := id hI
  obtain ⟨hIP, hc1, hrd, hsh, hkd, hyr, hwl, hff⟩ := id hI0
  have hin : ∀ j, j < 6 → vp_in (nI (i + j)) L := fun j hj => vp_in_nI (by omega) (by omega)
  refine lv_aload_n hx hb dL_law_991 rfl (lv_at hl 2 rfl) ?_
  refine lv_aload_n hx hb dL_law_992 rfl (lv_at hl 1 rfl) ?_
  refine lv_iload_n hx hb dL_law_993 rfl (lv_at hl 0 rfl) ?_
  refine lv_iconst (v := nI 1) hx hb dL_law_994 rfl ?_
  refine xn_iadd (a := i) (b := 1) hx hb dL_law_995 ?_
  refine va_sld hx hb hX hbl hbA hS (hin 1 (by decide)) dL_law_996 ?_
  refine cViI [.int (xs (nI (i + 1)).toNatClampNeg)] [] FX hK (c_X8_lose l D y a hA P X row w cN n t rd (xs (nI (i + 1)).toNatClampNeg) hIP hc1 hrd) (cwV 1 hts gL_X8_lose rfl rfl rfl (by decide +kernel) ⟨(Nat.le_of_ble_eq_true rfl), (Nat.le_of_ble_eq_true rfl)⟩) hP (pre_recv hK hP (ci := 8) (q0 := 0) rfl rfl) rfl rfl hl (Nat.le_of_ble_eq_true rfl) dL_law_997 ⟨(Nat.le_of_ble_eq_true rfl), (Nat.le_of_ble_eq_true rfl)⟩ hS hAx (fun r8 u8 H8 locs8 hp8 hw8 hS8 hk8 _ => ?_)
  have hw8 : va_P D vwCl (wC y a u8.1 u8.2 row) H8 := hw8
  have hM8 : va_P D vwCl (wM y g M) H8 := hM.kept (fun k q hq => hk8 q.1 (hM k q hq).lt (hAB q.1 ((wM_D hB).2 k q hq)))
  refine lv_aload_n hx hb dL_law_1000 rfl (lv_at hl 3 rfl) ?_
  refine lv_aload_n hx hb dL_law_1001 rfl (lv_at hl 1 rfl) ?_
  refine lv_iload_n hx hb dL_law_1002 rfl (lv_at hl 0 rfl) ?_
  refine lv_iconst (v := nI 1) hx hb dL_law_1003 rfl ?_
  refine xn_iadd (a := i) (b := 1) hx hb dL_law_1004 ?_
  refine va_sld hx hb hX hbl hbA hS8 (hin 1 (by decide)) dL_law_1005 ?_
  refine cViI [.int (xs (nI (i + 1)).toNatClampNeg)] [.int r8] FX hK (c_X9_lose l D y g hB M P w cN n t rd (xs (nI (i + 1)).toNatClampNeg) hR hIP hc1 hrd hsh) (cwV 1 hts gL_X9_lose rfl rfl rfl (by decide +kernel) ⟨(Nat.le_of_ble_eq_true rfl), (Nat.le_of_ble_eq_true rfl)⟩) hM8 (pre_recv hK hM8 (ci := 9) (q0 := 0) rfl rfl) rfl rfl hl (Nat.le_of_ble_eq_true rfl) dL_law_1006 ⟨(Nat.le_of_ble_eq_true rfl), (Nat.le_of_ble_eq_true rfl)⟩ hS8 hBx (fun r9 u9 H9 locs9 hp9 hw9 hS9 hk9 _ => ?_)
  have hw9 : va_P D vwCl (wM y g u9) H9 := hw9
  have hP9 : va_P D vwCl (wC y a u8.1 u8.2 row) H9 := hw8.kept (fun k q hq => hk9 q.1 (hw8 k q hq).lt (fun z => hAB q.1 z ((wC_D hA).2 k q hq)))
  have e : r8 = r9 := (congrArg Prod.fst hp8).trans hp9.1.symm
  have eP := congrArg Prod.snd hp8
  have hIn : INE u8.1 := (show u8.1 = _ from eP) ▸ ine_lose hI0 (xs (nI (i + 1)).toNatClampNeg)
  have hRn : RQ u8.1 u9 := (show u8.1 = _ from eP) ▸ hp9.2
  refine lv_icmp_eq (tgt := 1292) hx hb dL_law_1009 (by decide) (fun _ => ?_) (fun h => by first | exact absurd e h | exact absurd e.symm h)
  exact kk _ _ _ _ _ _ hP9 hw9 hS9 hRn hIn

set_option maxRecDepth 100000 in
set_option maxHeartbeats 4000000 in
theorem law_26 {p : Program} {l : Launch} {e : Env} {s : State} {m : MethodId} {below : List Frame} {meth : Method} {c : Code} {Q : State → Prop} {b L : Nat} {xs : Nat → Int32} {D : va_G} {y : Nat → ClassId} {a g : Nat → Nat} {H : Heap} {locs : List Loc} {ls : Array Slot} {P X M : PT} {row : Value} {i : Nat}
    (FX : CallFix p m c cL_law 4 s #[Value.ref b] lw_tbl RL) (hK : KK D y s) (hX : va_X b L xs s s.heap) (hbl : b < s.heap.size) (hL : L ≤ 3072) (hA : CA a 44) (hB : CA g 26) (hAx : ∀ q, AC a q → s.heap.size ≤ q) (hBx : ∀ q, AM g q → s.heap.size ≤ q) (hAB : ∀ q, AM g q → ¬ AC a q) (hi : i + 6 ≤ L)
    (hP : va_P D vwCl (wC y a P X row) H) (hM : va_P D vwCl (wM y g M) H) (hS : va_S (fun q => s.heap.size ≤ q) s.heap H locs) (hR : RQ P M) (hI : INE P) (hl : lv_has ls 4 [(3, .int (nI i)), (0, .ref b), (1, .ref (a 0)), (2, .ref (g 0))])
    (kk : ∀ (P' X' M' : PT) (row' : Value) (H' : Heap) (locs' : List Loc), va_P D vwCl (wC y a P' X' row') H' → va_P D vwCl (wM y g M') H' → va_S (fun q => s.heap.size ≤ q) s.heap H' locs' → RQ P' M' → INE P' → W p l e room_1 s m #[Value.ref b] below meth c H' locs' 70 1597 Q (F0 m 1292 ls [])) : W p l e room_1 s m #[Value.ref b] below meth c H locs 70 1597 Q (F0 m 1014 ls []) := by
  obtain ⟨hx, hb, hml, hown, hts⟩ := id FX
  have hbA : ¬ (fun q : Nat => s.heap.size ≤ q) b := Nat.not_le.mpr hbl
  obtain ⟨w, cN, n, t, rd, yr, f, hI0⟩ := id hI
  obtain ⟨hIP, hc1, hrd, hsh, hkd, hyr, hwl, hff⟩ := id hI0
  have hin : ∀ j, j < 6 → vp_in (nI (i + j)) L := fun j hj => vp_in_nI (by omega) (by omega)
  refine lv_aload_n hx hb dL_law_1014 rfl (lv_at hl 2 rfl) ?_
  refine lv_aload_n hx hb dL_law_1015 rfl (lv_at hl 1 rfl) ?_
  refine lv_iload_n hx hb dL_law_1016 rfl (lv_at hl 0 rfl) ?_
  refine lv_iconst (v := nI 1) hx hb dL_law_1017 rfl ?_
  refine xn_iadd (a := i) (b := 1) hx hb dL_law_1018 ?_
  refine va_sld hx hb hX hbl hbA hS (hin 1 (by decide)) dL_law_1019 ?_
  refine lv_aload_n hx hb dL_law_1020 rfl (lv_at hl 1 rfl) ?_
  refine lv_iload_n hx hb dL_law_1021 rfl (lv_at hl 0 rfl) ?_
  refine lv_iconst (v := nI 2) hx hb dL_law_1022 rfl ?_
  refine xn_iadd (a := i) (b := 2) hx hb dL_law_1023 ?_
  refine va_sld hx hb hX hbl hbA hS (hin 2 (by decide)) dL_law_1024 ?_
  refine lv_aload_n hx hb dL_law_1025 rfl (lv_at hl 1 rfl) ?_
  refine lv_iload_n hx hb dL_law_1026 rfl (lv_at hl 0 rfl) ?_
  refine lv_iconst (v := nI 3) hx hb dL_law_1027 rfl ?_
  refine xn_iadd (a := i) (b := 3) hx hb dL_law_1028 ?_
  refine va_sld hx hb hX hbl hbA hS (hin 3 (by decide)) dL_law_1029 ?_
  refine cViI [.int (xs (nI (i + 1)).toNatClampNeg), .int (xs (nI (i + 2)).toNatClampNeg), .int (xs (nI (i + 3)).toNatClampNeg)] [] FX hK (c_X8_put l D y a hA P X row w cN n t rd (xs (nI (i + 1)).toNatClampNeg) (xs (nI (i + 2)).toNatClampNeg) (xs (nI (i + 3)).toNatClampNeg) hIP hc1 hrd hsh) (cwV 3 hts gL_X8_put rfl rfl rfl (by decide +kernel) ⟨(Nat.le_of_ble_eq_true rfl), (Nat.le_of_ble_eq_true rfl)⟩) hP (pre_recv hK hP (ci := 8) (q0 := 0) rfl rfl) rfl rfl hl (Nat.le_of_ble_eq_true rfl) dL_law_1030 ⟨(Nat.le_of_ble_eq_true rfl), (Nat.le_of_ble_eq_true rfl)⟩ hS hAx (fun r8 u8 H8 locs8 hp8 hw8 hS8 hk8 _ => ?_)
  have hw8 : va_P D vwCl (wC y a u8.1 u8.2 row) H8 := hw8
  have hM8 : va_P D vwCl (wM y g M) H8 := hM.kept (fun k q hq => hk8 q.1 (hM k q hq).lt (hAB q.1 ((wM_D hB).2 k q hq)))
  refine lv_aload_n hx hb dL_law_1033 rfl (lv_at hl 3 rfl) ?_
  refine lv_aload_n hx hb dL_law_1034 rfl (lv_at hl 1 rfl) ?_
  refine lv_iload_n hx hb dL_law_1035 rfl (lv_at hl 0 rfl) ?_
  refine lv_iconst (v := nI 1) hx hb dL_law_1036 rfl ?_
  refine xn_iadd (a := i) (b := 1) hx hb dL_law_1037 ?_
  refine va_sld hx hb hX hbl hbA hS8 (hin 1 (by decide)) dL_law_1038 ?_
  refine lv_aload_n hx hb dL_law_1039 rfl (lv_at hl 1 rfl) ?_
  refine lv_iload_n hx hb dL_law_1040 rfl (lv_at hl 0 rfl) ?_
  refine lv_iconst (v := nI 2) hx hb dL_law_1041 rfl ?_
  refine xn_iadd (a := i) (b := 2) hx hb dL_law_1042 ?_
  refine va_sld hx hb hX hbl hbA hS8 (hin 2 (by decide)) dL_law_1043 ?_
  refine lv_aload_n hx hb dL_law_1044 rfl (lv_at hl 1 rfl) ?_
  refine lv_iload_n hx hb dL_law_1045 rfl (lv_at hl 0 rfl) ?_
  refine lv_iconst (v := nI 3) hx hb dL_law_1046 rfl ?_
  refine xn_iadd (a := i) (b := 3) hx hb dL_law_1047 ?_
  refine va_sld hx hb hX hbl hbA hS8 (hin 3 (by decide)) dL_law_1048 ?_
  refine cViI [.int (xs (nI (i + 1)).toNatClampNeg), .int (xs (nI (i + 2)).toNatClampNeg), .int (xs (nI (i + 3)).toNatClampNeg)] [.int r8] FX hK (c_X9_put l D y g hB M P w cN n t rd (xs (nI (i + 1)).toNatClampNeg) (xs (nI (i + 2)).toNatClampNeg) (xs (nI (i + 3)).toNatClampNeg) hR hIP hc1 hrd hsh) (cwV 3 hts gL_X9_put rfl rfl rfl (by decide +kernel) ⟨(Nat.le_of_ble_eq_true rfl), (Nat.le_of_ble_eq_true rfl)⟩) hM8 (pre_recv hK hM8 (ci := 9) (q0 := 0) rfl rfl) rfl rfl hl (Nat.le_of_ble_eq_true rfl) dL_law_1049 ⟨(Nat.le_of_ble_eq_true rfl), (Nat.le_of_ble_eq_true rfl)⟩ hS8 hBx (fun r9 u9 H9 locs9 hp9 hw9 hS9 hk9 _ => ?_)
  have hw9 : va_P D vwCl (wM y g u9) H9 := hw9
  have hP9 : va_P D vwCl (wC y a u8.1 u8.2 row) H9 := hw8.kept (fun k q hq => hk9 q.1 (hw8 k q hq).lt (fun z => hAB q.1 z ((wC_D hA).2 k q hq)))
  have e : r8 = r9 := (congrArg Prod.fst hp8).trans hp9.1.symm
  have eP := congrArg Prod.snd hp8
  have hIn : INE u8.1 := (show u8.1 = _ from eP) ▸ ine_put hI0 (xs (nI (i + 1)).toNatClampNeg) (xs (nI (i + 2)).toNatClampNeg) (xs (nI (i + 3)).toNatClampNeg)
  have hRn : RQ u8.1 u9 := (show u8.1 = _ from eP) ▸ hp9.2
  refine lv_icmp_eq (tgt := 1292) hx hb dL_law_1052 (by decide) (fun _ => ?_) (fun h => by first | exact absurd e h | exact absurd e.symm h)
  exact kk _ _ _ _ _ _ hP9 hw9 hS9 hRn hIn

