set_option maxRecDepth 100000 in
set_option maxHeartbeats 4000000 in
theorem law_27 {p : Program} {l : Launch} {e : Env} {s : State} {m : MethodId} {below : List Frame} {meth : Method} {c : Code} {Q : State → Prop} {b L : Nat} {xs : Nat → Int32} {D : va_G} {y : Nat → ClassId} {a g : Nat → Nat} {H : Heap} {locs : List Loc} {ls : Array Slot} {P X M : PT} {row : Value} {i : Nat}
    (FX : CallFix p m c cL_law 4 s #[Value.ref b] lw_tbl RL) (hK : KK D y s) (hX : va_X b L xs s s.heap) (hbl : b < s.heap.size) (hL : L ≤ 3072) (hA : CA a 44) (hB : CA g 26) (hAx : ∀ q, AC a q → s.heap.size ≤ q) (hBx : ∀ q, AM g q → s.heap.size ≤ q) (hAB : ∀ q, AM g q → ¬ AC a q) (hi : i + 6 ≤ L)
    (hP : va_P D vwCl (wC y a P X row) H) (hM : va_P D vwCl (wM y g M) H) (hS : va_S (fun q => s.heap.size ≤ q) s.heap H locs) (hR : RQ P M) (hI : INE P) (hl : lv_has ls 4 [(3, .int (nI i)), (0, .ref b), (1, .ref (a 0)), (2, .ref (g 0))])
    (kk : ∀ (P' X' M' : PT) (row' : Value) (H' : Heap) (locs' : List Loc), va_P D vwCl (wC y a P' X' row') H' → va_P D vwCl (wM y g M') H' → va_S (fun q => s.heap.size ≤ q) s.heap H' locs' → RQ P' M' → INE P' → W p l e room_1 s m #[Value.ref b] below meth c H' locs' 70 1597 Q (F0 m 1292 ls [])) : W p l e room_1 s m #[Value.ref b] below meth c H locs 70 1597 Q (F0 m 1057 ls []) := by
  obtain ⟨hx, hb, hml, hown, hts⟩ := id FX
  have hbA : ¬ (fun q : Nat => s.heap.size ≤ q) b := Nat.not_le.mpr hbl
  obtain ⟨w, cN, n, t, rd, yr, f, hI0⟩ := id hI
  obtain ⟨hIP, hc1, hrd, hsh, hkd, hyr, hwl, hff⟩ := id hI0
  have hin : ∀ j, j < 6 → vp_in (nI (i + j)) L := fun j hj => vp_in_nI (by omega) (by omega)
  refine lv_aload_n hx hb dL_law_1057 rfl (lv_at hl 2 rfl) ?_
  refine lv_aload_n hx hb dL_law_1058 rfl (lv_at hl 1 rfl) ?_
  refine lv_iload_n hx hb dL_law_1059 rfl (lv_at hl 0 rfl) ?_
  refine lv_iconst (v := nI 1) hx hb dL_law_1060 rfl ?_
  refine xn_iadd (a := i) (b := 1) hx hb dL_law_1061 ?_
  refine va_sld hx hb hX hbl hbA hS (hin 1 (by decide)) dL_law_1062 ?_
  refine lv_aload_n hx hb dL_law_1063 rfl (lv_at hl 1 rfl) ?_
  refine lv_iload_n hx hb dL_law_1064 rfl (lv_at hl 0 rfl) ?_
  refine lv_iconst (v := nI 2) hx hb dL_law_1065 rfl ?_
  refine xn_iadd (a := i) (b := 2) hx hb dL_law_1066 ?_
  refine va_sld hx hb hX hbl hbA hS (hin 2 (by decide)) dL_law_1067 ?_
  refine lv_aload_n hx hb dL_law_1068 rfl (lv_at hl 1 rfl) ?_
  refine lv_iload_n hx hb dL_law_1069 rfl (lv_at hl 0 rfl) ?_
  refine lv_iconst (v := nI 3) hx hb dL_law_1070 rfl ?_
  refine xn_iadd (a := i) (b := 3) hx hb dL_law_1071 ?_
  refine va_sld hx hb hX hbl hbA hS (hin 3 (by decide)) dL_law_1072 ?_
  refine cViL [.int (xs (nI (i + 1)).toNatClampNeg), .int (xs (nI (i + 2)).toNatClampNeg), .int (xs (nI (i + 3)).toNatClampNeg)] [] FX hK (c_X8_cell l D y a hA P X row w cN n t rd (xs (nI (i + 1)).toNatClampNeg) (xs (nI (i + 2)).toNatClampNeg) (xs (nI (i + 3)).toNatClampNeg) hIP hc1 hrd hsh) (cwV 3 hts gL_X8_cell rfl rfl rfl (by decide +kernel) ⟨(Nat.le_of_ble_eq_true rfl), (Nat.le_of_ble_eq_true rfl)⟩) hP (pre_recv hK hP (ci := 8) (q0 := 0) rfl rfl) rfl rfl hl (Nat.le_of_ble_eq_true rfl) dL_law_1073 ⟨(Nat.le_of_ble_eq_true rfl), (Nat.le_of_ble_eq_true rfl)⟩ hS hAx (fun r8 u8 H8 locs8 hp8 hw8 hS8 hk8 _ => ?_)
  have hw8 : va_P D vwCl (wC y a u8.1 u8.2 row) H8 := hw8
  have hM8 : va_P D vwCl (wM y g M) H8 := hM.kept (fun k q hq => hk8 q.1 (hM k q hq).lt (hAB q.1 ((wM_D hB).2 k q hq)))
  refine lv_aload_n hx hb dL_law_1076 rfl (lv_at hl 3 rfl) ?_
  refine lv_aload_n hx hb dL_law_1077 rfl (lv_at hl 1 rfl) ?_
  refine lv_iload_n hx hb dL_law_1078 rfl (lv_at hl 0 rfl) ?_
  refine lv_iconst (v := nI 1) hx hb dL_law_1079 rfl ?_
  refine xn_iadd (a := i) (b := 1) hx hb dL_law_1080 ?_
  refine va_sld hx hb hX hbl hbA hS8 (hin 1 (by decide)) dL_law_1081 ?_
  refine lv_aload_n hx hb dL_law_1082 rfl (lv_at hl 1 rfl) ?_
  refine lv_iload_n hx hb dL_law_1083 rfl (lv_at hl 0 rfl) ?_
  refine lv_iconst (v := nI 2) hx hb dL_law_1084 rfl ?_
  refine xn_iadd (a := i) (b := 2) hx hb dL_law_1085 ?_
  refine va_sld hx hb hX hbl hbA hS8 (hin 2 (by decide)) dL_law_1086 ?_
  refine lv_aload_n hx hb dL_law_1087 rfl (lv_at hl 1 rfl) ?_
  refine lv_iload_n hx hb dL_law_1088 rfl (lv_at hl 0 rfl) ?_
  refine lv_iconst (v := nI 3) hx hb dL_law_1089 rfl ?_
  refine xn_iadd (a := i) (b := 3) hx hb dL_law_1090 ?_
  refine va_sld hx hb hX hbl hbA hS8 (hin 3 (by decide)) dL_law_1091 ?_
  refine cViL [.int (xs (nI (i + 1)).toNatClampNeg), .int (xs (nI (i + 2)).toNatClampNeg), .int (xs (nI (i + 3)).toNatClampNeg)] [.long r8] FX hK (c_X9_cell l D y g hB M P w cN n t rd (xs (nI (i + 1)).toNatClampNeg) (xs (nI (i + 2)).toNatClampNeg) (xs (nI (i + 3)).toNatClampNeg) hR hIP hc1 hrd hsh) (cwV 3 hts gL_X9_cell rfl rfl rfl (by decide +kernel) ⟨(Nat.le_of_ble_eq_true rfl), (Nat.le_of_ble_eq_true rfl)⟩) hM8 (pre_recv hK hM8 (ci := 9) (q0 := 0) rfl rfl) rfl rfl hl (Nat.le_of_ble_eq_true rfl) dL_law_1092 ⟨(Nat.le_of_ble_eq_true rfl), (Nat.le_of_ble_eq_true rfl)⟩ hS8 hBx (fun r9 u9 H9 locs9 hp9 hw9 hS9 hk9 _ => ?_)
  have hw9 : va_P D vwCl (wM y g u9) H9 := hw9
  have hP9 : va_P D vwCl (wC y a u8.1 u8.2 row) H9 := hw8.kept (fun k q hq => hk9 q.1 (hw8 k q hq).lt (fun z => hAB q.1 z ((wC_D hA).2 k q hq)))
  refine W.lcmp hx hb dL_law_1095 ?_
  have e : r8 = r9 := (congrArg Prod.fst hp8).trans hp9.1.symm
  have eP := congrArg Prod.snd hp8
  have hIn : INE u8.1 := (show u8.1 = _ from eP) ▸ ine_cell hI0 (xs (nI (i + 1)).toNatClampNeg) (xs (nI (i + 2)).toNatClampNeg) (xs (nI (i + 3)).toNatClampNeg)
  have hRn : RQ u8.1 u9 := (show u8.1 = _ from eP) ▸ hp9.2
  refine lv_if_eq (tgt := 1292) hx hb dL_law_1096 (by decide) (fun _ => ?_) (fun h => by rw [e] at h; exact absurd (lgc_self r9) h)
  exact kk _ _ _ _ _ _ hP9 hw9 hS9 hRn hIn

set_option maxRecDepth 100000 in
set_option maxHeartbeats 4000000 in
theorem law_28 {p : Program} {l : Launch} {e : Env} {s : State} {m : MethodId} {below : List Frame} {meth : Method} {c : Code} {Q : State → Prop} {b L : Nat} {xs : Nat → Int32} {D : va_G} {y : Nat → ClassId} {a g : Nat → Nat} {H : Heap} {locs : List Loc} {ls : Array Slot} {P X M : PT} {row : Value} {i : Nat}
    (FX : CallFix p m c cL_law 4 s #[Value.ref b] lw_tbl RL) (hK : KK D y s) (hX : va_X b L xs s s.heap) (hbl : b < s.heap.size) (hL : L ≤ 3072) (hA : CA a 44) (hB : CA g 26) (hAx : ∀ q, AC a q → s.heap.size ≤ q) (hBx : ∀ q, AM g q → s.heap.size ≤ q) (hAB : ∀ q, AM g q → ¬ AC a q) (hi : i + 6 ≤ L)
    (hP : va_P D vwCl (wC y a P X row) H) (hM : va_P D vwCl (wM y g M) H) (hS : va_S (fun q => s.heap.size ≤ q) s.heap H locs) (hR : RQ P M) (hI : INE P) (hl : lv_has ls 4 [(3, .int (nI i)), (0, .ref b), (1, .ref (a 0)), (2, .ref (g 0))])
    (kk : ∀ (P' X' M' : PT) (row' : Value) (H' : Heap) (locs' : List Loc), va_P D vwCl (wC y a P' X' row') H' → va_P D vwCl (wM y g M') H' → va_S (fun q => s.heap.size ≤ q) s.heap H' locs' → RQ P' M' → INE P' → W p l e room_1 s m #[Value.ref b] below meth c H' locs' 70 1597 Q (F0 m 1292 ls [])) : W p l e room_1 s m #[Value.ref b] below meth c H locs 70 1597 Q (F0 m 1101 ls []) := by
  obtain ⟨hx, hb, hml, hown, hts⟩ := id FX
  have hbA : ¬ (fun q : Nat => s.heap.size ≤ q) b := Nat.not_le.mpr hbl
  obtain ⟨w, cN, n, t, rd, yr, f, hI0⟩ := id hI
  obtain ⟨hIP, hc1, hrd, hsh, hkd, hyr, hwl, hff⟩ := id hI0
  have hin : ∀ j, j < 6 → vp_in (nI (i + j)) L := fun j hj => vp_in_nI (by omega) (by omega)
  refine lv_aload_n hx hb dL_law_1101 rfl (lv_at hl 2 rfl) ?_
  refine lv_aload_n hx hb dL_law_1102 rfl (lv_at hl 1 rfl) ?_
  refine lv_iload_n hx hb dL_law_1103 rfl (lv_at hl 0 rfl) ?_
  refine lv_iconst (v := nI 1) hx hb dL_law_1104 rfl ?_
  refine xn_iadd (a := i) (b := 1) hx hb dL_law_1105 ?_
  refine va_sld hx hb hX hbl hbA hS (hin 1 (by decide)) dL_law_1106 ?_
  refine lv_aload_n hx hb dL_law_1107 rfl (lv_at hl 1 rfl) ?_
  refine lv_iload_n hx hb dL_law_1108 rfl (lv_at hl 0 rfl) ?_
  refine lv_iconst (v := nI 2) hx hb dL_law_1109 rfl ?_
  refine xn_iadd (a := i) (b := 2) hx hb dL_law_1110 ?_
  refine va_sld hx hb hX hbl hbA hS (hin 2 (by decide)) dL_law_1111 ?_
  refine lv_aload_n hx hb dL_law_1112 rfl (lv_at hl 1 rfl) ?_
  refine lv_iload_n hx hb dL_law_1113 rfl (lv_at hl 0 rfl) ?_
  refine lv_iconst (v := nI 3) hx hb dL_law_1114 rfl ?_
  refine xn_iadd (a := i) (b := 3) hx hb dL_law_1115 ?_
  refine va_sld hx hb hX hbl hbA hS (hin 3 (by decide)) dL_law_1116 ?_
  refine lv_aload_n hx hb dL_law_1117 rfl (lv_at hl 1 rfl) ?_
  refine lv_iload_n hx hb dL_law_1118 rfl (lv_at hl 0 rfl) ?_
  refine lv_iconst (v := nI 4) hx hb dL_law_1119 rfl ?_
  refine xn_iadd (a := i) (b := 4) hx hb dL_law_1120 ?_
  refine va_sld hx hb hX hbl hbA hS (hin 4 (by decide)) dL_law_1121 ?_
  refine lv_aload_n hx hb dL_law_1122 rfl (lv_at hl 1 rfl) ?_
  refine lv_iload_n hx hb dL_law_1123 rfl (lv_at hl 0 rfl) ?_
  refine lv_iconst (v := nI 5) hx hb dL_law_1124 rfl ?_
  refine xn_iadd (a := i) (b := 5) hx hb dL_law_1125 ?_
  refine va_sld hx hb hX hbl hbA hS (hin 5 (by decide)) dL_law_1126 ?_
  refine cViI [.int (xs (nI (i + 1)).toNatClampNeg), .int (xs (nI (i + 2)).toNatClampNeg), .int (xs (nI (i + 3)).toNatClampNeg), .int (xs (nI (i + 4)).toNatClampNeg), .int (xs (nI (i + 5)).toNatClampNeg)] [] FX hK (c_X8_copy l D y a hA P X row w cN n t rd (xs (nI (i + 1)).toNatClampNeg) (xs (nI (i + 2)).toNatClampNeg) (xs (nI (i + 3)).toNatClampNeg) (xs (nI (i + 4)).toNatClampNeg) (xs (nI (i + 5)).toNatClampNeg) hIP hc1 hrd hsh) (cwV 5 hts gL_X8_copy rfl rfl rfl (by decide +kernel) ⟨(Nat.le_of_ble_eq_true rfl), (Nat.le_of_ble_eq_true rfl)⟩) hP (pre_recv hK hP (ci := 8) (q0 := 0) rfl rfl) rfl rfl hl (Nat.le_of_ble_eq_true rfl) dL_law_1127 ⟨(Nat.le_of_ble_eq_true rfl), (Nat.le_of_ble_eq_true rfl)⟩ hS hAx (fun r8 u8 H8 locs8 hp8 hw8 hS8 hk8 _ => ?_)
  have hw8 : va_P D vwCl (wC y a u8.1 u8.2 row) H8 := hw8
  have hM8 : va_P D vwCl (wM y g M) H8 := hM.kept (fun k q hq => hk8 q.1 (hM k q hq).lt (hAB q.1 ((wM_D hB).2 k q hq)))
  refine lv_aload_n hx hb dL_law_1130 rfl (lv_at hl 3 rfl) ?_
  refine lv_aload_n hx hb dL_law_1131 rfl (lv_at hl 1 rfl) ?_
  refine lv_iload_n hx hb dL_law_1132 rfl (lv_at hl 0 rfl) ?_
  refine lv_iconst (v := nI 1) hx hb dL_law_1133 rfl ?_
  refine xn_iadd (a := i) (b := 1) hx hb dL_law_1134 ?_
  refine va_sld hx hb hX hbl hbA hS8 (hin 1 (by decide)) dL_law_1135 ?_
  refine lv_aload_n hx hb dL_law_1136 rfl (lv_at hl 1 rfl) ?_
  refine lv_iload_n hx hb dL_law_1137 rfl (lv_at hl 0 rfl) ?_
  refine lv_iconst (v := nI 2) hx hb dL_law_1138 rfl ?_
  refine xn_iadd (a := i) (b := 2) hx hb dL_law_1139 ?_
  refine va_sld hx hb hX hbl hbA hS8 (hin 2 (by decide)) dL_law_1140 ?_
  refine lv_aload_n hx hb dL_law_1141 rfl (lv_at hl 1 rfl) ?_
  refine lv_iload_n hx hb dL_law_1142 rfl (lv_at hl 0 rfl) ?_
  refine lv_iconst (v := nI 3) hx hb dL_law_1143 rfl ?_
  refine xn_iadd (a := i) (b := 3) hx hb dL_law_1144 ?_
  refine va_sld hx hb hX hbl hbA hS8 (hin 3 (by decide)) dL_law_1145 ?_
  refine lv_aload_n hx hb dL_law_1146 rfl (lv_at hl 1 rfl) ?_
  refine lv_iload_n hx hb dL_law_1147 rfl (lv_at hl 0 rfl) ?_
  refine lv_iconst (v := nI 4) hx hb dL_law_1148 rfl ?_
  refine xn_iadd (a := i) (b := 4) hx hb dL_law_1149 ?_
  refine va_sld hx hb hX hbl hbA hS8 (hin 4 (by decide)) dL_law_1150 ?_
  refine lv_aload_n hx hb dL_law_1151 rfl (lv_at hl 1 rfl) ?_
  refine lv_iload_n hx hb dL_law_1152 rfl (lv_at hl 0 rfl) ?_
  refine lv_iconst (v := nI 5) hx hb dL_law_1153 rfl ?_
  refine xn_iadd (a := i) (b := 5) hx hb dL_law_1154 ?_
  refine va_sld hx hb hX hbl hbA hS8 (hin 5 (by decide)) dL_law_1155 ?_
  refine cViI [.int (xs (nI (i + 1)).toNatClampNeg), .int (xs (nI (i + 2)).toNatClampNeg), .int (xs (nI (i + 3)).toNatClampNeg), .int (xs (nI (i + 4)).toNatClampNeg), .int (xs (nI (i + 5)).toNatClampNeg)] [.int r8] FX hK (c_X9_copy l D y g hB M P w cN n t rd (xs (nI (i + 1)).toNatClampNeg) (xs (nI (i + 2)).toNatClampNeg) (xs (nI (i + 3)).toNatClampNeg) (xs (nI (i + 4)).toNatClampNeg) (xs (nI (i + 5)).toNatClampNeg) hR hIP hc1 hrd hsh) (cwV 5 hts gL_X9_copy rfl rfl rfl (by decide +kernel) ⟨(Nat.le_of_ble_eq_true rfl), (Nat.le_of_ble_eq_true rfl)⟩) hM8 (pre_recv hK hM8 (ci := 9) (q0 := 0) rfl rfl) rfl rfl hl (Nat.le_of_ble_eq_true rfl) dL_law_1156 ⟨(Nat.le_of_ble_eq_true rfl), (Nat.le_of_ble_eq_true rfl)⟩ hS8 hBx (fun r9 u9 H9 locs9 hp9 hw9 hS9 hk9 _ => ?_)
  have hw9 : va_P D vwCl (wM y g u9) H9 := hw9
  have hP9 : va_P D vwCl (wC y a u8.1 u8.2 row) H9 := hw8.kept (fun k q hq => hk9 q.1 (hw8 k q hq).lt (fun z => hAB q.1 z ((wC_D hA).2 k q hq)))
  have e : r8 = r9 := (congrArg Prod.fst hp8).trans hp9.1.symm
  have eP := congrArg Prod.snd hp8
  have hIn : INE u8.1 := (show u8.1 = _ from eP) ▸ ine_copy hI0 (xs (nI (i + 1)).toNatClampNeg) (xs (nI (i + 2)).toNatClampNeg) (xs (nI (i + 3)).toNatClampNeg) (xs (nI (i + 4)).toNatClampNeg) (xs (nI (i + 5)).toNatClampNeg)
  have hRn : RQ u8.1 u9 := (show u8.1 = _ from eP) ▸ hp9.2
  refine lv_icmp_eq (tgt := 1292) hx hb dL_law_1159 (by decide) (fun _ => ?_) (fun h => by first | exact absurd e h | exact absurd e.symm h)
  exact kk _ _ _ _ _ _ hP9 hw9 hS9 hRn hIn

set_option maxRecDepth 100000 in
set_option maxHeartbeats 4000000 in
theorem law_29 {p : Program} {l : Launch} {e : Env} {s : State} {m : MethodId} {below : List Frame} {meth : Method} {c : Code} {Q : State → Prop} {b L : Nat} {xs : Nat → Int32} {D : va_G} {y : Nat → ClassId} {a g : Nat → Nat} {H : Heap} {locs : List Loc} {ls : Array Slot} {P X M : PT} {row : Value} {i : Nat}
    (FX : CallFix p m c cL_law 4 s #[Value.ref b] lw_tbl RL) (hK : KK D y s) (hX : va_X b L xs s s.heap) (hbl : b < s.heap.size) (hL : L ≤ 3072) (hA : CA a 44) (hB : CA g 26) (hAx : ∀ q, AC a q → s.heap.size ≤ q) (hBx : ∀ q, AM g q → s.heap.size ≤ q) (hAB : ∀ q, AM g q → ¬ AC a q) (hi : i + 6 ≤ L)
    (hP : va_P D vwCl (wC y a P X row) H) (hM : va_P D vwCl (wM y g M) H) (hS : va_S (fun q => s.heap.size ≤ q) s.heap H locs) (hR : RQ P M) (hI : INE P) (hl : lv_has ls 4 [(3, .int (nI i)), (0, .ref b), (1, .ref (a 0)), (2, .ref (g 0))])
    (kk : ∀ (P' X' M' : PT) (row' : Value) (H' : Heap) (locs' : List Loc), va_P D vwCl (wC y a P' X' row') H' → va_P D vwCl (wM y g M') H' → va_S (fun q => s.heap.size ≤ q) s.heap H' locs' → RQ P' M' → INE P' → W p l e room_1 s m #[Value.ref b] below meth c H' locs' 70 1597 Q (F0 m 1292 ls [])) : W p l e room_1 s m #[Value.ref b] below meth c H locs 70 1597 Q (F0 m 1164 ls []) := by
  obtain ⟨hx, hb, hml, hown, hts⟩ := id FX
  have hbA : ¬ (fun q : Nat => s.heap.size ≤ q) b := Nat.not_le.mpr hbl
  obtain ⟨w, cN, n, t, rd, yr, f, hI0⟩ := id hI
  obtain ⟨hIP, hc1, hrd, hsh, hkd, hyr, hwl, hff⟩ := id hI0
  have hin : ∀ j, j < 6 → vp_in (nI (i + j)) L := fun j hj => vp_in_nI (by omega) (by omega)
  refine lv_aload_n hx hb dL_law_1164 rfl (lv_at hl 2 rfl) ?_
  refine lv_aload_n hx hb dL_law_1165 rfl (lv_at hl 1 rfl) ?_
  refine lv_iload_n hx hb dL_law_1166 rfl (lv_at hl 0 rfl) ?_
  refine lv_iconst (v := nI 1) hx hb dL_law_1167 rfl ?_
  refine xn_iadd (a := i) (b := 1) hx hb dL_law_1168 ?_
  refine va_sld hx hb hX hbl hbA hS (hin 1 (by decide)) dL_law_1169 ?_
  refine cViI [.int (xs (nI (i + 1)).toNatClampNeg)] [] FX hK (c_X8_tell l D y a hA P X row w cN n t rd (xs (nI (i + 1)).toNatClampNeg) hIP hc1 hrd) (cwV 1 hts gL_X8_tell rfl rfl rfl (by decide +kernel) ⟨(Nat.le_of_ble_eq_true rfl), (Nat.le_of_ble_eq_true rfl)⟩) hP (pre_recv hK hP (ci := 8) (q0 := 0) rfl rfl) rfl rfl hl (Nat.le_of_ble_eq_true rfl) dL_law_1170 ⟨(Nat.le_of_ble_eq_true rfl), (Nat.le_of_ble_eq_true rfl)⟩ hS hAx (fun r8 u8 H8 locs8 hp8 hw8 hS8 hk8 _ => ?_)
  have hw8 : va_P D vwCl (wC y a u8.1 u8.2 row) H8 := hw8
  have hM8 : va_P D vwCl (wM y g M) H8 := hM.kept (fun k q hq => hk8 q.1 (hM k q hq).lt (hAB q.1 ((wM_D hB).2 k q hq)))
  refine lv_aload_n hx hb dL_law_1173 rfl (lv_at hl 3 rfl) ?_
  refine lv_aload_n hx hb dL_law_1174 rfl (lv_at hl 1 rfl) ?_
  refine lv_iload_n hx hb dL_law_1175 rfl (lv_at hl 0 rfl) ?_
  refine lv_iconst (v := nI 1) hx hb dL_law_1176 rfl ?_
  refine xn_iadd (a := i) (b := 1) hx hb dL_law_1177 ?_
  refine va_sld hx hb hX hbl hbA hS8 (hin 1 (by decide)) dL_law_1178 ?_
  refine cViI [.int (xs (nI (i + 1)).toNatClampNeg)] [.int r8] FX hK (c_X9_tell l D y g hB M P w cN n t rd (xs (nI (i + 1)).toNatClampNeg) hR hIP hc1 hrd hkd) (cwV 1 hts gL_X9_tell rfl rfl rfl (by decide +kernel) ⟨(Nat.le_of_ble_eq_true rfl), (Nat.le_of_ble_eq_true rfl)⟩) hM8 (pre_recv hK hM8 (ci := 9) (q0 := 0) rfl rfl) rfl rfl hl (Nat.le_of_ble_eq_true rfl) dL_law_1179 ⟨(Nat.le_of_ble_eq_true rfl), (Nat.le_of_ble_eq_true rfl)⟩ hS8 hBx (fun r9 u9 H9 locs9 hp9 hw9 hS9 hk9 _ => ?_)
  have hw9 : va_P D vwCl (wM y g u9) H9 := hw9
  have hP9 : va_P D vwCl (wC y a u8.1 u8.2 row) H9 := hw8.kept (fun k q hq => hk9 q.1 (hw8 k q hq).lt (fun z => hAB q.1 z ((wC_D hA).2 k q hq)))
  have e : r8 = r9 := (congrArg Prod.fst hp8).trans hp9.1.symm
  have eP := congrArg Prod.snd hp8
  have hIn : INE u8.1 := (show u8.1 = _ from eP) ▸ ine_tell hI0 (xs (nI (i + 1)).toNatClampNeg)
  have hRn : RQ u8.1 u9 := (show u8.1 = _ from eP) ▸ hp9.2
  refine lv_icmp_eq (tgt := 1292) hx hb dL_law_1182 (by decide) (fun _ => ?_) (fun h => by first | exact absurd e h | exact absurd e.symm h)
  exact kk _ _ _ _ _ _ hP9 hw9 hS9 hRn hIn

set_option maxRecDepth 100000 in
set_option maxHeartbeats 4000000 in
theorem law_30 {p : Program} {l : Launch} {e : Env} {s : State} {m : MethodId} {below : List Frame} {meth : Method} {c : Code} {Q : State → Prop} {b L : Nat} {xs : Nat → Int32} {D : va_G} {y : Nat → ClassId} {a g : Nat → Nat} {H : Heap} {locs : List Loc} {ls : Array Slot} {P X M : PT} {row : Value} {i : Nat}
    (FX : CallFix p m c cL_law 4 s #[Value.ref b] lw_tbl RL) (hK : KK D y s) (hX : va_X b L xs s s.heap) (hbl : b < s.heap.size) (hL : L ≤ 3072) (hA : CA a 44) (hB : CA g 26) (hAx : ∀ q, AC a q → s.heap.size ≤ q) (hBx : ∀ q, AM g q → s.heap.size ≤ q) (hAB : ∀ q, AM g q → ¬ AC a q) (hi : i + 6 ≤ L)
    (hP : va_P D vwCl (wC y a P X row) H) (hM : va_P D vwCl (wM y g M) H) (hS : va_S (fun q => s.heap.size ≤ q) s.heap H locs) (hR : RQ P M) (hI : INE P) (hl : lv_has ls 4 [(3, .int (nI i)), (0, .ref b), (1, .ref (a 0)), (2, .ref (g 0))])
    (kk : ∀ (P' X' M' : PT) (row' : Value) (H' : Heap) (locs' : List Loc), va_P D vwCl (wC y a P' X' row') H' → va_P D vwCl (wM y g M') H' → va_S (fun q => s.heap.size ≤ q) s.heap H' locs' → RQ P' M' → INE P' → W p l e room_1 s m #[Value.ref b] below meth c H' locs' 70 1597 Q (F0 m 1292 ls [])) : W p l e room_1 s m #[Value.ref b] below meth c H locs 70 1597 Q (F0 m 1187 ls []) := by
  obtain ⟨hx, hb, hml, hown, hts⟩ := id FX
  have hbA : ¬ (fun q : Nat => s.heap.size ≤ q) b := Nat.not_le.mpr hbl
  obtain ⟨w, cN, n, t, rd, yr, f, hI0⟩ := id hI
  obtain ⟨hIP, hc1, hrd, hsh, hkd, hyr, hwl, hff⟩ := id hI0
  have hin : ∀ j, j < 6 → vp_in (nI (i + j)) L := fun j hj => vp_in_nI (by omega) (by omega)
  refine lv_aload_n hx hb dL_law_1187 rfl (lv_at hl 2 rfl) ?_
  refine lv_aload_n hx hb dL_law_1188 rfl (lv_at hl 1 rfl) ?_
  refine lv_iload_n hx hb dL_law_1189 rfl (lv_at hl 0 rfl) ?_
  refine lv_iconst (v := nI 1) hx hb dL_law_1190 rfl ?_
  refine xn_iadd (a := i) (b := 1) hx hb dL_law_1191 ?_
  refine va_sld hx hb hX hbl hbA hS (hin 1 (by decide)) dL_law_1192 ?_
  refine cViI [.int (xs (nI (i + 1)).toNatClampNeg)] [] FX hK (c_X8_rent l D y a hA P X row w cN n t rd (xs (nI (i + 1)).toNatClampNeg) hIP hc1 hrd) (cwV 1 hts gL_X8_rent rfl rfl rfl (by decide +kernel) ⟨(Nat.le_of_ble_eq_true rfl), (Nat.le_of_ble_eq_true rfl)⟩) hP (pre_recv hK hP (ci := 8) (q0 := 0) rfl rfl) rfl rfl hl (Nat.le_of_ble_eq_true rfl) dL_law_1193 ⟨(Nat.le_of_ble_eq_true rfl), (Nat.le_of_ble_eq_true rfl)⟩ hS hAx (fun r8 u8 H8 locs8 hp8 hw8 hS8 hk8 _ => ?_)
  have hw8 : va_P D vwCl (wC y a u8.1 u8.2 row) H8 := hw8
  have hM8 : va_P D vwCl (wM y g M) H8 := hM.kept (fun k q hq => hk8 q.1 (hM k q hq).lt (hAB q.1 ((wM_D hB).2 k q hq)))
  refine lv_aload_n hx hb dL_law_1196 rfl (lv_at hl 3 rfl) ?_
  refine lv_aload_n hx hb dL_law_1197 rfl (lv_at hl 1 rfl) ?_
  refine lv_iload_n hx hb dL_law_1198 rfl (lv_at hl 0 rfl) ?_
  refine lv_iconst (v := nI 1) hx hb dL_law_1199 rfl ?_
  refine xn_iadd (a := i) (b := 1) hx hb dL_law_1200 ?_
  refine va_sld hx hb hX hbl hbA hS8 (hin 1 (by decide)) dL_law_1201 ?_
  refine cViI [.int (xs (nI (i + 1)).toNatClampNeg)] [.int r8] FX hK (c_X9_rent l D y g hB M P w cN n t rd (xs (nI (i + 1)).toNatClampNeg) hR hIP hc1 hrd) (cwV 1 hts gL_X9_rent rfl rfl rfl (by decide +kernel) ⟨(Nat.le_of_ble_eq_true rfl), (Nat.le_of_ble_eq_true rfl)⟩) hM8 (pre_recv hK hM8 (ci := 9) (q0 := 0) rfl rfl) rfl rfl hl (Nat.le_of_ble_eq_true rfl) dL_law_1202 ⟨(Nat.le_of_ble_eq_true rfl), (Nat.le_of_ble_eq_true rfl)⟩ hS8 hBx (fun r9 u9 H9 locs9 hp9 hw9 hS9 hk9 _ => ?_)
  have hw9 : va_P D vwCl (wM y g u9) H9 := hw9
  have hP9 : va_P D vwCl (wC y a u8.1 u8.2 row) H9 := hw8.kept (fun k q hq => hk9 q.1 (hw8 k q hq).lt (fun z => hAB q.1 z ((wC_D hA).2 k q hq)))
  have e : r8 = r9 := (congrArg Prod.fst hp8).trans hp9.1.symm
  have eP := congrArg Prod.snd hp8
  have hIn : INE u8.1 := (show u8.1 = _ from eP) ▸ ine_rent hI0 (xs (nI (i + 1)).toNatClampNeg)
  have hRn : RQ u8.1 u9 := (show u8.1 = _ from eP) ▸ hp9.2
  refine lv_icmp_eq (tgt := 1292) hx hb dL_law_1205 (by decide) (fun _ => ?_) (fun h => by first | exact absurd e h | exact absurd e.symm h)
  exact kk _ _ _ _ _ _ hP9 hw9 hS9 hRn hIn

set_option maxRecDepth 100000 in
set_option maxHeartbeats 4000000 in
theorem law_31 {p : Program} {l : Launch} {e : Env} {s : State} {m : MethodId} {below : List Frame} {meth : Method} {c : Code} {Q : State → Prop} {b L : Nat} {xs : Nat → Int32} {D : va_G} {y : Nat → ClassId} {a g : Nat → Nat} {H : Heap} {locs : List Loc} {ls : Array Slot} {P X M : PT} {row : Value} {i : Nat}
    (FX : CallFix p m c cL_law 4 s #[Value.ref b] lw_tbl RL) (hK : KK D y s) (hX : va_X b L xs s s.heap) (hbl : b < s.heap.size) (hL : L ≤ 3072) (hA : CA a 44) (hB : CA g 26) (hAx : ∀ q, AC a q → s.heap.size ≤ q) (hBx : ∀ q, AM g q → s.heap.size ≤ q) (hAB : ∀ q, AM g q → ¬ AC a q) (hi : i + 6 ≤ L)
    (hP : va_P D vwCl (wC y a P X row) H) (hM : va_P D vwCl (wM y g M) H) (hS : va_S (fun q => s.heap.size ≤ q) s.heap H locs) (hR : RQ P M) (hI : INE P) (hl : lv_has ls 4 [(3, .int (nI i)), (0, .ref b), (1, .ref (a 0)), (2, .ref (g 0))])
    (kk : ∀ (P' X' M' : PT) (row' : Value) (H' : Heap) (locs' : List Loc), va_P D vwCl (wC y a P' X' row') H' → va_P D vwCl (wM y g M') H' → va_S (fun q => s.heap.size ≤ q) s.heap H' locs' → RQ P' M' → INE P' → W p l e room_1 s m #[Value.ref b] below meth c H' locs' 70 1597 Q (F0 m 1292 ls [])) : W p l e room_1 s m #[Value.ref b] below meth c H locs 70 1597 Q (F0 m 1210 ls []) := by
  obtain ⟨hx, hb, hml, hown, hts⟩ := id FX
  have hbA : ¬ (fun q : Nat => s.heap.size ≤ q) b := Nat.not_le.mpr hbl
  obtain ⟨w, cN, n, t, rd, yr, f, hI0⟩ := id hI
  obtain ⟨hIP, hc1, hrd, hsh, hkd, hyr, hwl, hff⟩ := id hI0
  have hin : ∀ j, j < 6 → vp_in (nI (i + j)) L := fun j hj => vp_in_nI (by omega) (by omega)
  refine lv_aload_n hx hb dL_law_1210 rfl (lv_at hl 2 rfl) ?_
  refine lv_aload_n hx hb dL_law_1211 rfl (lv_at hl 1 rfl) ?_
  refine lv_iload_n hx hb dL_law_1212 rfl (lv_at hl 0 rfl) ?_
  refine lv_iconst (v := nI 1) hx hb dL_law_1213 rfl ?_
  refine xn_iadd (a := i) (b := 1) hx hb dL_law_1214 ?_
  refine va_sld hx hb hX hbl hbA hS (hin 1 (by decide)) dL_law_1215 ?_
  refine lv_aload_n hx hb dL_law_1216 rfl (lv_at hl 1 rfl) ?_
  refine lv_iload_n hx hb dL_law_1217 rfl (lv_at hl 0 rfl) ?_
  refine lv_iconst (v := nI 2) hx hb dL_law_1218 rfl ?_
  refine xn_iadd (a := i) (b := 2) hx hb dL_law_1219 ?_
  refine va_sld hx hb hX hbl hbA hS (hin 2 (by decide)) dL_law_1220 ?_
  refine cViI [.int (xs (nI (i + 1)).toNatClampNeg), .int (xs (nI (i + 2)).toNatClampNeg)] [] FX hK (c_X8_as l D y a hA P X row w cN n t rd (xs (nI (i + 1)).toNatClampNeg) (xs (nI (i + 2)).toNatClampNeg) hIP hc1 hrd) (cwV 2 hts gL_X8_as rfl rfl rfl (by decide +kernel) ⟨(Nat.le_of_ble_eq_true rfl), (Nat.le_of_ble_eq_true rfl)⟩) hP (pre_recv hK hP (ci := 8) (q0 := 0) rfl rfl) rfl rfl hl (Nat.le_of_ble_eq_true rfl) dL_law_1221 ⟨(Nat.le_of_ble_eq_true rfl), (Nat.le_of_ble_eq_true rfl)⟩ hS hAx (fun r8 u8 H8 locs8 hp8 hw8 hS8 hk8 _ => ?_)
  have hw8 : va_P D vwCl (wC y a u8.1 u8.2 row) H8 := hw8
  have hM8 : va_P D vwCl (wM y g M) H8 := hM.kept (fun k q hq => hk8 q.1 (hM k q hq).lt (hAB q.1 ((wM_D hB).2 k q hq)))
  refine lv_aload_n hx hb dL_law_1224 rfl (lv_at hl 3 rfl) ?_
  refine lv_aload_n hx hb dL_law_1225 rfl (lv_at hl 1 rfl) ?_
  refine lv_iload_n hx hb dL_law_1226 rfl (lv_at hl 0 rfl) ?_
  refine lv_iconst (v := nI 1) hx hb dL_law_1227 rfl ?_
  refine xn_iadd (a := i) (b := 1) hx hb dL_law_1228 ?_
  refine va_sld hx hb hX hbl hbA hS8 (hin 1 (by decide)) dL_law_1229 ?_
  refine lv_aload_n hx hb dL_law_1230 rfl (lv_at hl 1 rfl) ?_
  refine lv_iload_n hx hb dL_law_1231 rfl (lv_at hl 0 rfl) ?_
  refine lv_iconst (v := nI 2) hx hb dL_law_1232 rfl ?_
  refine xn_iadd (a := i) (b := 2) hx hb dL_law_1233 ?_
  refine va_sld hx hb hX hbl hbA hS8 (hin 2 (by decide)) dL_law_1234 ?_
  refine cViI [.int (xs (nI (i + 1)).toNatClampNeg), .int (xs (nI (i + 2)).toNatClampNeg)] [.int r8] FX hK (c_X9_as l D y g hB M P w cN n t rd (xs (nI (i + 1)).toNatClampNeg) (xs (nI (i + 2)).toNatClampNeg) hR hIP hc1 hrd) (cwV 2 hts gL_X9_as rfl rfl rfl (by decide +kernel) ⟨(Nat.le_of_ble_eq_true rfl), (Nat.le_of_ble_eq_true rfl)⟩) hM8 (pre_recv hK hM8 (ci := 9) (q0 := 0) rfl rfl) rfl rfl hl (Nat.le_of_ble_eq_true rfl) dL_law_1235 ⟨(Nat.le_of_ble_eq_true rfl), (Nat.le_of_ble_eq_true rfl)⟩ hS8 hBx (fun r9 u9 H9 locs9 hp9 hw9 hS9 hk9 _ => ?_)
  have hw9 : va_P D vwCl (wM y g u9) H9 := hw9
  have hP9 : va_P D vwCl (wC y a u8.1 u8.2 row) H9 := hw8.kept (fun k q hq => hk9 q.1 (hw8 k q hq).lt (fun z => hAB q.1 z ((wC_D hA).2 k q hq)))
  have e : r8 = r9 := (congrArg Prod.fst hp8).trans hp9.1.symm
  have eP := congrArg Prod.snd hp8
  have hIn : INE u8.1 := (show u8.1 = _ from eP) ▸ ine_as hI0 (xs (nI (i + 1)).toNatClampNeg) (xs (nI (i + 2)).toNatClampNeg)
  have hRn : RQ u8.1 u9 := (show u8.1 = _ from eP) ▸ hp9.2
  refine lv_icmp_eq (tgt := 1292) hx hb dL_law_1238 (by decide) (fun _ => ?_) (fun h => by first | exact absurd e h | exact absurd e.symm h)
  exact kk _ _ _ _ _ _ hP9 hw9 hS9 hRn hIn

set_option maxRecDepth 100000 in
set_option maxHeartbeats 4000000 in
theorem law_32 {p : Program} {l : Launch} {e : Env} {s : State} {m : MethodId} {below : List Frame} {meth : Method} {c : Code} {Q : State → Prop} {b L : Nat} {xs : Nat → Int32} {D : va_G} {y : Nat → ClassId} {a g : Nat → Nat} {H : Heap} {locs : List Loc} {ls : Array Slot} {P X M : PT} {row : Value} {i : Nat}
    (FX : CallFix p m c cL_law 4 s #[Value.ref b] lw_tbl RL) (hK : KK D y s) (hX : va_X b L xs s s.heap) (hbl : b < s.heap.size) (hL : L ≤ 3072) (hA : CA a 44) (hB : CA g 26) (hAx : ∀ q, AC a q → s.heap.size ≤ q) (hBx : ∀ q, AM g q → s.heap.size ≤ q) (hAB : ∀ q, AM g q → ¬ AC a q) (hi : i + 6 ≤ L)
    (hP : va_P D vwCl (wC y a P X row) H) (hM : va_P D vwCl (wM y g M) H) (hS : va_S (fun q => s.heap.size ≤ q) s.heap H locs) (hR : RQ P M) (hI : INE P) (hl : lv_has ls 4 [(3, .int (nI i)), (0, .ref b), (1, .ref (a 0)), (2, .ref (g 0))])
    (kk : ∀ (P' X' M' : PT) (row' : Value) (H' : Heap) (locs' : List Loc), va_P D vwCl (wC y a P' X' row') H' → va_P D vwCl (wM y g M') H' → va_S (fun q => s.heap.size ≤ q) s.heap H' locs' → RQ P' M' → INE P' → W p l e room_1 s m #[Value.ref b] below meth c H' locs' 70 1597 Q (F0 m 1292 ls [])) : W p l e room_1 s m #[Value.ref b] below meth c H locs 70 1597 Q (F0 m 1243 ls []) := by
  obtain ⟨hx, hb, hml, hown, hts⟩ := id FX
  have hbA : ¬ (fun q : Nat => s.heap.size ≤ q) b := Nat.not_le.mpr hbl
  obtain ⟨w, cN, n, t, rd, yr, f, hI0⟩ := id hI
  obtain ⟨hIP, hc1, hrd, hsh, hkd, hyr, hwl, hff⟩ := id hI0
  have hin : ∀ j, j < 6 → vp_in (nI (i + j)) L := fun j hj => vp_in_nI (by omega) (by omega)
  refine lv_aload_n hx hb dL_law_1243 rfl (lv_at hl 2 rfl) ?_
  refine cViI [] [] FX hK (c_X8_trace l D y a hA P X row w cN n t rd hIP hc1 hrd) (cwV 0 hts gL_X8_trace rfl rfl rfl (by decide +kernel) ⟨(Nat.le_of_ble_eq_true rfl), (Nat.le_of_ble_eq_true rfl)⟩) hP (pre_recv hK hP (ci := 8) (q0 := 0) rfl rfl) rfl rfl hl (Nat.le_of_ble_eq_true rfl) dL_law_1244 ⟨(Nat.le_of_ble_eq_true rfl), (Nat.le_of_ble_eq_true rfl)⟩ hS hAx (fun r8 u8 H8 locs8 hp8 hw8 hS8 hk8 _ => ?_)
  have hw8 : va_P D vwCl (wC y a u8.1 u8.2 row) H8 := hw8
  have hM8 : va_P D vwCl (wM y g M) H8 := hM.kept (fun k q hq => hk8 q.1 (hM k q hq).lt (hAB q.1 ((wM_D hB).2 k q hq)))
  refine lv_aload_n hx hb dL_law_1247 rfl (lv_at hl 3 rfl) ?_
  refine cViI [] [.int r8] FX hK (c_X9_trace l D y g hB M P w cN n t rd hR hIP hc1 hrd) (cwV 0 hts gL_X9_trace rfl rfl rfl (by decide +kernel) ⟨(Nat.le_of_ble_eq_true rfl), (Nat.le_of_ble_eq_true rfl)⟩) hM8 (pre_recv hK hM8 (ci := 9) (q0 := 0) rfl rfl) rfl rfl hl (Nat.le_of_ble_eq_true rfl) dL_law_1248 ⟨(Nat.le_of_ble_eq_true rfl), (Nat.le_of_ble_eq_true rfl)⟩ hS8 hBx (fun r9 u9 H9 locs9 hp9 hw9 hS9 hk9 _ => ?_)
  have hw9 : va_P D vwCl (wM y g u9) H9 := hw9
  have hP9 : va_P D vwCl (wC y a u8.1 u8.2 row) H9 := hw8.kept (fun k q hq => hk9 q.1 (hw8 k q hq).lt (fun z => hAB q.1 z ((wC_D hA).2 k q hq)))
  have e : r8 = r9 := (congrArg Prod.fst hp8).trans hp9.1.symm
  have eP := congrArg Prod.snd hp8
  have hIn : INE u8.1 := (show u8.1 = P from eP) ▸ hI
  have hRn : RQ u8.1 u9 := (show u8.1 = _ from eP) ▸ hp9.2
  refine lv_icmp_eq (tgt := 1292) hx hb dL_law_1251 (by decide) (fun _ => ?_) (fun h => by first | exact absurd e h | exact absurd e.symm h)
  exact kk _ _ _ _ _ _ hP9 hw9 hS9 hRn hIn

set_option maxRecDepth 100000 in
set_option maxHeartbeats 4000000 in
theorem law_33 {p : Program} {l : Launch} {e : Env} {s : State} {m : MethodId} {below : List Frame} {meth : Method} {c : Code} {Q : State → Prop} {b L : Nat} {xs : Nat → Int32} {D : va_G} {y : Nat → ClassId} {a g : Nat → Nat} {H : Heap} {locs : List Loc} {ls : Array Slot} {P X M : PT} {row : Value} {i : Nat}
    (FX : CallFix p m c cL_law 4 s #[Value.ref b] lw_tbl RL) (hK : KK D y s) (hX : va_X b L xs s s.heap) (hbl : b < s.heap.size) (hL : L ≤ 3072) (hA : CA a 44) (hB : CA g 26) (hAx : ∀ q, AC a q → s.heap.size ≤ q) (hBx : ∀ q, AM g q → s.heap.size ≤ q) (hAB : ∀ q, AM g q → ¬ AC a q) (hi : i + 6 ≤ L)
    (hP : va_P D vwCl (wC y a P X row) H) (hM : va_P D vwCl (wM y g M) H) (hS : va_S (fun q => s.heap.size ≤ q) s.heap H locs) (hR : RQ P M) (hI : INE P) (hl : lv_has ls 4 [(3, .int (nI i)), (0, .ref b), (1, .ref (a 0)), (2, .ref (g 0))])
    (kk : ∀ (P' X' M' : PT) (row' : Value) (H' : Heap) (locs' : List Loc), va_P D vwCl (wC y a P' X' row') H' → va_P D vwCl (wM y g M') H' → va_S (fun q => s.heap.size ≤ q) s.heap H' locs' → RQ P' M' → INE P' → W p l e room_1 s m #[Value.ref b] below meth c H' locs' 70 1597 Q (F0 m 1292 ls [])) : W p l e room_1 s m #[Value.ref b] below meth c H locs 70 1597 Q (F0 m 1256 ls []) := by
  obtain ⟨hx, hb, hml, hown, hts⟩ := id FX
  have hbA : ¬ (fun q : Nat => s.heap.size ≤ q) b := Nat.not_le.mpr hbl
  obtain ⟨w, cN, n, t, rd, yr, f, hI0⟩ := id hI
  obtain ⟨hIP, hc1, hrd, hsh, hkd, hyr, hwl, hff⟩ := id hI0
  have hin : ∀ j, j < 6 → vp_in (nI (i + j)) L := fun j hj => vp_in_nI (by omega) (by omega)
  refine lv_aload_n hx hb dL_law_1256 rfl (lv_at hl 2 rfl) ?_
  refine cViI [] [] FX hK (c_X8_fault l D y a hA P X row w cN n t rd hIP hc1 hrd) (cwV 0 hts gL_X8_fault rfl rfl rfl (by decide +kernel) ⟨(Nat.le_of_ble_eq_true rfl), (Nat.le_of_ble_eq_true rfl)⟩) hP (pre_recv hK hP (ci := 8) (q0 := 0) rfl rfl) rfl rfl hl (Nat.le_of_ble_eq_true rfl) dL_law_1257 ⟨(Nat.le_of_ble_eq_true rfl), (Nat.le_of_ble_eq_true rfl)⟩ hS hAx (fun r8 u8 H8 locs8 hp8 hw8 hS8 hk8 _ => ?_)
  have hw8 : va_P D vwCl (wC y a u8.1 u8.2 row) H8 := hw8
  have hM8 : va_P D vwCl (wM y g M) H8 := hM.kept (fun k q hq => hk8 q.1 (hM k q hq).lt (hAB q.1 ((wM_D hB).2 k q hq)))
  refine lv_aload_n hx hb dL_law_1260 rfl (lv_at hl 3 rfl) ?_
  refine cViI [] [.int r8] FX hK (c_X9_fault l D y g hB M P w cN n t rd hR hIP hc1 hrd) (cwV 0 hts gL_X9_fault rfl rfl rfl (by decide +kernel) ⟨(Nat.le_of_ble_eq_true rfl), (Nat.le_of_ble_eq_true rfl)⟩) hM8 (pre_recv hK hM8 (ci := 9) (q0 := 0) rfl rfl) rfl rfl hl (Nat.le_of_ble_eq_true rfl) dL_law_1261 ⟨(Nat.le_of_ble_eq_true rfl), (Nat.le_of_ble_eq_true rfl)⟩ hS8 hBx (fun r9 u9 H9 locs9 hp9 hw9 hS9 hk9 _ => ?_)
  have hw9 : va_P D vwCl (wM y g u9) H9 := hw9
  have hP9 : va_P D vwCl (wC y a u8.1 u8.2 row) H9 := hw8.kept (fun k q hq => hk9 q.1 (hw8 k q hq).lt (fun z => hAB q.1 z ((wC_D hA).2 k q hq)))
  have e : r8 = r9 := (congrArg Prod.fst hp8).trans hp9.1.symm
  have eP := congrArg Prod.snd hp8
  have hIn : INE u8.1 := (show u8.1 = P from eP) ▸ hI
  have hRn : RQ u8.1 u9 := (show u8.1 = _ from eP) ▸ hp9.2
  refine lv_icmp_eq (tgt := 1292) hx hb dL_law_1264 (by decide) (fun _ => ?_) (fun h => by first | exact absurd e h | exact absurd e.symm h)
  exact kk _ _ _ _ _ _ hP9 hw9 hS9 hRn hIn

set_option maxRecDepth 100000 in
set_option maxHeartbeats 4000000 in
theorem law_34 {p : Program} {l : Launch} {e : Env} {s : State} {m : MethodId} {below : List Frame} {meth : Method} {c : Code} {Q : State → Prop} {b L : Nat} {xs : Nat → Int32} {D : va_G} {y : Nat → ClassId} {a g : Nat → Nat} {H : Heap} {locs : List Loc} {ls : Array Slot} {P X M : PT} {row : Value} {i : Nat}
    (FX : CallFix p m c cL_law 4 s #[Value.ref b] lw_tbl RL) (hK : KK D y s) (hX : va_X b L xs s s.heap) (hbl : b < s.heap.size) (hL : L ≤ 3072) (hA : CA a 44) (hB : CA g 26) (hAx : ∀ q, AC a q → s.heap.size ≤ q) (hBx : ∀ q, AM g q → s.heap.size ≤ q) (hAB : ∀ q, AM g q → ¬ AC a q) (hi : i + 6 ≤ L)
    (hP : va_P D vwCl (wC y a P X row) H) (hM : va_P D vwCl (wM y g M) H) (hS : va_S (fun q => s.heap.size ≤ q) s.heap H locs) (hR : RQ P M) (hI : INE P) (hl : lv_has ls 4 [(3, .int (nI i)), (0, .ref b), (1, .ref (a 0)), (2, .ref (g 0))])
    (kk : ∀ (P' X' M' : PT) (row' : Value) (H' : Heap) (locs' : List Loc), va_P D vwCl (wC y a P' X' row') H' → va_P D vwCl (wM y g M') H' → va_S (fun q => s.heap.size ≤ q) s.heap H' locs' → RQ P' M' → INE P' → W p l e room_1 s m #[Value.ref b] below meth c H' locs' 70 1597 Q (F0 m 1292 ls [])) : W p l e room_1 s m #[Value.ref b] below meth c H locs 70 1597 Q (F0 m 1269 ls []) := by
  obtain ⟨hx, hb, hml, hown, hts⟩ := id FX
  have hbA : ¬ (fun q : Nat => s.heap.size ≤ q) b := Nat.not_le.mpr hbl
  obtain ⟨w, cN, n, t, rd, yr, f, hI0⟩ := id hI
  obtain ⟨hIP, hc1, hrd, hsh, hkd, hyr, hwl, hff⟩ := id hI0
  have hin : ∀ j, j < 6 → vp_in (nI (i + j)) L := fun j hj => vp_in_nI (by omega) (by omega)
  refine lv_aload_n hx hb dL_law_1269 rfl (lv_at hl 2 rfl) ?_
  refine lv_aload_n hx hb dL_law_1270 rfl (lv_at hl 1 rfl) ?_
  refine lv_iload_n hx hb dL_law_1271 rfl (lv_at hl 0 rfl) ?_
  refine lv_iconst (v := nI 1) hx hb dL_law_1272 rfl ?_
  refine xn_iadd (a := i) (b := 1) hx hb dL_law_1273 ?_
  refine va_sld hx hb hX hbl hbA hS (hin 1 (by decide)) dL_law_1274 ?_
  refine cViI [.int (xs (nI (i + 1)).toNatClampNeg)] [] FX hK (c_X8_many l D y a hA P X row w cN n t rd (xs (nI (i + 1)).toNatClampNeg) hIP hc1 hrd) (cwV 1 hts gL_X8_many rfl rfl rfl (by decide +kernel) ⟨(Nat.le_of_ble_eq_true rfl), (Nat.le_of_ble_eq_true rfl)⟩) hP (pre_recv hK hP (ci := 8) (q0 := 0) rfl rfl) rfl rfl hl (Nat.le_of_ble_eq_true rfl) dL_law_1275 ⟨(Nat.le_of_ble_eq_true rfl), (Nat.le_of_ble_eq_true rfl)⟩ hS hAx (fun r8 u8 H8 locs8 hp8 hw8 hS8 hk8 _ => ?_)
  have hw8 : va_P D vwCl (wC y a u8.1 u8.2 row) H8 := hw8
  have hM8 : va_P D vwCl (wM y g M) H8 := hM.kept (fun k q hq => hk8 q.1 (hM k q hq).lt (hAB q.1 ((wM_D hB).2 k q hq)))
  refine lv_aload_n hx hb dL_law_1278 rfl (lv_at hl 3 rfl) ?_
  refine lv_aload_n hx hb dL_law_1279 rfl (lv_at hl 1 rfl) ?_
  refine lv_iload_n hx hb dL_law_1280 rfl (lv_at hl 0 rfl) ?_
  refine lv_iconst (v := nI 1) hx hb dL_law_1281 rfl ?_
  refine xn_iadd (a := i) (b := 1) hx hb dL_law_1282 ?_
  refine va_sld hx hb hX hbl hbA hS8 (hin 1 (by decide)) dL_law_1283 ?_
  refine cViI [.int (xs (nI (i + 1)).toNatClampNeg)] [.int r8] FX hK (c_X9_many l D y g hB M P w cN n t rd (xs (nI (i + 1)).toNatClampNeg) hR hIP hc1 hrd) (cwV 1 hts gL_X9_many rfl rfl rfl (by decide +kernel) ⟨(Nat.le_of_ble_eq_true rfl), (Nat.le_of_ble_eq_true rfl)⟩) hM8 (pre_recv hK hM8 (ci := 9) (q0 := 0) rfl rfl) rfl rfl hl (Nat.le_of_ble_eq_true rfl) dL_law_1284 ⟨(Nat.le_of_ble_eq_true rfl), (Nat.le_of_ble_eq_true rfl)⟩ hS8 hBx (fun r9 u9 H9 locs9 hp9 hw9 hS9 hk9 _ => ?_)
  have hw9 : va_P D vwCl (wM y g u9) H9 := hw9
  have hP9 : va_P D vwCl (wC y a u8.1 u8.2 row) H9 := hw8.kept (fun k q hq => hk9 q.1 (hw8 k q hq).lt (fun z => hAB q.1 z ((wC_D hA).2 k q hq)))
  have e : r8 = r9 := (congrArg Prod.fst hp8).trans hp9.1.symm
  have eP := congrArg Prod.snd hp8
  have hIn : INE u8.1 := by
    rw [show u8.1 = _ from eP, s_many]; exact hI
  have hRn : RQ u8.1 u9 := (show u8.1 = _ from eP) ▸ hp9.2
  refine lv_icmp_eq (tgt := 1292) hx hb dL_law_1287 (by decide) (fun _ => ?_) (fun h => by first | exact absurd e h | exact absurd e.symm h)
  exact kk _ _ _ _ _ _ hP9 hw9 hS9 hRn hIn

