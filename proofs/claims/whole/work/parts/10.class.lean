abbrev rmX8_ofCell : Room := { frames := 4, cells := 0, slots := 0, locals := 88 }
set_option maxRecDepth 100000 in
set_option maxHeartbeats 4000000 in
theorem c_X8_ofCell (l : Launch) (D : va_G) (y : Nat → ClassId) (a : Nat → Nat) (hA : CA a 44) (P X : PT) (row : Value) (w cN n t rd : Nat) (x : Int32) (wh : Int32)  (hI : IP P w cN n t) (hc1 : P.1 1 = nI cN) (hr : RD P n rd) : CtI l D y yX8_ofCell wsX8_ofCell rmX8_ofCell [.ref (a 0), .int x, .int wh] (wC y a P X row) (fun (r : Int32) (u : PT × PT) => (r, u.1) = ansOfCell P cN x wh) (fun (u : PT × PT) => wC y a u.1 u.2 row) (AC a) := by
  refine mkI (cc := cX8_ofCell) (maxL := 3) (ret := some .int) RX8 rfl (by decide) rfl (Or.inl rfl) (Nat.le_of_ble_eq_true rfl) ?_
  intro p e s m args below meth c Q FX hK hP ret ls hl
  obtain ⟨hx, hb, hml, hown, hts⟩ := id FX
  have hS : va_S (AC a) s.heap s.heap [] := va_S.rf
  have in1 : ∀ w ∈ wsX10, w ∈ wsX8_ofCell := fun _ h => List.mem_cons_of_mem _ (List.mem_append_left _ (List.mem_append_right _ (h)))
  have in2 : ∀ w ∈ wsX20, w ∈ wsX8_ofCell := fun _ h => List.mem_cons_of_mem _ (List.mem_append_left _ (List.mem_append_left _ (List.mem_append_right _ (h))))
  have in7 : ∀ w ∈ wsX70, w ∈ wsX8_ofCell := fun _ h => List.mem_cons_of_mem _ (List.mem_append_right _ (h))
  have in8 : ∀ w ∈ wsX80, w ∈ wsX8_ofCell := fun _ h => List.mem_cons_of_mem _ (List.mem_append_left _ (List.mem_append_left _ (List.mem_append_left _ (List.mem_append_right _ (h)))))
  have hl : lv_has ls 3 [(0, .ref (a 0)), (1, .int x), (2, .int wh)] := hl
  have hcl := hI.c30
  have hnl := hI.n8
  have htl := hI.t8
  have hrl := hr.2.1
  refine lv_aload_n hx hb dX8_ofCell_0 rfl (lv_at hl 0 rfl) ?_
  refine cg8_2 FX hK in8 hP (List.mem_of_getElem? (i := 1) rfl) dX8_ofCell_1 ?_
  refine lv_iload_n hx hb dX8_ofCell_4 rfl (lv_at hl 1 rfl) ?_
  refine cViI [.int x] [] FX hK (c_X2_hasCell l D y a hA P X row x cN hc1 (by omega)) (cwV 1 hts gX8_ofCell_X2_hasCell rfl rfl rfl (by decide +kernel) ⟨Nat.le_of_ble_eq_true rfl, Nat.le_of_ble_eq_true rfl⟩) hP (pre_recv hK hP (ci := 2) (q0 := 14) rfl rfl) rfl rfl hl (Nat.le_of_ble_eq_true rfl) dX8_ofCell_5 ⟨Nat.zero_le _, Nat.zero_le _⟩ hS (fun _ h => h) (fun r5 u5 H locs hp5 hP hS _ _ => ?_)
  obtain rfl := hp5
  refine xb_ne (tgt := 13) hx hb dX8_ofCell_8 (by decide) (fun c8 => ?_) (fun c8 => ?_)
  · have k8 := c8
    obtain ⟨j, hj, rfl⟩ := c8
    refine lv_iload_n hx hb dX8_ofCell_13 rfl (lv_at hl 2 rfl) ?_
    by_cases c14_0 : wh = 0
    · refine lv_tableIn (off := 26) (tgt := 40) hx hb dX8_ofCell_14 (by rw [c14_0]; decide) (by rw [c14_0]; decide) (by rw [c14_0]; rfl) (by decide) ?_
      refine lv_aload_n hx hb dX8_ofCell_40 rfl (lv_at hl 0 rfl) ?_
      refine cg8_2 FX hK in8 hP (List.mem_of_getElem? (i := 1) rfl) dX8_ofCell_41 ?_
      refine cg2_0 FX hK in2 hP (List.mem_of_getElem? (i := 2) rfl) dX8_ofCell_44 ?_
      refine lv_iload_n hx hb dX8_ofCell_47 rfl (lv_at hl 1 rfl) ?_
      refine ca15 (i := j) (by omega) FX hK hP dX8_ofCell_48 ?_
      exact ret H locs 49 ls (P.2 0 j) (P, X) dX8_ofCell_49 (by unfold ansOfCell; rw [dN_nI (show j < 2 ^ 31 by omega), cif_t k8, cif_t c14_0]) hP hS
    by_cases c14_1 : wh = 1
    · refine lv_tableIn (off := 36) (tgt := 50) hx hb dX8_ofCell_14 (by rw [c14_1]; decide) (by rw [c14_1]; decide) (by rw [c14_1]; rfl) (by decide) ?_
      refine lv_aload_n hx hb dX8_ofCell_50 rfl (lv_at hl 0 rfl) ?_
      refine cg8_2 FX hK in8 hP (List.mem_of_getElem? (i := 1) rfl) dX8_ofCell_51 ?_
      refine lv_iload_n hx hb dX8_ofCell_54 rfl (lv_at hl 1 rfl) ?_
      refine cViI [.int (nI j)] [] FX hK (c_X2_topOf l D y a hA P X row j cN (by omega) hI.c30 hI.vt) (cwV 1 hts gX8_ofCell_X2_topOf rfl rfl rfl (by decide +kernel) ⟨Nat.le_of_ble_eq_true rfl, Nat.le_of_ble_eq_true rfl⟩) hP (pre_recv hK hP (ci := 2) (q0 := 14) rfl rfl) rfl rfl hl (Nat.le_of_ble_eq_true rfl) dX8_ofCell_55 ⟨Nat.zero_le _, Nat.zero_le _⟩ hS (fun _ h => h) (fun r55 u55 H locs hp55 hP hS _ _ => ?_)
      obtain rfl := hp55
      exact ret H locs 58 ls (sTop P (P.1 5) (fun k => tbI (P.1 4) (nI k)) j) (P, X) dX8_ofCell_58 (by unfold ansOfCell; rw [dN_nI (show j < 2 ^ 31 by omega), cif_t k8, cif_f c14_0, cif_t c14_1]) hP hS
    by_cases c14_2 : wh = 2
    · refine lv_tableIn (off := 45) (tgt := 59) hx hb dX8_ofCell_14 (by rw [c14_2]; decide) (by rw [c14_2]; decide) (by rw [c14_2]; rfl) (by decide) ?_
      refine lv_aload_n hx hb dX8_ofCell_59 rfl (lv_at hl 0 rfl) ?_
      refine cg8_2 FX hK in8 hP (List.mem_of_getElem? (i := 1) rfl) dX8_ofCell_60 ?_
      refine cg2_2 FX hK in2 hP (List.mem_of_getElem? (i := 3) rfl) dX8_ofCell_63 ?_
      refine lv_iload_n hx hb dX8_ofCell_66 rfl (lv_at hl 1 rfl) ?_
      refine ca17 (i := j) (by omega) FX hK hP dX8_ofCell_67 ?_
      exact ret H locs 68 ls (P.2 2 j) (P, X) dX8_ofCell_68 (by unfold ansOfCell; rw [dN_nI (show j < 2 ^ 31 by omega), cif_t k8, cif_f c14_0, cif_f c14_1, cif_t c14_2]) hP hS
    refine lv_tableOut (tgt := 69) hx hb dX8_ofCell_14 (sw_out2 c14_0 c14_1 c14_2) (by decide) ?_
    refine lv_bipush (v := (-2)) hx hb dX8_ofCell_69 rfl ?_
    exact ret H locs 71 ls (-2) (P, X) dX8_ofCell_71 (by unfold ansOfCell; rw [dN_nI (show j < 2 ^ 31 by omega), cif_t k8, cif_f c14_0, cif_f c14_1, cif_f c14_2]) hP hS
  · refine lv_iconst (v := (-1)) hx hb dX8_ofCell_11 rfl ?_
    exact ret H locs 12 ls (-1) (P, X) dX8_ofCell_12 (by unfold ansOfCell; rw [cif_f c8]) hP hS

abbrev rmX8_ofHouse : Room := { frames := 2, cells := 0, slots := 0, locals := 44 }
set_option maxRecDepth 100000 in
set_option maxHeartbeats 4000000 in
theorem c_X8_ofHouse (l : Launch) (D : va_G) (y : Nat → ClassId) (a : Nat → Nat) (hA : CA a 44) (P X : PT) (row : Value) (w cN n t rd : Nat) (x : Int32) (wh : Int32)  (hI : IP P w cN n t) (hc1 : P.1 1 = nI cN) (hr : RD P n rd) : CtI l D y yX8_ofHouse wsX8_ofHouse rmX8_ofHouse [.ref (a 0), .int x, .int wh] (wC y a P X row) (fun (r : Int32) (u : PT × PT) => (r, u.1) = ansOfHouse P n x wh) (fun (u : PT × PT) => wC y a u.1 u.2 row) (AC a) := by
  refine mkI (cc := cX8_ofHouse) (maxL := 4) (ret := some .int) RX8 rfl (by decide) rfl (Or.inl rfl) (Nat.le_of_ble_eq_true rfl) ?_
  intro p e s m args below meth c Q FX hK hP ret ls hl
  obtain ⟨hx, hb, hml, hown, hts⟩ := id FX
  have hS : va_S (AC a) s.heap s.heap [] := va_S.rf
  have in1 : ∀ w ∈ wsX10, w ∈ wsX8_ofHouse := fun _ h => List.mem_cons_of_mem _ (List.mem_append_right _ (h))
  have in2 : ∀ w ∈ wsX20, w ∈ wsX8_ofHouse := fun _ h => List.mem_cons_of_mem _ (List.mem_append_left _ (List.mem_append_right _ (h)))
  have in8 : ∀ w ∈ wsX80, w ∈ wsX8_ofHouse := fun _ h => List.mem_cons_of_mem _ (List.mem_append_left _ (List.mem_append_left _ (List.mem_append_right _ (h))))
  have hl : lv_has ls 4 [(0, .ref (a 0)), (1, .int x), (2, .int wh)] := hl
  have hcl := hI.c30
  have hnl := hI.n8
  have htl := hI.t8
  have hrl := hr.2.1
  refine lv_aload_n hx hb dX8_ofHouse_0 rfl (lv_at hl 0 rfl) ?_
  refine cg8_2 FX hK in8 hP (List.mem_of_getElem? (i := 1) rfl) dX8_ofHouse_1 ?_
  refine lv_iload_n hx hb dX8_ofHouse_4 rfl (lv_at hl 1 rfl) ?_
  refine cViI [.int x] [] FX hK (c_X2_hasHouse l D y a hA P X row x n hI.nn (by omega)) (cwV 1 hts gX8_ofHouse_X2_hasHouse rfl rfl rfl (by decide +kernel) ⟨Nat.le_of_ble_eq_true rfl, Nat.le_of_ble_eq_true rfl⟩) hP (pre_recv hK hP (ci := 2) (q0 := 14) rfl rfl) rfl rfl hl (Nat.le_of_ble_eq_true rfl) dX8_ofHouse_5 ⟨Nat.zero_le _, Nat.zero_le _⟩ hS (fun _ h => h) (fun r5 u5 H locs hp5 hP hS _ _ => ?_)
  obtain rfl := hp5
  refine xb_ne (tgt := 13) hx hb dX8_ofHouse_8 (by decide) (fun c8 => ?_) (fun c8 => ?_)
  · have k8 := c8
    obtain ⟨j, hj, rfl⟩ := c8
    refine lv_aload_n hx hb dX8_ofHouse_13 rfl (lv_at hl 0 rfl) ?_
    refine cg8_2 FX hK in8 hP (List.mem_of_getElem? (i := 1) rfl) dX8_ofHouse_14 ?_
    refine cg2_3 FX hK in2 hP (List.mem_of_getElem? (i := 2) rfl) dX8_ofHouse_17 ?_
    refine lv_iload_n hx hb dX8_ofHouse_20 rfl (lv_at hl 1 rfl) ?_
    refine ca18 (i := j) (by omega) FX hK hP dX8_ofHouse_21 ?_
    refine lv_astore_n (lv' := [(3, .ref (a (20 + j))), (0, .ref (a 0)), (1, .int (nI j)), (2, .int wh)]) hx hb dX8_ofHouse_22 rfl hl (by decide) rfl (fun ls hl => ?_)
    refine lv_iload_n hx hb dX8_ofHouse_23 rfl (lv_at hl 3 rfl) ?_
    by_cases c24_0 : wh = 0
    · refine lv_tableIn (off := 36) (tgt := 60) hx hb dX8_ofHouse_24 (by rw [c24_0]; decide) (by rw [c24_0]; decide) (by rw [c24_0]; rfl) (by decide) ?_
      refine lv_aload_n hx hb dX8_ofHouse_60 rfl (lv_at hl 0 rfl) ?_
      refine cg1_0 (h := j) (by omega) FX hK in1 hP (List.mem_of_getElem? (i := 3) rfl) dX8_ofHouse_61 ?_
      exact ret H locs 64 ls (P.2 3 j) (P, X) dX8_ofHouse_64 (by unfold ansOfHouse; rw [dN_nI (show j < 2 ^ 31 by omega), cif_t k8, cif_t c24_0]) hP hS
    by_cases c24_1 : wh = 1
    · refine lv_tableIn (off := 41) (tgt := 65) hx hb dX8_ofHouse_24 (by rw [c24_1]; decide) (by rw [c24_1]; decide) (by rw [c24_1]; rfl) (by decide) ?_
      refine lv_aload_n hx hb dX8_ofHouse_65 rfl (lv_at hl 0 rfl) ?_
      refine cg1_1 (h := j) (by omega) FX hK in1 hP (List.mem_of_getElem? (i := 4) rfl) dX8_ofHouse_66 ?_
      exact ret H locs 69 ls (P.2 4 j) (P, X) dX8_ofHouse_69 (by unfold ansOfHouse; rw [dN_nI (show j < 2 ^ 31 by omega), cif_t k8, cif_f c24_0, cif_t c24_1]) hP hS
    by_cases c24_2 : wh = 2
    · refine lv_tableIn (off := 46) (tgt := 70) hx hb dX8_ofHouse_24 (by rw [c24_2]; decide) (by rw [c24_2]; decide) (by rw [c24_2]; rfl) (by decide) ?_
      refine lv_aload_n hx hb dX8_ofHouse_70 rfl (lv_at hl 0 rfl) ?_
      refine cg1_2 (h := j) (by omega) FX hK in1 hP (List.mem_of_getElem? (i := 5) rfl) dX8_ofHouse_71 ?_
      exact ret H locs 74 ls (P.2 5 j) (P, X) dX8_ofHouse_74 (by unfold ansOfHouse; rw [dN_nI (show j < 2 ^ 31 by omega), cif_t k8, cif_f c24_0, cif_f c24_1, cif_t c24_2]) hP hS
    by_cases c24_3 : wh = 3
    · refine lv_tableIn (off := 51) (tgt := 75) hx hb dX8_ofHouse_24 (by rw [c24_3]; decide) (by rw [c24_3]; decide) (by rw [c24_3]; rfl) (by decide) ?_
      refine lv_aload_n hx hb dX8_ofHouse_75 rfl (lv_at hl 0 rfl) ?_
      refine lv_aload_n hx hb dX8_ofHouse_76 rfl (lv_at hl 0 rfl) ?_
      refine cg1_3 (h := j) (by omega) FX hK in1 hP (List.mem_of_getElem? (i := 6) rfl) dX8_ofHouse_77 ?_
      refine lv_aload_n hx hb dX8_ofHouse_80 rfl (lv_at hl 1 rfl) ?_
      refine cg8_2 FX hK in8 hP (List.mem_of_getElem? (i := 1) rfl) dX8_ofHouse_81 ?_
      refine cg2_12 FX hK in2 hP (List.mem_of_getElem? (i := 7) rfl) dX8_ofHouse_84 ?_
      refine cViI [.int (P.2 6 j), .int (P.1 7)] [] FX hK (c_X1_tallWith l D y a hA P X row j (P.2 6 j) (by omega)) (cwV 2 hts gX8_ofHouse_X1_tallWith rfl rfl rfl (by decide +kernel) ⟨Nat.le_of_ble_eq_true rfl, Nat.le_of_ble_eq_true rfl⟩) hP (pre_recv hK hP (ci := 1) (q0 := 20 + j) rfl (wC_house y a _ _ _ j (by omega))) rfl rfl hl (Nat.le_of_ble_eq_true rfl) dX8_ofHouse_87 ⟨Nat.zero_le _, Nat.zero_le _⟩ hS (fun _ h => h) (fun r87 u87 H locs hp87 hP hS _ _ => ?_)
      obtain rfl := hp87
      exact ret H locs 90 ls (sHt P j (P.2 6 j)) (P, X) dX8_ofHouse_90 (by unfold ansOfHouse; rw [dN_nI (show j < 2 ^ 31 by omega), cif_t k8, cif_f c24_0, cif_f c24_1, cif_f c24_2, cif_t c24_3]) hP hS
    by_cases c24_4 : wh = 4
    · refine lv_tableIn (off := 67) (tgt := 91) hx hb dX8_ofHouse_24 (by rw [c24_4]; decide) (by rw [c24_4]; decide) (by rw [c24_4]; rfl) (by decide) ?_
      refine lv_aload_n hx hb dX8_ofHouse_91 rfl (lv_at hl 0 rfl) ?_
      refine cg1_3 (h := j) (by omega) FX hK in1 hP (List.mem_of_getElem? (i := 6) rfl) dX8_ofHouse_92 ?_
      exact ret H locs 95 ls (P.2 6 j) (P, X) dX8_ofHouse_95 (by unfold ansOfHouse; rw [dN_nI (show j < 2 ^ 31 by omega), cif_t k8, cif_f c24_0, cif_f c24_1, cif_f c24_2, cif_f c24_3, cif_t c24_4]) hP hS
    refine lv_tableOut (tgt := 96) hx hb dX8_ofHouse_24 (sw_out4 c24_0 c24_1 c24_2 c24_3 c24_4) (by decide) ?_
    refine lv_bipush (v := (-2)) hx hb dX8_ofHouse_96 rfl ?_
    exact ret H locs 98 ls (-2) (P, X) dX8_ofHouse_98 (by unfold ansOfHouse; rw [dN_nI (show j < 2 ^ 31 by omega), cif_t k8, cif_f c24_0, cif_f c24_1, cif_f c24_2, cif_f c24_3, cif_f c24_4]) hP hS
  · refine lv_iconst (v := (-1)) hx hb dX8_ofHouse_11 rfl ?_
    exact ret H locs 12 ls (-1) (P, X) dX8_ofHouse_12 (by unfold ansOfHouse; rw [cif_f c8]) hP hS

abbrev rmX8_ofTree : Room := { frames := 2, cells := 0, slots := 0, locals := 44 }
set_option maxRecDepth 100000 in
set_option maxHeartbeats 4000000 in
theorem c_X8_ofTree (l : Launch) (D : va_G) (y : Nat → ClassId) (a : Nat → Nat) (hA : CA a 44) (P X : PT) (row : Value) (w cN n t rd : Nat) (x : Int32) (wh : Int32)  (hI : IP P w cN n t) (hc1 : P.1 1 = nI cN) (hr : RD P n rd) : CtI l D y yX8_ofTree wsX8_ofTree rmX8_ofTree [.ref (a 0), .int x, .int wh] (wC y a P X row) (fun (r : Int32) (u : PT × PT) => (r, u.1) = ansOfTree P t x wh) (fun (u : PT × PT) => wC y a u.1 u.2 row) (AC a) := by
  refine mkI (cc := cX8_ofTree) (maxL := 3) (ret := some .int) RX8 rfl (by decide) rfl (Or.inl rfl) (Nat.le_of_ble_eq_true rfl) ?_
  intro p e s m args below meth c Q FX hK hP ret ls hl
  obtain ⟨hx, hb, hml, hown, hts⟩ := id FX
  have hS : va_S (AC a) s.heap s.heap [] := va_S.rf
  have in2 : ∀ w ∈ wsX20, w ∈ wsX8_ofTree := fun _ h => List.mem_cons_of_mem _ (List.mem_append_left _ (List.mem_append_right _ (h)))
  have in7 : ∀ w ∈ wsX70, w ∈ wsX8_ofTree := fun _ h => List.mem_cons_of_mem _ (List.mem_append_right _ (h))
  have in8 : ∀ w ∈ wsX80, w ∈ wsX8_ofTree := fun _ h => List.mem_cons_of_mem _ (List.mem_append_left _ (List.mem_append_left _ (List.mem_append_right _ (h))))
  have hl : lv_has ls 3 [(0, .ref (a 0)), (1, .int x), (2, .int wh)] := hl
  have hcl := hI.c30
  have hnl := hI.n8
  have htl := hI.t8
  have hrl := hr.2.1
  refine lv_aload_n hx hb dX8_ofTree_0 rfl (lv_at hl 0 rfl) ?_
  refine cg8_2 FX hK in8 hP (List.mem_of_getElem? (i := 1) rfl) dX8_ofTree_1 ?_
  refine lv_iload_n hx hb dX8_ofTree_4 rfl (lv_at hl 1 rfl) ?_
  refine cViI [.int x] [] FX hK (c_X2_hasTree l D y a hA P X row x t hI.tt (by omega)) (cwV 1 hts gX8_ofTree_X2_hasTree rfl rfl rfl (by decide +kernel) ⟨Nat.le_of_ble_eq_true rfl, Nat.le_of_ble_eq_true rfl⟩) hP (pre_recv hK hP (ci := 2) (q0 := 14) rfl rfl) rfl rfl hl (Nat.le_of_ble_eq_true rfl) dX8_ofTree_5 ⟨Nat.zero_le _, Nat.zero_le _⟩ hS (fun _ h => h) (fun r5 u5 H locs hp5 hP hS _ _ => ?_)
  obtain rfl := hp5
  refine xb_ne (tgt := 13) hx hb dX8_ofTree_8 (by decide) (fun c8 => ?_) (fun c8 => ?_)
  · have k8 := c8
    obtain ⟨j, hj, rfl⟩ := c8
    refine lv_iload_n hx hb dX8_ofTree_13 rfl (lv_at hl 2 rfl) ?_
    by_cases c14_0 : wh = 0
    · refine lv_tableIn (off := 30) (tgt := 44) hx hb dX8_ofTree_14 (by rw [c14_0]; decide) (by rw [c14_0]; decide) (by rw [c14_0]; rfl) (by decide) ?_
      refine lv_aload_n hx hb dX8_ofTree_44 rfl (lv_at hl 0 rfl) ?_
      refine cg8_2 FX hK in8 hP (List.mem_of_getElem? (i := 1) rfl) dX8_ofTree_45 ?_
      refine cg2_4 FX hK in2 hP (List.mem_of_getElem? (i := 2) rfl) dX8_ofTree_48 ?_
      refine lv_iload_n hx hb dX8_ofTree_51 rfl (lv_at hl 1 rfl) ?_
      refine ca19 (i := j) (by omega) FX hK hP dX8_ofTree_52 ?_
      refine cg7_0 (h := j) (by omega) FX hK in7 hP (List.mem_of_getElem? (i := 3) rfl) dX8_ofTree_53 ?_
      exact ret H locs 56 ls (P.2 7 j) (P, X) dX8_ofTree_56 (by unfold ansOfTree; rw [dN_nI (show j < 2 ^ 31 by omega), cif_t k8, cif_t c14_0]) hP hS
    by_cases c14_1 : wh = 1
    · refine lv_tableIn (off := 43) (tgt := 57) hx hb dX8_ofTree_14 (by rw [c14_1]; decide) (by rw [c14_1]; decide) (by rw [c14_1]; rfl) (by decide) ?_
      refine lv_aload_n hx hb dX8_ofTree_57 rfl (lv_at hl 0 rfl) ?_
      refine cg8_2 FX hK in8 hP (List.mem_of_getElem? (i := 1) rfl) dX8_ofTree_58 ?_
      refine cg2_4 FX hK in2 hP (List.mem_of_getElem? (i := 2) rfl) dX8_ofTree_61 ?_
      refine lv_iload_n hx hb dX8_ofTree_64 rfl (lv_at hl 1 rfl) ?_
      refine ca19 (i := j) (by omega) FX hK hP dX8_ofTree_65 ?_
      refine cg7_1 (h := j) (by omega) FX hK in7 hP (List.mem_of_getElem? (i := 4) rfl) dX8_ofTree_66 ?_
      exact ret H locs 69 ls (P.2 8 j) (P, X) dX8_ofTree_69 (by unfold ansOfTree; rw [dN_nI (show j < 2 ^ 31 by omega), cif_t k8, cif_f c14_0, cif_t c14_1]) hP hS
    by_cases c14_2 : wh = 2
    · refine lv_tableIn (off := 56) (tgt := 70) hx hb dX8_ofTree_14 (by rw [c14_2]; decide) (by rw [c14_2]; decide) (by rw [c14_2]; rfl) (by decide) ?_
      refine lv_aload_n hx hb dX8_ofTree_70 rfl (lv_at hl 0 rfl) ?_
      refine cg8_2 FX hK in8 hP (List.mem_of_getElem? (i := 1) rfl) dX8_ofTree_71 ?_
      refine lv_iload_n hx hb dX8_ofTree_74 rfl (lv_at hl 1 rfl) ?_
      refine lv_aload_n hx hb dX8_ofTree_75 rfl (lv_at hl 0 rfl) ?_
      refine cg8_2 FX hK in8 hP (List.mem_of_getElem? (i := 1) rfl) dX8_ofTree_76 ?_
      refine cg2_10 FX hK in2 hP (List.mem_of_getElem? (i := 5) rfl) dX8_ofTree_79 ?_
      refine lv_aload_n hx hb dX8_ofTree_82 rfl (lv_at hl 0 rfl) ?_
      refine cg8_2 FX hK in8 hP (List.mem_of_getElem? (i := 1) rfl) dX8_ofTree_83 ?_
      refine cg2_9 FX hK in2 hP (List.mem_of_getElem? (i := 6) rfl) dX8_ofTree_86 ?_
      refine cViI [.int (nI j), .int (P.1 5), .int (P.1 4)] [] FX hK (c_X2_treeTall l D y a hA P X row j (P.1 5) (P.1 4) (by omega)) (cwV 3 hts gX8_ofTree_X2_treeTall rfl rfl rfl (by decide +kernel) ⟨Nat.le_of_ble_eq_true rfl, Nat.le_of_ble_eq_true rfl⟩) hP (pre_recv hK hP (ci := 2) (q0 := 14) rfl rfl) rfl rfl hl (Nat.le_of_ble_eq_true rfl) dX8_ofTree_89 ⟨Nat.zero_le _, Nat.zero_le _⟩ hS (fun _ h => h) (fun r89 u89 H locs hp89 hP hS _ _ => ?_)
      obtain rfl := hp89
      exact ret H locs 92 ls (sTr P j (P.1 5) (tbI (P.1 4) (nI j))) (P, X) dX8_ofTree_92 (by unfold ansOfTree; rw [dN_nI (show j < 2 ^ 31 by omega), cif_t k8, cif_f c14_0, cif_f c14_1, cif_t c14_2]) hP hS
    by_cases c14_3 : wh = 3
    · refine lv_tableIn (off := 79) (tgt := 93) hx hb dX8_ofTree_14 (by rw [c14_3]; decide) (by rw [c14_3]; decide) (by rw [c14_3]; rfl) (by decide) ?_
      refine lv_iload_n hx hb dX8_ofTree_93 rfl (lv_at hl 1 rfl) ?_
      refine lv_aload_n hx hb dX8_ofTree_94 rfl (lv_at hl 0 rfl) ?_
      refine cg8_2 FX hK in8 hP (List.mem_of_getElem? (i := 1) rfl) dX8_ofTree_95 ?_
      refine cg2_9 FX hK in2 hP (List.mem_of_getElem? (i := 6) rfl) dX8_ofTree_98 ?_
      refine cStI [.int (nI j), .int (P.1 4)] [] FX hK (c_X8_isIn l D y (nI j) (P.1 4)) (va_cwS 2 hts gX8_ofTree_X8_isIn rfl rfl rfl (by decide +kernel) ⟨Nat.le_of_ble_eq_true rfl, Nat.le_of_ble_eq_true rfl⟩) rfl rfl hl (Nat.le_of_ble_eq_true rfl) dX8_ofTree_101 ⟨Nat.zero_le _, Nat.zero_le _⟩ hP hS (fun r101 H locs hp101 hP hS => ?_)
      obtain rfl := hp101
      refine xb_eq (tgt := 111) hx hb dX8_ofTree_104 (by decide) (fun c104 => ?_) (fun c104 => ?_)
      · refine lv_iconst (v := nI 0) hx hb dX8_ofTree_111 rfl ?_
        exact ret H locs 112 ls (nI 0) (P, X) dX8_ofTree_112 (by unfold ansOfTree; rw [dN_nI (show j < 2 ^ 31 by omega), cif_t k8, cif_f c14_0, cif_f c14_1, cif_f c14_2, cif_t c14_3]; first | rw [b2_t c104] | rw [b2_f c104]) hP hS
      · refine lv_iconst (v := nI 1) hx hb dX8_ofTree_107 rfl ?_
        refine lv_goto (tgt := 112) hx hb dX8_ofTree_108 (by decide) ?_
        exact ret H locs 112 ls (nI 1) (P, X) dX8_ofTree_112 (by unfold ansOfTree; rw [dN_nI (show j < 2 ^ 31 by omega), cif_t k8, cif_f c14_0, cif_f c14_1, cif_f c14_2, cif_t c14_3]; first | rw [b2_t c104] | rw [b2_f c104]) hP hS
    refine lv_tableOut (tgt := 113) hx hb dX8_ofTree_14 (sw_out3 c14_0 c14_1 c14_2 c14_3) (by decide) ?_
    refine lv_bipush (v := (-2)) hx hb dX8_ofTree_113 rfl ?_
    exact ret H locs 115 ls (-2) (P, X) dX8_ofTree_115 (by unfold ansOfTree; rw [dN_nI (show j < 2 ^ 31 by omega), cif_t k8, cif_f c14_0, cif_f c14_1, cif_f c14_2, cif_f c14_3]) hP hS
  · refine lv_iconst (v := (-1)) hx hb dX8_ofTree_11 rfl ?_
    exact ret H locs 12 ls (-1) (P, X) dX8_ofTree_12 (by unfold ansOfTree; rw [cif_f c8]) hP hS

abbrev rmX8_times : Room := { frames := 1, cells := 0, slots := 0, locals := 22 }
set_option maxRecDepth 100000 in
set_option maxHeartbeats 4000000 in
theorem c_X8_times (l : Launch) (D : va_G) (y : Nat → ClassId) (a : Nat → Nat) (hA : CA a 44) (P X : PT) (row : Value) (w cN n t rd : Nat) (yr : Int32) (fg : Int32) (lw : Int32)  (hI : IP P w cN n t) (hc1 : P.1 1 = nI cN) (hr : RD P n rd) : CtI l D y yX8_times wsX8_times rmX8_times [.ref (a 0), .int yr, .int fg, .int lw] (wC y a P X row) (fun (r : Int32) (u : PT × PT) => (r, u.1) = ansTimes P cN yr fg lw) (fun (u : PT × PT) => wC y a u.1 u.2 row) (AC a) := by
  refine mkI (cc := cX8_times) (maxL := 4) (ret := some .int) RX8 rfl (by decide) rfl (Or.inl rfl) (Nat.le_of_ble_eq_true rfl) ?_
  intro p e s m args below meth c Q FX hK hP ret ls hl
  obtain ⟨hx, hb, hml, hown, hts⟩ := id FX
  have hS : va_S (AC a) s.heap s.heap [] := va_S.rf
  have in2 : ∀ w ∈ wsX20, w ∈ wsX8_times := fun _ h => List.mem_cons_of_mem _ (List.mem_append_right _ (h))
  have in8 : ∀ w ∈ wsX80, w ∈ wsX8_times := fun _ h => List.mem_cons_of_mem _ (List.mem_append_left _ (List.mem_append_right _ (h)))
  have hl : lv_has ls 4 [(0, .ref (a 0)), (1, .int yr), (2, .int fg), (3, .int lw)] := hl
  have hcl := hI.c30
  have hnl := hI.n8
  have htl := hI.t8
  have hrl := hr.2.1
  refine lv_iload_n hx hb dX8_times_0 rfl (lv_at hl 1 rfl) ?_
  refine lv_iconst (v := nI 0) hx hb dX8_times_1 rfl ?_
  refine lv_bipush (v := nI 30) hx hb dX8_times_2 rfl ?_
  refine cStI [.int yr, .int (nI 0), .int (nI 30)] [] FX hK (c_X8_isWithin l D y yr (nI 0) (nI 30)) (va_cwS 3 hts gX8_times_X8_isWithin rfl rfl rfl (by decide +kernel) ⟨Nat.le_of_ble_eq_true rfl, Nat.le_of_ble_eq_true rfl⟩) rfl rfl hl (Nat.le_of_ble_eq_true rfl) dX8_times_4 ⟨Nat.zero_le _, Nat.zero_le _⟩ hP hS (fun r4 H locs hp4 hP hS => ?_)
  obtain rfl := hp4
  refine xn_to hx (z := b2 (inR 0 30 yr)) (b2_iff (wth_iff (by omega) (by omega))) ?_
  refine xb_eq (tgt := 29) hx hb dX8_times_7 (by decide) (fun c7 => ?_) (fun c7 => ?_)
  · refine lv_bipush (v := (-2)) hx hb dX8_times_29 rfl ?_
    exact ret H locs 31 ls (-2) (P, X) dX8_times_31 (by unfold ansTimes; rw [cif_f c7]) hP hS
  · refine lv_iload_n hx hb dX8_times_10 rfl (lv_at hl 2 rfl) ?_
    refine lv_iconst (v := nI 1) hx hb dX8_times_11 rfl ?_
    refine lv_bipush (v := nI 9) hx hb dX8_times_12 rfl ?_
    refine cStI [.int fg, .int (nI 1), .int (nI 9)] [] FX hK (c_X8_isWithin l D y fg (nI 1) (nI 9)) (va_cwS 3 hts gX8_times_X8_isWithin rfl rfl rfl (by decide +kernel) ⟨Nat.le_of_ble_eq_true rfl, Nat.le_of_ble_eq_true rfl⟩) rfl rfl hl (Nat.le_of_ble_eq_true rfl) dX8_times_14 ⟨Nat.zero_le _, Nat.zero_le _⟩ hP hS (fun r14 H locs hp14 hP hS => ?_)
    obtain rfl := hp14
    refine xn_to hx (z := b2 (inR 1 9 fg)) (b2_iff (wth_iff (by omega) (by omega))) ?_
    refine xb_eq (tgt := 29) hx hb dX8_times_17 (by decide) (fun c17 => ?_) (fun c17 => ?_)
    · refine lv_bipush (v := (-2)) hx hb dX8_times_29 rfl ?_
      exact ret H locs 31 ls (-2) (P, X) dX8_times_31 (by unfold ansTimes; rw [cif_t c7, cif_f c17]) hP hS
    · refine lv_iload_n hx hb dX8_times_20 rfl (lv_at hl 3 rfl) ?_
      refine lv_iconst (v := nI 0) hx hb dX8_times_21 rfl ?_
      refine lv_iconst (v := nI 1) hx hb dX8_times_22 rfl ?_
      refine cStI [.int lw, .int (nI 0), .int (nI 1)] [] FX hK (c_X8_isWithin l D y lw (nI 0) (nI 1)) (va_cwS 3 hts gX8_times_X8_isWithin rfl rfl rfl (by decide +kernel) ⟨Nat.le_of_ble_eq_true rfl, Nat.le_of_ble_eq_true rfl⟩) rfl rfl hl (Nat.le_of_ble_eq_true rfl) dX8_times_23 ⟨Nat.zero_le _, Nat.zero_le _⟩ hP hS (fun r23 H locs hp23 hP hS => ?_)
      obtain rfl := hp23
      refine xn_to hx (z := b2 (inR 0 1 lw)) (b2_iff (wth_iff (by omega) (by omega))) ?_
      refine xb_ne (tgt := 32) hx hb dX8_times_26 (by decide) (fun c26 => ?_) (fun c26 => ?_)
      · refine lv_aload_n hx hb dX8_times_32 rfl (lv_at hl 0 rfl) ?_
        refine cg8_2 FX hK in8 hP (List.mem_of_getElem? (i := 1) rfl) dX8_times_33 ?_
        refine cViI [] [] FX hK (c_X2_isThere l D y a hA P X row cN hc1 hcl) (cwV 0 hts gX8_times_X2_isThere rfl rfl rfl (by decide +kernel) ⟨Nat.le_of_ble_eq_true rfl, Nat.le_of_ble_eq_true rfl⟩) hP (pre_recv hK hP (ci := 2) (q0 := 14) rfl rfl) rfl rfl hl (Nat.le_of_ble_eq_true rfl) dX8_times_36 ⟨Nat.zero_le _, Nat.zero_le _⟩ hS (fun _ h => h) (fun r36 u36 H locs hp36 hP hS _ _ => ?_)
        obtain rfl := hp36
        refine xb_ne (tgt := 45) hx hb dX8_times_39 (by decide) (fun c39 => ?_) (fun c39 => ?_)
        · refine lv_aload_n hx hb dX8_times_45 rfl (lv_at hl 0 rfl) ?_
          refine cg8_2 FX hK in8 hP (List.mem_of_getElem? (i := 1) rfl) dX8_times_46 ?_
          refine cg2_10 FX hK in2 hP (List.mem_of_getElem? (i := 2) rfl) dX8_times_49 ?_
          refine lv_iload_n hx hb dX8_times_52 rfl (lv_at hl 1 rfl) ?_
          refine lv_icmp_ne (tgt := 80) hx hb dX8_times_53 (by decide) (fun c53 => ?_) (fun c53 => ?_)
          · refine lv_aload_n hx hb dX8_times_80 rfl (lv_at hl 0 rfl) ?_
            refine cg8_2 FX hK in8 hP (List.mem_of_getElem? (i := 1) rfl) dX8_times_81 ?_
            refine lv_iload_n hx hb dX8_times_84 rfl (lv_at hl 1 rfl) ?_
            refine cp2_10 FX hK in2 hP hA hS (List.mem_of_getElem? (i := 2) rfl) dX8_times_85 (fun H locs hP hS => ?_)
            refine lv_aload_n hx hb dX8_times_88 rfl (lv_at hl 0 rfl) ?_
            refine cg8_2 FX hK in8 hP (List.mem_of_getElem? (i := 1) rfl) dX8_times_89 ?_
            refine lv_iload_n hx hb dX8_times_92 rfl (lv_at hl 2 rfl) ?_
            refine cp2_11 FX hK in2 hP hA hS (List.mem_of_getElem? (i := 3) rfl) dX8_times_93 (fun H locs hP hS => ?_)
            refine lv_aload_n hx hb dX8_times_96 rfl (lv_at hl 0 rfl) ?_
            refine cg8_2 FX hK in8 hP (List.mem_of_getElem? (i := 1) rfl) dX8_times_97 ?_
            refine lv_iload_n hx hb dX8_times_100 rfl (lv_at hl 3 rfl) ?_
            refine cp2_12 FX hK in2 hP hA hS (List.mem_of_getElem? (i := 4) rfl) dX8_times_101 (fun H locs hP hS => ?_)
            refine lv_iconst (v := nI 1) hx hb dX8_times_104 rfl ?_
            exact ret H locs 105 ls (nI 1) (pg (pg (pg P 5 yr) 6 fg) 7 lw, X) dX8_times_105 (by unfold ansTimes; rw [cif_t c7, cif_t c17, cif_t c26, cif_t c39, cif_f c53]) hP hS
          · refine lv_aload_n hx hb dX8_times_56 rfl (lv_at hl 0 rfl) ?_
            refine cg8_2 FX hK in8 hP (List.mem_of_getElem? (i := 1) rfl) dX8_times_57 ?_
            refine cg2_11 FX hK in2 hP (List.mem_of_getElem? (i := 3) rfl) dX8_times_60 ?_
            refine lv_iload_n hx hb dX8_times_63 rfl (lv_at hl 2 rfl) ?_
            refine lv_icmp_ne (tgt := 80) hx hb dX8_times_64 (by decide) (fun c64 => ?_) (fun c64 => ?_)
            · refine lv_aload_n hx hb dX8_times_80 rfl (lv_at hl 0 rfl) ?_
              refine cg8_2 FX hK in8 hP (List.mem_of_getElem? (i := 1) rfl) dX8_times_81 ?_
              refine lv_iload_n hx hb dX8_times_84 rfl (lv_at hl 1 rfl) ?_
              refine cp2_10 FX hK in2 hP hA hS (List.mem_of_getElem? (i := 2) rfl) dX8_times_85 (fun H locs hP hS => ?_)
              refine lv_aload_n hx hb dX8_times_88 rfl (lv_at hl 0 rfl) ?_
              refine cg8_2 FX hK in8 hP (List.mem_of_getElem? (i := 1) rfl) dX8_times_89 ?_
              refine lv_iload_n hx hb dX8_times_92 rfl (lv_at hl 2 rfl) ?_
              refine cp2_11 FX hK in2 hP hA hS (List.mem_of_getElem? (i := 3) rfl) dX8_times_93 (fun H locs hP hS => ?_)
              refine lv_aload_n hx hb dX8_times_96 rfl (lv_at hl 0 rfl) ?_
              refine cg8_2 FX hK in8 hP (List.mem_of_getElem? (i := 1) rfl) dX8_times_97 ?_
              refine lv_iload_n hx hb dX8_times_100 rfl (lv_at hl 3 rfl) ?_
              refine cp2_12 FX hK in2 hP hA hS (List.mem_of_getElem? (i := 4) rfl) dX8_times_101 (fun H locs hP hS => ?_)
              refine lv_iconst (v := nI 1) hx hb dX8_times_104 rfl ?_
              exact ret H locs 105 ls (nI 1) (pg (pg (pg P 5 yr) 6 fg) 7 lw, X) dX8_times_105 (by unfold ansTimes; rw [cif_t c7, cif_t c17, cif_t c26, cif_t c39, cif_t c53, cif_f c64]) hP hS
            · refine lv_aload_n hx hb dX8_times_67 rfl (lv_at hl 0 rfl) ?_
              refine cg8_2 FX hK in8 hP (List.mem_of_getElem? (i := 1) rfl) dX8_times_68 ?_
              refine cg2_12 FX hK in2 hP (List.mem_of_getElem? (i := 4) rfl) dX8_times_71 ?_
              refine lv_iload_n hx hb dX8_times_74 rfl (lv_at hl 3 rfl) ?_
              refine lv_icmp_ne (tgt := 80) hx hb dX8_times_75 (by decide) (fun c75 => ?_) (fun c75 => ?_)
              · refine lv_aload_n hx hb dX8_times_80 rfl (lv_at hl 0 rfl) ?_
                refine cg8_2 FX hK in8 hP (List.mem_of_getElem? (i := 1) rfl) dX8_times_81 ?_
                refine lv_iload_n hx hb dX8_times_84 rfl (lv_at hl 1 rfl) ?_
                refine cp2_10 FX hK in2 hP hA hS (List.mem_of_getElem? (i := 2) rfl) dX8_times_85 (fun H locs hP hS => ?_)
                refine lv_aload_n hx hb dX8_times_88 rfl (lv_at hl 0 rfl) ?_
                refine cg8_2 FX hK in8 hP (List.mem_of_getElem? (i := 1) rfl) dX8_times_89 ?_
                refine lv_iload_n hx hb dX8_times_92 rfl (lv_at hl 2 rfl) ?_
                refine cp2_11 FX hK in2 hP hA hS (List.mem_of_getElem? (i := 3) rfl) dX8_times_93 (fun H locs hP hS => ?_)
                refine lv_aload_n hx hb dX8_times_96 rfl (lv_at hl 0 rfl) ?_
                refine cg8_2 FX hK in8 hP (List.mem_of_getElem? (i := 1) rfl) dX8_times_97 ?_
                refine lv_iload_n hx hb dX8_times_100 rfl (lv_at hl 3 rfl) ?_
                refine cp2_12 FX hK in2 hP hA hS (List.mem_of_getElem? (i := 4) rfl) dX8_times_101 (fun H locs hP hS => ?_)
                refine lv_iconst (v := nI 1) hx hb dX8_times_104 rfl ?_
                exact ret H locs 105 ls (nI 1) (pg (pg (pg P 5 yr) 6 fg) 7 lw, X) dX8_times_105 (by unfold ansTimes; rw [cif_t c7, cif_t c17, cif_t c26, cif_t c39, cif_t c53, cif_t c64, cif_f c75]) hP hS
              · refine lv_iconst (v := nI 0) hx hb dX8_times_78 rfl ?_
                exact ret H locs 79 ls (nI 0) (P, X) dX8_times_79 (by unfold ansTimes; rw [cif_t c7, cif_t c17, cif_t c26, cif_t c39, cif_t c53, cif_t c64, cif_t c75]) hP hS
        · refine lv_bipush (v := (-3)) hx hb dX8_times_42 rfl ?_
          exact ret H locs 44 ls (-3) (P, X) dX8_times_44 (by unfold ansTimes; rw [cif_t c7, cif_t c17, cif_t c26, cif_f c39]) hP hS
      · refine lv_bipush (v := (-2)) hx hb dX8_times_29 rfl ?_
        exact ret H locs 31 ls (-2) (P, X) dX8_times_31 (by unfold ansTimes; rw [cif_t c7, cif_t c17, cif_f c26]) hP hS

abbrev rmX8_wall : Room := { frames := 2, cells := 0, slots := 0, locals := 43 }
set_option maxRecDepth 100000 in
set_option maxHeartbeats 4000000 in
theorem c_X8_wall (l : Launch) (D : va_G) (y : Nat → ClassId) (a : Nat → Nat) (hA : CA a 44) (P X : PT) (row : Value) (w cN n t rd : Nat) (x : Int32) (v : Int32)  (hI : IP P w cN n t) (hc1 : P.1 1 = nI cN) (hr : RD P n rd) : CtI l D y yX8_wall wsX8_wall rmX8_wall [.ref (a 0), .int x, .int v] (wC y a P X row) (fun (r : Int32) (u : PT × PT) => (r, u.1) = ansWall P cN x v) (fun (u : PT × PT) => wC y a u.1 u.2 row) (AC a) := by
  refine mkI (cc := cX8_wall) (maxL := 4) (ret := some .int) RX8 rfl (by decide) rfl (Or.inl rfl) (Nat.le_of_ble_eq_true rfl) ?_
  intro p e s m args below meth c Q FX hK hP ret ls hl
  obtain ⟨hx, hb, hml, hown, hts⟩ := id FX
  have hS : va_S (AC a) s.heap s.heap [] := va_S.rf
  have in2 : ∀ w ∈ wsX20, w ∈ wsX8_wall := fun _ h => List.mem_cons_of_mem _ (List.mem_append_right _ (h))
  have in8 : ∀ w ∈ wsX80, w ∈ wsX8_wall := fun _ h => List.mem_cons_of_mem _ (List.mem_append_left _ (List.mem_append_right _ (h)))
  have hl : lv_has ls 4 [(0, .ref (a 0)), (1, .int x), (2, .int v)] := hl
  have hcl := hI.c30
  have hnl := hI.n8
  have htl := hI.t8
  have hrl := hr.2.1
  refine lv_aload_n hx hb dX8_wall_0 rfl (lv_at hl 0 rfl) ?_
  refine cg8_2 FX hK in8 hP (List.mem_of_getElem? (i := 1) rfl) dX8_wall_1 ?_
  refine lv_iload_n hx hb dX8_wall_4 rfl (lv_at hl 1 rfl) ?_
  refine cViI [.int x] [] FX hK (c_X2_hasCell l D y a hA P X row x cN hc1 (by omega)) (cwV 1 hts gX8_wall_X2_hasCell rfl rfl rfl (by decide +kernel) ⟨Nat.le_of_ble_eq_true rfl, Nat.le_of_ble_eq_true rfl⟩) hP (pre_recv hK hP (ci := 2) (q0 := 14) rfl rfl) rfl rfl hl (Nat.le_of_ble_eq_true rfl) dX8_wall_5 ⟨Nat.zero_le _, Nat.zero_le _⟩ hS (fun _ h => h) (fun r5 u5 H locs hp5 hP hS _ _ => ?_)
  obtain rfl := hp5
  refine xb_ne (tgt := 13) hx hb dX8_wall_8 (by decide) (fun c8 => ?_) (fun c8 => ?_)
  · have k8 := c8
    obtain ⟨j, hj, rfl⟩ := c8
    refine lv_iload_n hx hb dX8_wall_13 rfl (lv_at hl 2 rfl) ?_
    refine lv_iconst (v := nI 0) hx hb dX8_wall_14 rfl ?_
    refine lv_bipush (v := nI 9) hx hb dX8_wall_15 rfl ?_
    refine cStI [.int v, .int (nI 0), .int (nI 9)] [] FX hK (c_X8_isWithin l D y v (nI 0) (nI 9)) (va_cwS 3 hts gX8_wall_X8_isWithin rfl rfl rfl (by decide +kernel) ⟨Nat.le_of_ble_eq_true rfl, Nat.le_of_ble_eq_true rfl⟩) rfl rfl hl (Nat.le_of_ble_eq_true rfl) dX8_wall_17 ⟨Nat.zero_le _, Nat.zero_le _⟩ hP hS (fun r17 H locs hp17 hP hS => ?_)
    obtain rfl := hp17
    refine xn_to hx (z := b2 (inR 0 9 v)) (b2_iff (wth_iff (by omega) (by omega))) ?_
    refine xb_ne (tgt := 26) hx hb dX8_wall_20 (by decide) (fun c20 => ?_) (fun c20 => ?_)
    · refine lv_aload_n hx hb dX8_wall_26 rfl (lv_at hl 0 rfl) ?_
      refine cg8_2 FX hK in8 hP (List.mem_of_getElem? (i := 1) rfl) dX8_wall_27 ?_
      refine lv_iload_n hx hb dX8_wall_30 rfl (lv_at hl 1 rfl) ?_
      refine cViI [.int (nI j)] [] FX hK (c_X2_hasNothing l D y a hA P X row j (by omega)) (cwV 1 hts gX8_wall_X2_hasNothing rfl rfl rfl (by decide +kernel) ⟨Nat.le_of_ble_eq_true rfl, Nat.le_of_ble_eq_true rfl⟩) hP (pre_recv hK hP (ci := 2) (q0 := 14) rfl rfl) rfl rfl hl (Nat.le_of_ble_eq_true rfl) dX8_wall_31 ⟨Nat.zero_le _, Nat.zero_le _⟩ hS (fun _ h => h) (fun r31 u31 H locs hp31 hP hS _ _ => ?_)
      obtain rfl := hp31
      refine xb_ne (tgt := 40) hx hb dX8_wall_34 (by decide) (fun c34 => ?_) (fun c34 => ?_)
      · refine lv_aload_n hx hb dX8_wall_40 rfl (lv_at hl 0 rfl) ?_
        refine cg8_2 FX hK in8 hP (List.mem_of_getElem? (i := 1) rfl) dX8_wall_41 ?_
        refine cg2_1 FX hK in2 hP (List.mem_of_getElem? (i := 2) rfl) dX8_wall_44 ?_
        refine lv_iload_n hx hb dX8_wall_47 rfl (lv_at hl 1 rfl) ?_
        refine ca16 (i := j) (by omega) FX hK hP dX8_wall_48 ?_
        refine lv_istore_n (lv' := [(3, .int (P.2 1 j)), (0, .ref (a 0)), (1, .int (nI j)), (2, .int v)]) hx hb dX8_wall_49 rfl hl (by decide) rfl (fun ls hl => ?_)
        refine lv_aload_n hx hb dX8_wall_50 rfl (lv_at hl 1 rfl) ?_
        refine cg8_2 FX hK in8 hP (List.mem_of_getElem? (i := 1) rfl) dX8_wall_51 ?_
        refine cg2_1 FX hK in2 hP (List.mem_of_getElem? (i := 2) rfl) dX8_wall_54 ?_
        refine lv_iload_n hx hb dX8_wall_57 rfl (lv_at hl 2 rfl) ?_
        refine lv_iload_n hx hb dX8_wall_58 rfl (lv_at hl 3 rfl) ?_
        refine cs16 (i := j) (by omega) FX hK hP hA hS dX8_wall_59 (fun H locs hP hS => ?_)
        refine lv_iload_n hx hb dX8_wall_60 rfl (lv_at hl 0 rfl) ?_
        exact ret H locs 61 ls (P.2 1 j) (pa P 1 j v, X) dX8_wall_61 (by unfold ansWall; rw [dN_nI (show j < 2 ^ 31 by omega), cif_t k8, cif_t c20, cif_t c34]) hP hS
      · refine lv_bipush (v := (-3)) hx hb dX8_wall_37 rfl ?_
        exact ret H locs 39 ls (-3) (P, X) dX8_wall_39 (by unfold ansWall; rw [dN_nI (show j < 2 ^ 31 by omega), cif_t k8, cif_t c20, cif_f c34]) hP hS
    · refine lv_bipush (v := (-2)) hx hb dX8_wall_23 rfl ?_
      exact ret H locs 25 ls (-2) (P, X) dX8_wall_25 (by unfold ansWall; rw [dN_nI (show j < 2 ^ 31 by omega), cif_t k8, cif_f c20]) hP hS
  · refine lv_iconst (v := (-1)) hx hb dX8_wall_11 rfl ?_
    exact ret H locs 12 ls (-1) (P, X) dX8_wall_12 (by unfold ansWall; rw [cif_f c8]) hP hS

abbrev rmX8_floors : Room := { frames := 2, cells := 0, slots := 0, locals := 43 }
set_option maxRecDepth 100000 in
set_option maxHeartbeats 4000000 in
theorem c_X8_floors (l : Launch) (D : va_G) (y : Nat → ClassId) (a : Nat → Nat) (hA : CA a 44) (P X : PT) (row : Value) (w cN n t rd : Nat) (x : Int32) (v : Int32)  (hI : IP P w cN n t) (hc1 : P.1 1 = nI cN) (hr : RD P n rd) : CtI l D y yX8_floors wsX8_floors rmX8_floors [.ref (a 0), .int x, .int v] (wC y a P X row) (fun (r : Int32) (u : PT × PT) => (r, u.1) = ansFloors P n x v) (fun (u : PT × PT) => wC y a u.1 u.2 row) (AC a) := by
  refine mkI (cc := cX8_floors) (maxL := 4) (ret := some .int) RX8 rfl (by decide) rfl (Or.inl rfl) (Nat.le_of_ble_eq_true rfl) ?_
  intro p e s m args below meth c Q FX hK hP ret ls hl
  obtain ⟨hx, hb, hml, hown, hts⟩ := id FX
  have hS : va_S (AC a) s.heap s.heap [] := va_S.rf
  have in1 : ∀ w ∈ wsX10, w ∈ wsX8_floors := fun _ h => List.mem_cons_of_mem _ (List.mem_append_right _ (h))
  have in2 : ∀ w ∈ wsX20, w ∈ wsX8_floors := fun _ h => List.mem_cons_of_mem _ (List.mem_append_left _ (List.mem_append_right _ (h)))
  have in8 : ∀ w ∈ wsX80, w ∈ wsX8_floors := fun _ h => List.mem_cons_of_mem _ (List.mem_append_left _ (List.mem_append_left _ (List.mem_append_right _ (h))))
  have hl : lv_has ls 4 [(0, .ref (a 0)), (1, .int x), (2, .int v)] := hl
  have hcl := hI.c30
  have hnl := hI.n8
  have htl := hI.t8
  have hrl := hr.2.1
  refine lv_aload_n hx hb dX8_floors_0 rfl (lv_at hl 0 rfl) ?_
  refine cg8_2 FX hK in8 hP (List.mem_of_getElem? (i := 1) rfl) dX8_floors_1 ?_
  refine lv_iload_n hx hb dX8_floors_4 rfl (lv_at hl 1 rfl) ?_
  refine cViI [.int x] [] FX hK (c_X2_hasHouse l D y a hA P X row x n hI.nn (by omega)) (cwV 1 hts gX8_floors_X2_hasHouse rfl rfl rfl (by decide +kernel) ⟨Nat.le_of_ble_eq_true rfl, Nat.le_of_ble_eq_true rfl⟩) hP (pre_recv hK hP (ci := 2) (q0 := 14) rfl rfl) rfl rfl hl (Nat.le_of_ble_eq_true rfl) dX8_floors_5 ⟨Nat.zero_le _, Nat.zero_le _⟩ hS (fun _ h => h) (fun r5 u5 H locs hp5 hP hS _ _ => ?_)
  obtain rfl := hp5
  refine xb_ne (tgt := 13) hx hb dX8_floors_8 (by decide) (fun c8 => ?_) (fun c8 => ?_)
  · have k8 := c8
    obtain ⟨j, hj, rfl⟩ := c8
    refine lv_iload_n hx hb dX8_floors_13 rfl (lv_at hl 2 rfl) ?_
    refine lv_iconst (v := nI 0) hx hb dX8_floors_14 rfl ?_
    refine lv_bipush (v := nI 9) hx hb dX8_floors_15 rfl ?_
    refine cStI [.int v, .int (nI 0), .int (nI 9)] [] FX hK (c_X8_isWithin l D y v (nI 0) (nI 9)) (va_cwS 3 hts gX8_floors_X8_isWithin rfl rfl rfl (by decide +kernel) ⟨Nat.le_of_ble_eq_true rfl, Nat.le_of_ble_eq_true rfl⟩) rfl rfl hl (Nat.le_of_ble_eq_true rfl) dX8_floors_17 ⟨Nat.zero_le _, Nat.zero_le _⟩ hP hS (fun r17 H locs hp17 hP hS => ?_)
    obtain rfl := hp17
    refine xn_to hx (z := b2 (inR 0 9 v)) (b2_iff (wth_iff (by omega) (by omega))) ?_
    refine xb_ne (tgt := 26) hx hb dX8_floors_20 (by decide) (fun c20 => ?_) (fun c20 => ?_)
    · refine lv_aload_n hx hb dX8_floors_26 rfl (lv_at hl 0 rfl) ?_
      refine cg8_2 FX hK in8 hP (List.mem_of_getElem? (i := 1) rfl) dX8_floors_27 ?_
      refine cg2_3 FX hK in2 hP (List.mem_of_getElem? (i := 2) rfl) dX8_floors_30 ?_
      refine lv_iload_n hx hb dX8_floors_33 rfl (lv_at hl 1 rfl) ?_
      refine ca18 (i := j) (by omega) FX hK hP dX8_floors_34 ?_
      refine cg1_3 (h := j) (by omega) FX hK in1 hP (List.mem_of_getElem? (i := 3) rfl) dX8_floors_35 ?_
      refine lv_istore_n (lv' := [(3, .int (P.2 6 j)), (0, .ref (a 0)), (1, .int (nI j)), (2, .int v)]) hx hb dX8_floors_38 rfl hl (by decide) rfl (fun ls hl => ?_)
      refine lv_aload_n hx hb dX8_floors_39 rfl (lv_at hl 1 rfl) ?_
      refine cg8_2 FX hK in8 hP (List.mem_of_getElem? (i := 1) rfl) dX8_floors_40 ?_
      refine cg2_3 FX hK in2 hP (List.mem_of_getElem? (i := 2) rfl) dX8_floors_43 ?_
      refine lv_iload_n hx hb dX8_floors_46 rfl (lv_at hl 2 rfl) ?_
      refine ca18 (i := j) (by omega) FX hK hP dX8_floors_47 ?_
      refine lv_iload_n hx hb dX8_floors_48 rfl (lv_at hl 3 rfl) ?_
      refine cp1_3 (h := j) (by omega) FX hK in1 hP hA hS (List.mem_of_getElem? (i := 3) rfl) dX8_floors_49 (fun H locs hP hS => ?_)
      refine lv_iload_n hx hb dX8_floors_52 rfl (lv_at hl 0 rfl) ?_
      exact ret H locs 53 ls (P.2 6 j) (pa P 6 j v, X) dX8_floors_53 (by unfold ansFloors; rw [dN_nI (show j < 2 ^ 31 by omega), cif_t k8, cif_t c20]) hP hS
    · refine lv_bipush (v := (-2)) hx hb dX8_floors_23 rfl ?_
      exact ret H locs 25 ls (-2) (P, X) dX8_floors_25 (by unfold ansFloors; rw [dN_nI (show j < 2 ^ 31 by omega), cif_t k8, cif_f c20]) hP hS
  · refine lv_iconst (v := (-1)) hx hb dX8_floors_11 rfl ?_
    exact ret H locs 12 ls (-1) (P, X) dX8_floors_12 (by unfold ansFloors; rw [cif_f c8]) hP hS

abbrev rmX8_fell : Room := { frames := 2, cells := 0, slots := 0, locals := 43 }
set_option maxRecDepth 100000 in
set_option maxHeartbeats 4000000 in
theorem c_X8_fell (l : Launch) (D : va_G) (y : Nat → ClassId) (a : Nat → Nat) (hA : CA a 44) (P X : PT) (row : Value) (w cN n t rd : Nat) (x : Int32) (is : Int32)  (hI : IP P w cN n t) (hc1 : P.1 1 = nI cN) (hr : RD P n rd) : CtI l D y yX8_fell wsX8_fell rmX8_fell [.ref (a 0), .int x, .int is] (wC y a P X row) (fun (r : Int32) (u : PT × PT) => (r, u.1) = ansFell P t x is) (fun (u : PT × PT) => wC y a u.1 u.2 row) (AC a) := by
  refine mkI (cc := cX8_fell) (maxL := 3) (ret := some .int) RX8 rfl (by decide) rfl (Or.inl rfl) (Nat.le_of_ble_eq_true rfl) ?_
  intro p e s m args below meth c Q FX hK hP ret ls hl
  obtain ⟨hx, hb, hml, hown, hts⟩ := id FX
  have hS : va_S (AC a) s.heap s.heap [] := va_S.rf
  have in2 : ∀ w ∈ wsX20, w ∈ wsX8_fell := fun _ h => List.mem_cons_of_mem _ (List.mem_append_right _ (h))
  have in8 : ∀ w ∈ wsX80, w ∈ wsX8_fell := fun _ h => List.mem_cons_of_mem _ (List.mem_append_left _ (List.mem_append_right _ (h)))
  have hl : lv_has ls 3 [(0, .ref (a 0)), (1, .int x), (2, .int is)] := hl
  have hcl := hI.c30
  have hnl := hI.n8
  have htl := hI.t8
  have hrl := hr.2.1
  refine lv_aload_n hx hb dX8_fell_0 rfl (lv_at hl 0 rfl) ?_
  refine cg8_2 FX hK in8 hP (List.mem_of_getElem? (i := 1) rfl) dX8_fell_1 ?_
  refine lv_iload_n hx hb dX8_fell_4 rfl (lv_at hl 1 rfl) ?_
  refine cViI [.int x] [] FX hK (c_X2_hasTree l D y a hA P X row x t hI.tt (by omega)) (cwV 1 hts gX8_fell_X2_hasTree rfl rfl rfl (by decide +kernel) ⟨Nat.le_of_ble_eq_true rfl, Nat.le_of_ble_eq_true rfl⟩) hP (pre_recv hK hP (ci := 2) (q0 := 14) rfl rfl) rfl rfl hl (Nat.le_of_ble_eq_true rfl) dX8_fell_5 ⟨Nat.zero_le _, Nat.zero_le _⟩ hS (fun _ h => h) (fun r5 u5 H locs hp5 hP hS _ _ => ?_)
  obtain rfl := hp5
  refine xb_ne (tgt := 13) hx hb dX8_fell_8 (by decide) (fun c8 => ?_) (fun c8 => ?_)
  · have k8 := c8
    obtain ⟨j, hj, rfl⟩ := c8
    refine lv_iload_n hx hb dX8_fell_13 rfl (lv_at hl 1 rfl) ?_
    refine lv_aload_n hx hb dX8_fell_14 rfl (lv_at hl 0 rfl) ?_
    refine cg8_2 FX hK in8 hP (List.mem_of_getElem? (i := 1) rfl) dX8_fell_15 ?_
    refine cg2_9 FX hK in2 hP (List.mem_of_getElem? (i := 2) rfl) dX8_fell_18 ?_
    refine cStI [.int (nI j), .int (P.1 4)] [] FX hK (c_X8_isIn l D y (nI j) (P.1 4)) (va_cwS 2 hts gX8_fell_X8_isIn rfl rfl rfl (by decide +kernel) ⟨Nat.le_of_ble_eq_true rfl, Nat.le_of_ble_eq_true rfl⟩) rfl rfl hl (Nat.le_of_ble_eq_true rfl) dX8_fell_21 ⟨Nat.zero_le _, Nat.zero_le _⟩ hP hS (fun r21 H locs hp21 hP hS => ?_)
    obtain rfl := hp21
    refine lv_iload_n hx hb dX8_fell_24 rfl (lv_at hl 2 rfl) ?_
    refine lv_icmp_ne (tgt := 30) hx hb dX8_fell_25 (by decide) (fun c25 => ?_) (fun c25 => ?_)
    · refine lv_aload_n hx hb dX8_fell_30 rfl (lv_at hl 0 rfl) ?_
      refine cg8_2 FX hK in8 hP (List.mem_of_getElem? (i := 1) rfl) dX8_fell_31 ?_
      refine lv_dup hx hb dX8_fell_34 rfl ?_
      refine cg2_9 FX hK in2 hP (List.mem_of_getElem? (i := 2) rfl) dX8_fell_35 ?_
      refine lv_iconst (v := nI 1) hx hb dX8_fell_38 rfl ?_
      refine lv_iload_n hx hb dX8_fell_39 rfl (lv_at hl 1 rfl) ?_
      refine lv_ishl hx hb dX8_fell_40 ?_
      refine lv_ixor hx hb dX8_fell_41 ?_
      refine cp2_9 FX hK in2 hP hA hS (List.mem_of_getElem? (i := 2) rfl) dX8_fell_42 (fun H locs hP hS => ?_)
      refine lv_iconst (v := nI 1) hx hb dX8_fell_45 rfl ?_
      exact ret H locs 46 ls (nI 1) (pg P 4 ((P.1 4) ^^^ ((nI 1) <<< ((nI j) &&& 31))), X) dX8_fell_46 (by unfold ansFell; rw [dN_nI (show j < 2 ^ 31 by omega), cif_t k8, cif_f c25]) hP hS
    · refine lv_iconst (v := nI 0) hx hb dX8_fell_28 rfl ?_
      exact ret H locs 29 ls (nI 0) (P, X) dX8_fell_29 (by unfold ansFell; rw [dN_nI (show j < 2 ^ 31 by omega), cif_t k8, cif_t c25]) hP hS
  · refine lv_iconst (v := (-1)) hx hb dX8_fell_11 rfl ?_
    exact ret H locs 12 ls (-1) (P, X) dX8_fell_12 (by unfold ansFell; rw [cif_f c8]) hP hS

abbrev rmX8_see : Room := { frames := 5, cells := 0, slots := 0, locals := 109 }
set_option maxRecDepth 100000 in
set_option maxHeartbeats 4000000 in
theorem c_X8_see (l : Launch) (D : va_G) (y : Nat → ClassId) (a : Nat → Nat) (hA : CA a 44) (P X : PT) (row : Value) (w cN n t rd : Nat) (x : Int32) (z : Int32)  (hI : IP P w cN n t) (hc1 : P.1 1 = nI cN) (hr : RD P n rd) : CtI l D y yX8_see wsX8_see rmX8_see [.ref (a 0), .int x, .int z] (wC y a P X row) (fun (r : Int32) (u : PT × PT) => (r, u.1) = ansSee P w n x z) (fun (u : PT × PT) => wC y a u.1 u.2 row) (AC a) := by
  refine mkI (cc := cX8_see) (maxL := 3) (ret := some .int) RX8 rfl (by decide) rfl (Or.inl rfl) (Nat.le_of_ble_eq_true rfl) ?_
  intro p e s m args below meth c Q FX hK hP ret ls hl
  obtain ⟨hx, hb, hml, hown, hts⟩ := id FX
  have hS : va_S (AC a) s.heap s.heap [] := va_S.rf
  have in1 : ∀ w ∈ wsX10, w ∈ wsX8_see := fun _ h => List.mem_cons_of_mem _ (List.mem_append_left _ (List.mem_append_left _ (List.mem_append_right _ (h))))
  have in2 : ∀ w ∈ wsX20, w ∈ wsX8_see := fun _ h => List.mem_cons_of_mem _ (List.mem_append_left _ (List.mem_append_left _ (List.mem_append_left _ (List.mem_append_right _ (h)))))
  have in5 : ∀ w ∈ wsX50, w ∈ wsX8_see := fun _ h => List.mem_cons_of_mem _ (List.mem_append_left _ (List.mem_append_right _ (h)))
  have in7 : ∀ w ∈ wsX70, w ∈ wsX8_see := fun _ h => List.mem_cons_of_mem _ (List.mem_append_right _ (h))
  have in8 : ∀ w ∈ wsX80, w ∈ wsX8_see := fun _ h => List.mem_cons_of_mem _ (List.mem_append_left _ (List.mem_append_left _ (List.mem_append_left _ (List.mem_append_left _ (List.mem_append_right _ (h))))))
  have hl : lv_has ls 3 [(0, .ref (a 0)), (1, .int x), (2, .int z)] := hl
  have hcl := hI.c30
  have hnl := hI.n8
  have htl := hI.t8
  have hrl := hr.2.1
  refine lv_aload_n hx hb dX8_see_0 rfl (lv_at hl 0 rfl) ?_
  refine cg8_2 FX hK in8 hP (List.mem_of_getElem? (i := 1) rfl) dX8_see_1 ?_
  refine lv_iload_n hx hb dX8_see_4 rfl (lv_at hl 1 rfl) ?_
  refine cViI [.int x] [] FX hK (c_X2_hasHouse l D y a hA P X row x n hI.nn (by omega)) (cwV 1 hts gX8_see_X2_hasHouse rfl rfl rfl (by decide +kernel) ⟨Nat.le_of_ble_eq_true rfl, Nat.le_of_ble_eq_true rfl⟩) hP (pre_recv hK hP (ci := 2) (q0 := 14) rfl rfl) rfl rfl hl (Nat.le_of_ble_eq_true rfl) dX8_see_5 ⟨Nat.zero_le _, Nat.zero_le _⟩ hS (fun _ h => h) (fun r5 u5 H locs hp5 hP hS _ _ => ?_)
  obtain rfl := hp5
  refine xb_eq (tgt := 27) hx hb dX8_see_8 (by decide) (fun c8 => ?_) (fun c8 => ?_)
  · refine lv_iconst (v := (-1)) hx hb dX8_see_27 rfl ?_
    exact ret H locs 28 ls (-1) (P, X) dX8_see_28 (by unfold ansSee; rw [cif_f c8]) hP hS
  · have k8 := c8
    obtain ⟨j, hj, rfl⟩ := c8
    refine lv_aload_n hx hb dX8_see_11 rfl (lv_at hl 0 rfl) ?_
    refine cg8_2 FX hK in8 hP (List.mem_of_getElem? (i := 1) rfl) dX8_see_12 ?_
    refine lv_iload_n hx hb dX8_see_15 rfl (lv_at hl 2 rfl) ?_
    refine cViI [.int z] [] FX hK (c_X2_hasHouse l D y a hA P X row z n hI.nn (by omega)) (cwV 1 hts gX8_see_X2_hasHouse rfl rfl rfl (by decide +kernel) ⟨Nat.le_of_ble_eq_true rfl, Nat.le_of_ble_eq_true rfl⟩) hP (pre_recv hK hP (ci := 2) (q0 := 14) rfl rfl) rfl rfl hl (Nat.le_of_ble_eq_true rfl) dX8_see_16 ⟨Nat.zero_le _, Nat.zero_le _⟩ hS (fun _ h => h) (fun r16 u16 H locs hp16 hP hS _ _ => ?_)
    obtain rfl := hp16
    refine xb_eq (tgt := 27) hx hb dX8_see_19 (by decide) (fun c19 => ?_) (fun c19 => ?_)
    · refine lv_iconst (v := (-1)) hx hb dX8_see_27 rfl ?_
      exact ret H locs 28 ls (-1) (P, X) dX8_see_28 (by unfold ansSee; rw [dN_nI (show j < 2 ^ 31 by omega), cif_t k8, cif_f c19]) hP hS
    · have k19 := c19
      obtain ⟨k, hk, rfl⟩ := c19
      refine lv_iload_n hx hb dX8_see_22 rfl (lv_at hl 1 rfl) ?_
      refine lv_iload_n hx hb dX8_see_23 rfl (lv_at hl 2 rfl) ?_
      refine lv_icmp_ne (tgt := 29) hx hb dX8_see_24 (by decide) (fun c24 => ?_) (fun c24 => ?_)
      · refine lv_aload_n hx hb dX8_see_29 rfl (lv_at hl 0 rfl) ?_
        refine cg8_3 FX hK in8 hP (List.mem_of_getElem? (i := 2) rfl) dX8_see_30 ?_
        refine cViV [] [] FX hK (c_X5_lookNow l D y a hA P X row w cN n t hI hc1) (cwV 0 hts gX8_see_X5_lookNow rfl rfl rfl (by decide +kernel) ⟨Nat.le_of_ble_eq_true rfl, Nat.le_of_ble_eq_true rfl⟩) hP (pre_recv hK hP (ci := 5) (q0 := 36) rfl rfl) rfl rfl hl (Nat.le_of_ble_eq_true rfl) dX8_see_33 ⟨Nat.zero_le _, Nat.zero_le _⟩ hS (fun _ h => h) (fun X1 H locs hp33 hP hS _ _ => ?_)
        obtain ⟨hf1, ht1⟩ := hp33
        refine lv_aload_n hx hb dX8_see_36 rfl (lv_at hl 0 rfl) ?_
        refine cg8_3 FX hK in8 hP (List.mem_of_getElem? (i := 2) rfl) dX8_see_37 ?_
        refine lv_aload_n hx hb dX8_see_40 rfl (lv_at hl 0 rfl) ?_
        refine cg8_2 FX hK in8 hP (List.mem_of_getElem? (i := 1) rfl) dX8_see_41 ?_
        refine cg2_3 FX hK in2 hP (List.mem_of_getElem? (i := 3) rfl) dX8_see_44 ?_
        refine lv_iload_n hx hb dX8_see_47 rfl (lv_at hl 1 rfl) ?_
        refine ca18 (i := j) (by omega) FX hK hP dX8_see_48 ?_
        refine cg1_1 (h := j) (by omega) FX hK in1 hP (List.mem_of_getElem? (i := 4) rfl) dX8_see_49 ?_
        refine xn_to hx (z := nI (plN P j)) (hI.pl hj).1 ?_
        refine lv_aload_n hx hb dX8_see_52 rfl (lv_at hl 0 rfl) ?_
        refine cg8_2 FX hK in8 hP (List.mem_of_getElem? (i := 1) rfl) dX8_see_53 ?_
        refine cg2_3 FX hK in2 hP (List.mem_of_getElem? (i := 3) rfl) dX8_see_56 ?_
        refine lv_iload_n hx hb dX8_see_59 rfl (lv_at hl 2 rfl) ?_
        refine ca18 (i := k) (by omega) FX hK hP dX8_see_60 ?_
        refine cg1_1 (h := k) (by omega) FX hK in1 hP (List.mem_of_getElem? (i := 4) rfl) dX8_see_61 ?_
        refine xn_to hx (z := nI (plN P k)) (hI.pl hk).1 ?_
        refine cViI [.int (nI (plN P j)), .int (nI (plN P k))] [] FX hK (c_X5_isClear l D y a hA P X1 row w cN (plN P j) (plN P k) hI.ww (hI.vw (Nat.lt_of_le_of_lt (Nat.zero_le _) (hI.pl hj).2.1)) (hI.pl hj).2.1 (hI.pl hk).2.1 (fun z => c24 (by rw [hI.pl_inj hj hk z]))) (cwV 2 hts gX8_see_X5_isClear rfl rfl rfl (by decide +kernel) ⟨Nat.le_of_ble_eq_true rfl, Nat.le_of_ble_eq_true rfl⟩) hP (pre_recv hK hP (ci := 5) (q0 := 36) rfl rfl) rfl rfl hl (Nat.le_of_ble_eq_true rfl) dX8_see_64 ⟨Nat.zero_le _, Nat.zero_le _⟩ hS (fun _ h => h) (fun r64 u64 H locs hp64 hP hS _ _ => ?_)
        obtain rfl := hp64
        refine xn_to hx (z := b2 (sClr w (P.1 6) (sTop P (P.1 5) (flP P)) (plN P j) (plN P k))) (b2_iff (by rw [hf1]; exact sClr_congr (hI.pl hj).2.1 (hI.pl hk).2.1 ht1)) ?_
        refine xb_eq (tgt := 74) hx hb dX8_see_67 (by decide) (fun c67 => ?_) (fun c67 => ?_)
        · refine lv_iconst (v := nI 0) hx hb dX8_see_74 rfl ?_
          exact ret H locs 75 ls (nI 0) (P, X1) dX8_see_75 (by unfold ansSee; rw [dN_nI (show k < 2 ^ 31 by omega), dN_nI (show j < 2 ^ 31 by omega), cif_t k8, cif_t k19, cif_f c24]; first | rw [b2_t c67] | rw [b2_f c67]) hP hS
        · refine lv_iconst (v := nI 1) hx hb dX8_see_70 rfl ?_
          refine lv_goto (tgt := 75) hx hb dX8_see_71 (by decide) ?_
          exact ret H locs 75 ls (nI 1) (P, X1) dX8_see_75 (by unfold ansSee; rw [dN_nI (show k < 2 ^ 31 by omega), dN_nI (show j < 2 ^ 31 by omega), cif_t k8, cif_t k19, cif_f c24]; first | rw [b2_t c67] | rw [b2_f c67]) hP hS
      · refine lv_iconst (v := (-1)) hx hb dX8_see_27 rfl ?_
        exact ret H locs 28 ls (-1) (P, X) dX8_see_28 (by unfold ansSee; rw [dN_nI (show k < 2 ^ 31 by omega), dN_nI (show j < 2 ^ 31 by omega), cif_t k8, cif_t k19, cif_t c24]) hP hS

abbrev rmX8_number : Room := { frames := 5, cells := 0, slots := 0, locals := 116 }
set_option maxRecDepth 100000 in
set_option maxHeartbeats 4000000 in
theorem c_X8_number (l : Launch) (D : va_G) (y : Nat → ClassId) (a : Nat → Nat) (hA : CA a 44) (P X : PT) (row : Value) (w cN n t rd : Nat) (x : Int32)  (hI : IP P w cN n t) (hc1 : P.1 1 = nI cN) (hr : RD P n rd) : CtI l D y yX8_number wsX8_number rmX8_number [.ref (a 0), .int x] (wC y a P X row) (fun (r : Int32) (u : PT × PT) => (r, u.1) = ansNumber P w n x) (fun (u : PT × PT) => wC y a u.1 u.2 row) (AC a) := by
  refine mkI (cc := cX8_number) (maxL := 2) (ret := some .int) RX8 rfl (by decide) rfl (Or.inl rfl) (Nat.le_of_ble_eq_true rfl) ?_
  intro p e s m args below meth c Q FX hK hP ret ls hl
  obtain ⟨hx, hb, hml, hown, hts⟩ := id FX
  have hS : va_S (AC a) s.heap s.heap [] := va_S.rf
  have in1 : ∀ w ∈ wsX10, w ∈ wsX8_number := fun _ h => List.mem_cons_of_mem _ (List.mem_append_left _ (List.mem_append_right _ (h)))
  have in2 : ∀ w ∈ wsX20, w ∈ wsX8_number := fun _ h => List.mem_cons_of_mem _ (List.mem_append_left _ (List.mem_append_left _ (List.mem_append_left _ (List.mem_append_right _ (h)))))
  have in5 : ∀ w ∈ wsX50, w ∈ wsX8_number := fun _ h => List.mem_cons_of_mem _ (List.mem_append_left _ (List.mem_append_left _ (List.mem_append_right _ (h))))
  have in7 : ∀ w ∈ wsX70, w ∈ wsX8_number := fun _ h => List.mem_cons_of_mem _ (List.mem_append_right _ (h))
  have in8 : ∀ w ∈ wsX80, w ∈ wsX8_number := fun _ h => List.mem_cons_of_mem _ (List.mem_append_left _ (List.mem_append_left _ (List.mem_append_left _ (List.mem_append_left _ (List.mem_append_right _ (h))))))
  have hl : lv_has ls 2 [(0, .ref (a 0)), (1, .int x)] := hl
  have hcl := hI.c30
  have hnl := hI.n8
  have htl := hI.t8
  have hrl := hr.2.1
  refine lv_aload_n hx hb dX8_number_0 rfl (lv_at hl 0 rfl) ?_
  refine cg8_2 FX hK in8 hP (List.mem_of_getElem? (i := 1) rfl) dX8_number_1 ?_
  refine lv_iload_n hx hb dX8_number_4 rfl (lv_at hl 1 rfl) ?_
  refine cViI [.int x] [] FX hK (c_X2_hasHouse l D y a hA P X row x n hI.nn (by omega)) (cwV 1 hts gX8_number_X2_hasHouse rfl rfl rfl (by decide +kernel) ⟨Nat.le_of_ble_eq_true rfl, Nat.le_of_ble_eq_true rfl⟩) hP (pre_recv hK hP (ci := 2) (q0 := 14) rfl rfl) rfl rfl hl (Nat.le_of_ble_eq_true rfl) dX8_number_5 ⟨Nat.zero_le _, Nat.zero_le _⟩ hS (fun _ h => h) (fun r5 u5 H locs hp5 hP hS _ _ => ?_)
  obtain rfl := hp5
  refine xb_ne (tgt := 13) hx hb dX8_number_8 (by decide) (fun c8 => ?_) (fun c8 => ?_)
  · have k8 := c8
    obtain ⟨j, hj, rfl⟩ := c8
    refine lv_aload_n hx hb dX8_number_13 rfl (lv_at hl 0 rfl) ?_
    refine cg8_3 FX hK in8 hP (List.mem_of_getElem? (i := 2) rfl) dX8_number_14 ?_
    refine cViV [] [] FX hK (c_X5_lookNow l D y a hA P X row w cN n t hI hc1) (cwV 0 hts gX8_number_X5_lookNow rfl rfl rfl (by decide +kernel) ⟨Nat.le_of_ble_eq_true rfl, Nat.le_of_ble_eq_true rfl⟩) hP (pre_recv hK hP (ci := 5) (q0 := 36) rfl rfl) rfl rfl hl (Nat.le_of_ble_eq_true rfl) dX8_number_17 ⟨Nat.zero_le _, Nat.zero_le _⟩ hS (fun _ h => h) (fun X1 H locs hp17 hP hS _ _ => ?_)
    obtain ⟨hf1, ht1⟩ := hp17
    refine lv_aload_n hx hb dX8_number_20 rfl (lv_at hl 0 rfl) ?_
    refine cg8_3 FX hK in8 hP (List.mem_of_getElem? (i := 2) rfl) dX8_number_21 ?_
    refine lv_iload_n hx hb dX8_number_24 rfl (lv_at hl 1 rfl) ?_
    refine cViI [.int (nI j)] [] FX hK (c_X5_numberOf l D y a hA P X1 row w cN n t j hI hj) (cwV 1 hts gX8_number_X5_numberOf rfl rfl rfl (by decide +kernel) ⟨Nat.le_of_ble_eq_true rfl, Nat.le_of_ble_eq_true rfl⟩) hP (pre_recv hK hP (ci := 5) (q0 := 36) rfl rfl) rfl rfl hl (Nat.le_of_ble_eq_true rfl) dX8_number_25 ⟨Nat.zero_le _, Nat.zero_le _⟩ hS (fun _ h => h) (fun r25 u25 H locs hp25 hP hS _ _ => ?_)
    obtain rfl := hp25
    refine xn_to hx (z := nI (numP P w n j)) (by rw [nf_canon hI (hI.pl hj).2.1 hf1 ht1]; rfl) ?_
    exact ret H locs 28 ls (nI (numP P w n j)) (P, X1) dX8_number_28 (by unfold ansNumber; rw [dN_nI (show j < 2 ^ 31 by omega), cif_t k8]) hP hS
  · refine lv_iconst (v := (-1)) hx hb dX8_number_11 rfl ?_
    exact ret H locs 12 ls (-1) (P, X) dX8_number_12 (by unfold ansNumber; rw [cif_f c8]) hP hS

abbrev rmX8_having : Room := { frames := 6, cells := 0, slots := 0, locals := 137 }
set_option maxRecDepth 100000 in
set_option maxHeartbeats 4000000 in
theorem c_X8_having (l : Launch) (D : va_G) (y : Nat → ClassId) (a : Nat → Nat) (hA : CA a 44) (P X : PT) (row : Value) (w cN n t rd : Nat) (v : Int32)  (hI : IP P w cN n t) (hc1 : P.1 1 = nI cN) (hr : RD P n rd) : CtI l D y yX8_having wsX8_having rmX8_having [.ref (a 0), .int v] (wC y a P X row) (fun (r : Int32) (u : PT × PT) => (r, u.1) = ansHaving P w cN n v) (fun (u : PT × PT) => wC y a u.1 u.2 row) (AC a) := by
  refine mkI (cc := cX8_having) (maxL := 2) (ret := some .int) RX8 rfl (by decide) rfl (Or.inl rfl) (Nat.le_of_ble_eq_true rfl) ?_
  intro p e s m args below meth c Q FX hK hP ret ls hl
  obtain ⟨hx, hb, hml, hown, hts⟩ := id FX
  have hS : va_S (AC a) s.heap s.heap [] := va_S.rf
  have in1 : ∀ w ∈ wsX10, w ∈ wsX8_having := fun _ h => List.mem_cons_of_mem _ (List.mem_append_left _ (List.mem_append_right _ (h)))
  have in2 : ∀ w ∈ wsX20, w ∈ wsX8_having := fun _ h => List.mem_cons_of_mem _ (List.mem_append_left _ (List.mem_append_left _ (List.mem_append_left _ (List.mem_append_right _ (h)))))
  have in5 : ∀ w ∈ wsX50, w ∈ wsX8_having := fun _ h => List.mem_cons_of_mem _ (List.mem_append_left _ (List.mem_append_left _ (List.mem_append_right _ (h))))
  have in7 : ∀ w ∈ wsX70, w ∈ wsX8_having := fun _ h => List.mem_cons_of_mem _ (List.mem_append_right _ (h))
  have in8 : ∀ w ∈ wsX80, w ∈ wsX8_having := fun _ h => List.mem_cons_of_mem _ (List.mem_append_left _ (List.mem_append_left _ (List.mem_append_left _ (List.mem_append_left _ (List.mem_append_right _ (h))))))
  have hl : lv_has ls 2 [(0, .ref (a 0)), (1, .int v)] := hl
  have hcl := hI.c30
  have hnl := hI.n8
  have htl := hI.t8
  have hrl := hr.2.1
  refine lv_iload_n hx hb dX8_having_0 rfl (lv_at hl 1 rfl) ?_
  refine lv_iconst (v := nI 0) hx hb dX8_having_1 rfl ?_
  refine lv_bipush (v := nI 7) hx hb dX8_having_2 rfl ?_
  refine cStI [.int v, .int (nI 0), .int (nI 7)] [] FX hK (c_X8_isWithin l D y v (nI 0) (nI 7)) (va_cwS 3 hts gX8_having_X8_isWithin rfl rfl rfl (by decide +kernel) ⟨Nat.le_of_ble_eq_true rfl, Nat.le_of_ble_eq_true rfl⟩) rfl rfl hl (Nat.le_of_ble_eq_true rfl) dX8_having_4 ⟨Nat.zero_le _, Nat.zero_le _⟩ hP hS (fun r4 H locs hp4 hP hS => ?_)
  obtain rfl := hp4
  refine xn_to hx (z := b2 (inR 0 7 v)) (b2_iff (wth_iff (by omega) (by omega))) ?_
  refine xb_ne (tgt := 13) hx hb dX8_having_7 (by decide) (fun c7 => ?_) (fun c7 => ?_)
  · refine lv_aload_n hx hb dX8_having_13 rfl (lv_at hl 0 rfl) ?_
    refine cg8_2 FX hK in8 hP (List.mem_of_getElem? (i := 1) rfl) dX8_having_14 ?_
    refine cViI [] [] FX hK (c_X2_isThere l D y a hA P X row cN hc1 hcl) (cwV 0 hts gX8_having_X2_isThere rfl rfl rfl (by decide +kernel) ⟨Nat.le_of_ble_eq_true rfl, Nat.le_of_ble_eq_true rfl⟩) hP (pre_recv hK hP (ci := 2) (q0 := 14) rfl rfl) rfl rfl hl (Nat.le_of_ble_eq_true rfl) dX8_having_17 ⟨Nat.zero_le _, Nat.zero_le _⟩ hS (fun _ h => h) (fun r17 u17 H locs hp17 hP hS _ _ => ?_)
    obtain rfl := hp17
    refine xb_ne (tgt := 26) hx hb dX8_having_20 (by decide) (fun c20 => ?_) (fun c20 => ?_)
    · refine lv_aload_n hx hb dX8_having_26 rfl (lv_at hl 0 rfl) ?_
      refine cg8_3 FX hK in8 hP (List.mem_of_getElem? (i := 2) rfl) dX8_having_27 ?_
      refine cViV [] [] FX hK (c_X5_countAll l D y a hA P X row w cN n t hI hc1) (cwV 0 hts gX8_having_X5_countAll rfl rfl rfl (by decide +kernel) ⟨Nat.le_of_ble_eq_true rfl, Nat.le_of_ble_eq_true rfl⟩) hP (pre_recv hK hP (ci := 5) (q0 := 36) rfl rfl) rfl rfl hl (Nat.le_of_ble_eq_true rfl) dX8_having_30 ⟨Nat.zero_le _, Nat.zero_le _⟩ hS (fun _ h => h) (fun X1 H locs hp30 hP hS _ _ => ?_)
      obtain ⟨hf1, ht1, hn1⟩ := hp30
      refine lv_aload_n hx hb dX8_having_33 rfl (lv_at hl 0 rfl) ?_
      refine cg8_3 FX hK in8 hP (List.mem_of_getElem? (i := 2) rfl) dX8_having_34 ?_
      refine lv_iload_n hx hb dX8_having_37 rfl (lv_at hl 1 rfl) ?_
      refine cViI [.int v] [] FX hK (c_X5_housesWith l D y a hA P X1 row n v hI.nn hI.n8) (cwV 1 hts gX8_having_X5_housesWith rfl rfl rfl (by decide +kernel) ⟨Nat.le_of_ble_eq_true rfl, Nat.le_of_ble_eq_true rfl⟩) hP (pre_recv hK hP (ci := 5) (q0 := 36) rfl rfl) rfl rfl hl (Nat.le_of_ble_eq_true rfl) dX8_having_38 ⟨Nat.zero_le _, Nat.zero_le _⟩ hS (fun _ h => h) (fun r38 u38 H locs hp38 hP hS _ _ => ?_)
      obtain rfl := hp38
      refine xn_to hx (z := hav P w n v) (hav_of hI hf1 ht1 hn1 _) ?_
      exact ret H locs 41 ls (hav P w n v) (P, X1) dX8_having_41 (by unfold ansHaving; rw [cif_t c7, cif_t c20]) hP hS
    · refine lv_bipush (v := (-3)) hx hb dX8_having_23 rfl ?_
      exact ret H locs 25 ls (-3) (P, X) dX8_having_25 (by unfold ansHaving; rw [cif_t c7, cif_f c20]) hP hS
  · refine lv_bipush (v := (-2)) hx hb dX8_having_10 rfl ?_
    exact ret H locs 12 ls (-2) (P, X) dX8_having_12 (by unfold ansHaving; rw [cif_f c7]) hP hS

abbrev rmX8_alone : Room := { frames := 6, cells := 0, slots := 0, locals := 137 }
set_option maxRecDepth 100000 in
set_option maxHeartbeats 4000000 in
theorem c_X8_alone (l : Launch) (D : va_G) (y : Nat → ClassId) (a : Nat → Nat) (hA : CA a 44) (P X : PT) (row : Value) (w cN n t rd : Nat)  (hI : IP P w cN n t) (hc1 : P.1 1 = nI cN) (hr : RD P n rd) : CtI l D y yX8_alone wsX8_alone rmX8_alone [.ref (a 0)] (wC y a P X row) (fun (r : Int32) (u : PT × PT) => (r, u.1) = ansAlone P w cN n) (fun (u : PT × PT) => wC y a u.1 u.2 row) (AC a) := by
  refine mkI (cc := cX8_alone) (maxL := 4) (ret := some .int) RX8 rfl (by decide) rfl (Or.inl rfl) (Nat.le_of_ble_eq_true rfl) ?_
  intro p e s m args below meth c Q FX hK hP ret ls hl
  obtain ⟨hx, hb, hml, hown, hts⟩ := id FX
  have hS : va_S (AC a) s.heap s.heap [] := va_S.rf
  have in1 : ∀ w ∈ wsX10, w ∈ wsX8_alone := fun _ h => List.mem_cons_of_mem _ (List.mem_append_left _ (List.mem_append_right _ (h)))
  have in2 : ∀ w ∈ wsX20, w ∈ wsX8_alone := fun _ h => List.mem_cons_of_mem _ (List.mem_append_left _ (List.mem_append_left _ (List.mem_append_left _ (List.mem_append_right _ (h)))))
  have in5 : ∀ w ∈ wsX50, w ∈ wsX8_alone := fun _ h => List.mem_cons_of_mem _ (List.mem_append_left _ (List.mem_append_left _ (List.mem_append_right _ (h))))
  have in7 : ∀ w ∈ wsX70, w ∈ wsX8_alone := fun _ h => List.mem_cons_of_mem _ (List.mem_append_right _ (h))
  have in8 : ∀ w ∈ wsX80, w ∈ wsX8_alone := fun _ h => List.mem_cons_of_mem _ (List.mem_append_left _ (List.mem_append_left _ (List.mem_append_left _ (List.mem_append_left _ (List.mem_append_right _ (h))))))
  have hl : lv_has ls 4 [(0, .ref (a 0))] := hl
  have hcl := hI.c30
  have hnl := hI.n8
  have htl := hI.t8
  have hrl := hr.2.1
  refine lv_aload_n hx hb dX8_alone_0 rfl (lv_at hl 0 rfl) ?_
  refine cg8_2 FX hK in8 hP (List.mem_of_getElem? (i := 1) rfl) dX8_alone_1 ?_
  refine cViI [] [] FX hK (c_X2_isThere l D y a hA P X row cN hc1 hcl) (cwV 0 hts gX8_alone_X2_isThere rfl rfl rfl (by decide +kernel) ⟨Nat.le_of_ble_eq_true rfl, Nat.le_of_ble_eq_true rfl⟩) hP (pre_recv hK hP (ci := 2) (q0 := 14) rfl rfl) rfl rfl hl (Nat.le_of_ble_eq_true rfl) dX8_alone_4 ⟨Nat.zero_le _, Nat.zero_le _⟩ hS (fun _ h => h) (fun r4 u4 H locs hp4 hP hS _ _ => ?_)
  obtain rfl := hp4
  refine xb_ne (tgt := 13) hx hb dX8_alone_7 (by decide) (fun c7 => ?_) (fun c7 => ?_)
  · refine lv_aload_n hx hb dX8_alone_13 rfl (lv_at hl 0 rfl) ?_
    refine cg8_3 FX hK in8 hP (List.mem_of_getElem? (i := 2) rfl) dX8_alone_14 ?_
    refine cViV [] [] FX hK (c_X5_countAll l D y a hA P X row w cN n t hI hc1) (cwV 0 hts gX8_alone_X5_countAll rfl rfl rfl (by decide +kernel) ⟨Nat.le_of_ble_eq_true rfl, Nat.le_of_ble_eq_true rfl⟩) hP (pre_recv hK hP (ci := 5) (q0 := 36) rfl rfl) rfl rfl hl (Nat.le_of_ble_eq_true rfl) dX8_alone_17 ⟨Nat.zero_le _, Nat.zero_le _⟩ hS (fun _ h => h) (fun X1 H locs hp17 hP hS _ _ => ?_)
    obtain ⟨hf1, ht1, hn1⟩ := hp17
    refine lv_iconst (v := nI 0) hx hb dX8_alone_20 rfl ?_
    refine lv_istore_n (lv' := [(1, .int (nI 0)), (0, .ref (a 0))]) hx hb dX8_alone_21 rfl hl (by decide) rfl (fun ls hl => ?_)
    refine lv_iconst (v := nI 0) hx hb dX8_alone_22 rfl ?_
    refine lv_istore_n (lv' := [(2, .int (nI 0)), (1, .int (nI 0)), (0, .ref (a 0))]) hx hb dX8_alone_23 rfl hl (by decide) rfl (fun ls hl => ?_)
    have L24 : ∀ (N : Nat) (k : Nat), (k ≤ 8) → 8 - k < N → ∀ (H : Heap) (locs : List Loc) (ls : Array Slot), va_P D vwCl (wC y a P X1 row) H → va_S (AC a) s.heap H locs → lv_has ls 4 [(0, .ref (a 0)), (1, .int (aloneS P w n k)), (2, .int (nI k))] → W p l e rmX8_alone s m args below meth c H locs 0 0 Q (F0 m 24 ls []) := by
      intro N24
      induction N24 with
      | zero => intro k hk hmeas; exact absurd hmeas (Nat.not_lt_zero _)
      | succ N24 ih24 =>
        intro k hk hmeas H locs ls hP hS hl
        refine lv_iload_n hx hb dX8_alone_24 rfl (lv_at hl 2 rfl) ?_
        refine lv_bipush (v := nI 7) hx hb dX8_alone_25 rfl ?_
        refine xn_icmp_gt (tgt := 57) hx hb (by omega) (by omega) dX8_alone_27 (by decide) (fun c27 => ?_) (fun c27 => ?_)
        · refine lv_iload_n hx hb dX8_alone_57 rfl (lv_at hl 1 rfl) ?_
          exact ret H locs 58 ls (aloneS P w n k) (P, X1) dX8_alone_58 (by unfold ansAlone; rw [cif_t c7]; rw [show k = 8 by omega]) hP hS
        · refine lv_aload_n hx hb dX8_alone_30 rfl (lv_at hl 0 rfl) ?_
          refine cg8_3 FX hK in8 hP (List.mem_of_getElem? (i := 2) rfl) dX8_alone_31 ?_
          refine lv_iload_n hx hb dX8_alone_34 rfl (lv_at hl 2 rfl) ?_
          refine cViI [.int (nI k)] [] FX hK (c_X5_housesWith l D y a hA P X1 row n (nI k) hI.nn hI.n8) (cwV 1 hts gX8_alone_X5_housesWith rfl rfl rfl (by decide +kernel) ⟨Nat.le_of_ble_eq_true rfl, Nat.le_of_ble_eq_true rfl⟩) hP (pre_recv hK hP (ci := 5) (q0 := 36) rfl rfl) rfl rfl hl (Nat.le_of_ble_eq_true rfl) dX8_alone_35 ⟨Nat.zero_le _, Nat.zero_le _⟩ hS (fun _ h => h) (fun r35 u35 H locs hp35 hP hS _ _ => ?_)
          obtain rfl := hp35
          refine xn_to hx (z := nI (dN (hav P w n (nI k)))) ((hav_of hI hf1 ht1 hn1 _).trans (hav_dN hI.n8 _).1) ?_
          refine lv_istore_n (lv' := [(3, .int (nI (dN (hav P w n (nI k))))), (0, .ref (a 0)), (1, .int (aloneS P w n k)), (2, .int (nI k))]) hx hb dX8_alone_38 rfl hl (by decide) rfl (fun ls hl => ?_)
          refine lv_iload_n hx hb dX8_alone_39 rfl (lv_at hl 0 rfl) ?_
          refine cStI [.int (nI (dN (hav P w n (nI k))))] [] FX hK (c_J6_bitCount_0f7a4 l D y (dN (hav P w n (nI k))) (hav_dN hI.n8 _).2) (va_cwS 1 hts gX8_alone_J6_bitCount_0f7a4 rfl rfl rfl (by decide +kernel) ⟨Nat.le_of_ble_eq_true rfl, Nat.le_of_ble_eq_true rfl⟩) rfl rfl hl (Nat.le_of_ble_eq_true rfl) dX8_alone_40 ⟨Nat.zero_le _, Nat.zero_le _⟩ hP hS (fun r40 H locs hp40 hP hS => ?_)
          obtain rfl := hp40
          refine lv_iconst (v := nI 1) hx hb dX8_alone_43 rfl ?_
          refine xn_icmp_ne (tgt := 51) hx hb (Nat.lt_of_le_of_lt (pcn_le _) (by decide)) (by decide) dX8_alone_44 (by decide) (fun c44 => ?_) (fun c44 => ?_)
          · refine lv_iinc (v := nI (k + 1)) (lv' := [(2, .int (nI (k + 1))), (3, .int (nI (dN (hav P w n (nI k))))), (0, .ref (a 0)), (1, .int (aloneS P w n k))]) hx hb dX8_alone_51 hl (k := 3) rfl (xn_inc k 1) (by decide) rfl (fun ls hl => ?_)
            refine lv_goto (tgt := 24) hx hb dX8_alone_54 (by decide) ?_
            rw [← alone_f c44] at hl
            exact ih24 (k + 1) (by omega) (by omega) H locs ls hP hS (lv_sub hl [2, 3, 0] rfl)
          · refine lv_iload_n hx hb dX8_alone_47 rfl (lv_at hl 2 rfl) ?_
            refine lv_iload_n hx hb dX8_alone_48 rfl (lv_at hl 0 rfl) ?_
            refine lv_ior hx hb dX8_alone_49 ?_
            refine lv_istore_n (lv' := [(1, .int ((aloneS P w n k) ||| (nI (dN (hav P w n (nI k)))))), (3, .int (nI (dN (hav P w n (nI k))))), (0, .ref (a 0)), (2, .int (nI k))]) hx hb dX8_alone_50 rfl hl (by decide) rfl (fun ls hl => ?_)
            refine lv_iinc (v := nI (k + 1)) (lv' := [(2, .int (nI (k + 1))), (1, .int ((aloneS P w n k) ||| (nI (dN (hav P w n (nI k)))))), (3, .int (nI (dN (hav P w n (nI k))))), (0, .ref (a 0))]) hx hb dX8_alone_51 hl (k := 3) rfl (xn_inc k 1) (by decide) rfl (fun ls hl => ?_)
            refine lv_goto (tgt := 24) hx hb dX8_alone_54 (by decide) ?_
            rw [← (hav_dN (P := P) (w := w) hI.n8 (nI k)).1] at hl
            rw [← alone_t c44] at hl
            exact ih24 (k + 1) (by omega) (by omega) H locs ls hP hS (lv_sub hl [3, 1, 0] rfl)
    exact L24 _ 0 (Nat.zero_le _) (Nat.lt_succ_self _) H locs ls hP hS (lv_sub hl [2, 1, 0] rfl)
  · refine lv_bipush (v := (-3)) hx hb dX8_alone_10 rfl ?_
    exact ret H locs 12 ls (-3) (P, X) dX8_alone_12 (by unfold ansAlone; rw [cif_f c7]) hP hS

abbrev rmX8_letter : Room := { frames := 6, cells := 0, slots := 0, locals := 137 }
set_option maxRecDepth 100000 in
set_option maxHeartbeats 4000000 in
theorem c_X8_letter (l : Launch) (D : va_G) (y : Nat → ClassId) (a : Nat → Nat) (hA : CA a 44) (P X : PT) (row : Value) (w cN n t rd : Nat) (v : Int32) (z : Int32)  (hI : IP P w cN n t) (hc1 : P.1 1 = nI cN) (hr : RD P n rd) : CtI l D y yX8_letter wsX8_letter rmX8_letter [.ref (a 0), .int v, .int z] (wC y a P X row) (fun (r : Int32) (u : PT × PT) => (r, u.1) = ansLetter P w cN n v z) (fun (u : PT × PT) => wC y a u.1 u.2 row) (AC a) := by
  refine mkI (cc := cX8_letter) (maxL := 3) (ret := some .int) RX8 rfl (by decide) rfl (Or.inl rfl) (Nat.le_of_ble_eq_true rfl) ?_
  intro p e s m args below meth c Q FX hK hP ret ls hl
  obtain ⟨hx, hb, hml, hown, hts⟩ := id FX
  have hS : va_S (AC a) s.heap s.heap [] := va_S.rf
  have in1 : ∀ w ∈ wsX10, w ∈ wsX8_letter := fun _ h => List.mem_cons_of_mem _ (List.mem_append_left _ (List.mem_append_right _ (h)))
  have in2 : ∀ w ∈ wsX20, w ∈ wsX8_letter := fun _ h => List.mem_cons_of_mem _ (List.mem_append_left _ (List.mem_append_left _ (List.mem_append_left _ (List.mem_append_right _ (h)))))
  have in5 : ∀ w ∈ wsX50, w ∈ wsX8_letter := fun _ h => List.mem_cons_of_mem _ (List.mem_append_left _ (List.mem_append_left _ (List.mem_append_right _ (h))))
  have in7 : ∀ w ∈ wsX70, w ∈ wsX8_letter := fun _ h => List.mem_cons_of_mem _ (List.mem_append_right _ (h))
  have in8 : ∀ w ∈ wsX80, w ∈ wsX8_letter := fun _ h => List.mem_cons_of_mem _ (List.mem_append_left _ (List.mem_append_left _ (List.mem_append_left _ (List.mem_append_left _ (List.mem_append_right _ (h))))))
  have hl : lv_has ls 3 [(0, .ref (a 0)), (1, .int v), (2, .int z)] := hl
  have hcl := hI.c30
  have hnl := hI.n8
  have htl := hI.t8
  have hrl := hr.2.1
  refine lv_iload_n hx hb dX8_letter_0 rfl (lv_at hl 1 rfl) ?_
  refine lv_iconst (v := nI 0) hx hb dX8_letter_1 rfl ?_
  refine lv_bipush (v := nI 7) hx hb dX8_letter_2 rfl ?_
  refine cStI [.int v, .int (nI 0), .int (nI 7)] [] FX hK (c_X8_isWithin l D y v (nI 0) (nI 7)) (va_cwS 3 hts gX8_letter_X8_isWithin rfl rfl rfl (by decide +kernel) ⟨Nat.le_of_ble_eq_true rfl, Nat.le_of_ble_eq_true rfl⟩) rfl rfl hl (Nat.le_of_ble_eq_true rfl) dX8_letter_4 ⟨Nat.zero_le _, Nat.zero_le _⟩ hP hS (fun r4 H locs hp4 hP hS => ?_)
  obtain rfl := hp4
  refine xn_to hx (z := b2 (inR 0 7 v)) (b2_iff (wth_iff (by omega) (by omega))) ?_
  refine xb_eq (tgt := 20) hx hb dX8_letter_7 (by decide) (fun c7 => ?_) (fun c7 => ?_)
  · refine lv_bipush (v := (-2)) hx hb dX8_letter_20 rfl ?_
    exact ret H locs 22 ls (-2) (P, X) dX8_letter_22 (by unfold ansLetter; rw [cif_f c7]) hP hS
  · refine lv_iload_n hx hb dX8_letter_10 rfl (lv_at hl 2 rfl) ?_
    refine lv_iconst (v := nI 0) hx hb dX8_letter_11 rfl ?_
    refine lv_bipush (v := nI 7) hx hb dX8_letter_12 rfl ?_
    refine cStI [.int z, .int (nI 0), .int (nI 7)] [] FX hK (c_X8_isWithin l D y z (nI 0) (nI 7)) (va_cwS 3 hts gX8_letter_X8_isWithin rfl rfl rfl (by decide +kernel) ⟨Nat.le_of_ble_eq_true rfl, Nat.le_of_ble_eq_true rfl⟩) rfl rfl hl (Nat.le_of_ble_eq_true rfl) dX8_letter_14 ⟨Nat.zero_le _, Nat.zero_le _⟩ hP hS (fun r14 H locs hp14 hP hS => ?_)
    obtain rfl := hp14
    refine xn_to hx (z := b2 (inR 0 7 z)) (b2_iff (wth_iff (by omega) (by omega))) ?_
    refine xb_ne (tgt := 23) hx hb dX8_letter_17 (by decide) (fun c17 => ?_) (fun c17 => ?_)
    · refine lv_aload_n hx hb dX8_letter_23 rfl (lv_at hl 0 rfl) ?_
      refine cg8_2 FX hK in8 hP (List.mem_of_getElem? (i := 1) rfl) dX8_letter_24 ?_
      refine cViI [] [] FX hK (c_X2_isThere l D y a hA P X row cN hc1 hcl) (cwV 0 hts gX8_letter_X2_isThere rfl rfl rfl (by decide +kernel) ⟨Nat.le_of_ble_eq_true rfl, Nat.le_of_ble_eq_true rfl⟩) hP (pre_recv hK hP (ci := 2) (q0 := 14) rfl rfl) rfl rfl hl (Nat.le_of_ble_eq_true rfl) dX8_letter_27 ⟨Nat.zero_le _, Nat.zero_le _⟩ hS (fun _ h => h) (fun r27 u27 H locs hp27 hP hS _ _ => ?_)
      obtain rfl := hp27
      refine xb_ne (tgt := 36) hx hb dX8_letter_30 (by decide) (fun c30 => ?_) (fun c30 => ?_)
      · refine lv_aload_n hx hb dX8_letter_36 rfl (lv_at hl 0 rfl) ?_
        refine cg8_3 FX hK in8 hP (List.mem_of_getElem? (i := 2) rfl) dX8_letter_37 ?_
        refine cViV [] [] FX hK (c_X5_countAll l D y a hA P X row w cN n t hI hc1) (cwV 0 hts gX8_letter_X5_countAll rfl rfl rfl (by decide +kernel) ⟨Nat.le_of_ble_eq_true rfl, Nat.le_of_ble_eq_true rfl⟩) hP (pre_recv hK hP (ci := 5) (q0 := 36) rfl rfl) rfl rfl hl (Nat.le_of_ble_eq_true rfl) dX8_letter_40 ⟨Nat.zero_le _, Nat.zero_le _⟩ hS (fun _ h => h) (fun X1 H locs hp40 hP hS _ _ => ?_)
        obtain ⟨hf1, ht1, hn1⟩ := hp40
        refine lv_aload_n hx hb dX8_letter_43 rfl (lv_at hl 0 rfl) ?_
        refine cg8_3 FX hK in8 hP (List.mem_of_getElem? (i := 2) rfl) dX8_letter_44 ?_
        refine lv_aload_n hx hb dX8_letter_47 rfl (lv_at hl 0 rfl) ?_
        refine cg8_3 FX hK in8 hP (List.mem_of_getElem? (i := 2) rfl) dX8_letter_48 ?_
        refine lv_iload_n hx hb dX8_letter_51 rfl (lv_at hl 1 rfl) ?_
        refine cViI [.int v] [.ref (a 36)] FX hK (c_X5_housesWith l D y a hA P X1 row n v hI.nn hI.n8) (cwV 1 hts gX8_letter_X5_housesWith rfl rfl rfl (by decide +kernel) ⟨Nat.le_of_ble_eq_true rfl, Nat.le_of_ble_eq_true rfl⟩) hP (pre_recv hK hP (ci := 5) (q0 := 36) rfl rfl) rfl rfl hl (Nat.le_of_ble_eq_true rfl) dX8_letter_52 ⟨Nat.zero_le _, Nat.zero_le _⟩ hS (fun _ h => h) (fun r52 u52 H locs hp52 hP hS _ _ => ?_)
        obtain rfl := hp52
        refine xn_to hx (z := hav P w n v) (hav_of hI hf1 ht1 hn1 _) ?_
        refine lv_aload_n hx hb dX8_letter_55 rfl (lv_at hl 0 rfl) ?_
        refine cg8_3 FX hK in8 hP (List.mem_of_getElem? (i := 2) rfl) dX8_letter_56 ?_
        refine lv_iload_n hx hb dX8_letter_59 rfl (lv_at hl 2 rfl) ?_
        refine cViI [.int z] [.int (hav P w n v), .ref (a 36)] FX hK (c_X5_housesWith l D y a hA P X1 row n z hI.nn hI.n8) (cwV 1 hts gX8_letter_X5_housesWith rfl rfl rfl (by decide +kernel) ⟨Nat.le_of_ble_eq_true rfl, Nat.le_of_ble_eq_true rfl⟩) hP (pre_recv hK hP (ci := 5) (q0 := 36) rfl rfl) rfl rfl hl (Nat.le_of_ble_eq_true rfl) dX8_letter_60 ⟨Nat.zero_le _, Nat.zero_le _⟩ hS (fun _ h => h) (fun r60 u60 H locs hp60 hP hS _ _ => ?_)
        obtain rfl := hp60
        refine xn_to hx (z := hav P w n z) (hav_of hI hf1 ht1 hn1 _) ?_
        refine cViI [.int (hav P w n v), .int (hav P w n z)] [] FX hK (c_X5_seenAmong l D y a hA P X1 row w cN n t (hav P w n v) (hav P w n z) hI) (cwV 2 hts gX8_letter_X5_seenAmong rfl rfl rfl (by decide +kernel) ⟨Nat.le_of_ble_eq_true rfl, Nat.le_of_ble_eq_true rfl⟩) hP (pre_recv hK hP (ci := 5) (q0 := 36) rfl rfl) rfl rfl hl (Nat.le_of_ble_eq_true rfl) dX8_letter_63 ⟨Nat.zero_le _, Nat.zero_le _⟩ hS (fun _ h => h) (fun r63 u63 H locs hp63 hP hS _ _ => ?_)
        obtain rfl := hp63
        refine xn_to hx (z := letS P w n v z) (let_of hI hf1 ht1 _ _) ?_
        exact ret H locs 66 ls (letS P w n v z) (P, X1) dX8_letter_66 (by unfold ansLetter; rw [cif_t c7, cif_t c17, cif_t c30]) hP hS
      · refine lv_bipush (v := (-3)) hx hb dX8_letter_33 rfl ?_
        exact ret H locs 35 ls (-3) (P, X) dX8_letter_35 (by unfold ansLetter; rw [cif_t c7, cif_t c17, cif_f c30]) hP hS
    · refine lv_bipush (v := (-2)) hx hb dX8_letter_20 rfl ?_
      exact ret H locs 22 ls (-2) (P, X) dX8_letter_22 (by unfold ansLetter; rw [cif_t c7, cif_f c17]) hP hS

abbrev rmX8_mean : Room := { frames := 6, cells := 0, slots := 0, locals := 137 }
set_option maxRecDepth 100000 in
set_option maxHeartbeats 4000000 in
theorem c_X8_mean (l : Launch) (D : va_G) (y : Nat → ClassId) (a : Nat → Nat) (hA : CA a 44) (P X : PT) (row : Value) (w cN n t rd : Nat) (wh : Int32)  (hI : IP P w cN n t) (hc1 : P.1 1 = nI cN) (hr : RD P n rd) : CtL l D y yX8_mean wsX8_mean rmX8_mean [.ref (a 0), .int wh] (wC y a P X row) (fun (r : Int64) (u : PT × PT) => (r, u.1) = ansMean P w cN n wh) (fun (u : PT × PT) => wC y a u.1 u.2 row) (AC a) := by
  refine mkL (cc := cX8_mean) (maxL := 4) RX8 rfl (by decide) rfl (Nat.le_of_ble_eq_true rfl) ?_
  intro p e s m args below meth c Q FX hK hP ret ls hl
  obtain ⟨hx, hb, hml, hown, hts⟩ := id FX
  have hS : va_S (AC a) s.heap s.heap [] := va_S.rf
  have in1 : ∀ w ∈ wsX10, w ∈ wsX8_mean := fun _ h => List.mem_cons_of_mem _ (List.mem_append_left _ (List.mem_append_right _ (h)))
  have in2 : ∀ w ∈ wsX20, w ∈ wsX8_mean := fun _ h => List.mem_cons_of_mem _ (List.mem_append_left _ (List.mem_append_left _ (List.mem_append_left _ (List.mem_append_right _ (h)))))
  have in5 : ∀ w ∈ wsX50, w ∈ wsX8_mean := fun _ h => List.mem_cons_of_mem _ (List.mem_append_left _ (List.mem_append_left _ (List.mem_append_right _ (h))))
  have in7 : ∀ w ∈ wsX70, w ∈ wsX8_mean := fun _ h => List.mem_cons_of_mem _ (List.mem_append_right _ (h))
  have in8 : ∀ w ∈ wsX80, w ∈ wsX8_mean := fun _ h => List.mem_cons_of_mem _ (List.mem_append_left _ (List.mem_append_left _ (List.mem_append_left _ (List.mem_append_left _ (List.mem_append_right _ (h))))))
  have hl : lv_has ls 4 [(0, .ref (a 0)), (1, .int wh)] := hl
  have hcl := hI.c30
  have hnl := hI.n8
  have htl := hI.t8
  have hrl := hr.2.1
  refine lv_iload_n hx hb dX8_mean_0 rfl (lv_at hl 1 rfl) ?_
  refine lv_iconst (v := nI 0) hx hb dX8_mean_1 rfl ?_
  refine lv_iconst (v := nI 1) hx hb dX8_mean_2 rfl ?_
  refine cStI [.int wh, .int (nI 0), .int (nI 1)] [] FX hK (c_X8_isWithin l D y wh (nI 0) (nI 1)) (va_cwS 3 hts gX8_mean_X8_isWithin rfl rfl rfl (by decide +kernel) ⟨Nat.le_of_ble_eq_true rfl, Nat.le_of_ble_eq_true rfl⟩) rfl rfl hl (Nat.le_of_ble_eq_true rfl) dX8_mean_3 ⟨Nat.zero_le _, Nat.zero_le _⟩ hP hS (fun r3 H locs hp3 hP hS => ?_)
  obtain rfl := hp3
  refine xn_to hx (z := b2 (inR 0 1 wh)) (b2_iff (wth_iff (by omega) (by omega))) ?_
  refine xb_eq (tgt := 19) hx hb dX8_mean_6 (by decide) (fun c6 => ?_) (fun c6 => ?_)
  · refine lv_ldc2 hx hb hown (hts _ (List.mem_of_getElem? (i := 2) rfl)) dX8_mean_19 ?_
    exact ret H locs 22 ls (-9223372036854775808) (P, X) dX8_mean_22 (by unfold ansMean; rw [cif_f c6]) hP hS
  · refine lv_aload_n hx hb dX8_mean_9 rfl (lv_at hl 0 rfl) ?_
    refine cg8_2 FX hK in8 hP (List.mem_of_getElem? (i := 1) rfl) dX8_mean_10 ?_
    refine cViI [] [] FX hK (c_X2_isThere l D y a hA P X row cN hc1 hcl) (cwV 0 hts gX8_mean_X2_isThere rfl rfl rfl (by decide +kernel) ⟨Nat.le_of_ble_eq_true rfl, Nat.le_of_ble_eq_true rfl⟩) hP (pre_recv hK hP (ci := 2) (q0 := 14) rfl rfl) rfl rfl hl (Nat.le_of_ble_eq_true rfl) dX8_mean_13 ⟨Nat.zero_le _, Nat.zero_le _⟩ hS (fun _ h => h) (fun r13 u13 H locs hp13 hP hS _ _ => ?_)
    obtain rfl := hp13
    refine xb_ne (tgt := 23) hx hb dX8_mean_16 (by decide) (fun c16 => ?_) (fun c16 => ?_)
    · refine lv_aload_n hx hb dX8_mean_23 rfl (lv_at hl 0 rfl) ?_
      refine cg8_2 FX hK in8 hP (List.mem_of_getElem? (i := 1) rfl) dX8_mean_24 ?_
      refine cg2_7 FX hK in2 hP (List.mem_of_getElem? (i := 3) rfl) dX8_mean_27 ?_
      refine xn_to hx (z := nI n) hI.nn ?_
      refine xn_if_ne (tgt := 36) hx hb (by omega) dX8_mean_30 (by decide) (fun c30 => ?_) (fun c30 => ?_)
      · refine lv_aload_n hx hb dX8_mean_36 rfl (lv_at hl 0 rfl) ?_
        refine cg8_3 FX hK in8 hP (List.mem_of_getElem? (i := 4) rfl) dX8_mean_37 ?_
        refine cViV [] [] FX hK (c_X5_countAll l D y a hA P X row w cN n t hI hc1) (cwV 0 hts gX8_mean_X5_countAll rfl rfl rfl (by decide +kernel) ⟨Nat.le_of_ble_eq_true rfl, Nat.le_of_ble_eq_true rfl⟩) hP (pre_recv hK hP (ci := 5) (q0 := 36) rfl rfl) rfl rfl hl (Nat.le_of_ble_eq_true rfl) dX8_mean_40 ⟨Nat.zero_le _, Nat.zero_le _⟩ hS (fun _ h => h) (fun X1 H locs hp40 hP hS _ _ => ?_)
        obtain ⟨hf1, ht1, hn1⟩ := hp40
        refine lv_aload_n hx hb dX8_mean_43 rfl (lv_at hl 0 rfl) ?_
        refine cg8_3 FX hK in8 hP (List.mem_of_getElem? (i := 4) rfl) dX8_mean_44 ?_
        refine cViI [] [] FX hK (c_X5_sumOfNumbers l D y a hA P X1 row n (numP P w n) hI.nn hI.n8 (fun h hh => by rw [hn1 h hh, nf_canon hI (hI.pl hh).2.1 hf1 ht1]; rfl)) (cwV 0 hts gX8_mean_X5_sumOfNumbers rfl rfl rfl (by decide +kernel) ⟨Nat.le_of_ble_eq_true rfl, Nat.le_of_ble_eq_true rfl⟩) hP (pre_recv hK hP (ci := 5) (q0 := 36) rfl rfl) rfl rfl hl (Nat.le_of_ble_eq_true rfl) dX8_mean_47 ⟨Nat.zero_le _, Nat.zero_le _⟩ hS (fun _ h => h) (fun r47 u47 H locs hp47 hP hS _ _ => ?_)
        obtain rfl := hp47
        refine lv_istore_n (lv' := [(2, .int (nI (sm (numP P w n) n))), (0, .ref (a 0)), (1, .int wh)]) hx hb dX8_mean_50 rfl hl (by decide) rfl (fun ls hl => ?_)
        have hsm : sm (numP P w n) n ≤ n * 8 := sm_le (fun k hk => Nat.le_trans (sNf_le _ _ _ _ _ _) hI.n8)
        have hgp := gcS_pos (sm (numP P w n) n) n
        have hgl : gcS (sm (numP P w n) n) n < 100 := gcS_le (by omega) (by omega) (by decide)
        refine lv_iload_n hx hb dX8_mean_51 rfl (lv_at hl 0 rfl) ?_
        refine lv_aload_n hx hb dX8_mean_52 rfl (lv_at hl 1 rfl) ?_
        refine cg8_2 FX hK in8 hP (List.mem_of_getElem? (i := 1) rfl) dX8_mean_53 ?_
        refine cg2_7 FX hK in2 hP (List.mem_of_getElem? (i := 3) rfl) dX8_mean_56 ?_
        refine xn_to hx (z := nI n) hI.nn ?_
        refine cStI [.int (nI (sm (numP P w n) n)), .int (nI n)] [] FX hK (c_X8_greatestCommon l D y (sm (numP P w n) n) n (by omega) (by omega) (by omega)) (va_cwS 2 hts gX8_mean_X8_greatestCommon rfl rfl rfl (by decide +kernel) ⟨Nat.le_of_ble_eq_true rfl, Nat.le_of_ble_eq_true rfl⟩) rfl rfl hl (Nat.le_of_ble_eq_true rfl) dX8_mean_59 ⟨Nat.zero_le _, Nat.zero_le _⟩ hP hS (fun r59 H locs hp59 hP hS => ?_)
        obtain rfl := hp59
        refine lv_istore_n (lv' := [(3, .int (nI (gcS (sm (numP P w n) n) n))), (2, .int (nI (sm (numP P w n) n))), (0, .ref (a 0)), (1, .int wh)]) hx hb dX8_mean_62 rfl hl (by decide) rfl (fun ls hl => ?_)
        refine lv_iload_n hx hb dX8_mean_63 rfl (lv_at hl 3 rfl) ?_
        refine lv_if_ne (tgt := 71) hx hb dX8_mean_64 (by decide) (fun c64 => ?_) (fun c64 => ?_)
        · refine lv_aload_n hx hb dX8_mean_71 rfl (lv_at hl 2 rfl) ?_
          refine cg8_2 FX hK in8 hP (List.mem_of_getElem? (i := 1) rfl) dX8_mean_72 ?_
          refine cg2_7 FX hK in2 hP (List.mem_of_getElem? (i := 3) rfl) dX8_mean_75 ?_
          refine xn_to hx (z := nI n) hI.nn ?_
          refine lv_iload_n hx hb dX8_mean_78 rfl (lv_at hl 0 rfl) ?_
          refine xn_idiv (a := n) (b := gcS (sm (numP P w n) n) n) hx hb (by omega) (by omega) (by omega) dX8_mean_79 ?_
          refine lv_i2l hx hb dX8_mean_80 rfl ?_
          exact ret H locs 81 ls ((nI (n / (gcS (sm (numP P w n) n) n))).toInt64) (P, X1) dX8_mean_81 (by unfold ansMean; rw [cif_t c6, cif_t c16, cif_f (show ¬ n = 0 by omega), cif_f c64]) hP hS
        · refine lv_iload_n hx hb dX8_mean_67 rfl (lv_at hl 1 rfl) ?_
          refine lv_goto (tgt := 78) hx hb dX8_mean_68 (by decide) ?_
          refine lv_iload_n hx hb dX8_mean_78 rfl (lv_at hl 0 rfl) ?_
          refine xn_idiv (a := sm (numP P w n) n) (b := gcS (sm (numP P w n) n) n) hx hb (by omega) (by omega) (by omega) dX8_mean_79 ?_
          refine lv_i2l hx hb dX8_mean_80 rfl ?_
          exact ret H locs 81 ls ((nI ((sm (numP P w n) n) / (gcS (sm (numP P w n) n) n))).toInt64) (P, X1) dX8_mean_81 (by unfold ansMean; rw [cif_t c6, cif_t c16, cif_f (show ¬ n = 0 by omega), cif_t c64]) hP hS
      · refine lv_iload_n hx hb dX8_mean_33 rfl (lv_at hl 1 rfl) ?_
        refine lv_i2l hx hb dX8_mean_34 rfl ?_
        exact ret H locs 35 ls (wh.toInt64) (P, X) dX8_mean_35 (by unfold ansMean; rw [cif_t c6, cif_t c16, cif_t c30]) hP hS
    · refine lv_ldc2 hx hb hown (hts _ (List.mem_of_getElem? (i := 2) rfl)) dX8_mean_19 ?_
      exact ret H locs 22 ls (-9223372036854775808) (P, X) dX8_mean_22 (by unfold ansMean; rw [cif_t c6, cif_f c16]) hP hS

abbrev rmX8_refusedFor : Room := { frames := 2, cells := 0, slots := 0, locals := 43 }
set_option maxRecDepth 100000 in
set_option maxHeartbeats 4000000 in
theorem c_X8_refusedFor (l : Launch) (D : va_G) (y : Nat → ClassId) (a : Nat → Nat) (hA : CA a 44) (P X : PT) (row : Value) (n : Nat) (x v : Int32) (hn : P.1 2 = nI n) (hnl : n ≤ 8) : CtI l D y yX8_refusedFor wsX8_refusedFor rmX8_refusedFor [.ref (a 0), .int x, .int v] (wC y a P X row) (fun r (_ : Unit) => r = rfS n x v) (fun _ => wC y a P X row) (AC a) := by
  refine mkI (cc := cX8_refusedFor) (maxL := 3) (ret := some .int) RX8 rfl (by decide) rfl (Or.inl rfl) (Nat.le_of_ble_eq_true rfl) ?_
  intro p e s m args below meth c Q FX hK hP ret ls hl
  obtain ⟨hx, hb, hml, hown, hts⟩ := id FX
  have hS : va_S (AC a) s.heap s.heap [] := va_S.rf
  have in2 : ∀ w ∈ wsX20, w ∈ wsX8_refusedFor := fun _ h => List.mem_cons_of_mem _ (List.mem_append_right _ (h))
  have in8 : ∀ w ∈ wsX80, w ∈ wsX8_refusedFor := fun _ h => List.mem_cons_of_mem _ (List.mem_append_left _ (List.mem_append_right _ (h)))
  have hl : lv_has ls 3 [(0, .ref (a 0)), (1, .int x), (2, .int v)] := hl
  refine lv_aload_n hx hb dX8_refusedFor_0 rfl (lv_at hl 0 rfl) ?_
  refine cg8_2 FX hK in8 hP (List.mem_of_getElem? (i := 1) rfl) dX8_refusedFor_1 ?_
  refine lv_iload_n hx hb dX8_refusedFor_4 rfl (lv_at hl 1 rfl) ?_
  refine cViI [.int x] [] FX hK (c_X2_hasHouse l D y a hA P X row x n hn (by omega)) (cwV 1 hts gX8_refusedFor_X2_hasHouse rfl rfl rfl (by decide +kernel) ⟨Nat.le_of_ble_eq_true rfl, Nat.le_of_ble_eq_true rfl⟩) hP (pre_recv hK hP (ci := 2) (q0 := 14) rfl rfl) rfl rfl hl (Nat.le_of_ble_eq_true rfl) dX8_refusedFor_5 ⟨Nat.zero_le _, Nat.zero_le _⟩ hS (fun _ h => h) (fun r5 u5 H locs hp5 hP hS _ _ => ?_)
  obtain rfl := hp5
  refine xb_ne (tgt := 13) hx hb dX8_refusedFor_8 (by decide) (fun c8 => ?_) (fun c8 => ?_)
  · refine lv_iload_n hx hb dX8_refusedFor_13 rfl (lv_at hl 2 rfl) ?_
    refine lv_iconst (v := nI 0) hx hb dX8_refusedFor_14 rfl ?_
    refine lv_bipush (v := nI 7) hx hb dX8_refusedFor_15 rfl ?_
    refine cStI [.int v, .int (nI 0), .int (nI 7)] [] FX hK (c_X8_isWithin l D y v (nI 0) (nI 7)) (va_cwS 3 hts gX8_refusedFor_X8_isWithin rfl rfl rfl (by decide +kernel) ⟨Nat.le_of_ble_eq_true rfl, Nat.le_of_ble_eq_true rfl⟩) rfl rfl hl (Nat.le_of_ble_eq_true rfl) dX8_refusedFor_17 ⟨Nat.zero_le _, Nat.zero_le _⟩ hP hS (fun r17 H locs hp17 hP hS => ?_)
    obtain rfl := hp17
    refine xn_to hx (z := b2 (inR 0 7 v)) (b2_iff (wth_iff (by omega) (by omega))) ?_
    refine xb_eq (tgt := 27) hx hb dX8_refusedFor_20 (by decide) (fun c20 => ?_) (fun c20 => ?_)
    · refine lv_bipush (v := (-2)) hx hb dX8_refusedFor_27 rfl ?_
      exact ret H locs 29 ls (-2) () dX8_refusedFor_29 (by unfold rfS; rw [cif_t c8, cif_f c20]) hP hS
    · refine lv_iconst (v := nI 0) hx hb dX8_refusedFor_23 rfl ?_
      refine lv_goto (tgt := 29) hx hb dX8_refusedFor_24 (by decide) ?_
      exact ret H locs 29 ls (nI 0) () dX8_refusedFor_29 (by unfold rfS; rw [cif_t c8, cif_t c20]) hP hS
  · refine lv_iconst (v := (-1)) hx hb dX8_refusedFor_11 rfl ?_
    exact ret H locs 12 ls (-1) () dX8_refusedFor_12 (by unfold rfS; rw [cif_f c8]) hP hS

abbrev rmX8_walled : Room := { frames := 6, cells := 0, slots := 0, locals := 145 }
set_option maxRecDepth 100000 in
set_option maxHeartbeats 4000000 in
theorem c_X8_walled (l : Launch) (D : va_G) (y : Nat → ClassId) (a : Nat → Nat) (hA : CA a 44) (P X : PT) (row : Value) (w cN n t rd : Nat) (x : Int32) (v : Int32)  (hI : IP P w cN n t) (hc1 : P.1 1 = nI cN) (hr : RD P n rd) : CtI l D y yX8_walled wsX8_walled rmX8_walled [.ref (a 0), .int x, .int v] (wC y a P X row) (fun (r : Int32) (u : PT × PT) => (r, u.1) = ansWalled P w cN n x v) (fun (u : PT × PT) => wC y a u.1 u.2 row) (AC a) := by
  refine mkI (cc := cX8_walled) (maxL := 4) (ret := some .int) RX8 rfl (by decide) rfl (Or.inl rfl) (Nat.le_of_ble_eq_true rfl) ?_
  intro p e s m args below meth c Q FX hK hP ret ls hl
  obtain ⟨hx, hb, hml, hown, hts⟩ := id FX
  have hS : va_S (AC a) s.heap s.heap [] := va_S.rf
  have in0 : ∀ w ∈ wsX00, w ∈ wsX8_walled := fun _ h => List.mem_cons_of_mem _ (List.mem_append_left _ (List.mem_append_left _ (List.mem_append_left _ (List.mem_append_right _ (h)))))
  have in1 : ∀ w ∈ wsX10, w ∈ wsX8_walled := fun _ h => List.mem_cons_of_mem _ (List.mem_append_left _ (List.mem_append_left _ (List.mem_append_right _ (h))))
  have in2 : ∀ w ∈ wsX20, w ∈ wsX8_walled := fun _ h => List.mem_cons_of_mem _ (List.mem_append_left _ (List.mem_append_left _ (List.mem_append_left _ (List.mem_append_left _ (List.mem_append_right _ (h))))))
  have in5 : ∀ w ∈ wsX50, w ∈ wsX8_walled := fun _ h => List.mem_cons_of_mem _ (List.mem_append_left _ (List.mem_append_right _ (h)))
  have in7 : ∀ w ∈ wsX70, w ∈ wsX8_walled := fun _ h => List.mem_cons_of_mem _ (List.mem_append_right _ (h))
  have in8 : ∀ w ∈ wsX80, w ∈ wsX8_walled := fun _ h => List.mem_cons_of_mem _ (List.mem_append_left _ (List.mem_append_left _ (List.mem_append_left _ (List.mem_append_left _ (List.mem_append_left _ (List.mem_append_right _ (h)))))))
  have hl : lv_has ls 4 [(0, .ref (a 0)), (1, .int x), (2, .int v)] := hl
  have hcl := hI.c30
  have hnl := hI.n8
  have htl := hI.t8
  have hrl := hr.2.1
  refine lv_aload_n hx hb dX8_walled_0 rfl (lv_at hl 0 rfl) ?_
  refine lv_iload_n hx hb dX8_walled_1 rfl (lv_at hl 1 rfl) ?_
  refine lv_iload_n hx hb dX8_walled_2 rfl (lv_at hl 2 rfl) ?_
  refine cViI [.int x, .int v] [] FX hK (c_X8_refusedFor l D y a hA P X row n x v hI.nn (by omega)) (cwV 2 hts gX8_walled_X8_refusedFor rfl rfl rfl (by decide +kernel) ⟨Nat.le_of_ble_eq_true rfl, Nat.le_of_ble_eq_true rfl⟩) hP (pre_recv hK hP (ci := 8) (q0 := 0) rfl rfl) rfl rfl hl (Nat.le_of_ble_eq_true rfl) dX8_walled_3 ⟨Nat.zero_le _, Nat.zero_le _⟩ hS (fun _ h => h) (fun r3 u3 H locs hp3 hP hS _ _ => ?_)
  obtain rfl := hp3
  refine lv_istore_n (lv' := [(3, .int (rfS n x v)), (0, .ref (a 0)), (1, .int x), (2, .int v)]) hx hb dX8_walled_6 rfl hl (by decide) rfl (fun ls hl => ?_)
  refine lv_iload_n hx hb dX8_walled_7 rfl (lv_at hl 0 rfl) ?_
  refine lv_if_eq (tgt := 15) hx hb dX8_walled_8 (by decide) (fun c8 => ?_) (fun c8 => ?_)
  · obtain ⟨k1, k2⟩ := rfS_0 c8
    have k3 := k1
    obtain ⟨j, hj, rfl⟩ := k3
    refine lv_aload_n hx hb dX8_walled_15 rfl (lv_at hl 1 rfl) ?_
    refine cg8_4 FX hK in8 hP (List.mem_of_getElem? (i := 1) rfl) dX8_walled_16 ?_
    refine lv_iload_n hx hb dX8_walled_19 rfl (lv_at hl 2 rfl) ?_
    refine lv_iload_n hx hb dX8_walled_20 rfl (lv_at hl 3 rfl) ?_
    refine cViI [.int (nI j), .int v] [] FX hK (c_X0_lowestWall l D y a hA P X row w cN n t j v hI hc1 hj) (cwV 2 hts gX8_walled_X0_lowestWall rfl rfl rfl (by decide +kernel) ⟨Nat.le_of_ble_eq_true rfl, Nat.le_of_ble_eq_true rfl⟩) hP (pre_recv hK hP (ci := 0) (q0 := 39) rfl rfl) rfl rfl hl (Nat.le_of_ble_eq_true rfl) dX8_walled_21 ⟨Nat.zero_le _, Nat.zero_le _⟩ hS (fun _ h => h) (fun r21 X1 H locs hp21 hP hS _ _ => ?_)
    obtain rfl := hp21
    exact ret H locs 24 ls (aWalled P w cN n (flP P) j v) (P, X1) dX8_walled_24 (by unfold ansWalled; rw [dN_nI (show j < 2 ^ 31 by omega), cif_t k1, cif_t k2]) hP hS
  · refine lv_iload_n hx hb dX8_walled_11 rfl (lv_at hl 0 rfl) ?_
    refine lv_goto (tgt := 24) hx hb dX8_walled_12 (by decide) ?_
    exact ret H locs 24 ls (rfS n x v) (P, X) dX8_walled_24 (rfS_n c8) hP hS

abbrev rmX8_raised : Room := { frames := 6, cells := 0, slots := 0, locals := 145 }
set_option maxRecDepth 100000 in
set_option maxHeartbeats 4000000 in
theorem c_X8_raised (l : Launch) (D : va_G) (y : Nat → ClassId) (a : Nat → Nat) (hA : CA a 44) (P X : PT) (row : Value) (w cN n t rd : Nat) (x : Int32) (v : Int32)  (hI : IP P w cN n t) (hc1 : P.1 1 = nI cN) (hr : RD P n rd) : CtI l D y yX8_raised wsX8_raised rmX8_raised [.ref (a 0), .int x, .int v] (wC y a P X row) (fun (r : Int32) (u : PT × PT) => (r, u.1) = ansRaised P w n x v) (fun (u : PT × PT) => wC y a u.1 u.2 row) (AC a) := by
  refine mkI (cc := cX8_raised) (maxL := 4) (ret := some .int) RX8 rfl (by decide) rfl (Or.inl rfl) (Nat.le_of_ble_eq_true rfl) ?_
  intro p e s m args below meth c Q FX hK hP ret ls hl
  obtain ⟨hx, hb, hml, hown, hts⟩ := id FX
  have hS : va_S (AC a) s.heap s.heap [] := va_S.rf
  have in0 : ∀ w ∈ wsX00, w ∈ wsX8_raised := fun _ h => List.mem_cons_of_mem _ (List.mem_append_left _ (List.mem_append_left _ (List.mem_append_left _ (List.mem_append_right _ (h)))))
  have in1 : ∀ w ∈ wsX10, w ∈ wsX8_raised := fun _ h => List.mem_cons_of_mem _ (List.mem_append_left _ (List.mem_append_left _ (List.mem_append_right _ (h))))
  have in2 : ∀ w ∈ wsX20, w ∈ wsX8_raised := fun _ h => List.mem_cons_of_mem _ (List.mem_append_left _ (List.mem_append_left _ (List.mem_append_left _ (List.mem_append_left _ (List.mem_append_right _ (h))))))
  have in5 : ∀ w ∈ wsX50, w ∈ wsX8_raised := fun _ h => List.mem_cons_of_mem _ (List.mem_append_left _ (List.mem_append_right _ (h)))
  have in7 : ∀ w ∈ wsX70, w ∈ wsX8_raised := fun _ h => List.mem_cons_of_mem _ (List.mem_append_right _ (h))
  have in8 : ∀ w ∈ wsX80, w ∈ wsX8_raised := fun _ h => List.mem_cons_of_mem _ (List.mem_append_left _ (List.mem_append_left _ (List.mem_append_left _ (List.mem_append_left _ (List.mem_append_left _ (List.mem_append_right _ (h)))))))
  have hl : lv_has ls 4 [(0, .ref (a 0)), (1, .int x), (2, .int v)] := hl
  have hcl := hI.c30
  have hnl := hI.n8
  have htl := hI.t8
  have hrl := hr.2.1
  refine lv_aload_n hx hb dX8_raised_0 rfl (lv_at hl 0 rfl) ?_
  refine lv_iload_n hx hb dX8_raised_1 rfl (lv_at hl 1 rfl) ?_
  refine lv_iload_n hx hb dX8_raised_2 rfl (lv_at hl 2 rfl) ?_
  refine cViI [.int x, .int v] [] FX hK (c_X8_refusedFor l D y a hA P X row n x v hI.nn (by omega)) (cwV 2 hts gX8_raised_X8_refusedFor rfl rfl rfl (by decide +kernel) ⟨Nat.le_of_ble_eq_true rfl, Nat.le_of_ble_eq_true rfl⟩) hP (pre_recv hK hP (ci := 8) (q0 := 0) rfl rfl) rfl rfl hl (Nat.le_of_ble_eq_true rfl) dX8_raised_3 ⟨Nat.zero_le _, Nat.zero_le _⟩ hS (fun _ h => h) (fun r3 u3 H locs hp3 hP hS _ _ => ?_)
  obtain rfl := hp3
  refine lv_istore_n (lv' := [(3, .int (rfS n x v)), (0, .ref (a 0)), (1, .int x), (2, .int v)]) hx hb dX8_raised_6 rfl hl (by decide) rfl (fun ls hl => ?_)
  refine lv_iload_n hx hb dX8_raised_7 rfl (lv_at hl 0 rfl) ?_
  refine lv_if_eq (tgt := 15) hx hb dX8_raised_8 (by decide) (fun c8 => ?_) (fun c8 => ?_)
  · obtain ⟨k1, k2⟩ := rfS_0 c8
    have k3 := k1
    obtain ⟨j, hj, rfl⟩ := k3
    refine lv_aload_n hx hb dX8_raised_15 rfl (lv_at hl 1 rfl) ?_
    refine cg8_4 FX hK in8 hP (List.mem_of_getElem? (i := 1) rfl) dX8_raised_16 ?_
    refine lv_iload_n hx hb dX8_raised_19 rfl (lv_at hl 2 rfl) ?_
    refine lv_iload_n hx hb dX8_raised_20 rfl (lv_at hl 3 rfl) ?_
    refine cViI [.int (nI j), .int v] [] FX hK (c_X0_leastFloors l D y a hA P X row w cN n t j v hI hc1 hj) (cwV 2 hts gX8_raised_X0_leastFloors rfl rfl rfl (by decide +kernel) ⟨Nat.le_of_ble_eq_true rfl, Nat.le_of_ble_eq_true rfl⟩) hP (pre_recv hK hP (ci := 0) (q0 := 39) rfl rfl) rfl rfl hl (Nat.le_of_ble_eq_true rfl) dX8_raised_21 ⟨Nat.zero_le _, Nat.zero_le _⟩ hS (fun _ h => h) (fun r21 X1 H locs hp21 hP hS _ _ => ?_)
    obtain rfl := hp21
    exact ret H locs 24 ls (aRaised P w n (flP P) j v) (P, X1) dX8_raised_24 (by unfold ansRaised; rw [dN_nI (show j < 2 ^ 31 by omega), cif_t k1, cif_t k2]) hP hS
  · refine lv_iload_n hx hb dX8_raised_11 rfl (lv_at hl 0 rfl) ?_
    refine lv_goto (tgt := 24) hx hb dX8_raised_12 (by decide) ?_
    exact ret H locs 24 ls (rfS n x v) (P, X) dX8_raised_24 (rfS_n c8) hP hS

abbrev rmX8_felling : Room := { frames := 7, cells := 0, slots := 0, locals := 164 }
set_option maxRecDepth 100000 in
set_option maxHeartbeats 4000000 in
theorem c_X8_felling (l : Launch) (D : va_G) (y : Nat → ClassId) (a : Nat → Nat) (hA : CA a 44) (P X : PT) (row : Value) (w cN n t rd : Nat) (x : Int32) (v : Int32)  (hI : IP P w cN n t) (hc1 : P.1 1 = nI cN) (hr : RD P n rd) : CtI l D y yX8_felling wsX8_felling rmX8_felling [.ref (a 0), .int x, .int v] (wC y a P X row) (fun (r : Int32) (u : PT × PT) => (r, u.1) = ansFelling P w n t x v) (fun (u : PT × PT) => wC y a u.1 u.2 row) (AC a) := by
  refine mkI (cc := cX8_felling) (maxL := 4) (ret := some .int) RX8 rfl (by decide) rfl (Or.inl rfl) (Nat.le_of_ble_eq_true rfl) ?_
  intro p e s m args below meth c Q FX hK hP ret ls hl
  obtain ⟨hx, hb, hml, hown, hts⟩ := id FX
  have hS : va_S (AC a) s.heap s.heap [] := va_S.rf
  have in0 : ∀ w ∈ wsX00, w ∈ wsX8_felling := fun _ h => List.mem_cons_of_mem _ (List.mem_append_left _ (List.mem_append_left _ (List.mem_append_left _ (List.mem_append_right _ (h)))))
  have in1 : ∀ w ∈ wsX10, w ∈ wsX8_felling := fun _ h => List.mem_cons_of_mem _ (List.mem_append_left _ (List.mem_append_right _ (h)))
  have in2 : ∀ w ∈ wsX20, w ∈ wsX8_felling := fun _ h => List.mem_cons_of_mem _ (List.mem_append_left _ (List.mem_append_left _ (List.mem_append_left _ (List.mem_append_left _ (List.mem_append_right _ (h))))))
  have in5 : ∀ w ∈ wsX50, w ∈ wsX8_felling := fun _ h => List.mem_cons_of_mem _ (List.mem_append_left _ (List.mem_append_left _ (List.mem_append_right _ (h))))
  have in7 : ∀ w ∈ wsX70, w ∈ wsX8_felling := fun _ h => List.mem_cons_of_mem _ (List.mem_append_right _ (h))
  have in8 : ∀ w ∈ wsX80, w ∈ wsX8_felling := fun _ h => List.mem_cons_of_mem _ (List.mem_append_left _ (List.mem_append_left _ (List.mem_append_left _ (List.mem_append_left _ (List.mem_append_left _ (List.mem_append_right _ (h)))))))
  have hl : lv_has ls 4 [(0, .ref (a 0)), (1, .int x), (2, .int v)] := hl
  have hcl := hI.c30
  have hnl := hI.n8
  have htl := hI.t8
  have hrl := hr.2.1
  refine lv_aload_n hx hb dX8_felling_0 rfl (lv_at hl 0 rfl) ?_
  refine lv_iload_n hx hb dX8_felling_1 rfl (lv_at hl 1 rfl) ?_
  refine lv_iload_n hx hb dX8_felling_2 rfl (lv_at hl 2 rfl) ?_
  refine cViI [.int x, .int v] [] FX hK (c_X8_refusedFor l D y a hA P X row n x v hI.nn (by omega)) (cwV 2 hts gX8_felling_X8_refusedFor rfl rfl rfl (by decide +kernel) ⟨Nat.le_of_ble_eq_true rfl, Nat.le_of_ble_eq_true rfl⟩) hP (pre_recv hK hP (ci := 8) (q0 := 0) rfl rfl) rfl rfl hl (Nat.le_of_ble_eq_true rfl) dX8_felling_3 ⟨Nat.zero_le _, Nat.zero_le _⟩ hS (fun _ h => h) (fun r3 u3 H locs hp3 hP hS _ _ => ?_)
  obtain rfl := hp3
  refine lv_istore_n (lv' := [(3, .int (rfS n x v)), (0, .ref (a 0)), (1, .int x), (2, .int v)]) hx hb dX8_felling_6 rfl hl (by decide) rfl (fun ls hl => ?_)
  refine lv_iload_n hx hb dX8_felling_7 rfl (lv_at hl 0 rfl) ?_
  refine lv_if_eq (tgt := 15) hx hb dX8_felling_8 (by decide) (fun c8 => ?_) (fun c8 => ?_)
  · obtain ⟨k1, k2⟩ := rfS_0 c8
    have k3 := k1
    obtain ⟨j, hj, rfl⟩ := k3
    refine lv_aload_n hx hb dX8_felling_15 rfl (lv_at hl 1 rfl) ?_
    refine cg8_4 FX hK in8 hP (List.mem_of_getElem? (i := 1) rfl) dX8_felling_16 ?_
    refine lv_iload_n hx hb dX8_felling_19 rfl (lv_at hl 2 rfl) ?_
    refine lv_iload_n hx hb dX8_felling_20 rfl (lv_at hl 3 rfl) ?_
    refine cViI [.int (nI j), .int v] [] FX hK (c_X0_fewestFelled l D y a hA P X row w cN n t j v hI hc1 hj) (cwV 2 hts gX8_felling_X0_fewestFelled rfl rfl rfl (by decide +kernel) ⟨Nat.le_of_ble_eq_true rfl, Nat.le_of_ble_eq_true rfl⟩) hP (pre_recv hK hP (ci := 0) (q0 := 39) rfl rfl) rfl rfl hl (Nat.le_of_ble_eq_true rfl) dX8_felling_21 ⟨Nat.zero_le _, Nat.zero_le _⟩ hS (fun _ h => h) (fun r21 X1 H locs hp21 hP hS _ _ => ?_)
    obtain rfl := hp21
    exact ret H locs 24 ls (bestS (okF P w n (fun s => flB (P.1 4 ||| nI s)) (fun s => nI s &&& P.1 4 = 0) j v) (2 ^ t)) (P, X1) dX8_felling_24 (by unfold ansFelling; rw [dN_nI (show j < 2 ^ 31 by omega), cif_t k1, cif_t k2]) hP hS
  · refine lv_iload_n hx hb dX8_felling_11 rfl (lv_at hl 0 rfl) ?_
    refine lv_goto (tgt := 24) hx hb dX8_felling_12 (by decide) ?_
    exact ret H locs 24 ls (rfS n x v) (P, X) dX8_felling_24 (rfS_n c8) hP hS

abbrev rmX8_fresh : Room := { frames := 7, cells := 0, slots := 0, locals := 162 }
set_option maxRecDepth 100000 in
set_option maxHeartbeats 4000000 in
theorem c_X8_fresh (l : Launch) (D : va_G) (y : Nat → ClassId) (a : Nat → Nat) (hA : CA a 44) (P X : PT) (row : Value) (w cN n t rd : Nat) (x : Int32) (tall : Int32) (wh : Int32)  (hI : IP P w cN n t) (hc1 : P.1 1 = nI cN) (hr : RD P n rd) : CtI l D y yX8_fresh wsX8_fresh rmX8_fresh [.ref (a 0), .int x, .int tall, .int wh] (wC y a P X row) (fun (r : Int32) (u : PT × PT) => (r, u.1) = ansFresh P w cN n x tall wh) (fun (u : PT × PT) => wC y a u.1 u.2 row) (AC a) := by
  refine mkI (cc := cX8_fresh) (maxL := 4) (ret := some .int) RX8 rfl (by decide) rfl (Or.inl rfl) (Nat.le_of_ble_eq_true rfl) ?_
  intro p e s m args below meth c Q FX hK hP ret ls hl
  obtain ⟨hx, hb, hml, hown, hts⟩ := id FX
  have hS : va_S (AC a) s.heap s.heap [] := va_S.rf
  have in0 : ∀ w ∈ wsX00, w ∈ wsX8_fresh := fun _ h => List.mem_cons_of_mem _ (List.mem_append_left _ (List.mem_append_left _ (List.mem_append_left _ (List.mem_append_right _ (h)))))
  have in1 : ∀ w ∈ wsX10, w ∈ wsX8_fresh := fun _ h => List.mem_cons_of_mem _ (List.mem_append_left _ (List.mem_append_right _ (h)))
  have in2 : ∀ w ∈ wsX20, w ∈ wsX8_fresh := fun _ h => List.mem_cons_of_mem _ (List.mem_append_left _ (List.mem_append_left _ (List.mem_append_left _ (List.mem_append_left _ (List.mem_append_right _ (h))))))
  have in5 : ∀ w ∈ wsX50, w ∈ wsX8_fresh := fun _ h => List.mem_cons_of_mem _ (List.mem_append_left _ (List.mem_append_left _ (List.mem_append_right _ (h))))
  have in7 : ∀ w ∈ wsX70, w ∈ wsX8_fresh := fun _ h => List.mem_cons_of_mem _ (List.mem_append_right _ (h))
  have in8 : ∀ w ∈ wsX80, w ∈ wsX8_fresh := fun _ h => List.mem_cons_of_mem _ (List.mem_append_left _ (List.mem_append_left _ (List.mem_append_left _ (List.mem_append_left _ (List.mem_append_left _ (List.mem_append_right _ (h)))))))
  have hl : lv_has ls 4 [(0, .ref (a 0)), (1, .int x), (2, .int tall), (3, .int wh)] := hl
  have hcl := hI.c30
  have hnl := hI.n8
  have htl := hI.t8
  have hrl := hr.2.1
  refine lv_aload_n hx hb dX8_fresh_0 rfl (lv_at hl 0 rfl) ?_
  refine cg8_2 FX hK in8 hP (List.mem_of_getElem? (i := 1) rfl) dX8_fresh_1 ?_
  refine lv_iload_n hx hb dX8_fresh_4 rfl (lv_at hl 1 rfl) ?_
  refine cViI [.int x] [] FX hK (c_X2_hasCell l D y a hA P X row x cN hc1 (by omega)) (cwV 1 hts gX8_fresh_X2_hasCell rfl rfl rfl (by decide +kernel) ⟨Nat.le_of_ble_eq_true rfl, Nat.le_of_ble_eq_true rfl⟩) hP (pre_recv hK hP (ci := 2) (q0 := 14) rfl rfl) rfl rfl hl (Nat.le_of_ble_eq_true rfl) dX8_fresh_5 ⟨Nat.zero_le _, Nat.zero_le _⟩ hS (fun _ h => h) (fun r5 u5 H locs hp5 hP hS _ _ => ?_)
  obtain rfl := hp5
  refine xb_ne (tgt := 13) hx hb dX8_fresh_8 (by decide) (fun c8 => ?_) (fun c8 => ?_)
  · have k8 := c8
    obtain ⟨j, hj, rfl⟩ := c8
    refine lv_iload_n hx hb dX8_fresh_13 rfl (lv_at hl 2 rfl) ?_
    refine lv_iconst (v := nI 1) hx hb dX8_fresh_14 rfl ?_
    refine lv_bipush (v := nI 9) hx hb dX8_fresh_15 rfl ?_
    refine cStI [.int tall, .int (nI 1), .int (nI 9)] [] FX hK (c_X8_isWithin l D y tall (nI 1) (nI 9)) (va_cwS 3 hts gX8_fresh_X8_isWithin rfl rfl rfl (by decide +kernel) ⟨Nat.le_of_ble_eq_true rfl, Nat.le_of_ble_eq_true rfl⟩) rfl rfl hl (Nat.le_of_ble_eq_true rfl) dX8_fresh_17 ⟨Nat.zero_le _, Nat.zero_le _⟩ hP hS (fun r17 H locs hp17 hP hS => ?_)
    obtain rfl := hp17
    refine xn_to hx (z := b2 (inR 1 9 tall)) (b2_iff (wth_iff (by omega) (by omega))) ?_
    refine xb_eq (tgt := 32) hx hb dX8_fresh_20 (by decide) (fun c20 => ?_) (fun c20 => ?_)
    · refine lv_bipush (v := (-2)) hx hb dX8_fresh_32 rfl ?_
      exact ret H locs 34 ls (-2) (P, X) dX8_fresh_34 (by unfold ansFresh; rw [dN_nI (show j < 2 ^ 31 by omega), cif_t k8, cif_f c20]) hP hS
    · refine lv_iload_n hx hb dX8_fresh_23 rfl (lv_at hl 3 rfl) ?_
      refine lv_iconst (v := nI 0) hx hb dX8_fresh_24 rfl ?_
      refine lv_iconst (v := nI 1) hx hb dX8_fresh_25 rfl ?_
      refine cStI [.int wh, .int (nI 0), .int (nI 1)] [] FX hK (c_X8_isWithin l D y wh (nI 0) (nI 1)) (va_cwS 3 hts gX8_fresh_X8_isWithin rfl rfl rfl (by decide +kernel) ⟨Nat.le_of_ble_eq_true rfl, Nat.le_of_ble_eq_true rfl⟩) rfl rfl hl (Nat.le_of_ble_eq_true rfl) dX8_fresh_26 ⟨Nat.zero_le _, Nat.zero_le _⟩ hP hS (fun r26 H locs hp26 hP hS => ?_)
      obtain rfl := hp26
      refine xn_to hx (z := b2 (inR 0 1 wh)) (b2_iff (wth_iff (by omega) (by omega))) ?_
      refine xb_ne (tgt := 35) hx hb dX8_fresh_29 (by decide) (fun c29 => ?_) (fun c29 => ?_)
      · refine lv_aload_n hx hb dX8_fresh_35 rfl (lv_at hl 0 rfl) ?_
        refine cg8_2 FX hK in8 hP (List.mem_of_getElem? (i := 1) rfl) dX8_fresh_36 ?_
        refine lv_iload_n hx hb dX8_fresh_39 rfl (lv_at hl 1 rfl) ?_
        refine cViI [.int (nI j)] [] FX hK (c_X2_canTakeNew l D y a hA P X row j (by omega)) (cwV 1 hts gX8_fresh_X2_canTakeNew rfl rfl rfl (by decide +kernel) ⟨Nat.le_of_ble_eq_true rfl, Nat.le_of_ble_eq_true rfl⟩) hP (pre_recv hK hP (ci := 2) (q0 := 14) rfl rfl) rfl rfl hl (Nat.le_of_ble_eq_true rfl) dX8_fresh_40 ⟨Nat.zero_le _, Nat.zero_le _⟩ hS (fun _ h => h) (fun r40 u40 H locs hp40 hP hS _ _ => ?_)
        obtain rfl := hp40
        refine xb_ne (tgt := 49) hx hb dX8_fresh_43 (by decide) (fun c43 => ?_) (fun c43 => ?_)
        · refine lv_iload_n hx hb dX8_fresh_49 rfl (lv_at hl 3 rfl) ?_
          refine lv_if_ne (tgt := 65) hx hb dX8_fresh_50 (by decide) (fun c50 => ?_) (fun c50 => ?_)
          · refine lv_aload_n hx hb dX8_fresh_65 rfl (lv_at hl 0 rfl) ?_
            refine cg8_4 FX hK in8 hP (List.mem_of_getElem? (i := 2) rfl) dX8_fresh_66 ?_
            refine lv_iload_n hx hb dX8_fresh_69 rfl (lv_at hl 1 rfl) ?_
            refine lv_iload_n hx hb dX8_fresh_70 rfl (lv_at hl 2 rfl) ?_
            refine cViI [.int (nI j), .int tall] [] FX hK (c_X0_changedByNew l D y a hA P X row w cN n t j tall hI hc1 hj c43.1) (cwV 2 hts gX8_fresh_X0_changedByNew rfl rfl rfl (by decide +kernel) ⟨Nat.le_of_ble_eq_true rfl, Nat.le_of_ble_eq_true rfl⟩) hP (pre_recv hK hP (ci := 0) (q0 := 39) rfl rfl) rfl rfl hl (Nat.le_of_ble_eq_true rfl) dX8_fresh_71 ⟨Nat.zero_le _, Nat.zero_le _⟩ hS (fun _ h => h) (fun r71 X1 H locs hp71 hP hS _ _ => ?_)
            obtain rfl := hp71
            exact ret H locs 74 ls (aOthers P w n (flP P) j tall) (P, X1) dX8_fresh_74 (by unfold ansFresh; rw [dN_nI (show j < 2 ^ 31 by omega), cif_t k8, cif_t c20, cif_t c29, cif_t c43, cif_f c50]) hP hS
          · refine lv_aload_n hx hb dX8_fresh_53 rfl (lv_at hl 0 rfl) ?_
            refine cg8_4 FX hK in8 hP (List.mem_of_getElem? (i := 2) rfl) dX8_fresh_54 ?_
            refine lv_iload_n hx hb dX8_fresh_57 rfl (lv_at hl 1 rfl) ?_
            refine lv_iload_n hx hb dX8_fresh_58 rfl (lv_at hl 2 rfl) ?_
            refine cViI [.int (nI j), .int tall] [] FX hK (c_X0_numberOfNew l D y a hA P X row w cN n t j tall hI hc1 hj) (cwV 2 hts gX8_fresh_X0_numberOfNew rfl rfl rfl (by decide +kernel) ⟨Nat.le_of_ble_eq_true rfl, Nat.le_of_ble_eq_true rfl⟩) hP (pre_recv hK hP (ci := 0) (q0 := 39) rfl rfl) rfl rfl hl (Nat.le_of_ble_eq_true rfl) dX8_fresh_59 ⟨Nat.zero_le _, Nat.zero_le _⟩ hS (fun _ h => h) (fun r59 X1 H locs hp59 hP hS _ _ => ?_)
            obtain rfl := hp59
            refine lv_goto (tgt := 74) hx hb dX8_fresh_62 (by decide) ?_
            exact ret H locs 74 ls (nI (aFresh P w n (flP P) j tall)) (P, X1) dX8_fresh_74 (by unfold ansFresh; rw [dN_nI (show j < 2 ^ 31 by omega), cif_t k8, cif_t c20, cif_t c29, cif_t c43, cif_t c50]) hP hS
        · refine lv_bipush (v := (-3)) hx hb dX8_fresh_46 rfl ?_
          exact ret H locs 48 ls (-3) (P, X) dX8_fresh_48 (by unfold ansFresh; rw [dN_nI (show j < 2 ^ 31 by omega), cif_t k8, cif_t c20, cif_t c29, cif_f c43]) hP hS
      · refine lv_bipush (v := (-2)) hx hb dX8_fresh_32 rfl ?_
        exact ret H locs 34 ls (-2) (P, X) dX8_fresh_34 (by unfold ansFresh; rw [dN_nI (show j < 2 ^ 31 by omega), cif_t k8, cif_t c20, cif_f c29]) hP hS
  · refine lv_iconst (v := (-1)) hx hb dX8_fresh_11 rfl ?_
    exact ret H locs 12 ls (-1) (P, X) dX8_fresh_12 (by unfold ansFresh; rw [cif_f c8]) hP hS

abbrev rmX8_free : Room := { frames := 6, cells := 0, slots := 0, locals := 145 }
set_option maxRecDepth 100000 in
set_option maxHeartbeats 4000000 in
theorem c_X8_free (l : Launch) (D : va_G) (y : Nat → ClassId) (a : Nat → Nat) (hA : CA a 44) (P X : PT) (row : Value) (w cN n t rd : Nat) (tall : Int32) (v : Int32)  (hI : IP P w cN n t) (hc1 : P.1 1 = nI cN) (hr : RD P n rd) : CtL l D y yX8_free wsX8_free rmX8_free [.ref (a 0), .int tall, .int v] (wC y a P X row) (fun (r : Int64) (u : PT × PT) => (r, u.1) = ansFree P w cN n tall v) (fun (u : PT × PT) => wC y a u.1 u.2 row) (AC a) := by
  refine mkL (cc := cX8_free) (maxL := 3) RX8 rfl (by decide) rfl (Nat.le_of_ble_eq_true rfl) ?_
  intro p e s m args below meth c Q FX hK hP ret ls hl
  obtain ⟨hx, hb, hml, hown, hts⟩ := id FX
  have hS : va_S (AC a) s.heap s.heap [] := va_S.rf
  have in0 : ∀ w ∈ wsX00, w ∈ wsX8_free := fun _ h => List.mem_cons_of_mem _ (List.mem_append_left _ (List.mem_append_left _ (List.mem_append_left _ (List.mem_append_right _ (h)))))
  have in1 : ∀ w ∈ wsX10, w ∈ wsX8_free := fun _ h => List.mem_cons_of_mem _ (List.mem_append_left _ (List.mem_append_right _ (h)))
  have in2 : ∀ w ∈ wsX20, w ∈ wsX8_free := fun _ h => List.mem_cons_of_mem _ (List.mem_append_left _ (List.mem_append_left _ (List.mem_append_left _ (List.mem_append_left _ (List.mem_append_right _ (h))))))
  have in5 : ∀ w ∈ wsX50, w ∈ wsX8_free := fun _ h => List.mem_cons_of_mem _ (List.mem_append_left _ (List.mem_append_left _ (List.mem_append_right _ (h))))
  have in7 : ∀ w ∈ wsX70, w ∈ wsX8_free := fun _ h => List.mem_cons_of_mem _ (List.mem_append_right _ (h))
  have in8 : ∀ w ∈ wsX80, w ∈ wsX8_free := fun _ h => List.mem_cons_of_mem _ (List.mem_append_left _ (List.mem_append_left _ (List.mem_append_left _ (List.mem_append_left _ (List.mem_append_left _ (List.mem_append_right _ (h)))))))
  have hl : lv_has ls 3 [(0, .ref (a 0)), (1, .int tall), (2, .int v)] := hl
  have hcl := hI.c30
  have hnl := hI.n8
  have htl := hI.t8
  have hrl := hr.2.1
  refine lv_iload_n hx hb dX8_free_0 rfl (lv_at hl 1 rfl) ?_
  refine lv_iconst (v := nI 1) hx hb dX8_free_1 rfl ?_
  refine lv_bipush (v := nI 9) hx hb dX8_free_2 rfl ?_
  refine cStI [.int tall, .int (nI 1), .int (nI 9)] [] FX hK (c_X8_isWithin l D y tall (nI 1) (nI 9)) (va_cwS 3 hts gX8_free_X8_isWithin rfl rfl rfl (by decide +kernel) ⟨Nat.le_of_ble_eq_true rfl, Nat.le_of_ble_eq_true rfl⟩) rfl rfl hl (Nat.le_of_ble_eq_true rfl) dX8_free_4 ⟨Nat.zero_le _, Nat.zero_le _⟩ hP hS (fun r4 H locs hp4 hP hS => ?_)
  obtain rfl := hp4
  refine xn_to hx (z := b2 (inR 1 9 tall)) (b2_iff (wth_iff (by omega) (by omega))) ?_
  refine xb_eq (tgt := 30) hx hb dX8_free_7 (by decide) (fun c7 => ?_) (fun c7 => ?_)
  · refine lv_ldc2 hx hb hown (hts _ (List.mem_of_getElem? (i := 2) rfl)) dX8_free_30 ?_
    exact ret H locs 33 ls (-9223372036854775808) (P, X) dX8_free_33 (by unfold ansFree; rw [cif_f c7]) hP hS
  · refine lv_iload_n hx hb dX8_free_10 rfl (lv_at hl 2 rfl) ?_
    refine lv_iconst (v := nI 0) hx hb dX8_free_11 rfl ?_
    refine lv_bipush (v := nI 8) hx hb dX8_free_12 rfl ?_
    refine cStI [.int v, .int (nI 0), .int (nI 8)] [] FX hK (c_X8_isWithin l D y v (nI 0) (nI 8)) (va_cwS 3 hts gX8_free_X8_isWithin rfl rfl rfl (by decide +kernel) ⟨Nat.le_of_ble_eq_true rfl, Nat.le_of_ble_eq_true rfl⟩) rfl rfl hl (Nat.le_of_ble_eq_true rfl) dX8_free_14 ⟨Nat.zero_le _, Nat.zero_le _⟩ hP hS (fun r14 H locs hp14 hP hS => ?_)
    obtain rfl := hp14
    refine xn_to hx (z := b2 (inR 0 8 v)) (b2_iff (wth_iff (by omega) (by omega))) ?_
    refine xb_eq (tgt := 30) hx hb dX8_free_17 (by decide) (fun c17 => ?_) (fun c17 => ?_)
    · refine lv_ldc2 hx hb hown (hts _ (List.mem_of_getElem? (i := 2) rfl)) dX8_free_30 ?_
      exact ret H locs 33 ls (-9223372036854775808) (P, X) dX8_free_33 (by unfold ansFree; rw [cif_t c7, cif_f c17]) hP hS
    · refine lv_aload_n hx hb dX8_free_20 rfl (lv_at hl 0 rfl) ?_
      refine cg8_2 FX hK in8 hP (List.mem_of_getElem? (i := 1) rfl) dX8_free_21 ?_
      refine cViI [] [] FX hK (c_X2_isThere l D y a hA P X row cN hc1 hcl) (cwV 0 hts gX8_free_X2_isThere rfl rfl rfl (by decide +kernel) ⟨Nat.le_of_ble_eq_true rfl, Nat.le_of_ble_eq_true rfl⟩) hP (pre_recv hK hP (ci := 2) (q0 := 14) rfl rfl) rfl rfl hl (Nat.le_of_ble_eq_true rfl) dX8_free_24 ⟨Nat.zero_le _, Nat.zero_le _⟩ hS (fun _ h => h) (fun r24 u24 H locs hp24 hP hS _ _ => ?_)
      obtain rfl := hp24
      refine xb_ne (tgt := 34) hx hb dX8_free_27 (by decide) (fun c27 => ?_) (fun c27 => ?_)
      · refine lv_aload_n hx hb dX8_free_34 rfl (lv_at hl 0 rfl) ?_
        refine cg8_4 FX hK in8 hP (List.mem_of_getElem? (i := 3) rfl) dX8_free_35 ?_
        refine lv_iload_n hx hb dX8_free_38 rfl (lv_at hl 1 rfl) ?_
        refine lv_iload_n hx hb dX8_free_39 rfl (lv_at hl 2 rfl) ?_
        refine cViL [.int tall, .int v] [] FX hK (c_X0_cellsForNew l D y a hA P X row w cN n t tall v hI hc1) (cwV 2 hts gX8_free_X0_cellsForNew rfl rfl rfl (by decide +kernel) ⟨Nat.le_of_ble_eq_true rfl, Nat.le_of_ble_eq_true rfl⟩) hP (pre_recv hK hP (ci := 0) (q0 := 39) rfl rfl) rfl rfl hl (Nat.le_of_ble_eq_true rfl) dX8_free_40 ⟨Nat.zero_le _, Nat.zero_le _⟩ hS (fun _ h => h) (fun r40 X1 H locs hp40 hP hS _ _ => ?_)
        obtain rfl := hp40
        exact ret H locs 43 ls (aFree P w cN n (flP P) tall v) (P, X1) dX8_free_43 (by unfold ansFree; rw [cif_t c7, cif_t c17, cif_t c27]) hP hS
      · refine lv_ldc2 hx hb hown (hts _ (List.mem_of_getElem? (i := 2) rfl)) dX8_free_30 ?_
        exact ret H locs 33 ls (-9223372036854775808) (P, X) dX8_free_33 (by unfold ansFree; rw [cif_t c7, cif_t c17, cif_f c27]) hP hS

abbrev rmX8_change : Room := { frames := 6, cells := 0, slots := 0, locals := 139 }
set_option maxRecDepth 100000 in
set_option maxHeartbeats 4000000 in
theorem c_X8_change (l : Launch) (D : va_G) (y : Nat → ClassId) (a : Nat → Nat) (hA : CA a 44) (P X : PT) (row : Value) (w cN n t rd : Nat) (yr : Nat) (x : Int32)  (hI : IP P w cN n t) (hc1 : P.1 1 = nI cN) (hr : RD P n rd) (hyr : P.1 5 = nI yr) (hyl : yr ≤ 30) : CtI l D y yX8_change wsX8_change rmX8_change [.ref (a 0), .int x] (wC y a P X row) (fun (r : Int32) (u : PT × PT) => (r, u.1) = ansChange P w n x) (fun (u : PT × PT) => wC y a u.1 u.2 row) (AC a) := by
  refine mkI (cc := cX8_change) (maxL := 2) (ret := some .int) RX8 rfl (by decide) rfl (Or.inl rfl) (Nat.le_of_ble_eq_true rfl) ?_
  intro p e s m args below meth c Q FX hK hP ret ls hl
  obtain ⟨hx, hb, hml, hown, hts⟩ := id FX
  have hS : va_S (AC a) s.heap s.heap [] := va_S.rf
  have in0 : ∀ w ∈ wsX00, w ∈ wsX8_change := fun _ h => List.mem_cons_of_mem _ (List.mem_append_left _ (List.mem_append_left _ (List.mem_append_left _ (List.mem_append_right _ (h)))))
  have in1 : ∀ w ∈ wsX10, w ∈ wsX8_change := fun _ h => List.mem_cons_of_mem _ (List.mem_append_left _ (List.mem_append_right _ (h)))
  have in2 : ∀ w ∈ wsX20, w ∈ wsX8_change := fun _ h => List.mem_cons_of_mem _ (List.mem_append_left _ (List.mem_append_left _ (List.mem_append_left _ (List.mem_append_left _ (List.mem_append_right _ (h))))))
  have in5 : ∀ w ∈ wsX50, w ∈ wsX8_change := fun _ h => List.mem_cons_of_mem _ (List.mem_append_left _ (List.mem_append_left _ (List.mem_append_right _ (h))))
  have in7 : ∀ w ∈ wsX70, w ∈ wsX8_change := fun _ h => List.mem_cons_of_mem _ (List.mem_append_right _ (h))
  have in8 : ∀ w ∈ wsX80, w ∈ wsX8_change := fun _ h => List.mem_cons_of_mem _ (List.mem_append_left _ (List.mem_append_left _ (List.mem_append_left _ (List.mem_append_left _ (List.mem_append_left _ (List.mem_append_right _ (h)))))))
  have hl : lv_has ls 2 [(0, .ref (a 0)), (1, .int x)] := hl
  have hcl := hI.c30
  have hnl := hI.n8
  have htl := hI.t8
  have hrl := hr.2.1
  refine lv_aload_n hx hb dX8_change_0 rfl (lv_at hl 0 rfl) ?_
  refine cg8_2 FX hK in8 hP (List.mem_of_getElem? (i := 1) rfl) dX8_change_1 ?_
  refine lv_iload_n hx hb dX8_change_4 rfl (lv_at hl 1 rfl) ?_
  refine cViI [.int x] [] FX hK (c_X2_hasHouse l D y a hA P X row x n hI.nn (by omega)) (cwV 1 hts gX8_change_X2_hasHouse rfl rfl rfl (by decide +kernel) ⟨Nat.le_of_ble_eq_true rfl, Nat.le_of_ble_eq_true rfl⟩) hP (pre_recv hK hP (ci := 2) (q0 := 14) rfl rfl) rfl rfl hl (Nat.le_of_ble_eq_true rfl) dX8_change_5 ⟨Nat.zero_le _, Nat.zero_le _⟩ hS (fun _ h => h) (fun r5 u5 H locs hp5 hP hS _ _ => ?_)
  obtain rfl := hp5
  refine xb_eq (tgt := 22) hx hb dX8_change_8 (by decide) (fun c8 => ?_) (fun c8 => ?_)
  · refine lv_iconst (v := (-1)) hx hb dX8_change_22 rfl ?_
    exact ret H locs 23 ls (-1) (P, X) dX8_change_23 (by unfold ansChange; rw [cif_f c8]) hP hS
  · have k8 := c8
    obtain ⟨j, hj, rfl⟩ := c8
    refine lv_aload_n hx hb dX8_change_11 rfl (lv_at hl 0 rfl) ?_
    refine cg8_4 FX hK in8 hP (List.mem_of_getElem? (i := 2) rfl) dX8_change_12 ?_
    refine lv_iload_n hx hb dX8_change_15 rfl (lv_at hl 1 rfl) ?_
    refine cViI [.int (nI j)] [] FX hK (c_X0_yearOfChange l D y a hA P X row w cN n t j yr hI hc1 hj hyr hyl) (cwV 1 hts gX8_change_X0_yearOfChange rfl rfl rfl (by decide +kernel) ⟨Nat.le_of_ble_eq_true rfl, Nat.le_of_ble_eq_true rfl⟩) hP (pre_recv hK hP (ci := 0) (q0 := 39) rfl rfl) rfl rfl hl (Nat.le_of_ble_eq_true rfl) dX8_change_16 ⟨Nat.zero_le _, Nat.zero_le _⟩ hS (fun _ h => h) (fun r16 X1 H locs hp16 hP hS _ _ => ?_)
    obtain rfl := hp16
    refine lv_goto (tgt := 23) hx hb dX8_change_19 (by decide) ?_
    exact ret H locs 23 ls (aChange P w n (flP P) j yr) (P, X1) dX8_change_23 (by unfold ansChange; rw [dN_nI (show j < 2 ^ 31 by omega), cif_t k8]; rw [show dN (P.1 5) = yr from (by rw [hyr]; exact dN_nI (by omega))]) hP hS

abbrev rmX8_reading : Room := { frames := 2, cells := 0, slots := 0, locals := 43 }
set_option maxRecDepth 100000 in
set_option maxHeartbeats 4000000 in
theorem c_X8_reading (l : Launch) (D : va_G) (y : Nat → ClassId) (a : Nat → Nat) (hA : CA a 44) (P X : PT) (row : Value) (w cN n t rd : Nat) (x : Int32) (yr : Int32) (v : Int32)  (hI : IP P w cN n t) (hc1 : P.1 1 = nI cN) (hr : RD P n rd) : CtI l D y yX8_reading wsX8_reading rmX8_reading [.ref (a 0), .int x, .int yr, .int v] (wC y a P X row) (fun (r : Int32) (u : PT × PT) => (r, u.1) = ansReading P n rd x yr v) (fun (u : PT × PT) => wC y a u.1 u.2 row) (AC a) := by
  refine mkI (cc := cX8_reading) (maxL := 4) (ret := some .int) RX8 rfl (by decide) rfl (Or.inl rfl) (Nat.le_of_ble_eq_true rfl) ?_
  intro p e s m args below meth c Q FX hK hP ret ls hl
  obtain ⟨hx, hb, hml, hown, hts⟩ := id FX
  have hS : va_S (AC a) s.heap s.heap [] := va_S.rf
  have in2 : ∀ w ∈ wsX20, w ∈ wsX8_reading := fun _ h => List.mem_cons_of_mem _ (List.mem_append_left _ (List.mem_append_right _ (h)))
  have in3 : ∀ w ∈ wsX30, w ∈ wsX8_reading := fun _ h => List.mem_cons_of_mem _ (List.mem_append_right _ (h))
  have in8 : ∀ w ∈ wsX80, w ∈ wsX8_reading := fun _ h => List.mem_cons_of_mem _ (List.mem_append_left _ (List.mem_append_left _ (List.mem_append_right _ (h))))
  have hl : lv_has ls 4 [(0, .ref (a 0)), (1, .int x), (2, .int yr), (3, .int v)] := hl
  have hcl := hI.c30
  have hnl := hI.n8
  have htl := hI.t8
  have hrl := hr.2.1
  refine lv_aload_n hx hb dX8_reading_0 rfl (lv_at hl 0 rfl) ?_
  refine cg8_2 FX hK in8 hP (List.mem_of_getElem? (i := 1) rfl) dX8_reading_1 ?_
  refine lv_iload_n hx hb dX8_reading_4 rfl (lv_at hl 1 rfl) ?_
  refine cViI [.int x] [] FX hK (c_X2_hasHouse l D y a hA P X row x n hI.nn (by omega)) (cwV 1 hts gX8_reading_X2_hasHouse rfl rfl rfl (by decide +kernel) ⟨Nat.le_of_ble_eq_true rfl, Nat.le_of_ble_eq_true rfl⟩) hP (pre_recv hK hP (ci := 2) (q0 := 14) rfl rfl) rfl rfl hl (Nat.le_of_ble_eq_true rfl) dX8_reading_5 ⟨Nat.zero_le _, Nat.zero_le _⟩ hS (fun _ h => h) (fun r5 u5 H locs hp5 hP hS _ _ => ?_)
  obtain rfl := hp5
  refine xb_ne (tgt := 13) hx hb dX8_reading_8 (by decide) (fun c8 => ?_) (fun c8 => ?_)
  · have k8 := c8
    obtain ⟨j, hj, rfl⟩ := c8
    refine lv_iload_n hx hb dX8_reading_13 rfl (lv_at hl 2 rfl) ?_
    refine lv_iconst (v := nI 0) hx hb dX8_reading_14 rfl ?_
    refine lv_bipush (v := nI 30) hx hb dX8_reading_15 rfl ?_
    refine cStI [.int yr, .int (nI 0), .int (nI 30)] [] FX hK (c_X8_isWithin l D y yr (nI 0) (nI 30)) (va_cwS 3 hts gX8_reading_X8_isWithin rfl rfl rfl (by decide +kernel) ⟨Nat.le_of_ble_eq_true rfl, Nat.le_of_ble_eq_true rfl⟩) rfl rfl hl (Nat.le_of_ble_eq_true rfl) dX8_reading_17 ⟨Nat.zero_le _, Nat.zero_le _⟩ hP hS (fun r17 H locs hp17 hP hS => ?_)
    obtain rfl := hp17
    refine xn_to hx (z := b2 (inR 0 30 yr)) (b2_iff (wth_iff (by omega) (by omega))) ?_
    refine xb_eq (tgt := 33) hx hb dX8_reading_20 (by decide) (fun c20 => ?_) (fun c20 => ?_)
    · refine lv_bipush (v := (-2)) hx hb dX8_reading_33 rfl ?_
      exact ret H locs 35 ls (-2) (P, X) dX8_reading_35 (by unfold ansReading; rw [cif_t k8, cif_f c20]) hP hS
    · refine lv_iload_n hx hb dX8_reading_23 rfl (lv_at hl 3 rfl) ?_
      refine lv_iconst (v := nI 0) hx hb dX8_reading_24 rfl ?_
      refine lv_bipush (v := nI 7) hx hb dX8_reading_25 rfl ?_
      refine cStI [.int v, .int (nI 0), .int (nI 7)] [] FX hK (c_X8_isWithin l D y v (nI 0) (nI 7)) (va_cwS 3 hts gX8_reading_X8_isWithin rfl rfl rfl (by decide +kernel) ⟨Nat.le_of_ble_eq_true rfl, Nat.le_of_ble_eq_true rfl⟩) rfl rfl hl (Nat.le_of_ble_eq_true rfl) dX8_reading_27 ⟨Nat.zero_le _, Nat.zero_le _⟩ hP hS (fun r27 H locs hp27 hP hS => ?_)
      obtain rfl := hp27
      refine xn_to hx (z := b2 (inR 0 7 v)) (b2_iff (wth_iff (by omega) (by omega))) ?_
      refine xb_ne (tgt := 36) hx hb dX8_reading_30 (by decide) (fun c30 => ?_) (fun c30 => ?_)
      · refine lv_aload_n hx hb dX8_reading_36 rfl (lv_at hl 0 rfl) ?_
        refine cg8_5 FX hK in8 hP (List.mem_of_getElem? (i := 2) rfl) dX8_reading_37 ?_
        refine cViI [] [] FX hK (c_X3_isFull l D y a hA P X row rd hr.1 hr.2.1) (cwV 0 hts gX8_reading_X3_isFull rfl rfl rfl (by decide +kernel) ⟨Nat.le_of_ble_eq_true rfl, Nat.le_of_ble_eq_true rfl⟩) hP (pre_recv hK hP (ci := 3) (q0 := 40) rfl rfl) rfl rfl hl (Nat.le_of_ble_eq_true rfl) dX8_reading_40 ⟨Nat.zero_le _, Nat.zero_le _⟩ hS (fun _ h => h) (fun r40 u40 H locs hp40 hP hS _ _ => ?_)
        obtain rfl := hp40
        refine xb_eq (tgt := 51) hx hb dX8_reading_43 (by decide) (fun c43 => ?_) (fun c43 => ?_)
        · refine lv_aload_n hx hb dX8_reading_51 rfl (lv_at hl 0 rfl) ?_
          refine cg8_5 FX hK in8 hP (List.mem_of_getElem? (i := 2) rfl) dX8_reading_52 ?_
          refine lv_iload_n hx hb dX8_reading_55 rfl (lv_at hl 1 rfl) ?_
          refine lv_iload_n hx hb dX8_reading_56 rfl (lv_at hl 2 rfl) ?_
          refine lv_iload_n hx hb dX8_reading_57 rfl (lv_at hl 3 rfl) ?_
          refine cViI [.int (nI j), .int yr, .int v] [] FX hK (c_X3_keep l D y a hA P X row j rd yr v hr.1 (by omega)) (cwV 3 hts gX8_reading_X3_keep rfl rfl rfl (by decide +kernel) ⟨Nat.le_of_ble_eq_true rfl, Nat.le_of_ble_eq_true rfl⟩) hP (pre_recv hK hP (ci := 3) (q0 := 40) rfl rfl) rfl rfl hl (Nat.le_of_ble_eq_true rfl) dX8_reading_58 ⟨Nat.zero_le _, Nat.zero_le _⟩ hS (fun _ h => h) (fun r58 u58 H locs hp58 hP hS _ _ => ?_)
          obtain rfl := hp58
          exact ret H locs 61 ls (nI rd) (pg (pa (pa (pa P 9 rd (nI j)) 10 rd yr) 11 rd v) 8 (nI (rd + 1)), X) dX8_reading_61 (by unfold ansReading; rw [cif_t k8, cif_t c20, cif_t c30, cif_f c43]) hP hS
        · refine lv_bipush (v := (-4)) hx hb dX8_reading_46 rfl ?_
          refine lv_goto (tgt := 61) hx hb dX8_reading_48 (by decide) ?_
          exact ret H locs 61 ls (-4) (P, X) dX8_reading_61 (by unfold ansReading; rw [cif_t k8, cif_t c20, cif_t c30, cif_t c43]) hP hS
      · refine lv_bipush (v := (-2)) hx hb dX8_reading_33 rfl ?_
        exact ret H locs 35 ls (-2) (P, X) dX8_reading_35 (by unfold ansReading; rw [cif_t k8, cif_t c20, cif_f c30]) hP hS
  · refine lv_iconst (v := (-1)) hx hb dX8_reading_11 rfl ?_
    exact ret H locs 12 ls (-1) (P, X) dX8_reading_12 (by unfold ansReading; rw [cif_f c8]) hP hS

abbrev rmX8_back : Room := { frames := 1, cells := 0, slots := 0, locals := 22 }
set_option maxRecDepth 100000 in
set_option maxHeartbeats 4000000 in
theorem c_X8_back (l : Launch) (D : va_G) (y : Nat → ClassId) (a : Nat → Nat) (hA : CA a 44) (P X : PT) (row : Value) (w cN n t rd : Nat) (x : Int32)  (hI : IP P w cN n t) (hc1 : P.1 1 = nI cN) (hr : RD P n rd) : CtI l D y yX8_back wsX8_back rmX8_back [.ref (a 0), .int x] (wC y a P X row) (fun (r : Int32) (u : PT × PT) => (r, u.1) = ansBack P rd x) (fun (u : PT × PT) => wC y a u.1 u.2 row) (AC a) := by
  refine mkI (cc := cX8_back) (maxL := 2) (ret := some .int) RX8 rfl (by decide) rfl (Or.inl rfl) (Nat.le_of_ble_eq_true rfl) ?_
  intro p e s m args below meth c Q FX hK hP ret ls hl
  obtain ⟨hx, hb, hml, hown, hts⟩ := id FX
  have hS : va_S (AC a) s.heap s.heap [] := va_S.rf
  have in3 : ∀ w ∈ wsX30, w ∈ wsX8_back := fun _ h => List.mem_cons_of_mem _ (List.mem_append_right _ (h))
  have in8 : ∀ w ∈ wsX80, w ∈ wsX8_back := fun _ h => List.mem_cons_of_mem _ (List.mem_append_left _ (List.mem_append_right _ (h)))
  have hl : lv_has ls 2 [(0, .ref (a 0)), (1, .int x)] := hl
  have hcl := hI.c30
  have hnl := hI.n8
  have htl := hI.t8
  have hrl := hr.2.1
  refine lv_iload_n hx hb dX8_back_0 rfl (lv_at hl 1 rfl) ?_
  refine lv_iconst (v := nI 0) hx hb dX8_back_1 rfl ?_
  refine lv_aload_n hx hb dX8_back_2 rfl (lv_at hl 0 rfl) ?_
  refine cg8_5 FX hK in8 hP (List.mem_of_getElem? (i := 1) rfl) dX8_back_3 ?_
  refine cg3_0 FX hK in3 hP (List.mem_of_getElem? (i := 2) rfl) dX8_back_6 ?_
  refine xn_to hx (z := nI rd) hr.1 ?_
  refine cStI [.int x, .int (nI 0), .int (nI rd)] [] FX hK (c_X8_isWithin l D y x (nI 0) (nI rd)) (va_cwS 3 hts gX8_back_X8_isWithin rfl rfl rfl (by decide +kernel) ⟨Nat.le_of_ble_eq_true rfl, Nat.le_of_ble_eq_true rfl⟩) rfl rfl hl (Nat.le_of_ble_eq_true rfl) dX8_back_9 ⟨Nat.zero_le _, Nat.zero_le _⟩ hP hS (fun r9 H locs hp9 hP hS => ?_)
  obtain rfl := hp9
  refine xn_to hx (z := b2 (inR 0 rd x)) (b2_iff (wth_iff (by omega) (by omega))) ?_
  refine xb_ne (tgt := 18) hx hb dX8_back_12 (by decide) (fun c12 => ?_) (fun c12 => ?_)
  · have k12 := c12
    obtain ⟨j, hj0, hj, rfl⟩ := c12
    refine lv_aload_n hx hb dX8_back_18 rfl (lv_at hl 0 rfl) ?_
    refine cg8_5 FX hK in8 hP (List.mem_of_getElem? (i := 1) rfl) dX8_back_19 ?_
    refine lv_dup hx hb dX8_back_22 rfl ?_
    refine cg3_0 FX hK in3 hP (List.mem_of_getElem? (i := 2) rfl) dX8_back_23 ?_
    refine xn_to hx (z := nI rd) hr.1 ?_
    refine lv_iload_n hx hb dX8_back_26 rfl (lv_at hl 1 rfl) ?_
    refine xn_isub (a := rd) (b := j) hx hb (by omega) dX8_back_27 ?_
    refine cp3_0 FX hK in3 hP hA hS (List.mem_of_getElem? (i := 2) rfl) dX8_back_28 (fun H locs hP hS => ?_)
    refine lv_aload_n hx hb dX8_back_31 rfl (lv_at hl 0 rfl) ?_
    refine cg8_5 FX hK in8 hP (List.mem_of_getElem? (i := 1) rfl) dX8_back_32 ?_
    refine cg3_0 FX hK in3 hP (List.mem_of_getElem? (i := 2) rfl) dX8_back_35 ?_
    refine xn_to hx (z := nI (rd - j)) rfl ?_
    exact ret H locs 38 ls (nI (rd - j)) (pg P 8 (nI (rd - j)), X) dX8_back_38 (by unfold ansBack; rw [dN_nI (show j < 2 ^ 31 by omega), cif_t k12]) hP hS
  · refine lv_bipush (v := (-2)) hx hb dX8_back_15 rfl ?_
    exact ret H locs 17 ls (-2) (P, X) dX8_back_17 (by unfold ansBack; rw [cif_f c12]) hP hS

abbrev rmX8_fogs : Room := { frames := 7, cells := 0, slots := 0, locals := 160 }
set_option maxRecDepth 100000 in
set_option maxHeartbeats 4000000 in
theorem c_X8_fogs (l : Launch) (D : va_G) (y : Nat → ClassId) (a : Nat → Nat) (hA : CA a 44) (P X : PT) (row : Value) (w cN n t rd : Nat)  (hI : IP P w cN n t) (hc1 : P.1 1 = nI cN) (hr : RD P n rd) : CtI l D y yX8_fogs wsX8_fogs rmX8_fogs [.ref (a 0)] (wC y a P X row) (fun (r : Int32) (u : PT × PT) => (r, u.1) = ansFogs P w cN n rd) (fun (u : PT × PT) => wC y a u.1 u.2 row) (AC a) := by
  refine mkI (cc := cX8_fogs) (maxL := 1) (ret := some .int) RX8 rfl (by decide) rfl (Or.inl rfl) (Nat.le_of_ble_eq_true rfl) ?_
  intro p e s m args below meth c Q FX hK hP ret ls hl
  obtain ⟨hx, hb, hml, hown, hts⟩ := id FX
  have hS : va_S (AC a) s.heap s.heap [] := va_S.rf
  have in1 : ∀ w ∈ wsX10, w ∈ wsX8_fogs := fun _ h => List.mem_cons_of_mem _ (List.mem_append_left _ (List.mem_append_right _ (h)))
  have in2 : ∀ w ∈ wsX20, w ∈ wsX8_fogs := fun _ h => List.mem_cons_of_mem _ (List.mem_append_left _ (List.mem_append_left _ (List.mem_append_left _ (List.mem_append_left _ (List.mem_append_right _ (h))))))
  have in3 : ∀ w ∈ wsX30, w ∈ wsX8_fogs := fun _ h => List.mem_cons_of_mem _ (List.mem_append_left _ (List.mem_append_left _ (List.mem_append_left _ (List.mem_append_right _ (h)))))
  have in5 : ∀ w ∈ wsX50, w ∈ wsX8_fogs := fun _ h => List.mem_cons_of_mem _ (List.mem_append_left _ (List.mem_append_left _ (List.mem_append_right _ (h))))
  have in7 : ∀ w ∈ wsX70, w ∈ wsX8_fogs := fun _ h => List.mem_cons_of_mem _ (List.mem_append_right _ (h))
  have in8 : ∀ w ∈ wsX80, w ∈ wsX8_fogs := fun _ h => List.mem_cons_of_mem _ (List.mem_append_left _ (List.mem_append_left _ (List.mem_append_left _ (List.mem_append_left _ (List.mem_append_left _ (List.mem_append_right _ (h)))))))
  have hl : lv_has ls 1 [(0, .ref (a 0))] := hl
  have hcl := hI.c30
  have hnl := hI.n8
  have htl := hI.t8
  have hrl := hr.2.1
  refine lv_aload_n hx hb dX8_fogs_0 rfl (lv_at hl 0 rfl) ?_
  refine cg8_2 FX hK in8 hP (List.mem_of_getElem? (i := 1) rfl) dX8_fogs_1 ?_
  refine cViI [] [] FX hK (c_X2_isThere l D y a hA P X row cN hc1 hcl) (cwV 0 hts gX8_fogs_X2_isThere rfl rfl rfl (by decide +kernel) ⟨Nat.le_of_ble_eq_true rfl, Nat.le_of_ble_eq_true rfl⟩) hP (pre_recv hK hP (ci := 2) (q0 := 14) rfl rfl) rfl rfl hl (Nat.le_of_ble_eq_true rfl) dX8_fogs_4 ⟨Nat.zero_le _, Nat.zero_le _⟩ hS (fun _ h => h) (fun r4 u4 H locs hp4 hP hS _ _ => ?_)
  obtain rfl := hp4
  refine xb_eq (tgt := 20) hx hb dX8_fogs_7 (by decide) (fun c7 => ?_) (fun c7 => ?_)
  · refine lv_bipush (v := (-3)) hx hb dX8_fogs_20 rfl ?_
    exact ret H locs 22 ls (-3) (P, X) dX8_fogs_22 (by unfold ansFogs; rw [cif_f c7]) hP hS
  · refine lv_aload_n hx hb dX8_fogs_10 rfl (lv_at hl 0 rfl) ?_
    refine cg8_5 FX hK in8 hP (List.mem_of_getElem? (i := 2) rfl) dX8_fogs_11 ?_
    refine cViI [] [] FX hK (c_X3_possibleFogs l D y a hA P X row w cN n t rd hI hr hc1) (cwV 0 hts gX8_fogs_X3_possibleFogs rfl rfl rfl (by decide +kernel) ⟨Nat.le_of_ble_eq_true rfl, Nat.le_of_ble_eq_true rfl⟩) hP (pre_recv hK hP (ci := 3) (q0 := 40) rfl rfl) rfl rfl hl (Nat.le_of_ble_eq_true rfl) dX8_fogs_14 ⟨Nat.zero_le _, Nat.zero_le _⟩ hS (fun _ h => h) (fun r14 X1 H locs hp14 hP hS _ _ => ?_)
    obtain rfl := hp14
    refine lv_goto (tgt := 22) hx hb dX8_fogs_17 (by decide) ?_
    exact ret H locs 22 ls (aFogs P w n rd (flP P)) (P, X1) dX8_fogs_22 (by unfold ansFogs; rw [cif_t c7]) hP hS

abbrev rmX8_stood : Room := { frames := 7, cells := 0, slots := 0, locals := 161 }
set_option maxRecDepth 100000 in
set_option maxHeartbeats 4000000 in
theorem c_X8_stood (l : Launch) (D : va_G) (y : Nat → ClassId) (a : Nat → Nat) (hA : CA a 44) (P X : PT) (row : Value) (w cN n t rd : Nat) (wh : Int32)  (hI : IP P w cN n t) (hc1 : P.1 1 = nI cN) (hr : RD P n rd) : CtI l D y yX8_stood wsX8_stood rmX8_stood [.ref (a 0), .int wh] (wC y a P X row) (fun (r : Int32) (u : PT × PT) => (r, u.1) = ansStood P w cN n rd t wh) (fun (u : PT × PT) => wC y a u.1 u.2 row) (AC a) := by
  refine mkI (cc := cX8_stood) (maxL := 2) (ret := some .int) RX8 rfl (by decide) rfl (Or.inl rfl) (Nat.le_of_ble_eq_true rfl) ?_
  intro p e s m args below meth c Q FX hK hP ret ls hl
  obtain ⟨hx, hb, hml, hown, hts⟩ := id FX
  have hS : va_S (AC a) s.heap s.heap [] := va_S.rf
  have in1 : ∀ w ∈ wsX10, w ∈ wsX8_stood := fun _ h => List.mem_cons_of_mem _ (List.mem_append_left _ (List.mem_append_right _ (h)))
  have in2 : ∀ w ∈ wsX20, w ∈ wsX8_stood := fun _ h => List.mem_cons_of_mem _ (List.mem_append_left _ (List.mem_append_left _ (List.mem_append_left _ (List.mem_append_left _ (List.mem_append_right _ (h))))))
  have in3 : ∀ w ∈ wsX30, w ∈ wsX8_stood := fun _ h => List.mem_cons_of_mem _ (List.mem_append_left _ (List.mem_append_left _ (List.mem_append_left _ (List.mem_append_right _ (h)))))
  have in5 : ∀ w ∈ wsX50, w ∈ wsX8_stood := fun _ h => List.mem_cons_of_mem _ (List.mem_append_left _ (List.mem_append_left _ (List.mem_append_right _ (h))))
  have in7 : ∀ w ∈ wsX70, w ∈ wsX8_stood := fun _ h => List.mem_cons_of_mem _ (List.mem_append_right _ (h))
  have in8 : ∀ w ∈ wsX80, w ∈ wsX8_stood := fun _ h => List.mem_cons_of_mem _ (List.mem_append_left _ (List.mem_append_left _ (List.mem_append_left _ (List.mem_append_left _ (List.mem_append_left _ (List.mem_append_right _ (h)))))))
  have hl : lv_has ls 2 [(0, .ref (a 0)), (1, .int wh)] := hl
  have hcl := hI.c30
  have hnl := hI.n8
  have htl := hI.t8
  have hrl := hr.2.1
  refine lv_iload_n hx hb dX8_stood_0 rfl (lv_at hl 1 rfl) ?_
  refine lv_iconst (v := nI 0) hx hb dX8_stood_1 rfl ?_
  refine lv_iconst (v := nI 1) hx hb dX8_stood_2 rfl ?_
  refine cStI [.int wh, .int (nI 0), .int (nI 1)] [] FX hK (c_X8_isWithin l D y wh (nI 0) (nI 1)) (va_cwS 3 hts gX8_stood_X8_isWithin rfl rfl rfl (by decide +kernel) ⟨Nat.le_of_ble_eq_true rfl, Nat.le_of_ble_eq_true rfl⟩) rfl rfl hl (Nat.le_of_ble_eq_true rfl) dX8_stood_3 ⟨Nat.zero_le _, Nat.zero_le _⟩ hP hS (fun r3 H locs hp3 hP hS => ?_)
  obtain rfl := hp3
  refine xn_to hx (z := b2 (inR 0 1 wh)) (b2_iff (wth_iff (by omega) (by omega))) ?_
  refine xb_ne (tgt := 12) hx hb dX8_stood_6 (by decide) (fun c6 => ?_) (fun c6 => ?_)
  · refine lv_aload_n hx hb dX8_stood_12 rfl (lv_at hl 0 rfl) ?_
    refine cg8_2 FX hK in8 hP (List.mem_of_getElem? (i := 1) rfl) dX8_stood_13 ?_
    refine cViI [] [] FX hK (c_X2_isThere l D y a hA P X row cN hc1 hcl) (cwV 0 hts gX8_stood_X2_isThere rfl rfl rfl (by decide +kernel) ⟨Nat.le_of_ble_eq_true rfl, Nat.le_of_ble_eq_true rfl⟩) hP (pre_recv hK hP (ci := 2) (q0 := 14) rfl rfl) rfl rfl hl (Nat.le_of_ble_eq_true rfl) dX8_stood_16 ⟨Nat.zero_le _, Nat.zero_le _⟩ hS (fun _ h => h) (fun r16 u16 H locs hp16 hP hS _ _ => ?_)
    obtain rfl := hp16
    refine xb_ne (tgt := 25) hx hb dX8_stood_19 (by decide) (fun c19 => ?_) (fun c19 => ?_)
    · refine lv_iload_n hx hb dX8_stood_25 rfl (lv_at hl 1 rfl) ?_
      refine lv_if_ne (tgt := 39) hx hb dX8_stood_26 (by decide) (fun c26 => ?_) (fun c26 => ?_)
      · refine lv_aload_n hx hb dX8_stood_39 rfl (lv_at hl 0 rfl) ?_
        refine cg8_5 FX hK in8 hP (List.mem_of_getElem? (i := 2) rfl) dX8_stood_40 ?_
        refine cViI [] [] FX hK (c_X3_firstThatStood l D y a hA P X row w cN n t rd hI hr hc1) (cwV 0 hts gX8_stood_X3_firstThatStood rfl rfl rfl (by decide +kernel) ⟨Nat.le_of_ble_eq_true rfl, Nat.le_of_ble_eq_true rfl⟩) hP (pre_recv hK hP (ci := 3) (q0 := 40) rfl rfl) rfl rfl hl (Nat.le_of_ble_eq_true rfl) dX8_stood_43 ⟨Nat.zero_le _, Nat.zero_le _⟩ hS (fun _ h => h) (fun r43 X1 H locs hp43 hP hS _ _ => ?_)
        obtain rfl := hp43
        exact ret H locs 46 ls (aFirst P w n rd t (flS t)) (P, X1) dX8_stood_46 (by unfold ansStood; rw [cif_t c6, cif_t c19, cif_f c26]) hP hS
      · refine lv_aload_n hx hb dX8_stood_29 rfl (lv_at hl 0 rfl) ?_
        refine cg8_5 FX hK in8 hP (List.mem_of_getElem? (i := 2) rfl) dX8_stood_30 ?_
        refine cViI [] [] FX hK (c_X3_howManyStood l D y a hA P X row w cN n t rd hI hr hc1) (cwV 0 hts gX8_stood_X3_howManyStood rfl rfl rfl (by decide +kernel) ⟨Nat.le_of_ble_eq_true rfl, Nat.le_of_ble_eq_true rfl⟩) hP (pre_recv hK hP (ci := 3) (q0 := 40) rfl rfl) rfl rfl hl (Nat.le_of_ble_eq_true rfl) dX8_stood_33 ⟨Nat.zero_le _, Nat.zero_le _⟩ hS (fun _ h => h) (fun r33 X1 H locs hp33 hP hS _ _ => ?_)
        obtain rfl := hp33
        refine lv_goto (tgt := 46) hx hb dX8_stood_36 (by decide) ?_
        exact ret H locs 46 ls (nI (aStood P w n rd t (flS t))) (P, X1) dX8_stood_46 (by unfold ansStood; rw [cif_t c6, cif_t c19, cif_t c26]) hP hS
    · refine lv_bipush (v := (-3)) hx hb dX8_stood_22 rfl ?_
      exact ret H locs 24 ls (-3) (P, X) dX8_stood_24 (by unfold ansStood; rw [cif_t c6, cif_f c19]) hP hS
  · refine lv_bipush (v := (-2)) hx hb dX8_stood_9 rfl ?_
    exact ret H locs 11 ls (-2) (P, X) dX8_stood_11 (by unfold ansStood; rw [cif_f c6]) hP hS

abbrev rmX8_sheet : Room := { frames := 2, cells := 0, slots := 0, locals := 42 }
set_option maxRecDepth 100000 in
set_option maxHeartbeats 4000000 in
theorem c_X8_sheet (l : Launch) (D : va_G) (y : Nat → ClassId) (a : Nat → Nat) (hA : CA a 44) (P X : PT) (row : Value) (w cN n t rd : Nat) (x : Int32) (lane : Int32) (mz : Int32)  (hI : IP P w cN n t) (hc1 : P.1 1 = nI cN) (hr : RD P n rd) : CtI l D y yX8_sheet wsX8_sheet rmX8_sheet [.ref (a 0), .int x, .int lane, .int mz] (wC y a P X row) (fun (r : Int32) (u : PT × PT) => (r, u.1) = ansSheet P x lane mz) (fun (u : PT × PT) => wC y a u.1 u.2 row) (AC a) := by
  refine mkI (cc := cX8_sheet) (maxL := 4) (ret := some .int) RX8 rfl (by decide) rfl (Or.inl rfl) (Nat.le_of_ble_eq_true rfl) ?_
  intro p e s m args below meth c Q FX hK hP ret ls hl
  obtain ⟨hx, hb, hml, hown, hts⟩ := id FX
  have hS : va_S (AC a) s.heap s.heap [] := va_S.rf
  have in4 : ∀ w ∈ wsX40, w ∈ wsX8_sheet := fun _ h => List.mem_cons_of_mem _ (List.mem_append_right _ (h))
  have in8 : ∀ w ∈ wsX80, w ∈ wsX8_sheet := fun _ h => List.mem_cons_of_mem _ (List.mem_append_left _ (List.mem_append_right _ (h)))
  have hl : lv_has ls 4 [(0, .ref (a 0)), (1, .int x), (2, .int lane), (3, .int mz)] := hl
  have hcl := hI.c30
  have hnl := hI.n8
  have htl := hI.t8
  have hrl := hr.2.1
  refine lv_aload_n hx hb dX8_sheet_0 rfl (lv_at hl 0 rfl) ?_
  refine lv_iconst (v := nI 0) hx hb dX8_sheet_1 rfl ?_
  refine cp8_7 FX hK in8 hP hA hS (List.mem_of_getElem? (i := 1) rfl) dX8_sheet_2 (fun H locs hP hS => ?_)
  refine lv_iload_n hx hb dX8_sheet_5 rfl (lv_at hl 1 rfl) ?_
  refine cStI [.int x] [] FX hK (c_X8_isSheet l D y x) (va_cwS 1 hts gX8_sheet_X8_isSheet rfl rfl rfl (by decide +kernel) ⟨Nat.le_of_ble_eq_true rfl, Nat.le_of_ble_eq_true rfl⟩) rfl rfl hl (Nat.le_of_ble_eq_true rfl) dX8_sheet_6 ⟨Nat.zero_le _, Nat.zero_le _⟩ hP hS (fun r6 H locs hp6 hP hS => ?_)
  obtain rfl := hp6
  refine xb_ne (tgt := 14) hx hb dX8_sheet_9 (by decide) (fun c9 => ?_) (fun c9 => ?_)
  · have k9 := c9
    obtain ⟨j, hj, rfl⟩ := c9
    refine lv_iload_n hx hb dX8_sheet_14 rfl (lv_at hl 2 rfl) ?_
    refine lv_iconst (v := nI 0) hx hb dX8_sheet_15 rfl ?_
    refine lv_iconst (v := nI 2) hx hb dX8_sheet_16 rfl ?_
    refine cStI [.int lane, .int (nI 0), .int (nI 2)] [] FX hK (c_X8_isWithin l D y lane (nI 0) (nI 2)) (va_cwS 3 hts gX8_sheet_X8_isWithin rfl rfl rfl (by decide +kernel) ⟨Nat.le_of_ble_eq_true rfl, Nat.le_of_ble_eq_true rfl⟩) rfl rfl hl (Nat.le_of_ble_eq_true rfl) dX8_sheet_17 ⟨Nat.zero_le _, Nat.zero_le _⟩ hP hS (fun r17 H locs hp17 hP hS => ?_)
    obtain rfl := hp17
    refine xn_to hx (z := b2 (inR 0 2 lane)) (b2_iff (wth_iff (by omega) (by omega))) ?_
    refine xb_eq (tgt := 29) hx hb dX8_sheet_20 (by decide) (fun c20 => ?_) (fun c20 => ?_)
    · refine lv_bipush (v := (-2)) hx hb dX8_sheet_29 rfl ?_
      exact ret H locs 31 ls (-2) (pg P 10 (nI 0), X) dX8_sheet_31 (by unfold ansSheet; rw [dN_nI (show j < 2 ^ 31 by omega), cif_t k9, cif_f c20]) hP hS
    · refine lv_iload_n hx hb dX8_sheet_23 rfl (lv_at hl 3 rfl) ?_
      refine lv_bipush (v := nI 100) hx hb dX8_sheet_24 rfl ?_
      refine lv_icmp_le (tgt := 32) hx hb dX8_sheet_26 (by decide) (fun c26 => ?_) (fun c26 => ?_)
      · refine lv_iload_n hx hb dX8_sheet_32 rfl (lv_at hl 3 rfl) ?_
        refine lv_if_ge (tgt := 42) hx hb dX8_sheet_33 (by decide) (fun c33 => ?_) (fun c33 => ?_)
        · have k26 := c26
          have k33 := c33
          obtain ⟨mm, hm, rfl⟩ := nat_of (by decide) c33 c26
          refine lv_aload_n hx hb dX8_sheet_42 rfl (lv_at hl 0 rfl) ?_
          refine cg8_0 FX hK in8 hP (List.mem_of_getElem? (i := 2) rfl) dX8_sheet_43 ?_
          refine lv_iload_n hx hb dX8_sheet_46 rfl (lv_at hl 1 rfl) ?_
          refine ca1 (i := j) (by omega) FX hK hP dX8_sheet_47 ?_
          refine lv_iload_n hx hb dX8_sheet_48 rfl (lv_at hl 2 rfl) ?_
          refine lv_iload_n hx hb dX8_sheet_49 rfl (lv_at hl 3 rfl) ?_
          refine cViV [.int lane, .int (nI mm)] [] FX hK (c_X4_makeRow l D y a hA (pg P 10 (nI 0)) X row j lane mm (by omega) hm) (cwV 2 hts gX8_sheet_X4_makeRow rfl rfl rfl (by decide +kernel) ⟨Nat.le_of_ble_eq_true rfl, Nat.le_of_ble_eq_true rfl⟩) hP (pre_recv hK hP (ci := 4) (q0 := 2 + j) rfl (wC_sheet y a _ _ _ j (by omega))) rfl rfl hl (Nat.le_of_ble_eq_true rfl) dX8_sheet_50 ⟨Nat.zero_le _, Nat.zero_le _⟩ hS (fun _ h => h) (fun u50 H locs hp50 hP hS _ _ => ?_)
          refine lv_iconst (v := nI 1) hx hb dX8_sheet_53 rfl ?_
          exact ret H locs 54 ls (nI 1) (zf (pa (pa (pg P 10 (nI 0)) 12 j lane) 13 j (nI mm)) j mm, X) dX8_sheet_54 (by unfold ansSheet; rw [dN_nI (show j < 2 ^ 31 by omega), dN_nI (show mm < 2 ^ 31 by omega), cif_t k9, cif_t c20, cif_t k26, cif_t k33]) hP hS
        · refine lv_aload_n hx hb dX8_sheet_36 rfl (lv_at hl 0 rfl) ?_
          refine lv_iconst (v := nI 4) hx hb dX8_sheet_37 rfl ?_
          refine cViI [.int (nI 4)] [] FX hK (c_X8_answerFault l D y a hA (pg P 10 (nI 0)) X row 4) (cwV 1 hts gX8_sheet_X8_answerFault rfl rfl rfl (by decide +kernel) ⟨Nat.le_of_ble_eq_true rfl, Nat.le_of_ble_eq_true rfl⟩) hP (pre_recv hK hP (ci := 8) (q0 := 0) rfl rfl) rfl rfl hl (Nat.le_of_ble_eq_true rfl) dX8_sheet_38 ⟨Nat.zero_le _, Nat.zero_le _⟩ hS (fun _ h => h) (fun r38 u38 H locs hp38 hP hS _ _ => ?_)
          obtain rfl := hp38
          refine xn_to hx (z := (-14)) (by decide) ?_
          exact ret H locs 41 ls (-14) (pg (pg P 10 (nI 0)) 10 (nI 4), X) dX8_sheet_41 (by unfold ansSheet; rw [dN_nI (show j < 2 ^ 31 by omega), cif_t k9, cif_t c20, cif_t c26, cif_f c33]) hP hS
      · refine lv_bipush (v := (-2)) hx hb dX8_sheet_29 rfl ?_
        exact ret H locs 31 ls (-2) (pg P 10 (nI 0), X) dX8_sheet_31 (by unfold ansSheet; rw [dN_nI (show j < 2 ^ 31 by omega), cif_t k9, cif_t c20, cif_f c26]) hP hS
  · refine lv_iconst (v := (-1)) hx hb dX8_sheet_12 rfl ?_
    exact ret H locs 13 ls (-1) (pg P 10 (nI 0), X) dX8_sheet_13 (by unfold ansSheet; rw [cif_f c9]) hP hS

abbrev rmX8_lose : Room := { frames := 2, cells := 0, slots := 0, locals := 42 }
set_option maxRecDepth 100000 in
set_option maxHeartbeats 4000000 in
theorem c_X8_lose (l : Launch) (D : va_G) (y : Nat → ClassId) (a : Nat → Nat) (hA : CA a 44) (P X : PT) (row : Value) (w cN n t rd : Nat) (x : Int32)  (hI : IP P w cN n t) (hc1 : P.1 1 = nI cN) (hr : RD P n rd) : CtI l D y yX8_lose wsX8_lose rmX8_lose [.ref (a 0), .int x] (wC y a P X row) (fun (r : Int32) (u : PT × PT) => (r, u.1) = ansLose P x) (fun (u : PT × PT) => wC y a u.1 u.2 row) (AC a) := by
  refine mkI (cc := cX8_lose) (maxL := 2) (ret := some .int) RX8 rfl (by decide) rfl (Or.inl rfl) (Nat.le_of_ble_eq_true rfl) ?_
  intro p e s m args below meth c Q FX hK hP ret ls hl
  obtain ⟨hx, hb, hml, hown, hts⟩ := id FX
  have hS : va_S (AC a) s.heap s.heap [] := va_S.rf
  have in4 : ∀ w ∈ wsX40, w ∈ wsX8_lose := fun _ h => List.mem_cons_of_mem _ (List.mem_append_right _ (h))
  have in8 : ∀ w ∈ wsX80, w ∈ wsX8_lose := fun _ h => List.mem_cons_of_mem _ (List.mem_append_left _ (List.mem_append_right _ (h)))
  have hl : lv_has ls 2 [(0, .ref (a 0)), (1, .int x)] := hl
  have hcl := hI.c30
  have hnl := hI.n8
  have htl := hI.t8
  have hrl := hr.2.1
  refine lv_iload_n hx hb dX8_lose_0 rfl (lv_at hl 1 rfl) ?_
  refine cStI [.int x] [] FX hK (c_X8_isSheet l D y x) (va_cwS 1 hts gX8_lose_X8_isSheet rfl rfl rfl (by decide +kernel) ⟨Nat.le_of_ble_eq_true rfl, Nat.le_of_ble_eq_true rfl⟩) rfl rfl hl (Nat.le_of_ble_eq_true rfl) dX8_lose_1 ⟨Nat.zero_le _, Nat.zero_le _⟩ hP hS (fun r1 H locs hp1 hP hS => ?_)
  obtain rfl := hp1
  refine xb_ne (tgt := 9) hx hb dX8_lose_4 (by decide) (fun c4 => ?_) (fun c4 => ?_)
  · have k4 := c4
    obtain ⟨j, hj, rfl⟩ := c4
    refine lv_aload_n hx hb dX8_lose_9 rfl (lv_at hl 0 rfl) ?_
    refine cg8_0 FX hK in8 hP (List.mem_of_getElem? (i := 1) rfl) dX8_lose_10 ?_
    refine lv_iload_n hx hb dX8_lose_13 rfl (lv_at hl 1 rfl) ?_
    refine ca1 (i := j) (by omega) FX hK hP dX8_lose_14 ?_
    refine cViI [] [] FX hK (c_X4_hasRow l D y a hA P X row j (by omega)) (cwV 0 hts gX8_lose_X4_hasRow rfl rfl rfl (by decide +kernel) ⟨Nat.le_of_ble_eq_true rfl, Nat.le_of_ble_eq_true rfl⟩) hP (pre_recv hK hP (ci := 4) (q0 := 2 + j) rfl (wC_sheet y a _ _ _ j (by omega))) rfl rfl hl (Nat.le_of_ble_eq_true rfl) dX8_lose_15 ⟨Nat.zero_le _, Nat.zero_le _⟩ hS (fun _ h => h) (fun r15 u15 H locs hp15 hP hS _ _ => ?_)
    obtain rfl := hp15
    refine xb_ne (tgt := 23) hx hb dX8_lose_18 (by decide) (fun c18 => ?_) (fun c18 => ?_)
    · refine lv_aload_n hx hb dX8_lose_23 rfl (lv_at hl 0 rfl) ?_
      refine cg8_0 FX hK in8 hP (List.mem_of_getElem? (i := 1) rfl) dX8_lose_24 ?_
      refine lv_iload_n hx hb dX8_lose_27 rfl (lv_at hl 1 rfl) ?_
      refine ca1 (i := j) (by omega) FX hK hP dX8_lose_28 ?_
      refine cViV [] [] FX hK (c_X4_dropRow l D y a hA P X row j (by omega)) (cwV 0 hts gX8_lose_X4_dropRow rfl rfl rfl (by decide +kernel) ⟨Nat.le_of_ble_eq_true rfl, Nat.le_of_ble_eq_true rfl⟩) hP (pre_recv hK hP (ci := 4) (q0 := 2 + j) rfl (wC_sheet y a _ _ _ j (by omega))) rfl rfl hl (Nat.le_of_ble_eq_true rfl) dX8_lose_29 ⟨Nat.zero_le _, Nat.zero_le _⟩ hS (fun _ h => h) (fun u29 H locs hp29 hP hS _ _ => ?_)
      refine lv_iconst (v := nI 1) hx hb dX8_lose_32 rfl ?_
      exact ret H locs 33 ls (nI 1) (pa P 13 j (-1), X) dX8_lose_33 (by unfold ansLose; rw [dN_nI (show j < 2 ^ 31 by omega), cif_t k4, cif_t c18]) hP hS
    · refine lv_iconst (v := nI 0) hx hb dX8_lose_21 rfl ?_
      exact ret H locs 22 ls (nI 0) (P, X) dX8_lose_22 (by unfold ansLose; rw [dN_nI (show j < 2 ^ 31 by omega), cif_t k4, cif_f c18]) hP hS
  · refine lv_iconst (v := (-1)) hx hb dX8_lose_7 rfl ?_
    exact ret H locs 8 ls (-1) (P, X) dX8_lose_8 (by unfold ansLose; rw [cif_f c4]) hP hS

abbrev rmX8_put : Room := { frames := 2, cells := 0, slots := 0, locals := 42 }
set_option maxRecDepth 100000 in
set_option maxHeartbeats 4000000 in
theorem c_X8_put (l : Launch) (D : va_G) (y : Nat → ClassId) (a : Nat → Nat) (hA : CA a 44) (P X : PT) (row : Value) (w cN n t rd : Nat) (x : Int32) (i : Int32) (v : Int32)  (hI : IP P w cN n t) (hc1 : P.1 1 = nI cN) (hr : RD P n rd) (hsh : SH P) : CtI l D y yX8_put wsX8_put rmX8_put [.ref (a 0), .int x, .int i, .int v] (wC y a P X row) (fun (r : Int32) (u : PT × PT) => (r, u.1) = ansPut P x i v) (fun (u : PT × PT) => wC y a u.1 u.2 row) (AC a) := by
  refine mkI (cc := cX8_put) (maxL := 5) (ret := some .int) RX8 rfl (by decide) rfl (Or.inl rfl) (Nat.le_of_ble_eq_true rfl) ?_
  intro p e s m args below meth c Q FX hK hP ret ls hl
  obtain ⟨hx, hb, hml, hown, hts⟩ := id FX
  have hS : va_S (AC a) s.heap s.heap [] := va_S.rf
  have in4 : ∀ w ∈ wsX40, w ∈ wsX8_put := fun _ h => List.mem_cons_of_mem _ (List.mem_append_right _ (h))
  have in8 : ∀ w ∈ wsX80, w ∈ wsX8_put := fun _ h => List.mem_cons_of_mem _ (List.mem_append_left _ (List.mem_append_right _ (h)))
  have hl : lv_has ls 5 [(0, .ref (a 0)), (1, .int x), (2, .int i), (3, .int v)] := hl
  have hcl := hI.c30
  have hnl := hI.n8
  have htl := hI.t8
  have hrl := hr.2.1
  refine lv_aload_n hx hb dX8_put_0 rfl (lv_at hl 0 rfl) ?_
  refine lv_iconst (v := nI 0) hx hb dX8_put_1 rfl ?_
  refine cp8_7 FX hK in8 hP hA hS (List.mem_of_getElem? (i := 1) rfl) dX8_put_2 (fun H locs hP hS => ?_)
  refine lv_iload_n hx hb dX8_put_5 rfl (lv_at hl 1 rfl) ?_
  refine cStI [.int x] [] FX hK (c_X8_isSheet l D y x) (va_cwS 1 hts gX8_put_X8_isSheet rfl rfl rfl (by decide +kernel) ⟨Nat.le_of_ble_eq_true rfl, Nat.le_of_ble_eq_true rfl⟩) rfl rfl hl (Nat.le_of_ble_eq_true rfl) dX8_put_6 ⟨Nat.zero_le _, Nat.zero_le _⟩ hP hS (fun r6 H locs hp6 hP hS => ?_)
  obtain rfl := hp6
  refine xb_ne (tgt := 14) hx hb dX8_put_9 (by decide) (fun c9 => ?_) (fun c9 => ?_)
  · have k9 := c9
    obtain ⟨j, hj, rfl⟩ := c9
    refine lv_aload_n hx hb dX8_put_14 rfl (lv_at hl 0 rfl) ?_
    refine cg8_0 FX hK in8 hP (List.mem_of_getElem? (i := 2) rfl) dX8_put_15 ?_
    refine lv_iload_n hx hb dX8_put_18 rfl (lv_at hl 1 rfl) ?_
    refine ca1 (i := j) (by omega) FX hK hP dX8_put_19 ?_
    refine lv_astore (lv' := [(4, .ref (a (2 + j))), (0, .ref (a 0)), (1, .int (nI j)), (2, .int i), (3, .int v)]) hx hb dX8_put_20 hl (by decide) rfl (fun ls hl => ?_)
    refine lv_aload hx hb dX8_put_22 (lv_at hl 0 rfl) ?_
    refine cViI [] [] FX hK (c_X4_hasRow l D y a hA (pg P 10 (nI 0)) X row j (by omega)) (cwV 0 hts gX8_put_X4_hasRow rfl rfl rfl (by decide +kernel) ⟨Nat.le_of_ble_eq_true rfl, Nat.le_of_ble_eq_true rfl⟩) hP (pre_recv hK hP (ci := 4) (q0 := 2 + j) rfl (wC_sheet y a _ _ _ j (by omega))) rfl rfl hl (Nat.le_of_ble_eq_true rfl) dX8_put_24 ⟨Nat.zero_le _, Nat.zero_le _⟩ hS (fun _ h => h) (fun r24 u24 H locs hp24 hP hS _ _ => ?_)
    obtain rfl := hp24
    refine xn_to hx (z := b2 (¬ P.2 13 j = -1)) rfl ?_
    refine xb_ne (tgt := 36) hx hb dX8_put_27 (by decide) (fun c27 => ?_) (fun c27 => ?_)
    · refine lv_aload hx hb dX8_put_36 (lv_at hl 0 rfl) ?_
      refine lv_iload_n hx hb dX8_put_38 rfl (lv_at hl 3 rfl) ?_
      refine cViI [.int i] [] FX hK (c_X4_holds l D y a hA (pg P 10 (nI 0)) X row j i (by omega)) (cwV 1 hts gX8_put_X4_holds rfl rfl rfl (by decide +kernel) ⟨Nat.le_of_ble_eq_true rfl, Nat.le_of_ble_eq_true rfl⟩) hP (pre_recv hK hP (ci := 4) (q0 := 2 + j) rfl (wC_sheet y a _ _ _ j (by omega))) rfl rfl hl (Nat.le_of_ble_eq_true rfl) dX8_put_39 ⟨Nat.zero_le _, Nat.zero_le _⟩ hS (fun _ h => h) (fun r39 u39 H locs hp39 hP hS _ _ => ?_)
      obtain rfl := hp39
      refine xn_to hx (z := b2 (inS i (P.2 13 j))) rfl ?_
      refine xb_ne (tgt := 51) hx hb dX8_put_42 (by decide) (fun c42 => ?_) (fun c42 => ?_)
      · have k42 := c42
        obtain ⟨ii, ms, hii, hms, rfl, -⟩ := inS_nat hsh hj c42
        refine lv_aload hx hb dX8_put_51 (lv_at hl 0 rfl) ?_
        refine lv_iload_n hx hb dX8_put_53 rfl (lv_at hl 3 rfl) ?_
        refine lv_iload_n hx hb dX8_put_54 rfl (lv_at hl 4 rfl) ?_
        refine cViV [.int (nI ii), .int v] [] FX hK (c_X4_write l D y a hA (pg P 10 (nI 0)) X row j ii v (by omega) (by omega)) (cwV 2 hts gX8_put_X4_write rfl rfl rfl (by decide +kernel) ⟨Nat.le_of_ble_eq_true rfl, Nat.le_of_ble_eq_true rfl⟩) hP (pre_recv hK hP (ci := 4) (q0 := 2 + j) rfl (wC_sheet y a _ _ _ j (by omega))) rfl rfl hl (Nat.le_of_ble_eq_true rfl) dX8_put_55 ⟨Nat.zero_le _, Nat.zero_le _⟩ hS (fun _ h => h) (fun u55 H locs hp55 hP hS _ _ => ?_)
        refine lv_iconst (v := nI 1) hx hb dX8_put_58 rfl ?_
        exact ret H locs 59 ls (nI 1) (pa (pg P 10 (nI 0)) (14 + j) ii (cut (P.2 12 j) v), X) dX8_put_59 (by unfold ansPut; rw [dN_nI (show ii < 2 ^ 31 by omega), dN_nI (show j < 2 ^ 31 by omega), cif_t k9, cif_t c27, cif_t k42]) hP hS
      · refine lv_aload_n hx hb dX8_put_45 rfl (lv_at hl 1 rfl) ?_
        refine lv_iconst (v := nI 3) hx hb dX8_put_46 rfl ?_
        refine cViI [.int (nI 3)] [] FX hK (c_X8_answerFault l D y a hA (pg P 10 (nI 0)) X row 3) (cwV 1 hts gX8_put_X8_answerFault rfl rfl rfl (by decide +kernel) ⟨Nat.le_of_ble_eq_true rfl, Nat.le_of_ble_eq_true rfl⟩) hP (pre_recv hK hP (ci := 8) (q0 := 0) rfl rfl) rfl rfl hl (Nat.le_of_ble_eq_true rfl) dX8_put_47 ⟨Nat.zero_le _, Nat.zero_le _⟩ hS (fun _ h => h) (fun r47 u47 H locs hp47 hP hS _ _ => ?_)
        obtain rfl := hp47
        refine xn_to hx (z := (-13)) (by decide) ?_
        exact ret H locs 50 ls (-13) (pg (pg P 10 (nI 0)) 10 (nI 3), X) dX8_put_50 (by unfold ansPut; rw [dN_nI (show j < 2 ^ 31 by omega), cif_t k9, cif_t c27, cif_f c42]) hP hS
    · refine lv_aload_n hx hb dX8_put_30 rfl (lv_at hl 1 rfl) ?_
      refine lv_iconst (v := nI 1) hx hb dX8_put_31 rfl ?_
      refine cViI [.int (nI 1)] [] FX hK (c_X8_answerFault l D y a hA (pg P 10 (nI 0)) X row 1) (cwV 1 hts gX8_put_X8_answerFault rfl rfl rfl (by decide +kernel) ⟨Nat.le_of_ble_eq_true rfl, Nat.le_of_ble_eq_true rfl⟩) hP (pre_recv hK hP (ci := 8) (q0 := 0) rfl rfl) rfl rfl hl (Nat.le_of_ble_eq_true rfl) dX8_put_32 ⟨Nat.zero_le _, Nat.zero_le _⟩ hS (fun _ h => h) (fun r32 u32 H locs hp32 hP hS _ _ => ?_)
      obtain rfl := hp32
      refine xn_to hx (z := (-11)) (by decide) ?_
      exact ret H locs 35 ls (-11) (pg (pg P 10 (nI 0)) 10 (nI 1), X) dX8_put_35 (by unfold ansPut; rw [dN_nI (show j < 2 ^ 31 by omega), cif_t k9, cif_f c27]) hP hS
  · refine lv_iconst (v := (-1)) hx hb dX8_put_12 rfl ?_
    exact ret H locs 13 ls (-1) (pg P 10 (nI 0), X) dX8_put_13 (by unfold ansPut; rw [cif_f c9]) hP hS

abbrev rmX8_cell : Room := { frames := 2, cells := 0, slots := 0, locals := 42 }
set_option maxRecDepth 100000 in
set_option maxHeartbeats 4000000 in
theorem c_X8_cell (l : Launch) (D : va_G) (y : Nat → ClassId) (a : Nat → Nat) (hA : CA a 44) (P X : PT) (row : Value) (w cN n t rd : Nat) (x : Int32) (i : Int32) (lane : Int32)  (hI : IP P w cN n t) (hc1 : P.1 1 = nI cN) (hr : RD P n rd) (hsh : SH P) : CtL l D y yX8_cell wsX8_cell rmX8_cell [.ref (a 0), .int x, .int i, .int lane] (wC y a P X row) (fun (r : Int64) (u : PT × PT) => (r, u.1) = ansCell P x i lane) (fun (u : PT × PT) => wC y a u.1 u.2 row) (AC a) := by
  refine mkL (cc := cX8_cell) (maxL := 5) RX8 rfl (by decide) rfl (Nat.le_of_ble_eq_true rfl) ?_
  intro p e s m args below meth c Q FX hK hP ret ls hl
  obtain ⟨hx, hb, hml, hown, hts⟩ := id FX
  have hS : va_S (AC a) s.heap s.heap [] := va_S.rf
  have in4 : ∀ w ∈ wsX40, w ∈ wsX8_cell := fun _ h => List.mem_cons_of_mem _ (List.mem_append_right _ (h))
  have in8 : ∀ w ∈ wsX80, w ∈ wsX8_cell := fun _ h => List.mem_cons_of_mem _ (List.mem_append_left _ (List.mem_append_right _ (h)))
  have hl : lv_has ls 5 [(0, .ref (a 0)), (1, .int x), (2, .int i), (3, .int lane)] := hl
  have hcl := hI.c30
  have hnl := hI.n8
  have htl := hI.t8
  have hrl := hr.2.1
  refine lv_aload_n hx hb dX8_cell_0 rfl (lv_at hl 0 rfl) ?_
  refine lv_iconst (v := nI 0) hx hb dX8_cell_1 rfl ?_
  refine cp8_7 FX hK in8 hP hA hS (List.mem_of_getElem? (i := 1) rfl) dX8_cell_2 (fun H locs hP hS => ?_)
  refine lv_iload_n hx hb dX8_cell_5 rfl (lv_at hl 1 rfl) ?_
  refine cStI [.int x] [] FX hK (c_X8_isSheet l D y x) (va_cwS 1 hts gX8_cell_X8_isSheet rfl rfl rfl (by decide +kernel) ⟨Nat.le_of_ble_eq_true rfl, Nat.le_of_ble_eq_true rfl⟩) rfl rfl hl (Nat.le_of_ble_eq_true rfl) dX8_cell_6 ⟨Nat.zero_le _, Nat.zero_le _⟩ hP hS (fun r6 H locs hp6 hP hS => ?_)
  obtain rfl := hp6
  refine xb_eq (tgt := 21) hx hb dX8_cell_9 (by decide) (fun c9 => ?_) (fun c9 => ?_)
  · refine lv_ldc2 hx hb hown (hts _ (List.mem_of_getElem? (i := 2) rfl)) dX8_cell_21 ?_
    exact ret H locs 24 ls (-9223372036854775808) (pg P 10 (nI 0), X) dX8_cell_24 (by unfold ansCell; rw [cif_f c9]) hP hS
  · have k9 := c9
    obtain ⟨j, hj, rfl⟩ := c9
    refine lv_iload_n hx hb dX8_cell_12 rfl (lv_at hl 3 rfl) ?_
    refine lv_iconst (v := nI 0) hx hb dX8_cell_13 rfl ?_
    refine lv_iconst (v := nI 2) hx hb dX8_cell_14 rfl ?_
    refine cStI [.int lane, .int (nI 0), .int (nI 2)] [] FX hK (c_X8_isWithin l D y lane (nI 0) (nI 2)) (va_cwS 3 hts gX8_cell_X8_isWithin rfl rfl rfl (by decide +kernel) ⟨Nat.le_of_ble_eq_true rfl, Nat.le_of_ble_eq_true rfl⟩) rfl rfl hl (Nat.le_of_ble_eq_true rfl) dX8_cell_15 ⟨Nat.zero_le _, Nat.zero_le _⟩ hP hS (fun r15 H locs hp15 hP hS => ?_)
    obtain rfl := hp15
    refine xn_to hx (z := b2 (inR 0 2 lane)) (b2_iff (wth_iff (by omega) (by omega))) ?_
    refine xb_ne (tgt := 25) hx hb dX8_cell_18 (by decide) (fun c18 => ?_) (fun c18 => ?_)
    · refine lv_aload_n hx hb dX8_cell_25 rfl (lv_at hl 0 rfl) ?_
      refine cg8_0 FX hK in8 hP (List.mem_of_getElem? (i := 3) rfl) dX8_cell_26 ?_
      refine lv_iload_n hx hb dX8_cell_29 rfl (lv_at hl 1 rfl) ?_
      refine ca1 (i := j) (by omega) FX hK hP dX8_cell_30 ?_
      refine lv_astore (lv' := [(4, .ref (a (2 + j))), (0, .ref (a 0)), (1, .int (nI j)), (2, .int i), (3, .int lane)]) hx hb dX8_cell_31 hl (by decide) rfl (fun ls hl => ?_)
      refine lv_aload_n hx hb dX8_cell_33 rfl (lv_at hl 1 rfl) ?_
      refine lv_aload hx hb dX8_cell_34 (lv_at hl 0 rfl) ?_
      refine lv_iload_n hx hb dX8_cell_36 rfl (lv_at hl 4 rfl) ?_
      refine cViI [.int lane] [.ref (a 0)] FX hK (c_X4_faultAs l D y a hA (pg P 10 (nI 0)) X row j lane (by omega)) (cwV 1 hts gX8_cell_X4_faultAs rfl rfl rfl (by decide +kernel) ⟨Nat.le_of_ble_eq_true rfl, Nat.le_of_ble_eq_true rfl⟩) hP (pre_recv hK hP (ci := 4) (q0 := 2 + j) rfl (wC_sheet y a _ _ _ j (by omega))) rfl rfl hl (Nat.le_of_ble_eq_true rfl) dX8_cell_37 ⟨Nat.zero_le _, Nat.zero_le _⟩ hS (fun _ h => h) (fun r37 u37 H locs hp37 hP hS _ _ => ?_)
      obtain rfl := hp37
      refine xn_to hx (z := fas P j lane) rfl ?_
      refine cp8_7 FX hK in8 hP hA hS (List.mem_of_getElem? (i := 1) rfl) dX8_cell_40 (fun H locs hP hS => ?_)
      refine lv_aload_n hx hb dX8_cell_43 rfl (lv_at hl 1 rfl) ?_
      refine cg8_7 FX hK in8 hP (List.mem_of_getElem? (i := 1) rfl) dX8_cell_44 ?_
      refine xn_to hx (z := fas P j lane) rfl ?_
      refine lv_if_ne (tgt := 64) hx hb dX8_cell_47 (by decide) (fun c47 => ?_) (fun c47 => ?_)
      · refine lv_aload_n hx hb dX8_cell_64 rfl (lv_at hl 1 rfl) ?_
        refine cg8_7 FX hK in8 hP (List.mem_of_getElem? (i := 1) rfl) dX8_cell_65 ?_
        refine xn_to hx (z := fas P j lane) rfl ?_
        refine lv_if_ne (tgt := 82) hx hb dX8_cell_68 (by decide) (fun c68 => ?_) (fun c68 => ?_)
        · refine lv_ldc2 hx hb hown (hts _ (List.mem_of_getElem? (i := 2) rfl)) dX8_cell_82 ?_
          exact ret H locs 85 ls (-9223372036854775808) (pg (pg P 10 (nI 0)) 10 (fas P j lane), X) dX8_cell_85 (by unfold ansCell; rw [dN_nI (show j < 2 ^ 31 by omega), cif_t k9, cif_t c18, cif_f c47]) hP hS
        · exact absurd c68 c47
      · refine lv_aload hx hb dX8_cell_50 (lv_at hl 0 rfl) ?_
        refine lv_iload_n hx hb dX8_cell_52 rfl (lv_at hl 3 rfl) ?_
        refine cViI [.int i] [] FX hK (c_X4_holds l D y a hA (pg (pg P 10 (nI 0)) 10 (fas P j lane)) X row j i (by omega)) (cwV 1 hts gX8_cell_X4_holds rfl rfl rfl (by decide +kernel) ⟨Nat.le_of_ble_eq_true rfl, Nat.le_of_ble_eq_true rfl⟩) hP (pre_recv hK hP (ci := 4) (q0 := 2 + j) rfl (wC_sheet y a _ _ _ j (by omega))) rfl rfl hl (Nat.le_of_ble_eq_true rfl) dX8_cell_53 ⟨Nat.zero_le _, Nat.zero_le _⟩ hS (fun _ h => h) (fun r53 u53 H locs hp53 hP hS _ _ => ?_)
        obtain rfl := hp53
        refine xn_to hx (z := b2 (inS i (P.2 13 j))) rfl ?_
        refine xb_ne (tgt := 64) hx hb dX8_cell_56 (by decide) (fun c56 => ?_) (fun c56 => ?_)
        · have k56 := c56
          obtain ⟨ii, ms, hii, hms, rfl, -⟩ := inS_nat hsh hj c56
          refine lv_aload_n hx hb dX8_cell_64 rfl (lv_at hl 1 rfl) ?_
          refine cg8_7 FX hK in8 hP (List.mem_of_getElem? (i := 1) rfl) dX8_cell_65 ?_
          refine xn_to hx (z := fas P j lane) rfl ?_
          refine lv_if_ne (tgt := 82) hx hb dX8_cell_68 (by decide) (fun c68 => ?_) (fun c68 => ?_)
          · exact absurd c47 c68
          · refine lv_aload hx hb dX8_cell_71 (lv_at hl 0 rfl) ?_
            refine cg4_0 (h := j) (by omega) FX hK in4 hP (List.mem_of_getElem? (i := 4) rfl) dX8_cell_73 ?_
            refine lv_iload_n hx hb dX8_cell_76 rfl (lv_at hl 3 rfl) ?_
            refine ca6 (h := j) (by omega) (i := ii) (by omega) FX hK hP dX8_cell_77 ?_
            refine xn_to hx (z := P.2 (14 + j) ii) rfl ?_
            refine lv_i2l hx hb dX8_cell_78 rfl ?_
            refine lv_goto (tgt := 85) hx hb dX8_cell_79 (by decide) ?_
            exact ret H locs 85 ls ((P.2 (14 + j) ii).toInt64) (pg (pg P 10 (nI 0)) 10 (fas P j lane), X) dX8_cell_85 (by unfold ansCell; rw [dN_nI (show ii < 2 ^ 31 by omega), dN_nI (show j < 2 ^ 31 by omega), cif_t k9, cif_t c18, cif_t c47, cif_t k56]) hP hS
        · refine lv_aload_n hx hb dX8_cell_59 rfl (lv_at hl 1 rfl) ?_
          refine lv_iconst (v := nI 3) hx hb dX8_cell_60 rfl ?_
          refine cp8_7 FX hK in8 hP hA hS (List.mem_of_getElem? (i := 1) rfl) dX8_cell_61 (fun H locs hP hS => ?_)
          refine lv_aload_n hx hb dX8_cell_64 rfl (lv_at hl 1 rfl) ?_
          refine cg8_7 FX hK in8 hP (List.mem_of_getElem? (i := 1) rfl) dX8_cell_65 ?_
          refine xn_to hx (z := nI 3) rfl ?_
          refine xn_if_ne (tgt := 82) hx hb (by omega) dX8_cell_68 (by decide) (fun c68 => ?_) (fun c68 => ?_)
          · refine lv_ldc2 hx hb hown (hts _ (List.mem_of_getElem? (i := 2) rfl)) dX8_cell_82 ?_
            exact ret H locs 85 ls (-9223372036854775808) (pg (pg (pg P 10 (nI 0)) 10 (fas P j lane)) 10 (nI 3), X) dX8_cell_85 (by unfold ansCell; rw [dN_nI (show j < 2 ^ 31 by omega), cif_t k9, cif_t c18, cif_t c47, cif_f c56]) hP hS
          · exact absurd c68 (by decide)
    · refine lv_ldc2 hx hb hown (hts _ (List.mem_of_getElem? (i := 2) rfl)) dX8_cell_21 ?_
      exact ret H locs 24 ls (-9223372036854775808) (pg P 10 (nI 0), X) dX8_cell_24 (by unfold ansCell; rw [dN_nI (show j < 2 ^ 31 by omega), cif_t k9, cif_f c18]) hP hS

abbrev rmX8_copy : Room := { frames := 2, cells := 0, slots := 0, locals := 48 }
set_option maxRecDepth 100000 in
set_option maxHeartbeats 4000000 in
theorem c_X8_copy (l : Launch) (D : va_G) (y : Nat → ClassId) (a : Nat → Nat) (hA : CA a 44) (P X : PT) (row : Value) (w cN n t rd : Nat) (x : Int32) (i0 : Int32) (z : Int32) (j0 : Int32) (m0 : Int32)  (hI : IP P w cN n t) (hc1 : P.1 1 = nI cN) (hr : RD P n rd) (hsh : SH P) : CtI l D y yX8_copy wsX8_copy rmX8_copy [.ref (a 0), .int x, .int i0, .int z, .int j0, .int m0] (wC y a P X row) (fun (r : Int32) (u : PT × PT) => (r, u.1) = ansCopy P x i0 z j0 m0) (fun (u : PT × PT) => wC y a u.1 u.2 row) (AC a) := by
  refine mkI (cc := cX8_copy) (maxL := 8) (ret := some .int) RX8 rfl (by decide) rfl (Or.inl rfl) (Nat.le_of_ble_eq_true rfl) ?_
  intro p e s m args below meth c Q FX hK hP ret ls hl
  obtain ⟨hx, hb, hml, hown, hts⟩ := id FX
  have hS : va_S (AC a) s.heap s.heap [] := va_S.rf
  have in4 : ∀ w ∈ wsX40, w ∈ wsX8_copy := fun _ h => List.mem_cons_of_mem _ (List.mem_append_right _ (h))
  have in8 : ∀ w ∈ wsX80, w ∈ wsX8_copy := fun _ h => List.mem_cons_of_mem _ (List.mem_append_left _ (List.mem_append_right _ (h)))
  have hl : lv_has ls 8 [(0, .ref (a 0)), (1, .int x), (2, .int i0), (3, .int z), (4, .int j0), (5, .int m0)] := hl
  have hcl := hI.c30
  have hnl := hI.n8
  have htl := hI.t8
  have hrl := hr.2.1
  refine lv_aload_n hx hb dX8_copy_0 rfl (lv_at hl 0 rfl) ?_
  refine lv_iconst (v := nI 0) hx hb dX8_copy_1 rfl ?_
  refine cp8_7 FX hK in8 hP hA hS (List.mem_of_getElem? (i := 1) rfl) dX8_copy_2 (fun H locs hP hS => ?_)
  refine lv_iload_n hx hb dX8_copy_5 rfl (lv_at hl 1 rfl) ?_
  refine cStI [.int x] [] FX hK (c_X8_isSheet l D y x) (va_cwS 1 hts gX8_copy_X8_isSheet rfl rfl rfl (by decide +kernel) ⟨Nat.le_of_ble_eq_true rfl, Nat.le_of_ble_eq_true rfl⟩) rfl rfl hl (Nat.le_of_ble_eq_true rfl) dX8_copy_6 ⟨Nat.zero_le _, Nat.zero_le _⟩ hP hS (fun r6 H locs hp6 hP hS => ?_)
  obtain rfl := hp6
  refine xb_eq (tgt := 19) hx hb dX8_copy_9 (by decide) (fun c9 => ?_) (fun c9 => ?_)
  · refine lv_iconst (v := (-1)) hx hb dX8_copy_19 rfl ?_
    exact ret H locs 20 ls (-1) (pg P 10 (nI 0), X) dX8_copy_20 (by unfold ansCopy; rw [cif_f c9]) hP hS
  · have k9 := c9
    obtain ⟨j, hj, rfl⟩ := c9
    refine lv_iload_n hx hb dX8_copy_12 rfl (lv_at hl 3 rfl) ?_
    refine cStI [.int z] [] FX hK (c_X8_isSheet l D y z) (va_cwS 1 hts gX8_copy_X8_isSheet rfl rfl rfl (by decide +kernel) ⟨Nat.le_of_ble_eq_true rfl, Nat.le_of_ble_eq_true rfl⟩) rfl rfl hl (Nat.le_of_ble_eq_true rfl) dX8_copy_13 ⟨Nat.zero_le _, Nat.zero_le _⟩ hP hS (fun r13 H locs hp13 hP hS => ?_)
    obtain rfl := hp13
    refine xb_ne (tgt := 21) hx hb dX8_copy_16 (by decide) (fun c16 => ?_) (fun c16 => ?_)
    · have k16 := c16
      obtain ⟨k, hk, rfl⟩ := c16
      refine lv_aload_n hx hb dX8_copy_21 rfl (lv_at hl 0 rfl) ?_
      refine cg8_0 FX hK in8 hP (List.mem_of_getElem? (i := 2) rfl) dX8_copy_22 ?_
      refine lv_iload_n hx hb dX8_copy_25 rfl (lv_at hl 1 rfl) ?_
      refine ca1 (i := j) (by omega) FX hK hP dX8_copy_26 ?_
      refine lv_astore (lv' := [(6, .ref (a (2 + j))), (0, .ref (a 0)), (1, .int (nI j)), (2, .int i0), (3, .int (nI k)), (4, .int j0), (5, .int m0)]) hx hb dX8_copy_27 hl (by decide) rfl (fun ls hl => ?_)
      refine lv_aload_n hx hb dX8_copy_29 rfl (lv_at hl 1 rfl) ?_
      refine cg8_0 FX hK in8 hP (List.mem_of_getElem? (i := 2) rfl) dX8_copy_30 ?_
      refine lv_iload_n hx hb dX8_copy_33 rfl (lv_at hl 4 rfl) ?_
      refine ca1 (i := k) (by omega) FX hK hP dX8_copy_34 ?_
      refine lv_astore (lv' := [(7, .ref (a (2 + k))), (6, .ref (a (2 + j))), (0, .ref (a 0)), (1, .int (nI j)), (2, .int i0), (3, .int (nI k)), (4, .int j0), (5, .int m0)]) hx hb dX8_copy_35 hl (by decide) rfl (fun ls hl => ?_)
      refine lv_aload hx hb dX8_copy_37 (lv_at hl 1 rfl) ?_
      refine cViI [] [] FX hK (c_X4_hasRow l D y a hA (pg P 10 (nI 0)) X row j (by omega)) (cwV 0 hts gX8_copy_X4_hasRow rfl rfl rfl (by decide +kernel) ⟨Nat.le_of_ble_eq_true rfl, Nat.le_of_ble_eq_true rfl⟩) hP (pre_recv hK hP (ci := 4) (q0 := 2 + j) rfl (wC_sheet y a _ _ _ j (by omega))) rfl rfl hl (Nat.le_of_ble_eq_true rfl) dX8_copy_39 ⟨Nat.zero_le _, Nat.zero_le _⟩ hS (fun _ h => h) (fun r39 u39 H locs hp39 hP hS _ _ => ?_)
      obtain rfl := hp39
      refine xn_to hx (z := b2 (¬ P.2 13 j = -1)) rfl ?_
      refine xb_eq (tgt := 53) hx hb dX8_copy_42 (by decide) (fun c42 => ?_) (fun c42 => ?_)
      · refine lv_aload_n hx hb dX8_copy_53 rfl (lv_at hl 2 rfl) ?_
        refine lv_iconst (v := nI 1) hx hb dX8_copy_54 rfl ?_
        refine cViI [.int (nI 1)] [] FX hK (c_X8_answerFault l D y a hA (pg P 10 (nI 0)) X row 1) (cwV 1 hts gX8_copy_X8_answerFault rfl rfl rfl (by decide +kernel) ⟨Nat.le_of_ble_eq_true rfl, Nat.le_of_ble_eq_true rfl⟩) hP (pre_recv hK hP (ci := 8) (q0 := 0) rfl rfl) rfl rfl hl (Nat.le_of_ble_eq_true rfl) dX8_copy_55 ⟨Nat.zero_le _, Nat.zero_le _⟩ hS (fun _ h => h) (fun r55 u55 H locs hp55 hP hS _ _ => ?_)
        obtain rfl := hp55
        refine xn_to hx (z := (-11)) (by decide) ?_
        exact ret H locs 58 ls (-11) (pg (pg P 10 (nI 0)) 10 (nI 1), X) dX8_copy_58 (by unfold ansCopy; rw [dN_nI (show k < 2 ^ 31 by omega), dN_nI (show j < 2 ^ 31 by omega), cif_t k9, cif_t k16, cif_f c42]) hP hS
      · refine lv_aload hx hb dX8_copy_45 (lv_at hl 0 rfl) ?_
        refine cViI [] [] FX hK (c_X4_hasRow l D y a hA (pg P 10 (nI 0)) X row k (by omega)) (cwV 0 hts gX8_copy_X4_hasRow rfl rfl rfl (by decide +kernel) ⟨Nat.le_of_ble_eq_true rfl, Nat.le_of_ble_eq_true rfl⟩) hP (pre_recv hK hP (ci := 4) (q0 := 2 + k) rfl (wC_sheet y a _ _ _ k (by omega))) rfl rfl hl (Nat.le_of_ble_eq_true rfl) dX8_copy_47 ⟨Nat.zero_le _, Nat.zero_le _⟩ hS (fun _ h => h) (fun r47 u47 H locs hp47 hP hS _ _ => ?_)
        obtain rfl := hp47
        refine xn_to hx (z := b2 (¬ P.2 13 k = -1)) rfl ?_
        refine xb_ne (tgt := 59) hx hb dX8_copy_50 (by decide) (fun c50 => ?_) (fun c50 => ?_)
        · refine lv_aload hx hb dX8_copy_59 (lv_at hl 1 rfl) ?_
          refine cg4_1 (h := j) (by omega) FX hK in4 hP (List.mem_of_getElem? (i := 3) rfl) dX8_copy_61 ?_
          refine xn_to hx (z := P.2 12 j) rfl ?_
          refine lv_aload hx hb dX8_copy_64 (lv_at hl 0 rfl) ?_
          refine cg4_1 (h := k) (by omega) FX hK in4 hP (List.mem_of_getElem? (i := 3) rfl) dX8_copy_66 ?_
          refine xn_to hx (z := P.2 12 k) rfl ?_
          refine lv_icmp_eq (tgt := 78) hx hb dX8_copy_69 (by decide) (fun c69 => ?_) (fun c69 => ?_)
          · refine lv_aload hx hb dX8_copy_78 (lv_at hl 1 rfl) ?_
            refine lv_iload_n hx hb dX8_copy_80 rfl (lv_at hl 4 rfl) ?_
            refine lv_iload hx hb dX8_copy_81 (lv_at hl 7 rfl) ?_
            refine cViI [.int i0, .int m0] [] FX hK (c_X4_holdsRun l D y a hA (pg P 10 (nI 0)) X row j i0 m0 (by omega)) (cwV 2 hts gX8_copy_X4_holdsRun rfl rfl rfl (by decide +kernel) ⟨Nat.le_of_ble_eq_true rfl, Nat.le_of_ble_eq_true rfl⟩) hP (pre_recv hK hP (ci := 4) (q0 := 2 + j) rfl (wC_sheet y a _ _ _ j (by omega))) rfl rfl hl (Nat.le_of_ble_eq_true rfl) dX8_copy_83 ⟨Nat.zero_le _, Nat.zero_le _⟩ hS (fun _ h => h) (fun r83 u83 H locs hp83 hP hS _ _ => ?_)
            obtain rfl := hp83
            refine xn_to hx (z := b2 (inRun i0 m0 (P.2 13 j))) rfl ?_
            refine xb_eq (tgt := 101) hx hb dX8_copy_86 (by decide) (fun c86 => ?_) (fun c86 => ?_)
            · refine lv_aload_n hx hb dX8_copy_101 rfl (lv_at hl 2 rfl) ?_
              refine lv_iconst (v := nI 3) hx hb dX8_copy_102 rfl ?_
              refine cViI [.int (nI 3)] [] FX hK (c_X8_answerFault l D y a hA (pg P 10 (nI 0)) X row 3) (cwV 1 hts gX8_copy_X8_answerFault rfl rfl rfl (by decide +kernel) ⟨Nat.le_of_ble_eq_true rfl, Nat.le_of_ble_eq_true rfl⟩) hP (pre_recv hK hP (ci := 8) (q0 := 0) rfl rfl) rfl rfl hl (Nat.le_of_ble_eq_true rfl) dX8_copy_103 ⟨Nat.zero_le _, Nat.zero_le _⟩ hS (fun _ h => h) (fun r103 u103 H locs hp103 hP hS _ _ => ?_)
              obtain rfl := hp103
              refine xn_to hx (z := (-13)) (by decide) ?_
              exact ret H locs 106 ls (-13) (pg (pg P 10 (nI 0)) 10 (nI 3), X) dX8_copy_106 (by unfold ansCopy; rw [dN_nI (show k < 2 ^ 31 by omega), dN_nI (show j < 2 ^ 31 by omega), cif_t k9, cif_t k16, cif_t c42, cif_t c50, cif_t c69, cif_f c86]) hP hS
            · have k86 := c86
              obtain ⟨ii, mm, s1, h1, h2, rfl, rfl, h3⟩ := inRun_nat hsh hj c42 c86
              refine lv_aload hx hb dX8_copy_89 (lv_at hl 0 rfl) ?_
              refine lv_iload hx hb dX8_copy_91 (lv_at hl 6 rfl) ?_
              refine lv_iload hx hb dX8_copy_93 (lv_at hl 7 rfl) ?_
              refine cViI [.int j0, .int (nI mm)] [] FX hK (c_X4_holdsRun l D y a hA (pg P 10 (nI 0)) X row k j0 (nI mm) (by omega)) (cwV 2 hts gX8_copy_X4_holdsRun rfl rfl rfl (by decide +kernel) ⟨Nat.le_of_ble_eq_true rfl, Nat.le_of_ble_eq_true rfl⟩) hP (pre_recv hK hP (ci := 4) (q0 := 2 + k) rfl (wC_sheet y a _ _ _ k (by omega))) rfl rfl hl (Nat.le_of_ble_eq_true rfl) dX8_copy_95 ⟨Nat.zero_le _, Nat.zero_le _⟩ hS (fun _ h => h) (fun r95 u95 H locs hp95 hP hS _ _ => ?_)
              obtain rfl := hp95
              refine xn_to hx (z := b2 (inRun j0 (nI mm) (P.2 13 k))) rfl ?_
              refine xb_ne (tgt := 107) hx hb dX8_copy_98 (by decide) (fun c98 => ?_) (fun c98 => ?_)
              · have k98 := c98
                obtain ⟨jj, mm2, s2, h4, h5, rfl, h6, h7⟩ := inRun_nat hsh hk c50 c98
                have h8 := nI_inj (by omega) (by omega) h6
                subst h8
                refine lv_aload hx hb dX8_copy_107 (lv_at hl 1 rfl) ?_
                refine cg4_0 (h := j) (by omega) FX hK in4 hP (List.mem_of_getElem? (i := 4) rfl) dX8_copy_109 ?_
                refine lv_iload_n hx hb dX8_copy_112 rfl (lv_at hl 4 rfl) ?_
                refine lv_aload hx hb dX8_copy_113 (lv_at hl 0 rfl) ?_
                refine cg4_0 (h := k) (by omega) FX hK in4 hP (List.mem_of_getElem? (i := 4) rfl) dX8_copy_115 ?_
                refine lv_iload hx hb dX8_copy_118 (lv_at hl 6 rfl) ?_
                refine lv_iload hx hb dX8_copy_120 (lv_at hl 7 rfl) ?_
                refine va_copyi hx hb (hml.trans hl.1.symm) hown (hts _ (List.mem_of_getElem? (i := 5) rfl)) (hts _ (List.mem_of_getElem? (i := 6) rfl)) (hts _ (List.mem_of_getElem? (i := 7) rfl)) (hts _ (List.mem_of_getElem? (i := 8) rfl)) hK.1 hP (wC_D hA) hS (6 + j) (6 + k) 0 0 (ty := .int) (wC_cells y a _ _ _ j (by omega)) (wC_cells y a _ _ _ k (by omega)) rfl rfl rfl (nI_pos (by omega)) (nI_pos (by omega)) (nI_pos (by omega)) (by rw [nI_clamp (by omega), nI_clamp (by omega)]; omega) (by rw [nI_clamp (by omega), nI_clamp (by omega)]; omega) (fun _ _ => rfl) (Nat.le_of_ble_eq_true rfl) (Nat.le_of_ble_eq_true rfl) dX8_copy_122 (fun H locs hP _ hS => ?_)
                rw [wC_cells_f y a _ _ _ _ k (by omega), nI_clamp (show ii < 2 ^ 31 by omega), nI_clamp (show jj < 2 ^ 31 by omega), nI_clamp (show mm < 2 ^ 31 by omega)] at hP
                refine lv_iload hx hb dX8_copy_125 (lv_at hl 7 rfl) ?_
                exact ret H locs 127 ls (nI mm) (cpy (pg P 10 (nI 0)) j ii k jj mm, X) dX8_copy_127 (by unfold ansCopy; rw [dN_nI (show jj < 2 ^ 31 by omega), dN_nI (show ii < 2 ^ 31 by omega), dN_nI (show mm < 2 ^ 31 by omega), dN_nI (show k < 2 ^ 31 by omega), dN_nI (show j < 2 ^ 31 by omega), cif_t k9, cif_t k16, cif_t c42, cif_t c50, cif_t c69, cif_t k86, cif_t k98]) hP hS
              · refine lv_aload_n hx hb dX8_copy_101 rfl (lv_at hl 2 rfl) ?_
                refine lv_iconst (v := nI 3) hx hb dX8_copy_102 rfl ?_
                refine cViI [.int (nI 3)] [] FX hK (c_X8_answerFault l D y a hA (pg P 10 (nI 0)) X row 3) (cwV 1 hts gX8_copy_X8_answerFault rfl rfl rfl (by decide +kernel) ⟨Nat.le_of_ble_eq_true rfl, Nat.le_of_ble_eq_true rfl⟩) hP (pre_recv hK hP (ci := 8) (q0 := 0) rfl rfl) rfl rfl hl (Nat.le_of_ble_eq_true rfl) dX8_copy_103 ⟨Nat.zero_le _, Nat.zero_le _⟩ hS (fun _ h => h) (fun r103 u103 H locs hp103 hP hS _ _ => ?_)
                obtain rfl := hp103
                refine xn_to hx (z := (-13)) (by decide) ?_
                exact ret H locs 106 ls (-13) (pg (pg P 10 (nI 0)) 10 (nI 3), X) dX8_copy_106 (by unfold ansCopy; rw [dN_nI (show ii < 2 ^ 31 by omega), dN_nI (show mm < 2 ^ 31 by omega), dN_nI (show k < 2 ^ 31 by omega), dN_nI (show j < 2 ^ 31 by omega), cif_t k9, cif_t k16, cif_t c42, cif_t c50, cif_t c69, cif_t k86, cif_f c98]) hP hS
          · refine lv_aload_n hx hb dX8_copy_72 rfl (lv_at hl 2 rfl) ?_
            refine lv_iconst (v := nI 2) hx hb dX8_copy_73 rfl ?_
            refine cViI [.int (nI 2)] [] FX hK (c_X8_answerFault l D y a hA (pg P 10 (nI 0)) X row 2) (cwV 1 hts gX8_copy_X8_answerFault rfl rfl rfl (by decide +kernel) ⟨Nat.le_of_ble_eq_true rfl, Nat.le_of_ble_eq_true rfl⟩) hP (pre_recv hK hP (ci := 8) (q0 := 0) rfl rfl) rfl rfl hl (Nat.le_of_ble_eq_true rfl) dX8_copy_74 ⟨Nat.zero_le _, Nat.zero_le _⟩ hS (fun _ h => h) (fun r74 u74 H locs hp74 hP hS _ _ => ?_)
            obtain rfl := hp74
            refine xn_to hx (z := (-12)) (by decide) ?_
            exact ret H locs 77 ls (-12) (pg (pg P 10 (nI 0)) 10 (nI 2), X) dX8_copy_77 (by unfold ansCopy; rw [dN_nI (show k < 2 ^ 31 by omega), dN_nI (show j < 2 ^ 31 by omega), cif_t k9, cif_t k16, cif_t c42, cif_t c50, cif_f c69]) hP hS
        · refine lv_aload_n hx hb dX8_copy_53 rfl (lv_at hl 2 rfl) ?_
          refine lv_iconst (v := nI 1) hx hb dX8_copy_54 rfl ?_
          refine cViI [.int (nI 1)] [] FX hK (c_X8_answerFault l D y a hA (pg P 10 (nI 0)) X row 1) (cwV 1 hts gX8_copy_X8_answerFault rfl rfl rfl (by decide +kernel) ⟨Nat.le_of_ble_eq_true rfl, Nat.le_of_ble_eq_true rfl⟩) hP (pre_recv hK hP (ci := 8) (q0 := 0) rfl rfl) rfl rfl hl (Nat.le_of_ble_eq_true rfl) dX8_copy_55 ⟨Nat.zero_le _, Nat.zero_le _⟩ hS (fun _ h => h) (fun r55 u55 H locs hp55 hP hS _ _ => ?_)
          obtain rfl := hp55
          refine xn_to hx (z := (-11)) (by decide) ?_
          exact ret H locs 58 ls (-11) (pg (pg P 10 (nI 0)) 10 (nI 1), X) dX8_copy_58 (by unfold ansCopy; rw [dN_nI (show k < 2 ^ 31 by omega), dN_nI (show j < 2 ^ 31 by omega), cif_t k9, cif_t k16, cif_t c42, cif_f c50]) hP hS
    · refine lv_iconst (v := (-1)) hx hb dX8_copy_19 rfl ?_
      exact ret H locs 20 ls (-1) (pg P 10 (nI 0), X) dX8_copy_20 (by unfold ansCopy; rw [dN_nI (show j < 2 ^ 31 by omega), cif_t k9, cif_f c16]) hP hS

abbrev rmX8_tell : Room := { frames := 4, cells := 0, slots := 0, locals := 85 }
set_option maxRecDepth 100000 in
set_option maxHeartbeats 4000000 in
theorem c_X8_tell (l : Launch) (D : va_G) (y : Nat → ClassId) (a : Nat → Nat) (hA : CA a 44) (P X : PT) (row : Value) (w cN n t rd : Nat) (x : Int32)  (hI : IP P w cN n t) (hc1 : P.1 1 = nI cN) (hr : RD P n rd) : CtI l D y yX8_tell wsX8_tell rmX8_tell [.ref (a 0), .int x] (wC y a P X row) (fun (r : Int32) (u : PT × PT) => (r, u.1) = ansTell P n x) (fun (u : PT × PT) => wC y a u.1 u.2 row) (AC a) := by
  refine mkI (cc := cX8_tell) (maxL := 3) (ret := some .int) RX8 rfl (by decide) rfl (Or.inl rfl) (Nat.le_of_ble_eq_true rfl) ?_
  intro p e s m args below meth c Q FX hK hP ret ls hl
  obtain ⟨hx, hb, hml, hown, hts⟩ := id FX
  have hS : va_S (AC a) s.heap s.heap [] := va_S.rf
  have in1 : ∀ w ∈ wsX10, w ∈ wsX8_tell := fun _ h => List.mem_cons_of_mem _ (List.mem_append_right _ (h))
  have in2 : ∀ w ∈ wsX20, w ∈ wsX8_tell := fun _ h => List.mem_cons_of_mem _ (List.mem_append_left _ (List.mem_append_right _ (h)))
  have in8 : ∀ w ∈ wsX80, w ∈ wsX8_tell := fun _ h => List.mem_cons_of_mem _ (List.mem_append_left _ (List.mem_append_left _ (List.mem_append_right _ (h))))
  have hl : lv_has ls 3 [(0, .ref (a 0)), (1, .int x)] := hl
  have hcl := hI.c30
  have hnl := hI.n8
  have htl := hI.t8
  have hrl := hr.2.1
  refine lv_aload_n hx hb dX8_tell_0 rfl (lv_at hl 0 rfl) ?_
  refine cg8_2 FX hK in8 hP (List.mem_of_getElem? (i := 1) rfl) dX8_tell_1 ?_
  refine lv_iload_n hx hb dX8_tell_4 rfl (lv_at hl 1 rfl) ?_
  refine cViI [.int x] [] FX hK (c_X2_hasHouse l D y a hA P X row x n hI.nn (by omega)) (cwV 1 hts gX8_tell_X2_hasHouse rfl rfl rfl (by decide +kernel) ⟨Nat.le_of_ble_eq_true rfl, Nat.le_of_ble_eq_true rfl⟩) hP (pre_recv hK hP (ci := 2) (q0 := 14) rfl rfl) rfl rfl hl (Nat.le_of_ble_eq_true rfl) dX8_tell_5 ⟨Nat.zero_le _, Nat.zero_le _⟩ hS (fun _ h => h) (fun r5 u5 H locs hp5 hP hS _ _ => ?_)
  obtain rfl := hp5
  refine xb_ne (tgt := 13) hx hb dX8_tell_8 (by decide) (fun c8 => ?_) (fun c8 => ?_)
  · have k8 := c8
    obtain ⟨j, hj, rfl⟩ := c8
    refine lv_aload_n hx hb dX8_tell_13 rfl (lv_at hl 0 rfl) ?_
    refine cg8_2 FX hK in8 hP (List.mem_of_getElem? (i := 1) rfl) dX8_tell_14 ?_
    refine cg2_3 FX hK in2 hP (List.mem_of_getElem? (i := 2) rfl) dX8_tell_17 ?_
    refine lv_iload_n hx hb dX8_tell_20 rfl (lv_at hl 1 rfl) ?_
    refine ca18 (i := j) (by omega) FX hK hP dX8_tell_21 ?_
    refine lv_astore_n (lv' := [(2, .ref (a (20 + j))), (0, .ref (a 0)), (1, .int (nI j))]) hx hb dX8_tell_22 rfl hl (by decide) rfl (fun ls hl => ?_)
    refine lv_aload_n hx hb dX8_tell_23 rfl (lv_at hl 0 rfl) ?_
    refine cg1_0 (h := j) (by omega) FX hK in1 hP (List.mem_of_getElem? (i := 3) rfl) dX8_tell_24 ?_
    by_cases c27_1 : P.2 3 j = 1
    · refine lv_lookup (off := 31) (tgt := 58) hx hb dX8_tell_27 rfl (by rw [c27_1]; rfl) (by decide) ?_
      refine lv_aload_n hx hb dX8_tell_58 rfl (lv_at hl 1 rfl) ?_
      refine lv_aload_n hx hb dX8_tell_59 rfl (lv_at hl 0 rfl) ?_
      refine cViI [.ref (a (20 + j))] [] FX hK (c_X8_chimneyTells l D y a hA P X row j (by omega)) (cwV 1 hts gX8_tell_X8_chimneyTells rfl rfl rfl (by decide +kernel) ⟨Nat.le_of_ble_eq_true rfl, Nat.le_of_ble_eq_true rfl⟩) hP (pre_recv hK hP (ci := 8) (q0 := 0) rfl rfl) rfl rfl hl (Nat.le_of_ble_eq_true rfl) dX8_tell_60 ⟨Nat.zero_le _, Nat.zero_le _⟩ hS (fun _ h => h) (fun r60 u60 H locs hp60 hP hS _ _ => ?_)
      obtain rfl := hp60
      exact ret H locs 63 ls (P.2 5 j + nI 100) (trc (trc P 2) 1, X) dX8_tell_63 (by unfold ansTell; rw [dN_nI (show j < 2 ^ 31 by omega), cif_t k8, cif_t c27_1]) hP hS
    by_cases c27_2 : P.2 3 j = 2
    · refine lv_lookup (off := 25) (tgt := 52) hx hb dX8_tell_27 rfl (by rw [c27_2]; rfl) (by decide) ?_
      refine lv_aload_n hx hb dX8_tell_52 rfl (lv_at hl 1 rfl) ?_
      refine lv_aload_n hx hb dX8_tell_53 rfl (lv_at hl 0 rfl) ?_
      refine cViI [.ref (a (20 + j))] [] FX hK (c_X8_towerTells l D y a hA P X row j (by omega)) (cwV 1 hts gX8_tell_X8_towerTells rfl rfl rfl (by decide +kernel) ⟨Nat.le_of_ble_eq_true rfl, Nat.le_of_ble_eq_true rfl⟩) hP (pre_recv hK hP (ci := 8) (q0 := 0) rfl rfl) rfl rfl hl (Nat.le_of_ble_eq_true rfl) dX8_tell_54 ⟨Nat.zero_le _, Nat.zero_le _⟩ hS (fun _ h => h) (fun r54 u54 H locs hp54 hP hS _ _ => ?_)
      obtain rfl := hp54
      exact ret H locs 57 ls (P.2 5 j + nI 100 + P.2 5 j) (trc (trc (trc (trc P 3) 2) 1) 1, X) dX8_tell_57 (by unfold ansTell; rw [dN_nI (show j < 2 ^ 31 by omega), cif_t k8, cif_f c27_1, cif_t c27_2]) hP hS
    refine lv_lookup (off := 37) (tgt := 64) hx hb dX8_tell_27 rfl ((lv_osw (a := 1) c27_1 rfl).trans ((lv_osw (a := 2) c27_2 rfl).trans rfl)) (by decide) ?_
    refine lv_aload_n hx hb dX8_tell_64 rfl (lv_at hl 1 rfl) ?_
    refine lv_aload_n hx hb dX8_tell_65 rfl (lv_at hl 0 rfl) ?_
    refine cViI [.ref (a (20 + j))] [] FX hK (c_X8_houseTells l D y a hA P X row j (by omega)) (cwV 1 hts gX8_tell_X8_houseTells rfl rfl rfl (by decide +kernel) ⟨Nat.le_of_ble_eq_true rfl, Nat.le_of_ble_eq_true rfl⟩) hP (pre_recv hK hP (ci := 8) (q0 := 0) rfl rfl) rfl rfl hl (Nat.le_of_ble_eq_true rfl) dX8_tell_66 ⟨Nat.zero_le _, Nat.zero_le _⟩ hS (fun _ h => h) (fun r66 u66 H locs hp66 hP hS _ _ => ?_)
    obtain rfl := hp66
    exact ret H locs 69 ls (P.2 5 j) (trc P 1, X) dX8_tell_69 (by unfold ansTell; rw [dN_nI (show j < 2 ^ 31 by omega), cif_t k8, cif_f c27_1, cif_f c27_2]) hP hS
  · refine lv_iconst (v := (-1)) hx hb dX8_tell_11 rfl ?_
    exact ret H locs 12 ls (-1) (P, X) dX8_tell_12 (by unfold ansTell; rw [cif_f c8]) hP hS

abbrev rmX8_rent : Room := { frames := 2, cells := 0, slots := 0, locals := 43 }
set_option maxRecDepth 100000 in
set_option maxHeartbeats 4000000 in
theorem c_X8_rent (l : Launch) (D : va_G) (y : Nat → ClassId) (a : Nat → Nat) (hA : CA a 44) (P X : PT) (row : Value) (w cN n t rd : Nat) (x : Int32)  (hI : IP P w cN n t) (hc1 : P.1 1 = nI cN) (hr : RD P n rd) : CtI l D y yX8_rent wsX8_rent rmX8_rent [.ref (a 0), .int x] (wC y a P X row) (fun (r : Int32) (u : PT × PT) => (r, u.1) = ansRent P n x) (fun (u : PT × PT) => wC y a u.1 u.2 row) (AC a) := by
  refine mkI (cc := cX8_rent) (maxL := 2) (ret := some .int) RX8 rfl (by decide) rfl (Or.inl rfl) (Nat.le_of_ble_eq_true rfl) ?_
  intro p e s m args below meth c Q FX hK hP ret ls hl
  obtain ⟨hx, hb, hml, hown, hts⟩ := id FX
  have hS : va_S (AC a) s.heap s.heap [] := va_S.rf
  have in1 : ∀ w ∈ wsX10, w ∈ wsX8_rent := fun _ h => List.mem_cons_of_mem _ (List.mem_append_right _ (h))
  have in2 : ∀ w ∈ wsX20, w ∈ wsX8_rent := fun _ h => List.mem_cons_of_mem _ (List.mem_append_left _ (List.mem_append_right _ (h)))
  have in8 : ∀ w ∈ wsX80, w ∈ wsX8_rent := fun _ h => List.mem_cons_of_mem _ (List.mem_append_left _ (List.mem_append_left _ (List.mem_append_right _ (h))))
  have hl : lv_has ls 2 [(0, .ref (a 0)), (1, .int x)] := hl
  have hcl := hI.c30
  have hnl := hI.n8
  have htl := hI.t8
  have hrl := hr.2.1
  refine lv_aload_n hx hb dX8_rent_0 rfl (lv_at hl 0 rfl) ?_
  refine cg8_2 FX hK in8 hP (List.mem_of_getElem? (i := 1) rfl) dX8_rent_1 ?_
  refine lv_iload_n hx hb dX8_rent_4 rfl (lv_at hl 1 rfl) ?_
  refine cViI [.int x] [] FX hK (c_X2_hasHouse l D y a hA P X row x n hI.nn (by omega)) (cwV 1 hts gX8_rent_X2_hasHouse rfl rfl rfl (by decide +kernel) ⟨Nat.le_of_ble_eq_true rfl, Nat.le_of_ble_eq_true rfl⟩) hP (pre_recv hK hP (ci := 2) (q0 := 14) rfl rfl) rfl rfl hl (Nat.le_of_ble_eq_true rfl) dX8_rent_5 ⟨Nat.zero_le _, Nat.zero_le _⟩ hS (fun _ h => h) (fun r5 u5 H locs hp5 hP hS _ _ => ?_)
  obtain rfl := hp5
  refine xb_ne (tgt := 13) hx hb dX8_rent_8 (by decide) (fun c8 => ?_) (fun c8 => ?_)
  · have k8 := c8
    obtain ⟨j, hj, rfl⟩ := c8
    refine lv_aload_n hx hb dX8_rent_13 rfl (lv_at hl 0 rfl) ?_
    refine cg8_2 FX hK in8 hP (List.mem_of_getElem? (i := 1) rfl) dX8_rent_14 ?_
    refine cg2_3 FX hK in2 hP (List.mem_of_getElem? (i := 2) rfl) dX8_rent_17 ?_
    refine lv_iload_n hx hb dX8_rent_20 rfl (lv_at hl 1 rfl) ?_
    refine ca18 (i := j) (by omega) FX hK hP dX8_rent_21 ?_
    refine cg1_0 (h := j) (by omega) FX hK in1 hP (List.mem_of_getElem? (i := 3) rfl) dX8_rent_22 ?_
    refine lv_iconst (v := nI 2) hx hb dX8_rent_25 rfl ?_
    refine lv_icmp_ne (tgt := 37) hx hb dX8_rent_26 (by decide) (fun c26 => ?_) (fun c26 => ?_)
    · refine lv_aload_n hx hb dX8_rent_37 rfl (lv_at hl 0 rfl) ?_
      refine lv_iconst (v := nI 4) hx hb dX8_rent_38 rfl ?_
      refine cViV [.int (nI 4)] [] FX hK (c_X8_leaveTrace l D y a hA P X row 4) (cwV 1 hts gX8_rent_X8_leaveTrace rfl rfl rfl (by decide +kernel) ⟨Nat.le_of_ble_eq_true rfl, Nat.le_of_ble_eq_true rfl⟩) hP (pre_recv hK hP (ci := 8) (q0 := 0) rfl rfl) rfl rfl hl (Nat.le_of_ble_eq_true rfl) dX8_rent_39 ⟨Nat.zero_le _, Nat.zero_le _⟩ hS (fun _ h => h) (fun u39 H locs hp39 hP hS _ _ => ?_)
      refine lv_iload_n hx hb dX8_rent_42 rfl (lv_at hl 1 rfl) ?_
      exact ret H locs 43 ls (nI j) (trc P 4, X) dX8_rent_43 (by unfold ansRent; rw [dN_nI (show j < 2 ^ 31 by omega), cif_t k8, cif_f c26]) hP hS
    · refine lv_aload_n hx hb dX8_rent_29 rfl (lv_at hl 0 rfl) ?_
      refine lv_iconst (v := nI 5) hx hb dX8_rent_30 rfl ?_
      refine cViV [.int (nI 5)] [] FX hK (c_X8_leaveTrace l D y a hA P X row 5) (cwV 1 hts gX8_rent_X8_leaveTrace rfl rfl rfl (by decide +kernel) ⟨Nat.le_of_ble_eq_true rfl, Nat.le_of_ble_eq_true rfl⟩) hP (pre_recv hK hP (ci := 8) (q0 := 0) rfl rfl) rfl rfl hl (Nat.le_of_ble_eq_true rfl) dX8_rent_31 ⟨Nat.zero_le _, Nat.zero_le _⟩ hS (fun _ h => h) (fun u31 H locs hp31 hP hS _ _ => ?_)
      refine lv_bipush (v := nI 70) hx hb dX8_rent_34 rfl ?_
      exact ret H locs 36 ls (nI 70) (trc P 5, X) dX8_rent_36 (by unfold ansRent; rw [dN_nI (show j < 2 ^ 31 by omega), cif_t k8, cif_t c26]) hP hS
  · refine lv_iconst (v := (-1)) hx hb dX8_rent_11 rfl ?_
    exact ret H locs 12 ls (-1) (P, X) dX8_rent_12 (by unfold ansRent; rw [cif_f c8]) hP hS

abbrev rmX8_as : Room := { frames := 2, cells := 0, slots := 0, locals := 43 }
set_option maxRecDepth 100000 in
set_option maxHeartbeats 4000000 in
theorem c_X8_as (l : Launch) (D : va_G) (y : Nat → ClassId) (a : Nat → Nat) (hA : CA a 44) (P X : PT) (row : Value) (w cN n t rd : Nat) (x : Int32) (k : Int32)  (hI : IP P w cN n t) (hc1 : P.1 1 = nI cN) (hr : RD P n rd) : CtI l D y yX8_as wsX8_as rmX8_as [.ref (a 0), .int x, .int k] (wC y a P X row) (fun (r : Int32) (u : PT × PT) => (r, u.1) = ansAs P n x k) (fun (u : PT × PT) => wC y a u.1 u.2 row) (AC a) := by
  refine mkI (cc := cX8_as) (maxL := 3) (ret := some .int) RX8 rfl (by decide) rfl (Or.inl rfl) (Nat.le_of_ble_eq_true rfl) ?_
  intro p e s m args below meth c Q FX hK hP ret ls hl
  obtain ⟨hx, hb, hml, hown, hts⟩ := id FX
  have hS : va_S (AC a) s.heap s.heap [] := va_S.rf
  have in1 : ∀ w ∈ wsX10, w ∈ wsX8_as := fun _ h => List.mem_cons_of_mem _ (List.mem_append_right _ (h))
  have in2 : ∀ w ∈ wsX20, w ∈ wsX8_as := fun _ h => List.mem_cons_of_mem _ (List.mem_append_left _ (List.mem_append_right _ (h)))
  have in8 : ∀ w ∈ wsX80, w ∈ wsX8_as := fun _ h => List.mem_cons_of_mem _ (List.mem_append_left _ (List.mem_append_left _ (List.mem_append_right _ (h))))
  have hl : lv_has ls 3 [(0, .ref (a 0)), (1, .int x), (2, .int k)] := hl
  have hcl := hI.c30
  have hnl := hI.n8
  have htl := hI.t8
  have hrl := hr.2.1
  refine lv_aload_n hx hb dX8_as_0 rfl (lv_at hl 0 rfl) ?_
  refine lv_iconst (v := nI 0) hx hb dX8_as_1 rfl ?_
  refine cp8_7 FX hK in8 hP hA hS (List.mem_of_getElem? (i := 1) rfl) dX8_as_2 (fun H locs hP hS => ?_)
  refine lv_aload_n hx hb dX8_as_5 rfl (lv_at hl 0 rfl) ?_
  refine cg8_2 FX hK in8 hP (List.mem_of_getElem? (i := 2) rfl) dX8_as_6 ?_
  refine lv_iload_n hx hb dX8_as_9 rfl (lv_at hl 1 rfl) ?_
  refine cViI [.int x] [] FX hK (c_X2_hasHouse l D y a hA (pg P 10 (nI 0)) X row x n hI.nn (by omega)) (cwV 1 hts gX8_as_X2_hasHouse rfl rfl rfl (by decide +kernel) ⟨Nat.le_of_ble_eq_true rfl, Nat.le_of_ble_eq_true rfl⟩) hP (pre_recv hK hP (ci := 2) (q0 := 14) rfl rfl) rfl rfl hl (Nat.le_of_ble_eq_true rfl) dX8_as_10 ⟨Nat.zero_le _, Nat.zero_le _⟩ hS (fun _ h => h) (fun r10 u10 H locs hp10 hP hS _ _ => ?_)
  obtain rfl := hp10
  refine xb_ne (tgt := 18) hx hb dX8_as_13 (by decide) (fun c13 => ?_) (fun c13 => ?_)
  · have k13 := c13
    obtain ⟨j, hj, rfl⟩ := c13
    refine lv_iload_n hx hb dX8_as_18 rfl (lv_at hl 2 rfl) ?_
    refine lv_iconst (v := nI 0) hx hb dX8_as_19 rfl ?_
    refine lv_iconst (v := nI 2) hx hb dX8_as_20 rfl ?_
    refine cStI [.int k, .int (nI 0), .int (nI 2)] [] FX hK (c_X8_isWithin l D y k (nI 0) (nI 2)) (va_cwS 3 hts gX8_as_X8_isWithin rfl rfl rfl (by decide +kernel) ⟨Nat.le_of_ble_eq_true rfl, Nat.le_of_ble_eq_true rfl⟩) rfl rfl hl (Nat.le_of_ble_eq_true rfl) dX8_as_21 ⟨Nat.zero_le _, Nat.zero_le _⟩ hP hS (fun r21 H locs hp21 hP hS => ?_)
    obtain rfl := hp21
    refine xn_to hx (z := b2 (inR 0 2 k)) (b2_iff (wth_iff (by omega) (by omega))) ?_
    refine xb_ne (tgt := 30) hx hb dX8_as_24 (by decide) (fun c24 => ?_) (fun c24 => ?_)
    · refine lv_aload_n hx hb dX8_as_30 rfl (lv_at hl 0 rfl) ?_
      refine cg8_2 FX hK in8 hP (List.mem_of_getElem? (i := 2) rfl) dX8_as_31 ?_
      refine cg2_3 FX hK in2 hP (List.mem_of_getElem? (i := 3) rfl) dX8_as_34 ?_
      refine lv_iload_n hx hb dX8_as_37 rfl (lv_at hl 1 rfl) ?_
      refine ca18 (i := j) (by omega) FX hK hP dX8_as_38 ?_
      refine lv_iload_n hx hb dX8_as_39 rfl (lv_at hl 2 rfl) ?_
      refine cViI [.int k] [] FX hK (c_X1_isA l D y a hA (pg P 10 (nI 0)) X row j k (by omega)) (cwV 1 hts gX8_as_X1_isA rfl rfl rfl (by decide +kernel) ⟨Nat.le_of_ble_eq_true rfl, Nat.le_of_ble_eq_true rfl⟩) hP (pre_recv hK hP (ci := 1) (q0 := 20 + j) rfl (wC_house y a _ _ _ j (by omega))) rfl rfl hl (Nat.le_of_ble_eq_true rfl) dX8_as_40 ⟨Nat.zero_le _, Nat.zero_le _⟩ hS (fun _ h => h) (fun r40 u40 H locs hp40 hP hS _ _ => ?_)
      obtain rfl := hp40
      refine xn_to hx (z := b2 (¬ P.2 3 j < k)) rfl ?_
      refine xb_eq (tgt := 50) hx hb dX8_as_43 (by decide) (fun c43 => ?_) (fun c43 => ?_)
      · refine lv_aload_n hx hb dX8_as_50 rfl (lv_at hl 0 rfl) ?_
        refine lv_iconst (v := nI 2) hx hb dX8_as_51 rfl ?_
        refine cViI [.int (nI 2)] [] FX hK (c_X8_answerFault l D y a hA (pg P 10 (nI 0)) X row 2) (cwV 1 hts gX8_as_X8_answerFault rfl rfl rfl (by decide +kernel) ⟨Nat.le_of_ble_eq_true rfl, Nat.le_of_ble_eq_true rfl⟩) hP (pre_recv hK hP (ci := 8) (q0 := 0) rfl rfl) rfl rfl hl (Nat.le_of_ble_eq_true rfl) dX8_as_52 ⟨Nat.zero_le _, Nat.zero_le _⟩ hS (fun _ h => h) (fun r52 u52 H locs hp52 hP hS _ _ => ?_)
        obtain rfl := hp52
        refine xn_to hx (z := (-12)) (by decide) ?_
        exact ret H locs 55 ls (-12) (pg (pg P 10 (nI 0)) 10 (nI 2), X) dX8_as_55 (by unfold ansAs; rw [dN_nI (show j < 2 ^ 31 by omega), cif_t k13, cif_t c24, cif_f c43]) hP hS
      · refine lv_iconst (v := nI 1) hx hb dX8_as_46 rfl ?_
        refine lv_goto (tgt := 55) hx hb dX8_as_47 (by decide) ?_
        exact ret H locs 55 ls (nI 1) (pg P 10 (nI 0), X) dX8_as_55 (by unfold ansAs; rw [dN_nI (show j < 2 ^ 31 by omega), cif_t k13, cif_t c24, cif_t c43]) hP hS
    · refine lv_bipush (v := (-2)) hx hb dX8_as_27 rfl ?_
      exact ret H locs 29 ls (-2) (pg P 10 (nI 0), X) dX8_as_29 (by unfold ansAs; rw [dN_nI (show j < 2 ^ 31 by omega), cif_t k13, cif_f c24]) hP hS
  · refine lv_iconst (v := (-1)) hx hb dX8_as_16 rfl ?_
    exact ret H locs 17 ls (-1) (pg P 10 (nI 0), X) dX8_as_17 (by unfold ansAs; rw [cif_f c13]) hP hS

abbrev rmX8_trace : Room := { frames := 0, cells := 0, slots := 0, locals := 0 }
set_option maxRecDepth 100000 in
set_option maxHeartbeats 4000000 in
theorem c_X8_trace (l : Launch) (D : va_G) (y : Nat → ClassId) (a : Nat → Nat) (hA : CA a 44) (P X : PT) (row : Value) (w cN n t rd : Nat)  (hI : IP P w cN n t) (hc1 : P.1 1 = nI cN) (hr : RD P n rd) : CtI l D y yX8_trace wsX8_trace rmX8_trace [.ref (a 0)] (wC y a P X row) (fun (r : Int32) (u : PT × PT) => (r, u.1) = (fun P => (P.1 9, P)) P) (fun (u : PT × PT) => wC y a u.1 u.2 row) (AC a) := by
  refine mkI (cc := cX8_trace) (maxL := 1) (ret := some .int) RX8 rfl (by decide) rfl (Or.inl rfl) (Nat.le_of_ble_eq_true rfl) ?_
  intro p e s m args below meth c Q FX hK hP ret ls hl
  obtain ⟨hx, hb, hml, hown, hts⟩ := id FX
  have hS : va_S (AC a) s.heap s.heap [] := va_S.rf
  have in8 : ∀ w ∈ wsX80, w ∈ wsX8_trace := fun _ h => List.mem_cons_of_mem _ (List.mem_append_right _ (h))
  have hl : lv_has ls 1 [(0, .ref (a 0))] := hl
  have hcl := hI.c30
  have hnl := hI.n8
  have htl := hI.t8
  have hrl := hr.2.1
  refine lv_aload_n hx hb dX8_trace_0 rfl (lv_at hl 0 rfl) ?_
  refine cg8_6 FX hK in8 hP (List.mem_of_getElem? (i := 1) rfl) dX8_trace_1 ?_
  exact ret s.heap [] 4 ls (P.1 9) (P, X) dX8_trace_4 rfl hP hS

abbrev rmX8_fault : Room := { frames := 0, cells := 0, slots := 0, locals := 0 }
set_option maxRecDepth 100000 in
set_option maxHeartbeats 4000000 in
theorem c_X8_fault (l : Launch) (D : va_G) (y : Nat → ClassId) (a : Nat → Nat) (hA : CA a 44) (P X : PT) (row : Value) (w cN n t rd : Nat)  (hI : IP P w cN n t) (hc1 : P.1 1 = nI cN) (hr : RD P n rd) : CtI l D y yX8_fault wsX8_fault rmX8_fault [.ref (a 0)] (wC y a P X row) (fun (r : Int32) (u : PT × PT) => (r, u.1) = (fun P => (P.1 10, P)) P) (fun (u : PT × PT) => wC y a u.1 u.2 row) (AC a) := by
  refine mkI (cc := cX8_fault) (maxL := 1) (ret := some .int) RX8 rfl (by decide) rfl (Or.inl rfl) (Nat.le_of_ble_eq_true rfl) ?_
  intro p e s m args below meth c Q FX hK hP ret ls hl
  obtain ⟨hx, hb, hml, hown, hts⟩ := id FX
  have hS : va_S (AC a) s.heap s.heap [] := va_S.rf
  have in8 : ∀ w ∈ wsX80, w ∈ wsX8_fault := fun _ h => List.mem_cons_of_mem _ (List.mem_append_right _ (h))
  have hl : lv_has ls 1 [(0, .ref (a 0))] := hl
  have hcl := hI.c30
  have hnl := hI.n8
  have htl := hI.t8
  have hrl := hr.2.1
  refine lv_aload_n hx hb dX8_fault_0 rfl (lv_at hl 0 rfl) ?_
  refine cg8_7 FX hK in8 hP (List.mem_of_getElem? (i := 1) rfl) dX8_fault_1 ?_
  exact ret s.heap [] 4 ls (P.1 10) (P, X) dX8_fault_4 rfl hP hS

abbrev rmX8_many : Room := { frames := 0, cells := 0, slots := 0, locals := 0 }
set_option maxRecDepth 100000 in
set_option maxHeartbeats 4000000 in
theorem c_X8_many (l : Launch) (D : va_G) (y : Nat → ClassId) (a : Nat → Nat) (hA : CA a 44) (P X : PT) (row : Value) (w cN n t rd : Nat) (wh : Int32)  (hI : IP P w cN n t) (hc1 : P.1 1 = nI cN) (hr : RD P n rd) : CtI l D y yX8_many wsX8_many rmX8_many [.ref (a 0), .int wh] (wC y a P X row) (fun (r : Int32) (u : PT × PT) => (r, u.1) = ansMany P wh) (fun (u : PT × PT) => wC y a u.1 u.2 row) (AC a) := by
  refine mkI (cc := cX8_many) (maxL := 2) (ret := some .int) RX8 rfl (by decide) rfl (Or.inl rfl) (Nat.le_of_ble_eq_true rfl) ?_
  intro p e s m args below meth c Q FX hK hP ret ls hl
  obtain ⟨hx, hb, hml, hown, hts⟩ := id FX
  have hS : va_S (AC a) s.heap s.heap [] := va_S.rf
  have in2 : ∀ w ∈ wsX20, w ∈ wsX8_many := fun _ h => List.mem_cons_of_mem _ (List.mem_append_left _ (List.mem_append_right _ (h)))
  have in3 : ∀ w ∈ wsX30, w ∈ wsX8_many := fun _ h => List.mem_cons_of_mem _ (List.mem_append_right _ (h))
  have in8 : ∀ w ∈ wsX80, w ∈ wsX8_many := fun _ h => List.mem_cons_of_mem _ (List.mem_append_left _ (List.mem_append_left _ (List.mem_append_right _ (h))))
  have hl : lv_has ls 2 [(0, .ref (a 0)), (1, .int wh)] := hl
  have hcl := hI.c30
  have hnl := hI.n8
  have htl := hI.t8
  have hrl := hr.2.1
  refine lv_iload_n hx hb dX8_many_0 rfl (lv_at hl 1 rfl) ?_
  by_cases c1_0 : wh = 0
  · refine lv_tableIn (off := 43) (tgt := 44) hx hb dX8_many_1 (by rw [c1_0]; decide) (by rw [c1_0]; decide) (by rw [c1_0]; rfl) (by decide) ?_
    refine lv_aload_n hx hb dX8_many_44 rfl (lv_at hl 0 rfl) ?_
    refine cg8_2 FX hK in8 hP (List.mem_of_getElem? (i := 1) rfl) dX8_many_45 ?_
    refine cg2_6 FX hK in2 hP (List.mem_of_getElem? (i := 2) rfl) dX8_many_48 ?_
    exact ret s.heap [] 51 ls (P.1 1) (P, X) dX8_many_51 (by unfold ansMany; rw [cif_t c1_0]) hP hS
  by_cases c1_1 : wh = 1
  · refine lv_tableIn (off := 51) (tgt := 52) hx hb dX8_many_1 (by rw [c1_1]; decide) (by rw [c1_1]; decide) (by rw [c1_1]; rfl) (by decide) ?_
    refine lv_aload_n hx hb dX8_many_52 rfl (lv_at hl 0 rfl) ?_
    refine cg8_2 FX hK in8 hP (List.mem_of_getElem? (i := 1) rfl) dX8_many_53 ?_
    refine cg2_5 FX hK in2 hP (List.mem_of_getElem? (i := 3) rfl) dX8_many_56 ?_
    exact ret s.heap [] 59 ls (P.1 0) (P, X) dX8_many_59 (by unfold ansMany; rw [cif_f c1_0, cif_t c1_1]) hP hS
  by_cases c1_2 : wh = 2
  · refine lv_tableIn (off := 59) (tgt := 60) hx hb dX8_many_1 (by rw [c1_2]; decide) (by rw [c1_2]; decide) (by rw [c1_2]; rfl) (by decide) ?_
    refine lv_aload_n hx hb dX8_many_60 rfl (lv_at hl 0 rfl) ?_
    refine cg8_2 FX hK in8 hP (List.mem_of_getElem? (i := 1) rfl) dX8_many_61 ?_
    refine cg2_7 FX hK in2 hP (List.mem_of_getElem? (i := 4) rfl) dX8_many_64 ?_
    exact ret s.heap [] 67 ls (P.1 2) (P, X) dX8_many_67 (by unfold ansMany; rw [cif_f c1_0, cif_f c1_1, cif_t c1_2]) hP hS
  by_cases c1_3 : wh = 3
  · refine lv_tableIn (off := 67) (tgt := 68) hx hb dX8_many_1 (by rw [c1_3]; decide) (by rw [c1_3]; decide) (by rw [c1_3]; rfl) (by decide) ?_
    refine lv_aload_n hx hb dX8_many_68 rfl (lv_at hl 0 rfl) ?_
    refine cg8_2 FX hK in8 hP (List.mem_of_getElem? (i := 1) rfl) dX8_many_69 ?_
    refine cg2_8 FX hK in2 hP (List.mem_of_getElem? (i := 5) rfl) dX8_many_72 ?_
    exact ret s.heap [] 75 ls (P.1 3) (P, X) dX8_many_75 (by unfold ansMany; rw [cif_f c1_0, cif_f c1_1, cif_f c1_2, cif_t c1_3]) hP hS
  by_cases c1_4 : wh = 4
  · refine lv_tableIn (off := 75) (tgt := 76) hx hb dX8_many_1 (by rw [c1_4]; decide) (by rw [c1_4]; decide) (by rw [c1_4]; rfl) (by decide) ?_
    refine lv_aload_n hx hb dX8_many_76 rfl (lv_at hl 0 rfl) ?_
    refine cg8_5 FX hK in8 hP (List.mem_of_getElem? (i := 6) rfl) dX8_many_77 ?_
    refine cg3_0 FX hK in3 hP (List.mem_of_getElem? (i := 7) rfl) dX8_many_80 ?_
    exact ret s.heap [] 83 ls (P.1 8) (P, X) dX8_many_83 (by unfold ansMany; rw [cif_f c1_0, cif_f c1_1, cif_f c1_2, cif_f c1_3, cif_t c1_4]) hP hS
  by_cases c1_5 : wh = 5
  · refine lv_tableIn (off := 83) (tgt := 84) hx hb dX8_many_1 (by rw [c1_5]; decide) (by rw [c1_5]; decide) (by rw [c1_5]; rfl) (by decide) ?_
    refine lv_aload_n hx hb dX8_many_84 rfl (lv_at hl 0 rfl) ?_
    refine cg8_2 FX hK in8 hP (List.mem_of_getElem? (i := 1) rfl) dX8_many_85 ?_
    refine cg2_10 FX hK in2 hP (List.mem_of_getElem? (i := 8) rfl) dX8_many_88 ?_
    exact ret s.heap [] 91 ls (P.1 5) (P, X) dX8_many_91 (by unfold ansMany; rw [cif_f c1_0, cif_f c1_1, cif_f c1_2, cif_f c1_3, cif_f c1_4, cif_t c1_5]) hP hS
  by_cases c1_6 : wh = 6
  · refine lv_tableIn (off := 91) (tgt := 92) hx hb dX8_many_1 (by rw [c1_6]; decide) (by rw [c1_6]; decide) (by rw [c1_6]; rfl) (by decide) ?_
    refine lv_aload_n hx hb dX8_many_92 rfl (lv_at hl 0 rfl) ?_
    refine cg8_2 FX hK in8 hP (List.mem_of_getElem? (i := 1) rfl) dX8_many_93 ?_
    refine cg2_11 FX hK in2 hP (List.mem_of_getElem? (i := 9) rfl) dX8_many_96 ?_
    exact ret s.heap [] 99 ls (P.1 6) (P, X) dX8_many_99 (by unfold ansMany; rw [cif_f c1_0, cif_f c1_1, cif_f c1_2, cif_f c1_3, cif_f c1_4, cif_f c1_5, cif_t c1_6]) hP hS
  refine lv_tableOut (tgt := 100) hx hb dX8_many_1 (sw_out6 c1_0 c1_1 c1_2 c1_3 c1_4 c1_5 c1_6) (by decide) ?_
  refine lv_bipush (v := (-2)) hx hb dX8_many_100 rfl ?_
  exact ret s.heap [] 102 ls (-2) (P, X) dX8_many_102 (by unfold ansMany; rw [cif_f c1_0, cif_f c1_1, cif_f c1_2, cif_f c1_3, cif_f c1_4, cif_f c1_5, cif_f c1_6]) hP hS
