abbrev rmX9_ofCell : Room := { frames := 2, cells := 0, slots := 0, locals := 46 }
set_option maxRecDepth 100000 in
set_option maxHeartbeats 4000000 in
theorem c_X9_ofCell (l : Launch) (D : va_G) (y : Nat → ClassId) (a : Nat → Nat) (hA : CA a 26) (P : PT) (C : PT) (w cN n t rd : Nat) (x : Int32) (wh : Int32)  (hR : RQ C P) (hC : IP C w cN n t) (hc1 : C.1 1 = nI cN) (hr : RD C n rd) : CtI l D y yX9_ofCell wsX9_ofCell rmX9_ofCell [.ref (a 0), .int x, .int wh] (wM y a P) (fun (r : Int32) (P' : PT) => r = (ansOfCell C cN x wh).1 ∧ RQ (ansOfCell C cN x wh).2 P') (fun P' => wM y a P') (AM a) := by
  refine mkI (cc := cX9_ofCell) (maxL := 3) (ret := some .int) RX9 rfl (by decide) rfl (Or.inl rfl) (Nat.le_of_ble_eq_true rfl) ?_
  intro p e s m args below meth c Q FX hK hP ret ls hl
  obtain ⟨hx, hb, hml, hown, hts⟩ := id FX
  have hS : va_S (AM a) s.heap s.heap [] := va_S.rf
  have in9 : ∀ w ∈ wsX90, w ∈ wsX9_ofCell := fun _ h => List.mem_cons_of_mem _ (List.mem_append_right _ (h))
  have hl : lv_has ls 3 [(0, .ref (a 0)), (1, .int x), (2, .int wh)] := hl
  obtain ⟨hi, hi5, hI, hi0⟩ := hR.iq hC hc1
  have hcl := hC.c30
  have hnl := hC.n8
  have htl := hC.t8
  have hrl := hr.2.1
  refine lv_aload_n hx hb dX9_ofCell_0 rfl (lv_at hl 0 rfl) ?_
  refine lv_iload_n hx hb dX9_ofCell_1 rfl (lv_at hl 1 rfl) ?_
  refine cViI [.int x] [] FX hK (c_X9_noCell l D y a hA P w cN n t hi x hI) (cwV 1 hts gX9_ofCell_X9_noCell rfl rfl rfl (by decide +kernel) ⟨Nat.le_of_ble_eq_true rfl, Nat.le_of_ble_eq_true rfl⟩) hP (pre_recv hK hP (ci := 9) (q0 := 0) rfl rfl) rfl rfl hl (Nat.le_of_ble_eq_true rfl) dX9_ofCell_2 ⟨Nat.zero_le _, Nat.zero_le _⟩ hS (fun _ h => h) (fun r2 u2 H locs hp2 hP hS _ _ => ?_)
  obtain rfl := hp2
  refine xb_eq (tgt := 10) hx hb dX9_ofCell_5 (by decide) (fun c5 => ?_) (fun c5 => ?_)
  · have k5 : inN cN x := Classical.not_not.mp c5
    obtain ⟨j, hj, ej⟩ := id k5
    subst ej
    refine lv_iload_n hx hb dX9_ofCell_10 rfl (lv_at hl 2 rfl) ?_
    refine lv_if_ne (tgt := 23) hx hb dX9_ofCell_11 (by decide) (fun c11 => ?_) (fun c11 => ?_)
    · refine lv_iload_n hx hb dX9_ofCell_23 rfl (lv_at hl 2 rfl) ?_
      refine lv_iconst (v := nI 1) hx hb dX9_ofCell_24 rfl ?_
      refine lv_icmp_ne (tgt := 36) hx hb dX9_ofCell_25 (by decide) (fun c25 => ?_) (fun c25 => ?_)
      · refine lv_iload_n hx hb dX9_ofCell_36 rfl (lv_at hl 2 rfl) ?_
        refine lv_iconst (v := nI 2) hx hb dX9_ofCell_37 rfl ?_
        refine lv_icmp_ne (tgt := 50) hx hb dX9_ofCell_38 (by decide) (fun c38 => ?_) (fun c38 => ?_)
        · refine lv_bipush (v := (-2)) hx hb dX9_ofCell_50 rfl ?_
          exact ret H locs 52 ls (-2) P dX9_ofCell_52 (by unfold ansOfCell; rw [dN_nI (show j < 2 ^ 31 by omega), cif_t k5, cif_f c11, cif_f (show ¬ wh = 1 from c25), cif_f (show ¬ wh = 2 from c38)]; exact ⟨rfl, hR⟩) hP hS
        · refine lv_aload_n hx hb dX9_ofCell_41 rfl (lv_at hl 0 rfl) ?_
          refine mg_4 FX hK in9 hP (List.mem_of_getElem? (i := 2) rfl) dX9_ofCell_42 ?_
          refine lv_iload_n hx hb dX9_ofCell_45 rfl (lv_at hl 1 rfl) ?_
          refine ma2 (i := j) (by omega) FX hK hP dX9_ofCell_46 ?_
          refine xn_to hx (z := C.2 2 j) (hR.cell hC hc1 (k := 2) (by decide) (by omega)) ?_
          refine lv_goto (tgt := 52) hx hb dX9_ofCell_47 (by decide) ?_
          exact ret H locs 52 ls (C.2 2 j) P dX9_ofCell_52 (by unfold ansOfCell; rw [dN_nI (show j < 2 ^ 31 by omega), cif_t k5, cif_f c11, cif_f (show ¬ wh = 1 from c25), cif_t (show wh = 2 from c38)]; exact ⟨rfl, hR⟩) hP hS
      · refine lv_aload_n hx hb dX9_ofCell_28 rfl (lv_at hl 0 rfl) ?_
        refine lv_iload_n hx hb dX9_ofCell_29 rfl (lv_at hl 1 rfl) ?_
        refine cViI [.int (nI j)] [] FX hK (c_X9_topOf l D y a hA P j cN (by omega) hI.c30 hI.2.2.2.2) (cwV 1 hts gX9_ofCell_X9_topOf rfl rfl rfl (by decide +kernel) ⟨Nat.le_of_ble_eq_true rfl, Nat.le_of_ble_eq_true rfl⟩) hP (pre_recv hK hP (ci := 9) (q0 := 0) rfl rfl) rfl rfl hl (Nat.le_of_ble_eq_true rfl) dX9_ofCell_30 ⟨Nat.zero_le _, Nat.zero_le _⟩ hS (fun _ h => h) (fun r30 u30 H locs hp30 hP hS _ _ => ?_)
        obtain rfl := hp30
        refine xn_to hx (z := sTop C (C.1 5) (flP C) j) (hR.top hC hc1 hj) ?_
        refine lv_goto (tgt := 52) hx hb dX9_ofCell_33 (by decide) ?_
        exact ret H locs 52 ls (sTop C (C.1 5) (flP C) j) P dX9_ofCell_52 (by unfold ansOfCell; rw [dN_nI (show j < 2 ^ 31 by omega), cif_t k5, cif_f c11, cif_t (show wh = 1 from c25)]; exact ⟨rfl, hR⟩) hP hS
    · refine lv_aload_n hx hb dX9_ofCell_14 rfl (lv_at hl 0 rfl) ?_
      refine mg_3 FX hK in9 hP (List.mem_of_getElem? (i := 1) rfl) dX9_ofCell_15 ?_
      refine lv_iload_n hx hb dX9_ofCell_18 rfl (lv_at hl 1 rfl) ?_
      refine ma1 (i := j) (by omega) FX hK hP dX9_ofCell_19 ?_
      refine xn_to hx (z := C.2 0 j) (hR.cell hC hc1 (k := 0) (by decide) (by omega)) ?_
      refine lv_goto (tgt := 52) hx hb dX9_ofCell_20 (by decide) ?_
      exact ret H locs 52 ls (C.2 0 j) P dX9_ofCell_52 (by unfold ansOfCell; rw [dN_nI (show j < 2 ^ 31 by omega), cif_t k5, cif_t c11]; exact ⟨rfl, hR⟩) hP hS
  · refine lv_iconst (v := (-1)) hx hb dX9_ofCell_8 rfl ?_
    exact ret H locs 9 ls (-1) P dX9_ofCell_9 (by unfold ansOfCell; rw [cif_f c5]; exact ⟨rfl, hR⟩) hP hS

abbrev rmX9_ofHouse : Room := { frames := 2, cells := 0, slots := 0, locals := 46 }
set_option maxRecDepth 100000 in
set_option maxHeartbeats 4000000 in
theorem c_X9_ofHouse (l : Launch) (D : va_G) (y : Nat → ClassId) (a : Nat → Nat) (hA : CA a 26) (P : PT) (C : PT) (w cN n t rd : Nat) (x : Int32) (wh : Int32)  (hR : RQ C P) (hC : IP C w cN n t) (hc1 : C.1 1 = nI cN) (hr : RD C n rd) : CtI l D y yX9_ofHouse wsX9_ofHouse rmX9_ofHouse [.ref (a 0), .int x, .int wh] (wM y a P) (fun (r : Int32) (P' : PT) => r = (ansOfHouse C n x wh).1 ∧ RQ (ansOfHouse C n x wh).2 P') (fun P' => wM y a P') (AM a) := by
  refine mkI (cc := cX9_ofHouse) (maxL := 3) (ret := some .int) RX9 rfl (by decide) rfl (Or.inl rfl) (Nat.le_of_ble_eq_true rfl) ?_
  intro p e s m args below meth c Q FX hK hP ret ls hl
  obtain ⟨hx, hb, hml, hown, hts⟩ := id FX
  have hS : va_S (AM a) s.heap s.heap [] := va_S.rf
  have in9 : ∀ w ∈ wsX90, w ∈ wsX9_ofHouse := fun _ h => List.mem_cons_of_mem _ (List.mem_append_right _ (h))
  have hl : lv_has ls 3 [(0, .ref (a 0)), (1, .int x), (2, .int wh)] := hl
  obtain ⟨hi, hi5, hI, hi0⟩ := hR.iq hC hc1
  have hcl := hC.c30
  have hnl := hC.n8
  have htl := hC.t8
  have hrl := hr.2.1
  refine lv_aload_n hx hb dX9_ofHouse_0 rfl (lv_at hl 0 rfl) ?_
  refine lv_iload_n hx hb dX9_ofHouse_1 rfl (lv_at hl 1 rfl) ?_
  refine cViI [.int x] [] FX hK (c_X9_noHouse l D y a hA P n x hI.nn hI.n9) (cwV 1 hts gX9_ofHouse_X9_noHouse rfl rfl rfl (by decide +kernel) ⟨Nat.le_of_ble_eq_true rfl, Nat.le_of_ble_eq_true rfl⟩) hP (pre_recv hK hP (ci := 9) (q0 := 0) rfl rfl) rfl rfl hl (Nat.le_of_ble_eq_true rfl) dX9_ofHouse_2 ⟨Nat.zero_le _, Nat.zero_le _⟩ hS (fun _ h => h) (fun r2 u2 H locs hp2 hP hS _ _ => ?_)
  obtain rfl := hp2
  refine xb_eq (tgt := 10) hx hb dX9_ofHouse_5 (by decide) (fun c5 => ?_) (fun c5 => ?_)
  · have k5 : inN n x := Classical.not_not.mp c5
    obtain ⟨j, hj, ej⟩ := id k5
    subst ej
    refine lv_iload_n hx hb dX9_ofHouse_10 rfl (lv_at hl 2 rfl) ?_
    by_cases c11_0 : wh = 0
    · refine lv_tableIn (off := 33) (tgt := 44) hx hb dX9_ofHouse_11 (by rw [c11_0]; decide) (by rw [c11_0]; decide) (by rw [c11_0]; rfl) (by decide) ?_
      refine lv_aload_n hx hb dX9_ofHouse_44 rfl (lv_at hl 0 rfl) ?_
      refine mg_7 FX hK in9 hP (List.mem_of_getElem? (i := 1) rfl) dX9_ofHouse_45 ?_
      refine lv_iload_n hx hb dX9_ofHouse_48 rfl (lv_at hl 1 rfl) ?_
      refine ma4 (i := j) (by omega) FX hK hP dX9_ofHouse_49 ?_
      refine xn_to hx (z := C.2 3 j) (hR.house hC (k := 3) (by decide) (by decide) (by omega)) ?_
      exact ret H locs 50 ls (C.2 3 j) P dX9_ofHouse_50 (by unfold ansOfHouse; rw [dN_nI (show j < 2 ^ 31 by omega), cif_t k5, cif_t c11_0]; exact ⟨rfl, hR⟩) hP hS
    by_cases c11_1 : wh = 1
    · refine lv_tableIn (off := 40) (tgt := 51) hx hb dX9_ofHouse_11 (by rw [c11_1]; decide) (by rw [c11_1]; decide) (by rw [c11_1]; rfl) (by decide) ?_
      refine lv_aload_n hx hb dX9_ofHouse_51 rfl (lv_at hl 0 rfl) ?_
      refine mg_8 FX hK in9 hP (List.mem_of_getElem? (i := 2) rfl) dX9_ofHouse_52 ?_
      refine lv_iload_n hx hb dX9_ofHouse_55 rfl (lv_at hl 1 rfl) ?_
      refine ma5 (i := j) (by omega) FX hK hP dX9_ofHouse_56 ?_
      refine xn_to hx (z := C.2 4 j) (hR.house hC (k := 4) (by decide) (by decide) (by omega)) ?_
      exact ret H locs 57 ls (C.2 4 j) P dX9_ofHouse_57 (by unfold ansOfHouse; rw [dN_nI (show j < 2 ^ 31 by omega), cif_t k5, cif_f c11_0, cif_t c11_1]; exact ⟨rfl, hR⟩) hP hS
    by_cases c11_2 : wh = 2
    · refine lv_tableIn (off := 47) (tgt := 58) hx hb dX9_ofHouse_11 (by rw [c11_2]; decide) (by rw [c11_2]; decide) (by rw [c11_2]; rfl) (by decide) ?_
      refine lv_aload_n hx hb dX9_ofHouse_58 rfl (lv_at hl 0 rfl) ?_
      refine mg_9 FX hK in9 hP (List.mem_of_getElem? (i := 3) rfl) dX9_ofHouse_59 ?_
      refine lv_iload_n hx hb dX9_ofHouse_62 rfl (lv_at hl 1 rfl) ?_
      refine ma6 (i := j) (by omega) FX hK hP dX9_ofHouse_63 ?_
      refine xn_to hx (z := C.2 5 j) (hR.house hC (k := 5) (by decide) (by decide) (by omega)) ?_
      exact ret H locs 64 ls (C.2 5 j) P dX9_ofHouse_64 (by unfold ansOfHouse; rw [dN_nI (show j < 2 ^ 31 by omega), cif_t k5, cif_f c11_0, cif_f c11_1, cif_t c11_2]; exact ⟨rfl, hR⟩) hP hS
    by_cases c11_3 : wh = 3
    · refine lv_tableIn (off := 54) (tgt := 65) hx hb dX9_ofHouse_11 (by rw [c11_3]; decide) (by rw [c11_3]; decide) (by rw [c11_3]; rfl) (by decide) ?_
      refine lv_aload_n hx hb dX9_ofHouse_65 rfl (lv_at hl 0 rfl) ?_
      refine lv_iload_n hx hb dX9_ofHouse_66 rfl (lv_at hl 1 rfl) ?_
      refine cViI [.int (nI j)] [] FX hK (c_X9_houseTall l D y a hA P j (by omega)) (cwV 1 hts gX9_ofHouse_X9_houseTall rfl rfl rfl (by decide +kernel) ⟨Nat.le_of_ble_eq_true rfl, Nat.le_of_ble_eq_true rfl⟩) hP (pre_recv hK hP (ci := 9) (q0 := 0) rfl rfl) rfl rfl hl (Nat.le_of_ble_eq_true rfl) dX9_ofHouse_67 ⟨Nat.zero_le _, Nat.zero_le _⟩ hS (fun _ h => h) (fun r67 u67 H locs hp67 hP hS _ _ => ?_)
      obtain rfl := hp67
      refine xn_to hx (z := sHt C j (C.2 6 j)) (by rw [hR.hgt hC hj, hR.house hC (k := 6) (by decide) (by decide) hj]) ?_
      exact ret H locs 70 ls (sHt C j (C.2 6 j)) P dX9_ofHouse_70 (by unfold ansOfHouse; rw [dN_nI (show j < 2 ^ 31 by omega), cif_t k5, cif_f c11_0, cif_f c11_1, cif_f c11_2, cif_t c11_3]; exact ⟨rfl, hR⟩) hP hS
    by_cases c11_4 : wh = 4
    · refine lv_tableIn (off := 60) (tgt := 71) hx hb dX9_ofHouse_11 (by rw [c11_4]; decide) (by rw [c11_4]; decide) (by rw [c11_4]; rfl) (by decide) ?_
      refine lv_aload_n hx hb dX9_ofHouse_71 rfl (lv_at hl 0 rfl) ?_
      refine mg_10 FX hK in9 hP (List.mem_of_getElem? (i := 4) rfl) dX9_ofHouse_72 ?_
      refine lv_iload_n hx hb dX9_ofHouse_75 rfl (lv_at hl 1 rfl) ?_
      refine ma7 (i := j) (by omega) FX hK hP dX9_ofHouse_76 ?_
      refine xn_to hx (z := C.2 6 j) (hR.house hC (k := 6) (by decide) (by decide) (by omega)) ?_
      exact ret H locs 77 ls (C.2 6 j) P dX9_ofHouse_77 (by unfold ansOfHouse; rw [dN_nI (show j < 2 ^ 31 by omega), cif_t k5, cif_f c11_0, cif_f c11_1, cif_f c11_2, cif_f c11_3, cif_t c11_4]; exact ⟨rfl, hR⟩) hP hS
    refine lv_tableOut (tgt := 78) hx hb dX9_ofHouse_11 (sw_out4 c11_0 c11_1 c11_2 c11_3 c11_4) (by decide) ?_
    refine lv_bipush (v := (-2)) hx hb dX9_ofHouse_78 rfl ?_
    exact ret H locs 80 ls (-2) P dX9_ofHouse_80 (by unfold ansOfHouse; rw [dN_nI (show j < 2 ^ 31 by omega), cif_t k5, cif_f c11_0, cif_f c11_1, cif_f c11_2, cif_f c11_3, cif_f c11_4]; exact ⟨rfl, hR⟩) hP hS
  · refine lv_iconst (v := (-1)) hx hb dX9_ofHouse_8 rfl ?_
    exact ret H locs 9 ls (-1) P dX9_ofHouse_9 (by unfold ansOfHouse; rw [cif_f c5]; exact ⟨rfl, hR⟩) hP hS

abbrev rmX9_ofTree : Room := { frames := 2, cells := 0, slots := 0, locals := 46 }
set_option maxRecDepth 100000 in
set_option maxHeartbeats 4000000 in
theorem c_X9_ofTree (l : Launch) (D : va_G) (y : Nat → ClassId) (a : Nat → Nat) (hA : CA a 26) (P : PT) (C : PT) (w cN n t rd : Nat) (x : Int32) (wh : Int32)  (hR : RQ C P) (hC : IP C w cN n t) (hc1 : C.1 1 = nI cN) (hr : RD C n rd) : CtI l D y yX9_ofTree wsX9_ofTree rmX9_ofTree [.ref (a 0), .int x, .int wh] (wM y a P) (fun (r : Int32) (P' : PT) => r = (ansOfTree C t x wh).1 ∧ RQ (ansOfTree C t x wh).2 P') (fun P' => wM y a P') (AM a) := by
  refine mkI (cc := cX9_ofTree) (maxL := 3) (ret := some .int) RX9 rfl (by decide) rfl (Or.inl rfl) (Nat.le_of_ble_eq_true rfl) ?_
  intro p e s m args below meth c Q FX hK hP ret ls hl
  obtain ⟨hx, hb, hml, hown, hts⟩ := id FX
  have hS : va_S (AM a) s.heap s.heap [] := va_S.rf
  have in9 : ∀ w ∈ wsX90, w ∈ wsX9_ofTree := fun _ h => List.mem_cons_of_mem _ (List.mem_append_right _ (h))
  have hl : lv_has ls 3 [(0, .ref (a 0)), (1, .int x), (2, .int wh)] := hl
  obtain ⟨hi, hi5, hI, hi0⟩ := hR.iq hC hc1
  have hcl := hC.c30
  have hnl := hC.n8
  have htl := hC.t8
  have hrl := hr.2.1
  refine lv_aload_n hx hb dX9_ofTree_0 rfl (lv_at hl 0 rfl) ?_
  refine lv_iload_n hx hb dX9_ofTree_1 rfl (lv_at hl 1 rfl) ?_
  refine cViI [.int x] [] FX hK (c_X9_noTree l D y a hA P t x hI.tt (by omega)) (cwV 1 hts gX9_ofTree_X9_noTree rfl rfl rfl (by decide +kernel) ⟨Nat.le_of_ble_eq_true rfl, Nat.le_of_ble_eq_true rfl⟩) hP (pre_recv hK hP (ci := 9) (q0 := 0) rfl rfl) rfl rfl hl (Nat.le_of_ble_eq_true rfl) dX9_ofTree_2 ⟨Nat.zero_le _, Nat.zero_le _⟩ hS (fun _ h => h) (fun r2 u2 H locs hp2 hP hS _ _ => ?_)
  obtain rfl := hp2
  refine xb_eq (tgt := 10) hx hb dX9_ofTree_5 (by decide) (fun c5 => ?_) (fun c5 => ?_)
  · have k5 : inN t x := Classical.not_not.mp c5
    obtain ⟨j, hj, ej⟩ := id k5
    subst ej
    refine lv_iload_n hx hb dX9_ofTree_10 rfl (lv_at hl 2 rfl) ?_
    by_cases c11_0 : wh = 0
    · refine lv_tableIn (off := 29) (tgt := 40) hx hb dX9_ofTree_11 (by rw [c11_0]; decide) (by rw [c11_0]; decide) (by rw [c11_0]; rfl) (by decide) ?_
      refine lv_aload_n hx hb dX9_ofTree_40 rfl (lv_at hl 0 rfl) ?_
      refine mg_12 FX hK in9 hP (List.mem_of_getElem? (i := 1) rfl) dX9_ofTree_41 ?_
      refine lv_iload_n hx hb dX9_ofTree_44 rfl (lv_at hl 1 rfl) ?_
      refine ma8 (i := j) (by omega) FX hK hP dX9_ofTree_45 ?_
      refine xn_to hx (z := C.2 7 j) (hR.tree hC (k := 7) (by decide) (by decide) (by omega)) ?_
      exact ret H locs 46 ls (C.2 7 j) P dX9_ofTree_46 (by unfold ansOfTree; rw [dN_nI (show j < 2 ^ 31 by omega), cif_t k5, cif_t c11_0]; exact ⟨rfl, hR⟩) hP hS
    by_cases c11_1 : wh = 1
    · refine lv_tableIn (off := 36) (tgt := 47) hx hb dX9_ofTree_11 (by rw [c11_1]; decide) (by rw [c11_1]; decide) (by rw [c11_1]; rfl) (by decide) ?_
      refine lv_aload_n hx hb dX9_ofTree_47 rfl (lv_at hl 0 rfl) ?_
      refine mg_13 FX hK in9 hP (List.mem_of_getElem? (i := 2) rfl) dX9_ofTree_48 ?_
      refine lv_iload_n hx hb dX9_ofTree_51 rfl (lv_at hl 1 rfl) ?_
      refine ma9 (i := j) (by omega) FX hK hP dX9_ofTree_52 ?_
      refine xn_to hx (z := C.2 8 j) (hR.tree hC (k := 8) (by decide) (by decide) (by omega)) ?_
      exact ret H locs 53 ls (C.2 8 j) P dX9_ofTree_53 (by unfold ansOfTree; rw [dN_nI (show j < 2 ^ 31 by omega), cif_t k5, cif_f c11_0, cif_t c11_1]; exact ⟨rfl, hR⟩) hP hS
    by_cases c11_2 : wh = 2
    · refine lv_tableIn (off := 43) (tgt := 54) hx hb dX9_ofTree_11 (by rw [c11_2]; decide) (by rw [c11_2]; decide) (by rw [c11_2]; rfl) (by decide) ?_
      refine lv_aload_n hx hb dX9_ofTree_54 rfl (lv_at hl 0 rfl) ?_
      refine lv_iload_n hx hb dX9_ofTree_55 rfl (lv_at hl 1 rfl) ?_
      refine cViI [.int (nI j)] [] FX hK (c_X9_treeNow l D y a hA P j (by omega)) (cwV 1 hts gX9_ofTree_X9_treeNow rfl rfl rfl (by decide +kernel) ⟨Nat.le_of_ble_eq_true rfl, Nat.le_of_ble_eq_true rfl⟩) hP (pre_recv hK hP (ci := 9) (q0 := 0) rfl rfl) rfl rfl hl (Nat.le_of_ble_eq_true rfl) dX9_ofTree_56 ⟨Nat.zero_le _, Nat.zero_le _⟩ hS (fun _ h => h) (fun r56 u56 H locs hp56 hP hS _ _ => ?_)
      obtain rfl := hp56
      refine xn_to hx (z := sTr C j (C.1 5) (flP C j)) (hR.tr hC hj) ?_
      exact ret H locs 59 ls (sTr C j (C.1 5) (flP C j)) P dX9_ofTree_59 (by unfold ansOfTree; rw [dN_nI (show j < 2 ^ 31 by omega), cif_t k5, cif_f c11_0, cif_f c11_1, cif_t c11_2]; exact ⟨rfl, hR⟩) hP hS
    by_cases c11_3 : wh = 3
    · refine lv_tableIn (off := 49) (tgt := 60) hx hb dX9_ofTree_11 (by rw [c11_3]; decide) (by rw [c11_3]; decide) (by rw [c11_3]; rfl) (by decide) ?_
      refine lv_aload_n hx hb dX9_ofTree_60 rfl (lv_at hl 0 rfl) ?_
      refine mg_14 FX hK in9 hP (List.mem_of_getElem? (i := 3) rfl) dX9_ofTree_61 ?_
      refine lv_iload_n hx hb dX9_ofTree_64 rfl (lv_at hl 1 rfl) ?_
      refine ma10 (i := j) (by omega) FX hK hP dX9_ofTree_65 ?_
      refine xn_to hx (z := b2 (flP C j)) (hR.fl hC hj) ?_
      refine xb_eq (tgt := 73) hx hb dX9_ofTree_66 (by decide) (fun c66 => ?_) (fun c66 => ?_)
      · refine lv_iconst (v := nI 0) hx hb dX9_ofTree_73 rfl ?_
        exact ret H locs 74 ls (nI 0) P dX9_ofTree_74 (by unfold ansOfTree; rw [dN_nI (show j < 2 ^ 31 by omega), cif_t k5, cif_f c11_0, cif_f c11_1, cif_f c11_2, cif_t c11_3]; exact ⟨b2_0 c66, hR⟩) hP hS
      · refine lv_iconst (v := nI 1) hx hb dX9_ofTree_69 rfl ?_
        refine lv_goto (tgt := 74) hx hb dX9_ofTree_70 (by decide) ?_
        exact ret H locs 74 ls (nI 1) P dX9_ofTree_74 (by unfold ansOfTree; rw [dN_nI (show j < 2 ^ 31 by omega), cif_t k5, cif_f c11_0, cif_f c11_1, cif_f c11_2, cif_t c11_3]; exact ⟨b2_1 c66, hR⟩) hP hS
    refine lv_tableOut (tgt := 75) hx hb dX9_ofTree_11 (sw_out3 c11_0 c11_1 c11_2 c11_3) (by decide) ?_
    refine lv_bipush (v := (-2)) hx hb dX9_ofTree_75 rfl ?_
    exact ret H locs 77 ls (-2) P dX9_ofTree_77 (by unfold ansOfTree; rw [dN_nI (show j < 2 ^ 31 by omega), cif_t k5, cif_f c11_0, cif_f c11_1, cif_f c11_2, cif_f c11_3]; exact ⟨rfl, hR⟩) hP hS
  · refine lv_iconst (v := (-1)) hx hb dX9_ofTree_8 rfl ?_
    exact ret H locs 9 ls (-1) P dX9_ofTree_9 (by unfold ansOfTree; rw [cif_f c5]; exact ⟨rfl, hR⟩) hP hS

abbrev rmX9_times : Room := { frames := 1, cells := 0, slots := 0, locals := 25 }
set_option maxRecDepth 100000 in
set_option maxHeartbeats 4000000 in
theorem c_X9_times (l : Launch) (D : va_G) (y : Nat → ClassId) (a : Nat → Nat) (hA : CA a 26) (P : PT) (C : PT) (w cN n t rd : Nat) (yr : Int32) (fg : Int32) (lw : Int32)  (hR : RQ C P) (hC : IP C w cN n t) (hc1 : C.1 1 = nI cN) (hr : RD C n rd) : CtI l D y yX9_times wsX9_times rmX9_times [.ref (a 0), .int yr, .int fg, .int lw] (wM y a P) (fun (r : Int32) (P' : PT) => r = (ansTimes C cN yr fg lw).1 ∧ RQ (ansTimes C cN yr fg lw).2 P') (fun P' => wM y a P') (AM a) := by
  refine mkI (cc := cX9_times) (maxL := 5) (ret := some .int) RX9 rfl (by decide) rfl (Or.inl rfl) (Nat.le_of_ble_eq_true rfl) ?_
  intro p e s m args below meth c Q FX hK hP ret ls hl
  obtain ⟨hx, hb, hml, hown, hts⟩ := id FX
  have hS : va_S (AM a) s.heap s.heap [] := va_S.rf
  have in9 : ∀ w ∈ wsX90, w ∈ wsX9_times := fun _ h => List.mem_cons_of_mem _ (List.mem_append_right _ (h))
  have hl : lv_has ls 5 [(0, .ref (a 0)), (1, .int yr), (2, .int fg), (3, .int lw)] := hl
  obtain ⟨hi, hi5, hI, hi0⟩ := hR.iq hC hc1
  have hcl := hC.c30
  have hnl := hC.n8
  have htl := hC.t8
  have hrl := hr.2.1
  refine lv_iload_n hx hb dX9_times_0 rfl (lv_at hl 1 rfl) ?_
  refine lv_i2l hx hb dX9_times_1 rfl ?_
  refine lv_lconst (v := 0) hx hb dX9_times_2 rfl ?_
  refine lv_ldc2 hx hb hown (hts _ (List.mem_of_getElem? (i := 1) rfl)) dX9_times_3 ?_
  refine cStI [.long (yr.toInt64), .long 0, .long (30)] [] FX hK (c_X9_in l D y (yr.toInt64) 0 (30)) (va_cwS 3 hts gX9_times_X9_in rfl rfl rfl (by decide +kernel) ⟨Nat.le_of_ble_eq_true rfl, Nat.le_of_ble_eq_true rfl⟩) rfl rfl hl (Nat.le_of_ble_eq_true rfl) dX9_times_6 ⟨Nat.zero_le _, Nat.zero_le _⟩ hP hS (fun r6 H locs hp6 hP hS => ?_)
  obtain rfl := hp6
  refine xn_to hx (z := b2 (inR 0 30 yr)) (b2_iff (in_R (lo := 0) (hi := 30) rfl rfl (by decide))) ?_
  refine xb_eq (tgt := 34) hx hb dX9_times_9 (by decide) (fun c9 => ?_) (fun c9 => ?_)
  · refine lv_bipush (v := (-2)) hx hb dX9_times_34 rfl ?_
    exact ret H locs 36 ls (-2) P dX9_times_36 (by unfold ansTimes; rw [cif_f c9]; exact ⟨rfl, hR⟩) hP hS
  · refine lv_iload_n hx hb dX9_times_12 rfl (lv_at hl 2 rfl) ?_
    refine lv_i2l hx hb dX9_times_13 rfl ?_
    refine lv_lconst (v := 1) hx hb dX9_times_14 rfl ?_
    refine lv_ldc2 hx hb hown (hts _ (List.mem_of_getElem? (i := 2) rfl)) dX9_times_15 ?_
    refine cStI [.long (fg.toInt64), .long 1, .long (9)] [] FX hK (c_X9_in l D y (fg.toInt64) 1 (9)) (va_cwS 3 hts gX9_times_X9_in rfl rfl rfl (by decide +kernel) ⟨Nat.le_of_ble_eq_true rfl, Nat.le_of_ble_eq_true rfl⟩) rfl rfl hl (Nat.le_of_ble_eq_true rfl) dX9_times_18 ⟨Nat.zero_le _, Nat.zero_le _⟩ hP hS (fun r18 H locs hp18 hP hS => ?_)
    obtain rfl := hp18
    refine xn_to hx (z := b2 (inR 1 9 fg)) (b2_iff (in_R (lo := 1) (hi := 9) rfl rfl (by decide))) ?_
    refine xb_eq (tgt := 34) hx hb dX9_times_21 (by decide) (fun c21 => ?_) (fun c21 => ?_)
    · refine lv_bipush (v := (-2)) hx hb dX9_times_34 rfl ?_
      exact ret H locs 36 ls (-2) P dX9_times_36 (by unfold ansTimes; rw [cif_t c9, cif_f c21]; exact ⟨rfl, hR⟩) hP hS
    · refine lv_iload_n hx hb dX9_times_24 rfl (lv_at hl 3 rfl) ?_
      refine lv_i2l hx hb dX9_times_25 rfl ?_
      refine lv_lconst (v := 0) hx hb dX9_times_26 rfl ?_
      refine lv_lconst (v := 1) hx hb dX9_times_27 rfl ?_
      refine cStI [.long (lw.toInt64), .long 0, .long 1] [] FX hK (c_X9_in l D y (lw.toInt64) 0 1) (va_cwS 3 hts gX9_times_X9_in rfl rfl rfl (by decide +kernel) ⟨Nat.le_of_ble_eq_true rfl, Nat.le_of_ble_eq_true rfl⟩) rfl rfl hl (Nat.le_of_ble_eq_true rfl) dX9_times_28 ⟨Nat.zero_le _, Nat.zero_le _⟩ hP hS (fun r28 H locs hp28 hP hS => ?_)
      obtain rfl := hp28
      refine xn_to hx (z := b2 (inR 0 1 lw)) (b2_iff (in_R (lo := 0) (hi := 1) rfl rfl (by decide))) ?_
      refine xb_ne (tgt := 37) hx hb dX9_times_31 (by decide) (fun c31 => ?_) (fun c31 => ?_)
      · refine lv_aload_n hx hb dX9_times_37 rfl (lv_at hl 0 rfl) ?_
        refine mg_1 FX hK in9 hP (List.mem_of_getElem? (i := 3) rfl) dX9_times_38 ?_
        refine xn_to hx (z := nI hi) hI.hh ?_
        refine xn_if_ne (tgt := 47) hx hb (by omega) dX9_times_41 (by decide) (fun c41 => ?_) (fun c41 => ?_)
        · refine lv_aload_n hx hb dX9_times_47 rfl (lv_at hl 0 rfl) ?_
          refine mg_15 FX hK in9 hP (List.mem_of_getElem? (i := 4) rfl) dX9_times_48 ?_
          refine xn_to hx (z := C.1 5) (hR.1 5 (by omega)) ?_
          refine lv_iload_n hx hb dX9_times_51 rfl (lv_at hl 1 rfl) ?_
          refine lv_icmp_ne (tgt := 75) hx hb dX9_times_52 (by decide) (fun c52 => ?_) (fun c52 => ?_)
          · refine lv_iconst (v := nI 0) hx hb dX9_times_75 rfl ?_
            refine lv_istore (lv' := [(4, .int (nI 0)), (0, .ref (a 0)), (1, .int yr), (2, .int fg), (3, .int lw)]) hx hb dX9_times_76 hl (by decide) rfl (fun ls hl => ?_)
            refine lv_aload_n hx hb dX9_times_78 rfl (lv_at hl 1 rfl) ?_
            refine lv_iload_n hx hb dX9_times_79 rfl (lv_at hl 2 rfl) ?_
            refine mp_15 FX hK in9 hP hA hS (List.mem_of_getElem? (i := 4) rfl) dX9_times_80 (fun H locs hP hS => ?_)
            refine lv_aload_n hx hb dX9_times_83 rfl (lv_at hl 1 rfl) ?_
            refine lv_iload_n hx hb dX9_times_84 rfl (lv_at hl 3 rfl) ?_
            refine mp_16 FX hK in9 hP hA hS (List.mem_of_getElem? (i := 5) rfl) dX9_times_85 (fun H locs hP hS => ?_)
            refine lv_aload_n hx hb dX9_times_88 rfl (lv_at hl 1 rfl) ?_
            refine lv_iload_n hx hb dX9_times_89 rfl (lv_at hl 4 rfl) ?_
            refine mp_17 FX hK in9 hP hA hS (List.mem_of_getElem? (i := 6) rfl) dX9_times_90 (fun H locs hP hS => ?_)
            refine lv_iload hx hb dX9_times_93 (lv_at hl 0 rfl) ?_
            refine xn_if_eq (tgt := 102) hx hb (by omega) dX9_times_95 (by decide) (fun c95 => ?_) (fun c95 => ?_)
            · refine lv_iconst (v := nI 1) hx hb dX9_times_102 rfl ?_
              exact ret H locs 103 ls (nI 1) (pg (pg (pg P 5 yr) 6 fg) 7 lw) dX9_times_103 (by unfold ansTimes; rw [cif_t c9, cif_t c21, cif_t c31, cif_t (show 0 < cN by omega), cif_f c52]; exact ⟨rfl, (hR.times yr fg lw)⟩) hP hS
            · exact absurd c95 (by decide)
          · refine lv_aload_n hx hb dX9_times_55 rfl (lv_at hl 0 rfl) ?_
            refine mg_16 FX hK in9 hP (List.mem_of_getElem? (i := 5) rfl) dX9_times_56 ?_
            refine xn_to hx (z := C.1 6) (hR.1 6 (by omega)) ?_
            refine lv_iload_n hx hb dX9_times_59 rfl (lv_at hl 2 rfl) ?_
            refine lv_icmp_ne (tgt := 75) hx hb dX9_times_60 (by decide) (fun c60 => ?_) (fun c60 => ?_)
            · refine lv_iconst (v := nI 0) hx hb dX9_times_75 rfl ?_
              refine lv_istore (lv' := [(4, .int (nI 0)), (0, .ref (a 0)), (1, .int yr), (2, .int fg), (3, .int lw)]) hx hb dX9_times_76 hl (by decide) rfl (fun ls hl => ?_)
              refine lv_aload_n hx hb dX9_times_78 rfl (lv_at hl 1 rfl) ?_
              refine lv_iload_n hx hb dX9_times_79 rfl (lv_at hl 2 rfl) ?_
              refine mp_15 FX hK in9 hP hA hS (List.mem_of_getElem? (i := 4) rfl) dX9_times_80 (fun H locs hP hS => ?_)
              refine lv_aload_n hx hb dX9_times_83 rfl (lv_at hl 1 rfl) ?_
              refine lv_iload_n hx hb dX9_times_84 rfl (lv_at hl 3 rfl) ?_
              refine mp_16 FX hK in9 hP hA hS (List.mem_of_getElem? (i := 5) rfl) dX9_times_85 (fun H locs hP hS => ?_)
              refine lv_aload_n hx hb dX9_times_88 rfl (lv_at hl 1 rfl) ?_
              refine lv_iload_n hx hb dX9_times_89 rfl (lv_at hl 4 rfl) ?_
              refine mp_17 FX hK in9 hP hA hS (List.mem_of_getElem? (i := 6) rfl) dX9_times_90 (fun H locs hP hS => ?_)
              refine lv_iload hx hb dX9_times_93 (lv_at hl 0 rfl) ?_
              refine xn_if_eq (tgt := 102) hx hb (by omega) dX9_times_95 (by decide) (fun c95 => ?_) (fun c95 => ?_)
              · refine lv_iconst (v := nI 1) hx hb dX9_times_102 rfl ?_
                exact ret H locs 103 ls (nI 1) (pg (pg (pg P 5 yr) 6 fg) 7 lw) dX9_times_103 (by unfold ansTimes; rw [cif_t c9, cif_t c21, cif_t c31, cif_t (show 0 < cN by omega), cif_t c52, cif_f c60]; exact ⟨rfl, (hR.times yr fg lw)⟩) hP hS
              · exact absurd c95 (by decide)
            · refine lv_aload_n hx hb dX9_times_63 rfl (lv_at hl 0 rfl) ?_
              refine mg_17 FX hK in9 hP (List.mem_of_getElem? (i := 6) rfl) dX9_times_64 ?_
              refine xn_to hx (z := C.1 7) (hR.1 7 (by omega)) ?_
              refine lv_iload_n hx hb dX9_times_67 rfl (lv_at hl 3 rfl) ?_
              refine lv_icmp_ne (tgt := 75) hx hb dX9_times_68 (by decide) (fun c68 => ?_) (fun c68 => ?_)
              · refine lv_iconst (v := nI 0) hx hb dX9_times_75 rfl ?_
                refine lv_istore (lv' := [(4, .int (nI 0)), (0, .ref (a 0)), (1, .int yr), (2, .int fg), (3, .int lw)]) hx hb dX9_times_76 hl (by decide) rfl (fun ls hl => ?_)
                refine lv_aload_n hx hb dX9_times_78 rfl (lv_at hl 1 rfl) ?_
                refine lv_iload_n hx hb dX9_times_79 rfl (lv_at hl 2 rfl) ?_
                refine mp_15 FX hK in9 hP hA hS (List.mem_of_getElem? (i := 4) rfl) dX9_times_80 (fun H locs hP hS => ?_)
                refine lv_aload_n hx hb dX9_times_83 rfl (lv_at hl 1 rfl) ?_
                refine lv_iload_n hx hb dX9_times_84 rfl (lv_at hl 3 rfl) ?_
                refine mp_16 FX hK in9 hP hA hS (List.mem_of_getElem? (i := 5) rfl) dX9_times_85 (fun H locs hP hS => ?_)
                refine lv_aload_n hx hb dX9_times_88 rfl (lv_at hl 1 rfl) ?_
                refine lv_iload_n hx hb dX9_times_89 rfl (lv_at hl 4 rfl) ?_
                refine mp_17 FX hK in9 hP hA hS (List.mem_of_getElem? (i := 6) rfl) dX9_times_90 (fun H locs hP hS => ?_)
                refine lv_iload hx hb dX9_times_93 (lv_at hl 0 rfl) ?_
                refine xn_if_eq (tgt := 102) hx hb (by omega) dX9_times_95 (by decide) (fun c95 => ?_) (fun c95 => ?_)
                · refine lv_iconst (v := nI 1) hx hb dX9_times_102 rfl ?_
                  exact ret H locs 103 ls (nI 1) (pg (pg (pg P 5 yr) 6 fg) 7 lw) dX9_times_103 (by unfold ansTimes; rw [cif_t c9, cif_t c21, cif_t c31, cif_t (show 0 < cN by omega), cif_t c52, cif_t c60, cif_f c68]; exact ⟨rfl, (hR.times yr fg lw)⟩) hP hS
                · exact absurd c95 (by decide)
              · refine lv_iconst (v := nI 1) hx hb dX9_times_71 rfl ?_
                refine lv_goto (tgt := 76) hx hb dX9_times_72 (by decide) ?_
                refine lv_istore (lv' := [(4, .int (nI 1)), (0, .ref (a 0)), (1, .int yr), (2, .int fg), (3, .int lw)]) hx hb dX9_times_76 hl (by decide) rfl (fun ls hl => ?_)
                refine lv_aload_n hx hb dX9_times_78 rfl (lv_at hl 1 rfl) ?_
                refine lv_iload_n hx hb dX9_times_79 rfl (lv_at hl 2 rfl) ?_
                refine mp_15 FX hK in9 hP hA hS (List.mem_of_getElem? (i := 4) rfl) dX9_times_80 (fun H locs hP hS => ?_)
                refine lv_aload_n hx hb dX9_times_83 rfl (lv_at hl 1 rfl) ?_
                refine lv_iload_n hx hb dX9_times_84 rfl (lv_at hl 3 rfl) ?_
                refine mp_16 FX hK in9 hP hA hS (List.mem_of_getElem? (i := 5) rfl) dX9_times_85 (fun H locs hP hS => ?_)
                refine lv_aload_n hx hb dX9_times_88 rfl (lv_at hl 1 rfl) ?_
                refine lv_iload_n hx hb dX9_times_89 rfl (lv_at hl 4 rfl) ?_
                refine mp_17 FX hK in9 hP hA hS (List.mem_of_getElem? (i := 6) rfl) dX9_times_90 (fun H locs hP hS => ?_)
                refine lv_iload hx hb dX9_times_93 (lv_at hl 0 rfl) ?_
                refine xn_if_eq (tgt := 102) hx hb (by omega) dX9_times_95 (by decide) (fun c95 => ?_) (fun c95 => ?_)
                · exact absurd c95 (by decide)
                · refine lv_iconst (v := nI 0) hx hb dX9_times_98 rfl ?_
                  refine lv_goto (tgt := 103) hx hb dX9_times_99 (by decide) ?_
                  exact ret H locs 103 ls (nI 0) (pg (pg (pg P 5 yr) 6 fg) 7 lw) dX9_times_103 (by unfold ansTimes; rw [cif_t c9, cif_t c21, cif_t c31, cif_t (show 0 < cN by omega), cif_t c52, cif_t c60, cif_t c68]; exact ⟨rfl, (by have z := hR.times yr fg lw; rw [pg3 c52 c60 c68] at z; exact z)⟩) hP hS
        · refine lv_bipush (v := (-3)) hx hb dX9_times_44 rfl ?_
          exact ret H locs 46 ls (-3) P dX9_times_46 (by unfold ansTimes; rw [cif_t c9, cif_t c21, cif_t c31, cif_f (show ¬ 0 < cN by omega)]; exact ⟨rfl, hR⟩) hP hS
      · refine lv_bipush (v := (-2)) hx hb dX9_times_34 rfl ?_
        exact ret H locs 36 ls (-2) P dX9_times_36 (by unfold ansTimes; rw [cif_t c9, cif_t c21, cif_f c31]; exact ⟨rfl, hR⟩) hP hS

abbrev rmX9_wall : Room := { frames := 2, cells := 0, slots := 0, locals := 46 }
set_option maxRecDepth 100000 in
set_option maxHeartbeats 4000000 in
theorem c_X9_wall (l : Launch) (D : va_G) (y : Nat → ClassId) (a : Nat → Nat) (hA : CA a 26) (P : PT) (C : PT) (w cN n t rd : Nat) (x : Int32) (v : Int32)  (hR : RQ C P) (hC : IP C w cN n t) (hc1 : C.1 1 = nI cN) (hr : RD C n rd) : CtI l D y yX9_wall wsX9_wall rmX9_wall [.ref (a 0), .int x, .int v] (wM y a P) (fun (r : Int32) (P' : PT) => r = (ansWall C cN x v).1 ∧ RQ (ansWall C cN x v).2 P') (fun P' => wM y a P') (AM a) := by
  refine mkI (cc := cX9_wall) (maxL := 4) (ret := some .int) RX9 rfl (by decide) rfl (Or.inl rfl) (Nat.le_of_ble_eq_true rfl) ?_
  intro p e s m args below meth c Q FX hK hP ret ls hl
  obtain ⟨hx, hb, hml, hown, hts⟩ := id FX
  have hS : va_S (AM a) s.heap s.heap [] := va_S.rf
  have in9 : ∀ w ∈ wsX90, w ∈ wsX9_wall := fun _ h => List.mem_cons_of_mem _ (List.mem_append_right _ (h))
  have hl : lv_has ls 4 [(0, .ref (a 0)), (1, .int x), (2, .int v)] := hl
  obtain ⟨hi, hi5, hI, hi0⟩ := hR.iq hC hc1
  have hcl := hC.c30
  have hnl := hC.n8
  have htl := hC.t8
  have hrl := hr.2.1
  refine lv_aload_n hx hb dX9_wall_0 rfl (lv_at hl 0 rfl) ?_
  refine lv_iload_n hx hb dX9_wall_1 rfl (lv_at hl 1 rfl) ?_
  refine cViI [.int x] [] FX hK (c_X9_noCell l D y a hA P w cN n t hi x hI) (cwV 1 hts gX9_wall_X9_noCell rfl rfl rfl (by decide +kernel) ⟨Nat.le_of_ble_eq_true rfl, Nat.le_of_ble_eq_true rfl⟩) hP (pre_recv hK hP (ci := 9) (q0 := 0) rfl rfl) rfl rfl hl (Nat.le_of_ble_eq_true rfl) dX9_wall_2 ⟨Nat.zero_le _, Nat.zero_le _⟩ hS (fun _ h => h) (fun r2 u2 H locs hp2 hP hS _ _ => ?_)
  obtain rfl := hp2
  refine xb_eq (tgt := 10) hx hb dX9_wall_5 (by decide) (fun c5 => ?_) (fun c5 => ?_)
  · have k5 : inN cN x := Classical.not_not.mp c5
    obtain ⟨j, hj, ej⟩ := id k5
    subst ej
    refine lv_iload_n hx hb dX9_wall_10 rfl (lv_at hl 2 rfl) ?_
    refine lv_i2l hx hb dX9_wall_11 rfl ?_
    refine lv_lconst (v := 0) hx hb dX9_wall_12 rfl ?_
    refine lv_ldc2 hx hb hown (hts _ (List.mem_of_getElem? (i := 1) rfl)) dX9_wall_13 ?_
    refine cStI [.long (v.toInt64), .long 0, .long (9)] [] FX hK (c_X9_in l D y (v.toInt64) 0 (9)) (va_cwS 3 hts gX9_wall_X9_in rfl rfl rfl (by decide +kernel) ⟨Nat.le_of_ble_eq_true rfl, Nat.le_of_ble_eq_true rfl⟩) rfl rfl hl (Nat.le_of_ble_eq_true rfl) dX9_wall_16 ⟨Nat.zero_le _, Nat.zero_le _⟩ hP hS (fun r16 H locs hp16 hP hS => ?_)
    obtain rfl := hp16
    refine xn_to hx (z := b2 (inR 0 9 v)) (b2_iff (in_R (lo := 0) (hi := 9) rfl rfl (by decide))) ?_
    refine xb_ne (tgt := 25) hx hb dX9_wall_19 (by decide) (fun c19 => ?_) (fun c19 => ?_)
    · refine lv_aload_n hx hb dX9_wall_25 rfl (lv_at hl 0 rfl) ?_
      refine mg_4 FX hK in9 hP (List.mem_of_getElem? (i := 2) rfl) dX9_wall_26 ?_
      refine lv_iload_n hx hb dX9_wall_29 rfl (lv_at hl 1 rfl) ?_
      refine ma2 (i := j) (by omega) FX hK hP dX9_wall_30 ?_
      refine xn_to hx (z := C.2 2 j) (hR.cell hC hc1 (k := 2) (by decide) (by omega)) ?_
      refine lv_if_le (tgt := 37) hx hb dX9_wall_31 (by decide) (fun c31 => ?_) (fun c31 => ?_)
      · refine lv_aload_n hx hb dX9_wall_37 rfl (lv_at hl 0 rfl) ?_
        refine mg_5 FX hK in9 hP (List.mem_of_getElem? (i := 3) rfl) dX9_wall_38 ?_
        refine lv_iload_n hx hb dX9_wall_41 rfl (lv_at hl 1 rfl) ?_
        refine ma3 (i := j) (by omega) FX hK hP dX9_wall_42 ?_
        refine xn_to hx (z := C.2 1 j) (hR.cell hC hc1 (k := 1) (by decide) (by omega)) ?_
        refine lv_istore_n (lv' := [(3, .int (C.2 1 j)), (0, .ref (a 0)), (1, .int (nI j)), (2, .int v)]) hx hb dX9_wall_43 rfl hl (by decide) rfl (fun ls hl => ?_)
        refine lv_aload_n hx hb dX9_wall_44 rfl (lv_at hl 1 rfl) ?_
        refine mg_5 FX hK in9 hP (List.mem_of_getElem? (i := 3) rfl) dX9_wall_45 ?_
        refine lv_iload_n hx hb dX9_wall_48 rfl (lv_at hl 2 rfl) ?_
        refine lv_iload_n hx hb dX9_wall_49 rfl (lv_at hl 3 rfl) ?_
        refine ms3 (i := j) (by omega) FX hK hP hA hS dX9_wall_50 (fun H locs hP hS => ?_)
        refine lv_iload_n hx hb dX9_wall_51 rfl (lv_at hl 0 rfl) ?_
        exact ret H locs 52 ls (C.2 1 j) (pa P 1 j v) dX9_wall_52 (by unfold ansWall; rw [dN_nI (show j < 2 ^ 31 by omega), cif_t k5, cif_t c19, cif_t ((th_le hC hj).mp c31)]; exact ⟨rfl, hR.wpa (by decide) j v⟩) hP hS
      · refine lv_bipush (v := (-3)) hx hb dX9_wall_34 rfl ?_
        exact ret H locs 36 ls (-3) P dX9_wall_36 (by unfold ansWall; rw [dN_nI (show j < 2 ^ 31 by omega), cif_t k5, cif_t c19, cif_f (fun z => c31 ((th_le hC hj).mpr z))]; exact ⟨rfl, hR⟩) hP hS
    · refine lv_bipush (v := (-2)) hx hb dX9_wall_22 rfl ?_
      exact ret H locs 24 ls (-2) P dX9_wall_24 (by unfold ansWall; rw [dN_nI (show j < 2 ^ 31 by omega), cif_t k5, cif_f c19]; exact ⟨rfl, hR⟩) hP hS
  · refine lv_iconst (v := (-1)) hx hb dX9_wall_8 rfl ?_
    exact ret H locs 9 ls (-1) P dX9_wall_9 (by unfold ansWall; rw [cif_f c5]; exact ⟨rfl, hR⟩) hP hS

abbrev rmX9_floors : Room := { frames := 2, cells := 0, slots := 0, locals := 46 }
set_option maxRecDepth 100000 in
set_option maxHeartbeats 4000000 in
theorem c_X9_floors (l : Launch) (D : va_G) (y : Nat → ClassId) (a : Nat → Nat) (hA : CA a 26) (P : PT) (C : PT) (w cN n t rd : Nat) (x : Int32) (v : Int32)  (hR : RQ C P) (hC : IP C w cN n t) (hc1 : C.1 1 = nI cN) (hr : RD C n rd) : CtI l D y yX9_floors wsX9_floors rmX9_floors [.ref (a 0), .int x, .int v] (wM y a P) (fun (r : Int32) (P' : PT) => r = (ansFloors C n x v).1 ∧ RQ (ansFloors C n x v).2 P') (fun P' => wM y a P') (AM a) := by
  refine mkI (cc := cX9_floors) (maxL := 4) (ret := some .int) RX9 rfl (by decide) rfl (Or.inl rfl) (Nat.le_of_ble_eq_true rfl) ?_
  intro p e s m args below meth c Q FX hK hP ret ls hl
  obtain ⟨hx, hb, hml, hown, hts⟩ := id FX
  have hS : va_S (AM a) s.heap s.heap [] := va_S.rf
  have in9 : ∀ w ∈ wsX90, w ∈ wsX9_floors := fun _ h => List.mem_cons_of_mem _ (List.mem_append_right _ (h))
  have hl : lv_has ls 4 [(0, .ref (a 0)), (1, .int x), (2, .int v)] := hl
  obtain ⟨hi, hi5, hI, hi0⟩ := hR.iq hC hc1
  have hcl := hC.c30
  have hnl := hC.n8
  have htl := hC.t8
  have hrl := hr.2.1
  refine lv_aload_n hx hb dX9_floors_0 rfl (lv_at hl 0 rfl) ?_
  refine lv_iload_n hx hb dX9_floors_1 rfl (lv_at hl 1 rfl) ?_
  refine cViI [.int x] [] FX hK (c_X9_noHouse l D y a hA P n x hI.nn hI.n9) (cwV 1 hts gX9_floors_X9_noHouse rfl rfl rfl (by decide +kernel) ⟨Nat.le_of_ble_eq_true rfl, Nat.le_of_ble_eq_true rfl⟩) hP (pre_recv hK hP (ci := 9) (q0 := 0) rfl rfl) rfl rfl hl (Nat.le_of_ble_eq_true rfl) dX9_floors_2 ⟨Nat.zero_le _, Nat.zero_le _⟩ hS (fun _ h => h) (fun r2 u2 H locs hp2 hP hS _ _ => ?_)
  obtain rfl := hp2
  refine xb_eq (tgt := 10) hx hb dX9_floors_5 (by decide) (fun c5 => ?_) (fun c5 => ?_)
  · have k5 : inN n x := Classical.not_not.mp c5
    obtain ⟨j, hj, ej⟩ := id k5
    subst ej
    refine lv_iload_n hx hb dX9_floors_10 rfl (lv_at hl 2 rfl) ?_
    refine lv_i2l hx hb dX9_floors_11 rfl ?_
    refine lv_lconst (v := 0) hx hb dX9_floors_12 rfl ?_
    refine lv_ldc2 hx hb hown (hts _ (List.mem_of_getElem? (i := 1) rfl)) dX9_floors_13 ?_
    refine cStI [.long (v.toInt64), .long 0, .long (9)] [] FX hK (c_X9_in l D y (v.toInt64) 0 (9)) (va_cwS 3 hts gX9_floors_X9_in rfl rfl rfl (by decide +kernel) ⟨Nat.le_of_ble_eq_true rfl, Nat.le_of_ble_eq_true rfl⟩) rfl rfl hl (Nat.le_of_ble_eq_true rfl) dX9_floors_16 ⟨Nat.zero_le _, Nat.zero_le _⟩ hP hS (fun r16 H locs hp16 hP hS => ?_)
    obtain rfl := hp16
    refine xn_to hx (z := b2 (inR 0 9 v)) (b2_iff (in_R (lo := 0) (hi := 9) rfl rfl (by decide))) ?_
    refine xb_ne (tgt := 25) hx hb dX9_floors_19 (by decide) (fun c19 => ?_) (fun c19 => ?_)
    · refine lv_aload_n hx hb dX9_floors_25 rfl (lv_at hl 0 rfl) ?_
      refine mg_10 FX hK in9 hP (List.mem_of_getElem? (i := 2) rfl) dX9_floors_26 ?_
      refine lv_iload_n hx hb dX9_floors_29 rfl (lv_at hl 1 rfl) ?_
      refine ma7 (i := j) (by omega) FX hK hP dX9_floors_30 ?_
      refine xn_to hx (z := C.2 6 j) (hR.house hC (k := 6) (by decide) (by decide) (by omega)) ?_
      refine lv_istore_n (lv' := [(3, .int (C.2 6 j)), (0, .ref (a 0)), (1, .int (nI j)), (2, .int v)]) hx hb dX9_floors_31 rfl hl (by decide) rfl (fun ls hl => ?_)
      refine lv_aload_n hx hb dX9_floors_32 rfl (lv_at hl 1 rfl) ?_
      refine mg_10 FX hK in9 hP (List.mem_of_getElem? (i := 2) rfl) dX9_floors_33 ?_
      refine lv_iload_n hx hb dX9_floors_36 rfl (lv_at hl 2 rfl) ?_
      refine lv_iload_n hx hb dX9_floors_37 rfl (lv_at hl 3 rfl) ?_
      refine ms7 (i := j) (by omega) FX hK hP hA hS dX9_floors_38 (fun H locs hP hS => ?_)
      refine lv_iload_n hx hb dX9_floors_39 rfl (lv_at hl 0 rfl) ?_
      exact ret H locs 40 ls (C.2 6 j) (pa P 6 j v) dX9_floors_40 (by unfold ansFloors; rw [dN_nI (show j < 2 ^ 31 by omega), cif_t k5, cif_t c19]; exact ⟨rfl, hR.wpa (by decide) j v⟩) hP hS
    · refine lv_bipush (v := (-2)) hx hb dX9_floors_22 rfl ?_
      exact ret H locs 24 ls (-2) P dX9_floors_24 (by unfold ansFloors; rw [dN_nI (show j < 2 ^ 31 by omega), cif_t k5, cif_f c19]; exact ⟨rfl, hR⟩) hP hS
  · refine lv_iconst (v := (-1)) hx hb dX9_floors_8 rfl ?_
    exact ret H locs 9 ls (-1) P dX9_floors_9 (by unfold ansFloors; rw [cif_f c5]; exact ⟨rfl, hR⟩) hP hS

abbrev rmX9_fell : Room := { frames := 2, cells := 0, slots := 0, locals := 46 }
set_option maxRecDepth 100000 in
set_option maxHeartbeats 4000000 in
theorem c_X9_fell (l : Launch) (D : va_G) (y : Nat → ClassId) (a : Nat → Nat) (hA : CA a 26) (P : PT) (C : PT) (w cN n t rd : Nat) (x : Int32) (is : Int32)  (hR : RQ C P) (hC : IP C w cN n t) (hc1 : C.1 1 = nI cN) (hr : RD C n rd) (his : is = nI 0 ∨ is = nI 1) : CtI l D y yX9_fell wsX9_fell rmX9_fell [.ref (a 0), .int x, .int is] (wM y a P) (fun (r : Int32) (P' : PT) => r = (ansFell C t x is).1 ∧ RQ (ansFell C t x is).2 P') (fun P' => wM y a P') (AM a) := by
  refine mkI (cc := cX9_fell) (maxL := 4) (ret := some .int) RX9 rfl (by decide) rfl (Or.inl rfl) (Nat.le_of_ble_eq_true rfl) ?_
  intro p e s m args below meth c Q FX hK hP ret ls hl
  obtain ⟨hx, hb, hml, hown, hts⟩ := id FX
  have hS : va_S (AM a) s.heap s.heap [] := va_S.rf
  have in9 : ∀ w ∈ wsX90, w ∈ wsX9_fell := fun _ h => List.mem_cons_of_mem _ (List.mem_append_right _ (h))
  have hl : lv_has ls 4 [(0, .ref (a 0)), (1, .int x), (2, .int is)] := hl
  obtain ⟨hi, hi5, hI, hi0⟩ := hR.iq hC hc1
  have hcl := hC.c30
  have hnl := hC.n8
  have htl := hC.t8
  have hrl := hr.2.1
  refine lv_aload_n hx hb dX9_fell_0 rfl (lv_at hl 0 rfl) ?_
  refine lv_iload_n hx hb dX9_fell_1 rfl (lv_at hl 1 rfl) ?_
  refine cViI [.int x] [] FX hK (c_X9_noTree l D y a hA P t x hI.tt (by omega)) (cwV 1 hts gX9_fell_X9_noTree rfl rfl rfl (by decide +kernel) ⟨Nat.le_of_ble_eq_true rfl, Nat.le_of_ble_eq_true rfl⟩) hP (pre_recv hK hP (ci := 9) (q0 := 0) rfl rfl) rfl rfl hl (Nat.le_of_ble_eq_true rfl) dX9_fell_2 ⟨Nat.zero_le _, Nat.zero_le _⟩ hS (fun _ h => h) (fun r2 u2 H locs hp2 hP hS _ _ => ?_)
  obtain rfl := hp2
  refine xb_eq (tgt := 10) hx hb dX9_fell_5 (by decide) (fun c5 => ?_) (fun c5 => ?_)
  · have k5 : inN t x := Classical.not_not.mp c5
    obtain ⟨j, hj, ej⟩ := id k5
    subst ej
    refine lv_aload_n hx hb dX9_fell_10 rfl (lv_at hl 0 rfl) ?_
    refine mg_14 FX hK in9 hP (List.mem_of_getElem? (i := 1) rfl) dX9_fell_11 ?_
    refine lv_iload_n hx hb dX9_fell_14 rfl (lv_at hl 1 rfl) ?_
    refine ma10 (i := j) (by omega) FX hK hP dX9_fell_15 ?_
    refine xn_to hx (z := b2 (flP C j)) (hR.fl hC hj) ?_
    refine lv_istore_n (lv' := [(3, .int (b2 (flP C j))), (0, .ref (a 0)), (1, .int (nI j)), (2, .int is)]) hx hb dX9_fell_16 rfl hl (by decide) rfl (fun ls hl => ?_)
    refine lv_aload_n hx hb dX9_fell_17 rfl (lv_at hl 1 rfl) ?_
    refine mg_14 FX hK in9 hP (List.mem_of_getElem? (i := 1) rfl) dX9_fell_18 ?_
    refine lv_iload_n hx hb dX9_fell_21 rfl (lv_at hl 2 rfl) ?_
    refine lv_iload_n hx hb dX9_fell_22 rfl (lv_at hl 3 rfl) ?_
    refine ms10 (i := j) (by omega) FX hK hP hA hS dX9_fell_23 (fun H locs hP hS => ?_)
    refine lv_iload_n hx hb dX9_fell_24 rfl (lv_at hl 0 rfl) ?_
    refine lv_iload_n hx hb dX9_fell_25 rfl (lv_at hl 3 rfl) ?_
    refine lv_icmp_ne (tgt := 33) hx hb dX9_fell_26 (by decide) (fun c26 => ?_) (fun c26 => ?_)
    · refine lv_iconst (v := nI 1) hx hb dX9_fell_33 rfl ?_
      exact ret H locs 34 ls (nI 1) (pa P 19 j (vp_nar .boolean is)) dX9_fell_34 (by unfold ansFell; rw [dN_nI (show j < 2 ^ 31 by omega), cif_t k5, cif_f c26]; exact ⟨rfl, hR.fell hC hj his c26⟩) hP hS
    · refine lv_iconst (v := nI 0) hx hb dX9_fell_29 rfl ?_
      refine lv_goto (tgt := 34) hx hb dX9_fell_30 (by decide) ?_
      exact ret H locs 34 ls (nI 0) (pa P 19 j (vp_nar .boolean is)) dX9_fell_34 (by unfold ansFell; rw [dN_nI (show j < 2 ^ 31 by omega), cif_t k5, cif_t c26]; exact ⟨rfl, (by rw [pa_same P 19 j (by rw [vn_b his, hR.fl hC hj]; exact c26)]; exact hR)⟩) hP hS
  · refine lv_iconst (v := (-1)) hx hb dX9_fell_8 rfl ?_
    exact ret H locs 9 ls (-1) P dX9_fell_9 (by unfold ansFell; rw [cif_f c5]; exact ⟨rfl, hR⟩) hP hS

abbrev rmX9_see : Room := { frames := 3, cells := 0, slots := 0, locals := 75 }
set_option maxRecDepth 100000 in
set_option maxHeartbeats 4000000 in
theorem c_X9_see (l : Launch) (D : va_G) (y : Nat → ClassId) (a : Nat → Nat) (hA : CA a 26) (P : PT) (C : PT) (w cN n t rd : Nat) (x : Int32) (z : Int32)  (hR : RQ C P) (hC : IP C w cN n t) (hc1 : C.1 1 = nI cN) (hr : RD C n rd) : CtI l D y yX9_see wsX9_see rmX9_see [.ref (a 0), .int x, .int z] (wM y a P) (fun (r : Int32) (P' : PT) => r = (ansSee C w n x z).1 ∧ RQ (ansSee C w n x z).2 P') (fun P' => wM y a P') (AM a) := by
  refine mkI (cc := cX9_see) (maxL := 3) (ret := some .int) RX9 rfl (by decide) rfl (Or.inl rfl) (Nat.le_of_ble_eq_true rfl) ?_
  intro p e s m args below meth c Q FX hK hP ret ls hl
  obtain ⟨hx, hb, hml, hown, hts⟩ := id FX
  have hS : va_S (AM a) s.heap s.heap [] := va_S.rf
  have in9 : ∀ w ∈ wsX90, w ∈ wsX9_see := fun _ h => List.mem_cons_of_mem _ (List.mem_append_right _ (h))
  have hl : lv_has ls 3 [(0, .ref (a 0)), (1, .int x), (2, .int z)] := hl
  obtain ⟨hi, hi5, hI, hi0⟩ := hR.iq hC hc1
  have hcl := hC.c30
  have hnl := hC.n8
  have htl := hC.t8
  have hrl := hr.2.1
  refine lv_aload_n hx hb dX9_see_0 rfl (lv_at hl 0 rfl) ?_
  refine lv_iload_n hx hb dX9_see_1 rfl (lv_at hl 1 rfl) ?_
  refine cViI [.int x] [] FX hK (c_X9_noHouse l D y a hA P n x hI.nn hI.n9) (cwV 1 hts gX9_see_X9_noHouse rfl rfl rfl (by decide +kernel) ⟨Nat.le_of_ble_eq_true rfl, Nat.le_of_ble_eq_true rfl⟩) hP (pre_recv hK hP (ci := 9) (q0 := 0) rfl rfl) rfl rfl hl (Nat.le_of_ble_eq_true rfl) dX9_see_2 ⟨Nat.zero_le _, Nat.zero_le _⟩ hS (fun _ h => h) (fun r2 u2 H locs hp2 hP hS _ _ => ?_)
  obtain rfl := hp2
  refine xb_ne (tgt := 21) hx hb dX9_see_5 (by decide) (fun c5 => ?_) (fun c5 => ?_)
  · refine lv_iconst (v := (-1)) hx hb dX9_see_21 rfl ?_
    exact ret H locs 22 ls (-1) P dX9_see_22 (by unfold ansSee; rw [cif_f c5]; exact ⟨rfl, hR⟩) hP hS
  · have k5 : inN n x := Classical.not_not.mp c5
    obtain ⟨j, hj, ej⟩ := id k5
    subst ej
    refine lv_aload_n hx hb dX9_see_8 rfl (lv_at hl 0 rfl) ?_
    refine lv_iload_n hx hb dX9_see_9 rfl (lv_at hl 2 rfl) ?_
    refine cViI [.int z] [] FX hK (c_X9_noHouse l D y a hA P n z hI.nn hI.n9) (cwV 1 hts gX9_see_X9_noHouse rfl rfl rfl (by decide +kernel) ⟨Nat.le_of_ble_eq_true rfl, Nat.le_of_ble_eq_true rfl⟩) hP (pre_recv hK hP (ci := 9) (q0 := 0) rfl rfl) rfl rfl hl (Nat.le_of_ble_eq_true rfl) dX9_see_10 ⟨Nat.zero_le _, Nat.zero_le _⟩ hS (fun _ h => h) (fun r10 u10 H locs hp10 hP hS _ _ => ?_)
    obtain rfl := hp10
    refine xb_ne (tgt := 21) hx hb dX9_see_13 (by decide) (fun c13 => ?_) (fun c13 => ?_)
    · refine lv_iconst (v := (-1)) hx hb dX9_see_21 rfl ?_
      exact ret H locs 22 ls (-1) P dX9_see_22 (by unfold ansSee; rw [dN_nI (show j < 2 ^ 31 by omega), cif_t k5, cif_f c13]; exact ⟨rfl, hR⟩) hP hS
    · have k13 : inN n z := Classical.not_not.mp c13
      obtain ⟨k, hk, ek⟩ := id k13
      subst ek
      refine lv_iload_n hx hb dX9_see_16 rfl (lv_at hl 1 rfl) ?_
      refine lv_iload_n hx hb dX9_see_17 rfl (lv_at hl 2 rfl) ?_
      refine lv_icmp_ne (tgt := 23) hx hb dX9_see_18 (by decide) (fun c18 => ?_) (fun c18 => ?_)
      · refine lv_aload_n hx hb dX9_see_23 rfl (lv_at hl 0 rfl) ?_
        refine lv_iload_n hx hb dX9_see_24 rfl (lv_at hl 1 rfl) ?_
        refine lv_iload_n hx hb dX9_see_25 rfl (lv_at hl 2 rfl) ?_
        refine cViI [.int (nI j), .int (nI k)] [] FX hK (c_X9_doSee l D y a hA P w cN n t hi j k hI hj hk (fun z => c18 (by rw [z]))) (cwV 2 hts gX9_see_X9_doSee rfl rfl rfl (by decide +kernel) ⟨Nat.le_of_ble_eq_true rfl, Nat.le_of_ble_eq_true rfl⟩) hP (pre_recv hK hP (ci := 9) (q0 := 0) rfl rfl) rfl rfl hl (Nat.le_of_ble_eq_true rfl) dX9_see_26 ⟨Nat.zero_le _, Nat.zero_le _⟩ hS (fun _ h => h) (fun r26 u26 H locs hp26 hP hS _ _ => ?_)
        obtain rfl := hp26
        refine xn_to hx (z := b2 (sClr w (C.1 6) (sTop C (C.1 5) (flP C)) (plN C j) (plN C k))) (b2_iff (hR.clr hC hc1 (by omega) (by omega))) ?_
        refine xb_eq (tgt := 36) hx hb dX9_see_29 (by decide) (fun c29 => ?_) (fun c29 => ?_)
        · refine lv_iconst (v := nI 0) hx hb dX9_see_36 rfl ?_
          exact ret H locs 37 ls (nI 0) P dX9_see_37 (by unfold ansSee; rw [dN_nI (show k < 2 ^ 31 by omega), dN_nI (show j < 2 ^ 31 by omega), cif_t k5, cif_t k13, cif_f c18]; exact ⟨b2_0 c29, hR⟩) hP hS
        · refine lv_iconst (v := nI 1) hx hb dX9_see_32 rfl ?_
          refine lv_goto (tgt := 37) hx hb dX9_see_33 (by decide) ?_
          exact ret H locs 37 ls (nI 1) P dX9_see_37 (by unfold ansSee; rw [dN_nI (show k < 2 ^ 31 by omega), dN_nI (show j < 2 ^ 31 by omega), cif_t k5, cif_t k13, cif_f c18]; exact ⟨b2_1 c29, hR⟩) hP hS
      · refine lv_iconst (v := (-1)) hx hb dX9_see_21 rfl ?_
        exact ret H locs 22 ls (-1) P dX9_see_22 (by unfold ansSee; rw [dN_nI (show k < 2 ^ 31 by omega), dN_nI (show j < 2 ^ 31 by omega), cif_t k5, cif_t k13, cif_t c18]; exact ⟨rfl, hR⟩) hP hS

abbrev rmX9_number : Room := { frames := 4, cells := 0, slots := 0, locals := 98 }
set_option maxRecDepth 100000 in
set_option maxHeartbeats 4000000 in
theorem c_X9_number (l : Launch) (D : va_G) (y : Nat → ClassId) (a : Nat → Nat) (hA : CA a 26) (P : PT) (C : PT) (w cN n t rd : Nat) (x : Int32)  (hR : RQ C P) (hC : IP C w cN n t) (hc1 : C.1 1 = nI cN) (hr : RD C n rd) : CtI l D y yX9_number wsX9_number rmX9_number [.ref (a 0), .int x] (wM y a P) (fun (r : Int32) (P' : PT) => r = (ansNumber C w n x).1 ∧ RQ (ansNumber C w n x).2 P') (fun P' => wM y a P') (AM a) := by
  refine mkI (cc := cX9_number) (maxL := 2) (ret := some .int) RX9 rfl (by decide) rfl (Or.inl rfl) (Nat.le_of_ble_eq_true rfl) ?_
  intro p e s m args below meth c Q FX hK hP ret ls hl
  obtain ⟨hx, hb, hml, hown, hts⟩ := id FX
  have hS : va_S (AM a) s.heap s.heap [] := va_S.rf
  have in9 : ∀ w ∈ wsX90, w ∈ wsX9_number := fun _ h => List.mem_cons_of_mem _ (List.mem_append_right _ (h))
  have hl : lv_has ls 2 [(0, .ref (a 0)), (1, .int x)] := hl
  obtain ⟨hi, hi5, hI, hi0⟩ := hR.iq hC hc1
  have hcl := hC.c30
  have hnl := hC.n8
  have htl := hC.t8
  have hrl := hr.2.1
  refine lv_aload_n hx hb dX9_number_0 rfl (lv_at hl 0 rfl) ?_
  refine lv_iload_n hx hb dX9_number_1 rfl (lv_at hl 1 rfl) ?_
  refine cViI [.int x] [] FX hK (c_X9_noHouse l D y a hA P n x hI.nn hI.n9) (cwV 1 hts gX9_number_X9_noHouse rfl rfl rfl (by decide +kernel) ⟨Nat.le_of_ble_eq_true rfl, Nat.le_of_ble_eq_true rfl⟩) hP (pre_recv hK hP (ci := 9) (q0 := 0) rfl rfl) rfl rfl hl (Nat.le_of_ble_eq_true rfl) dX9_number_2 ⟨Nat.zero_le _, Nat.zero_le _⟩ hS (fun _ h => h) (fun r2 u2 H locs hp2 hP hS _ _ => ?_)
  obtain rfl := hp2
  refine xb_eq (tgt := 12) hx hb dX9_number_5 (by decide) (fun c5 => ?_) (fun c5 => ?_)
  · have k5 : inN n x := Classical.not_not.mp c5
    obtain ⟨j, hj, ej⟩ := id k5
    subst ej
    refine lv_aload_n hx hb dX9_number_12 rfl (lv_at hl 0 rfl) ?_
    refine lv_iload_n hx hb dX9_number_13 rfl (lv_at hl 1 rfl) ?_
    refine cViI [.int (nI j)] [] FX hK (c_X9_numberOf l D y a hA P w cN n t hi j hI (by omega)) (cwV 1 hts gX9_number_X9_numberOf rfl rfl rfl (by decide +kernel) ⟨Nat.le_of_ble_eq_true rfl, Nat.le_of_ble_eq_true rfl⟩) hP (pre_recv hK hP (ci := 9) (q0 := 0) rfl rfl) rfl rfl hl (Nat.le_of_ble_eq_true rfl) dX9_number_14 ⟨Nat.zero_le _, Nat.zero_le _⟩ hS (fun _ h => h) (fun r14 u14 H locs hp14 hP hS _ _ => ?_)
    obtain rfl := hp14
    refine xn_to hx (z := nI (numP C w n j)) (by rw [hR.num hC hc1 (by omega)]) ?_
    exact ret H locs 17 ls (nI (numP C w n j)) P dX9_number_17 (by unfold ansNumber; rw [dN_nI (show j < 2 ^ 31 by omega), cif_t k5]; exact ⟨rfl, hR⟩) hP hS
  · refine lv_iconst (v := (-1)) hx hb dX9_number_8 rfl ?_
    refine lv_goto (tgt := 17) hx hb dX9_number_9 (by decide) ?_
    exact ret H locs 17 ls (-1) P dX9_number_17 (by unfold ansNumber; rw [cif_f c5]; exact ⟨rfl, hR⟩) hP hS

abbrev rmX9_having : Room := { frames := 5, cells := 0, slots := 0, locals := 121 }
set_option maxRecDepth 100000 in
set_option maxHeartbeats 4000000 in
theorem c_X9_having (l : Launch) (D : va_G) (y : Nat → ClassId) (a : Nat → Nat) (hA : CA a 26) (P : PT) (C : PT) (w cN n t rd : Nat) (v : Int32)  (hR : RQ C P) (hC : IP C w cN n t) (hc1 : C.1 1 = nI cN) (hr : RD C n rd) : CtI l D y yX9_having wsX9_having rmX9_having [.ref (a 0), .int v] (wM y a P) (fun (r : Int32) (P' : PT) => r = (ansHaving C w cN n v).1 ∧ RQ (ansHaving C w cN n v).2 P') (fun P' => wM y a P') (AM a) := by
  refine mkI (cc := cX9_having) (maxL := 2) (ret := some .int) RX9 rfl (by decide) rfl (Or.inl rfl) (Nat.le_of_ble_eq_true rfl) ?_
  intro p e s m args below meth c Q FX hK hP ret ls hl
  obtain ⟨hx, hb, hml, hown, hts⟩ := id FX
  have hS : va_S (AM a) s.heap s.heap [] := va_S.rf
  have in9 : ∀ w ∈ wsX90, w ∈ wsX9_having := fun _ h => List.mem_cons_of_mem _ (List.mem_append_right _ (h))
  have hl : lv_has ls 2 [(0, .ref (a 0)), (1, .int v)] := hl
  obtain ⟨hi, hi5, hI, hi0⟩ := hR.iq hC hc1
  have hcl := hC.c30
  have hnl := hC.n8
  have htl := hC.t8
  have hrl := hr.2.1
  refine lv_iload_n hx hb dX9_having_0 rfl (lv_at hl 1 rfl) ?_
  refine cStI [.int v] [] FX hK (c_X9_isNumber l D y v) (va_cwS 1 hts gX9_having_X9_isNumber rfl rfl rfl (by decide +kernel) ⟨Nat.le_of_ble_eq_true rfl, Nat.le_of_ble_eq_true rfl⟩) rfl rfl hl (Nat.le_of_ble_eq_true rfl) dX9_having_1 ⟨Nat.zero_le _, Nat.zero_le _⟩ hP hS (fun r1 H locs hp1 hP hS => ?_)
  obtain rfl := hp1
  refine xb_ne (tgt := 10) hx hb dX9_having_4 (by decide) (fun c4 => ?_) (fun c4 => ?_)
  · refine lv_aload_n hx hb dX9_having_10 rfl (lv_at hl 0 rfl) ?_
    refine mg_1 FX hK in9 hP (List.mem_of_getElem? (i := 1) rfl) dX9_having_11 ?_
    refine xn_to hx (z := nI hi) hI.hh ?_
    refine xn_if_ne (tgt := 22) hx hb (by omega) dX9_having_14 (by decide) (fun c14 => ?_) (fun c14 => ?_)
    · refine lv_aload_n hx hb dX9_having_22 rfl (lv_at hl 0 rfl) ?_
      refine lv_iload_n hx hb dX9_having_23 rfl (lv_at hl 1 rfl) ?_
      refine cViI [.int v] [] FX hK (c_X9_havingNow l D y a hA P w cN n t hi v hI) (cwV 1 hts gX9_having_X9_havingNow rfl rfl rfl (by decide +kernel) ⟨Nat.le_of_ble_eq_true rfl, Nat.le_of_ble_eq_true rfl⟩) hP (pre_recv hK hP (ci := 9) (q0 := 0) rfl rfl) rfl rfl hl (Nat.le_of_ble_eq_true rfl) dX9_having_24 ⟨Nat.zero_le _, Nat.zero_le _⟩ hS (fun _ h => h) (fun r24 u24 H locs hp24 hP hS _ _ => ?_)
      obtain rfl := hp24
      refine xn_to hx (z := hav C w n v) (hR.hav hC hc1 _) ?_
      exact ret H locs 27 ls (hav C w n v) P dX9_having_27 (by unfold ansHaving; rw [cif_t c4, cif_t (show 0 < cN by omega)]; exact ⟨rfl, hR⟩) hP hS
    · refine lv_bipush (v := (-3)) hx hb dX9_having_17 rfl ?_
      refine lv_goto (tgt := 27) hx hb dX9_having_19 (by decide) ?_
      exact ret H locs 27 ls (-3) P dX9_having_27 (by unfold ansHaving; rw [cif_t c4, cif_f (show ¬ 0 < cN by omega)]; exact ⟨rfl, hR⟩) hP hS
  · refine lv_bipush (v := (-2)) hx hb dX9_having_7 rfl ?_
    exact ret H locs 9 ls (-2) P dX9_having_9 (by unfold ansHaving; rw [cif_f c4]; exact ⟨rfl, hR⟩) hP hS

abbrev rmX9_alone : Room := { frames := 5, cells := 0, slots := 0, locals := 121 }
set_option maxRecDepth 100000 in
set_option maxHeartbeats 4000000 in
theorem c_X9_alone (l : Launch) (D : va_G) (y : Nat → ClassId) (a : Nat → Nat) (hA : CA a 26) (P : PT) (C : PT) (w cN n t rd : Nat)  (hR : RQ C P) (hC : IP C w cN n t) (hc1 : C.1 1 = nI cN) (hr : RD C n rd) : CtI l D y yX9_alone wsX9_alone rmX9_alone [.ref (a 0)] (wM y a P) (fun (r : Int32) (P' : PT) => r = (ansAlone C w cN n).1 ∧ RQ (ansAlone C w cN n).2 P') (fun P' => wM y a P') (AM a) := by
  refine mkI (cc := cX9_alone) (maxL := 4) (ret := some .int) RX9 rfl (by decide) rfl (Or.inl rfl) (Nat.le_of_ble_eq_true rfl) ?_
  intro p e s m args below meth c Q FX hK hP ret ls hl
  obtain ⟨hx, hb, hml, hown, hts⟩ := id FX
  have hS : va_S (AM a) s.heap s.heap [] := va_S.rf
  have in9 : ∀ w ∈ wsX90, w ∈ wsX9_alone := fun _ h => List.mem_cons_of_mem _ (List.mem_append_right _ (h))
  have hl : lv_has ls 4 [(0, .ref (a 0))] := hl
  obtain ⟨hi, hi5, hI, hi0⟩ := hR.iq hC hc1
  have hcl := hC.c30
  have hnl := hC.n8
  have htl := hC.t8
  have hrl := hr.2.1
  refine lv_aload_n hx hb dX9_alone_0 rfl (lv_at hl 0 rfl) ?_
  refine mg_1 FX hK in9 hP (List.mem_of_getElem? (i := 1) rfl) dX9_alone_1 ?_
  refine xn_to hx (z := nI hi) hI.hh ?_
  refine xn_if_ne (tgt := 10) hx hb (by omega) dX9_alone_4 (by decide) (fun c4 => ?_) (fun c4 => ?_)
  · refine lv_iconst (v := nI 0) hx hb dX9_alone_10 rfl ?_
    refine lv_istore_n (lv' := [(1, .int (nI 0)), (0, .ref (a 0))]) hx hb dX9_alone_11 rfl hl (by decide) rfl (fun ls hl => ?_)
    refine lv_iconst (v := nI 0) hx hb dX9_alone_12 rfl ?_
    refine lv_istore_n (lv' := [(2, .int (nI 0)), (1, .int (nI 0)), (0, .ref (a 0))]) hx hb dX9_alone_13 rfl hl (by decide) rfl (fun ls hl => ?_)
    have L14 : ∀ (N : Nat) (k : Nat), (k ≤ 8) → 8 - k < N → ∀ (H : Heap) (locs : List Loc) (ls : Array Slot), va_P D vwCl (wM y a P) H → va_S (AM a) s.heap H locs → lv_has ls 4 [(0, .ref (a 0)), (1, .int (aloneS C w n k)), (2, .int (nI k))] → W p l e rmX9_alone s m args below meth c H locs 0 0 Q (F0 m 14 ls []) := by
      intro N14
      induction N14 with
      | zero => intro k hk hmeas; exact absurd hmeas (Nat.not_lt_zero _)
      | succ N14 ih14 =>
        intro k hk hmeas H locs ls hP hS hl
        refine lv_iload_n hx hb dX9_alone_14 rfl (lv_at hl 2 rfl) ?_
        refine lv_bipush (v := nI 8) hx hb dX9_alone_15 rfl ?_
        refine xn_icmp_ge (tgt := 48) hx hb (by omega) (by omega) dX9_alone_17 (by decide) (fun c17 => ?_) (fun c17 => ?_)
        · refine lv_iload_n hx hb dX9_alone_48 rfl (lv_at hl 1 rfl) ?_
          exact ret H locs 49 ls (aloneS C w n k) P dX9_alone_49 (by unfold ansAlone; rw [cif_t (show 0 < cN by omega)]; rw [show k = 8 by omega]; exact ⟨rfl, hR⟩) hP hS
        · refine lv_aload_n hx hb dX9_alone_20 rfl (lv_at hl 0 rfl) ?_
          refine lv_iload_n hx hb dX9_alone_21 rfl (lv_at hl 2 rfl) ?_
          refine cViI [.int (nI k)] [] FX hK (c_X9_havingNow l D y a hA P w cN n t hi (nI k) hI) (cwV 1 hts gX9_alone_X9_havingNow rfl rfl rfl (by decide +kernel) ⟨Nat.le_of_ble_eq_true rfl, Nat.le_of_ble_eq_true rfl⟩) hP (pre_recv hK hP (ci := 9) (q0 := 0) rfl rfl) rfl rfl hl (Nat.le_of_ble_eq_true rfl) dX9_alone_22 ⟨Nat.zero_le _, Nat.zero_le _⟩ hS (fun _ h => h) (fun r22 u22 H locs hp22 hP hS _ _ => ?_)
          obtain rfl := hp22
          refine xn_to hx (z := nI (dN (hav C w n (nI k)))) ((hR.hav hC hc1 _).trans (hav_dN hC.n8 _).1) ?_
          refine lv_istore_n (lv' := [(3, .int (nI (dN (hav C w n (nI k))))), (0, .ref (a 0)), (1, .int (aloneS C w n k)), (2, .int (nI k))]) hx hb dX9_alone_25 rfl hl (by decide) rfl (fun ls hl => ?_)
          refine lv_iload_n hx hb dX9_alone_26 rfl (lv_at hl 2 rfl) ?_
          refine lv_iload_n hx hb dX9_alone_27 rfl (lv_at hl 0 rfl) ?_
          refine cStI [.int (nI (dN (hav C w n (nI k))))] [.int (aloneS C w n k)] FX hK (c_X9_bits l D y (dN (hav C w n (nI k))) (hav_dN hC.n8 _).2) (va_cwS 1 hts gX9_alone_X9_bits rfl rfl rfl (by decide +kernel) ⟨Nat.le_of_ble_eq_true rfl, Nat.le_of_ble_eq_true rfl⟩) rfl rfl hl (Nat.le_of_ble_eq_true rfl) dX9_alone_28 ⟨Nat.zero_le _, Nat.zero_le _⟩ hP hS (fun r28 H locs hp28 hP hS => ?_)
          obtain rfl := hp28
          refine lv_iconst (v := nI 1) hx hb dX9_alone_31 rfl ?_
          refine xn_icmp_ne (tgt := 39) hx hb (Nat.lt_of_le_of_lt (pcn_le _) (by decide)) (by decide) dX9_alone_32 (by decide) (fun c32 => ?_) (fun c32 => ?_)
          · refine lv_iconst (v := nI 0) hx hb dX9_alone_39 rfl ?_
            refine lv_ior hx hb dX9_alone_40 ?_
            refine lv_istore_n (lv' := [(1, .int ((aloneS C w n k) ||| (nI 0))), (3, .int (nI (dN (hav C w n (nI k))))), (0, .ref (a 0)), (2, .int (nI k))]) hx hb dX9_alone_41 rfl hl (by decide) rfl (fun ls hl => ?_)
            refine lv_iinc (v := nI (k + 1)) (lv' := [(2, .int (nI (k + 1))), (1, .int ((aloneS C w n k) ||| (nI 0))), (3, .int (nI (dN (hav C w n (nI k))))), (0, .ref (a 0))]) hx hb dX9_alone_42 hl (k := 3) rfl (xn_inc k 1) (by decide) rfl (fun ls hl => ?_)
            refine lv_goto (tgt := 14) hx hb dX9_alone_45 (by decide) ?_
            rw [or_nI0] at hl
            rw [← alone_f c32] at hl
            exact ih14 (k + 1) (by omega) (by omega) H locs ls hP hS (lv_sub hl [3, 1, 0] rfl)
          · refine lv_iload_n hx hb dX9_alone_35 rfl (lv_at hl 0 rfl) ?_
            refine lv_goto (tgt := 40) hx hb dX9_alone_36 (by decide) ?_
            refine lv_ior hx hb dX9_alone_40 ?_
            refine lv_istore_n (lv' := [(1, .int ((aloneS C w n k) ||| (nI (dN (hav C w n (nI k)))))), (3, .int (nI (dN (hav C w n (nI k))))), (0, .ref (a 0)), (2, .int (nI k))]) hx hb dX9_alone_41 rfl hl (by decide) rfl (fun ls hl => ?_)
            refine lv_iinc (v := nI (k + 1)) (lv' := [(2, .int (nI (k + 1))), (1, .int ((aloneS C w n k) ||| (nI (dN (hav C w n (nI k)))))), (3, .int (nI (dN (hav C w n (nI k))))), (0, .ref (a 0))]) hx hb dX9_alone_42 hl (k := 3) rfl (xn_inc k 1) (by decide) rfl (fun ls hl => ?_)
            refine lv_goto (tgt := 14) hx hb dX9_alone_45 (by decide) ?_
            rw [← (hav_dN (P := C) (w := w) hC.n8 (nI k)).1] at hl
            rw [← alone_t c32] at hl
            exact ih14 (k + 1) (by omega) (by omega) H locs ls hP hS (lv_sub hl [3, 1, 0] rfl)
    exact L14 _ 0 (Nat.zero_le _) (Nat.lt_succ_self _) s.heap [] ls hP hS (lv_sub hl [2, 1, 0] rfl)
  · refine lv_bipush (v := (-3)) hx hb dX9_alone_7 rfl ?_
    exact ret s.heap [] 9 ls (-3) P dX9_alone_9 (by unfold ansAlone; rw [cif_f (show ¬ 0 < cN by omega)]; exact ⟨rfl, hR⟩) hP hS

abbrev rmX9_letter : Room := { frames := 5, cells := 0, slots := 0, locals := 121 }
set_option maxRecDepth 100000 in
set_option maxHeartbeats 4000000 in
theorem c_X9_letter (l : Launch) (D : va_G) (y : Nat → ClassId) (a : Nat → Nat) (hA : CA a 26) (P : PT) (C : PT) (w cN n t rd : Nat) (v : Int32) (z : Int32)  (hR : RQ C P) (hC : IP C w cN n t) (hc1 : C.1 1 = nI cN) (hr : RD C n rd) : CtI l D y yX9_letter wsX9_letter rmX9_letter [.ref (a 0), .int v, .int z] (wM y a P) (fun (r : Int32) (P' : PT) => r = (ansLetter C w cN n v z).1 ∧ RQ (ansLetter C w cN n v z).2 P') (fun P' => wM y a P') (AM a) := by
  refine mkI (cc := cX9_letter) (maxL := 9) (ret := some .int) RX9 rfl (by decide) rfl (Or.inl rfl) (Nat.le_of_ble_eq_true rfl) ?_
  intro p e s m args below meth c Q FX hK hP ret ls hl
  obtain ⟨hx, hb, hml, hown, hts⟩ := id FX
  have hS : va_S (AM a) s.heap s.heap [] := va_S.rf
  have in9 : ∀ w ∈ wsX90, w ∈ wsX9_letter := fun _ h => List.mem_cons_of_mem _ (List.mem_append_right _ (h))
  have hl : lv_has ls 9 [(0, .ref (a 0)), (1, .int v), (2, .int z)] := hl
  obtain ⟨hi, hi5, hI, hi0⟩ := hR.iq hC hc1
  have hcl := hC.c30
  have hnl := hC.n8
  have htl := hC.t8
  have hrl := hr.2.1
  refine lv_iload_n hx hb dX9_letter_0 rfl (lv_at hl 1 rfl) ?_
  refine cStI [.int v] [] FX hK (c_X9_isNumber l D y v) (va_cwS 1 hts gX9_letter_X9_isNumber rfl rfl rfl (by decide +kernel) ⟨Nat.le_of_ble_eq_true rfl, Nat.le_of_ble_eq_true rfl⟩) rfl rfl hl (Nat.le_of_ble_eq_true rfl) dX9_letter_1 ⟨Nat.zero_le _, Nat.zero_le _⟩ hP hS (fun r1 H locs hp1 hP hS => ?_)
  obtain rfl := hp1
  refine xb_eq (tgt := 14) hx hb dX9_letter_4 (by decide) (fun c4 => ?_) (fun c4 => ?_)
  · refine lv_bipush (v := (-2)) hx hb dX9_letter_14 rfl ?_
    exact ret H locs 16 ls (-2) P dX9_letter_16 (by unfold ansLetter; rw [cif_f c4]; exact ⟨rfl, hR⟩) hP hS
  · refine lv_iload_n hx hb dX9_letter_7 rfl (lv_at hl 2 rfl) ?_
    refine cStI [.int z] [] FX hK (c_X9_isNumber l D y z) (va_cwS 1 hts gX9_letter_X9_isNumber rfl rfl rfl (by decide +kernel) ⟨Nat.le_of_ble_eq_true rfl, Nat.le_of_ble_eq_true rfl⟩) rfl rfl hl (Nat.le_of_ble_eq_true rfl) dX9_letter_8 ⟨Nat.zero_le _, Nat.zero_le _⟩ hP hS (fun r8 H locs hp8 hP hS => ?_)
    obtain rfl := hp8
    refine xb_ne (tgt := 17) hx hb dX9_letter_11 (by decide) (fun c11 => ?_) (fun c11 => ?_)
    · refine lv_aload_n hx hb dX9_letter_17 rfl (lv_at hl 0 rfl) ?_
      refine mg_1 FX hK in9 hP (List.mem_of_getElem? (i := 1) rfl) dX9_letter_18 ?_
      refine xn_to hx (z := nI hi) hI.hh ?_
      refine xn_if_ne (tgt := 27) hx hb (by omega) dX9_letter_21 (by decide) (fun c21 => ?_) (fun c21 => ?_)
      · refine lv_aload_n hx hb dX9_letter_27 rfl (lv_at hl 0 rfl) ?_
        refine lv_iload_n hx hb dX9_letter_28 rfl (lv_at hl 1 rfl) ?_
        refine cViI [.int v] [] FX hK (c_X9_havingNow l D y a hA P w cN n t hi v hI) (cwV 1 hts gX9_letter_X9_havingNow rfl rfl rfl (by decide +kernel) ⟨Nat.le_of_ble_eq_true rfl, Nat.le_of_ble_eq_true rfl⟩) hP (pre_recv hK hP (ci := 9) (q0 := 0) rfl rfl) rfl rfl hl (Nat.le_of_ble_eq_true rfl) dX9_letter_29 ⟨Nat.zero_le _, Nat.zero_le _⟩ hS (fun _ h => h) (fun r29 u29 H locs hp29 hP hS _ _ => ?_)
        obtain rfl := hp29
        refine xn_to hx (z := hav C w n v) (hR.hav hC hc1 _) ?_
        refine lv_istore_n (lv' := [(3, .int (hav C w n v)), (0, .ref (a 0)), (1, .int v), (2, .int z)]) hx hb dX9_letter_32 rfl hl (by decide) rfl (fun ls hl => ?_)
        refine lv_aload_n hx hb dX9_letter_33 rfl (lv_at hl 1 rfl) ?_
        refine lv_iload_n hx hb dX9_letter_34 rfl (lv_at hl 3 rfl) ?_
        refine cViI [.int z] [] FX hK (c_X9_havingNow l D y a hA P w cN n t hi z hI) (cwV 1 hts gX9_letter_X9_havingNow rfl rfl rfl (by decide +kernel) ⟨Nat.le_of_ble_eq_true rfl, Nat.le_of_ble_eq_true rfl⟩) hP (pre_recv hK hP (ci := 9) (q0 := 0) rfl rfl) rfl rfl hl (Nat.le_of_ble_eq_true rfl) dX9_letter_35 ⟨Nat.zero_le _, Nat.zero_le _⟩ hS (fun _ h => h) (fun r35 u35 H locs hp35 hP hS _ _ => ?_)
        obtain rfl := hp35
        refine xn_to hx (z := hav C w n z) (hR.hav hC hc1 _) ?_
        refine lv_istore (lv' := [(4, .int (hav C w n z)), (3, .int (hav C w n v)), (0, .ref (a 0)), (1, .int v), (2, .int z)]) hx hb dX9_letter_38 hl (by decide) rfl (fun ls hl => ?_)
        refine lv_iconst (v := nI 0) hx hb dX9_letter_40 rfl ?_
        refine lv_istore (lv' := [(5, .int (nI 0)), (4, .int (hav C w n z)), (3, .int (hav C w n v)), (0, .ref (a 0)), (1, .int v), (2, .int z)]) hx hb dX9_letter_41 hl (by decide) rfl (fun ls hl => ?_)
        refine lv_iconst (v := nI 0) hx hb dX9_letter_43 rfl ?_
        refine lv_istore (lv' := [(6, .int (nI 0)), (5, .int (nI 0)), (4, .int (hav C w n z)), (3, .int (hav C w n v)), (0, .ref (a 0)), (1, .int v), (2, .int z)]) hx hb dX9_letter_44 hl (by decide) rfl (fun ls hl => ?_)
        have L46 : ∀ (N : Nat) (h : Nat), (h ≤ n) → n - h < N → ∀ (H : Heap) (locs : List Loc) (ls : Array Slot), va_P D vwCl (wM y a P) H → va_S (AM a) s.heap H locs → lv_has ls 9 [(0, .ref (a 0)), (3, .int (hav C w n v)), (4, .int (hav C w n z)), (5, .int (msk (fun h => tbI (hav C w n v) (nI h) ∧ ∃ o, o < n ∧ o ≠ h ∧ tbI (hav C w n z) (nI o) ∧ sClr w (C.1 6) (sTop C (C.1 5) (flP C)) (plN C o) (plN C h)) h)), (6, .int (nI h))] → W p l e rmX9_letter s m args below meth c H locs 0 0 Q (F0 m 46 ls []) := by
          intro N46
          induction N46 with
          | zero => intro h hh hmeas; exact absurd hmeas (Nat.not_lt_zero _)
          | succ N46 ih46 =>
            intro h hh hmeas H locs ls hP hS hl
            refine lv_iload hx hb dX9_letter_46 (lv_at hl 4 rfl) ?_
            refine lv_aload_n hx hb dX9_letter_48 rfl (lv_at hl 0 rfl) ?_
            refine mg_6 FX hK in9 hP (List.mem_of_getElem? (i := 2) rfl) dX9_letter_49 ?_
            refine xn_to hx (z := nI n) hI.nn ?_
            refine xn_icmp_ge (tgt := 141) hx hb (by omega) (by omega) dX9_letter_52 (by decide) (fun c52 => ?_) (fun c52 => ?_)
            · refine lv_iload hx hb dX9_letter_141 (lv_at hl 3 rfl) ?_
              exact ret H locs 143 ls (msk (fun h => tbI (hav C w n v) (nI h) ∧ ∃ o, o < n ∧ o ≠ h ∧ tbI (hav C w n z) (nI o) ∧ sClr w (C.1 6) (sTop C (C.1 5) (flP C)) (plN C o) (plN C h)) h) P dX9_letter_143 (by unfold ansLetter; rw [cif_t c4, cif_t c11, cif_t (show 0 < cN by omega)]; rw [show n = h by omega]; exact ⟨rfl, hR⟩) hP hS
            · refine lv_iconst (v := nI 0) hx hb dX9_letter_55 rfl ?_
              refine lv_istore (lv' := [(7, .int (nI 0)), (0, .ref (a 0)), (3, .int (hav C w n v)), (4, .int (hav C w n z)), (5, .int (msk (fun h => tbI (hav C w n v) (nI h) ∧ ∃ o, o < n ∧ o ≠ h ∧ tbI (hav C w n z) (nI o) ∧ sClr w (C.1 6) (sTop C (C.1 5) (flP C)) (plN C o) (plN C h)) h)), (6, .int (nI h))]) hx hb dX9_letter_56 hl (by decide) rfl (fun ls hl => ?_)
              have L58 : ∀ (N : Nat) (i : Nat), (i ≤ n) → n - i < N → ∀ (H : Heap) (locs : List Loc) (ls : Array Slot), va_P D vwCl (wM y a P) H → va_S (AM a) s.heap H locs → lv_has ls 9 [(0, .ref (a 0)), (3, .int (hav C w n v)), (4, .int (hav C w n z)), (5, .int (msk (fun h => tbI (hav C w n v) (nI h) ∧ ∃ o, o < n ∧ o ≠ h ∧ tbI (hav C w n z) (nI o) ∧ sClr w (C.1 6) (sTop C (C.1 5) (flP C)) (plN C o) (plN C h)) h ||| orc (∃ o, o < i ∧ (fun o => ¬ h = o ∧ (tbI (hav C w n v) (nI h) ∧ (tbI (hav C w n z) (nI o) ∧ sClr w (C.1 6) (sTop C (C.1 5) (flP C)) (plN C o) (plN C h)))) o) (nI 1 <<< (nI h &&& 31)))), (6, .int (nI h)), (7, .int (nI i))] → W p l e rmX9_letter s m args below meth c H locs 0 0 Q (F0 m 58 ls []) := by
                intro N58
                induction N58 with
                | zero => intro i hi9 hmeas; exact absurd hmeas (Nat.not_lt_zero _)
                | succ N58 ih58 =>
                  intro i hi9 hmeas H locs ls hP hS hl
                  refine lv_iload hx hb dX9_letter_58 (lv_at hl 5 rfl) ?_
                  refine lv_aload_n hx hb dX9_letter_60 rfl (lv_at hl 0 rfl) ?_
                  refine mg_6 FX hK in9 hP (List.mem_of_getElem? (i := 2) rfl) dX9_letter_61 ?_
                  refine xn_to hx (z := nI n) hI.nn ?_
                  refine xn_icmp_ge (tgt := 135) hx hb (by omega) (by omega) dX9_letter_64 (by decide) (fun c64 => ?_) (fun c64 => ?_)
                  · refine lv_iinc (v := nI (h + 1)) (lv' := [(6, .int (nI (h + 1))), (0, .ref (a 0)), (3, .int (hav C w n v)), (4, .int (hav C w n z)), (5, .int (msk (fun h => tbI (hav C w n v) (nI h) ∧ ∃ o, o < n ∧ o ≠ h ∧ tbI (hav C w n z) (nI o) ∧ sClr w (C.1 6) (sTop C (C.1 5) (flP C)) (plN C o) (plN C h)) h ||| orc (∃ o, o < i ∧ (fun o => ¬ h = o ∧ (tbI (hav C w n v) (nI h) ∧ (tbI (hav C w n z) (nI o) ∧ sClr w (C.1 6) (sTop C (C.1 5) (flP C)) (plN C o) (plN C h)))) o) (nI 1 <<< (nI h &&& 31)))), (7, .int (nI i))]) hx hb dX9_letter_135 hl (k := 4) rfl (xn_inc h 1) (by decide) rfl (fun ls hl => ?_)
                    refine lv_goto (tgt := 46) hx hb dX9_letter_138 (by decide) ?_
                    rw [show i = n by omega] at hl
                    rw [orc_end (p := (fun h => tbI (hav C w n v) (nI h) ∧ ∃ o, o < n ∧ o ≠ h ∧ tbI (hav C w n z) (nI o) ∧ sClr w (C.1 6) (sTop C (C.1 5) (flP C)) (plN C o) (plN C h))) (h := h) ⟨fun ⟨o, h1, h2, h3, h4, h5⟩ => ⟨h3, o, h1, fun q => h2 q.symm, h4, h5⟩, fun ⟨h3, o, h1, h2, h4, h5⟩ => ⟨o, h1, fun q => h2 q.symm, h3, h4, h5⟩⟩] at hl
                    exact ih46 (h + 1) (by omega) (by omega) H locs ls hP hS (lv_sub hl [1, 2, 3, 4, 0] rfl)
                  · refine lv_iload hx hb dX9_letter_67 (lv_at hl 4 rfl) ?_
                    refine lv_iload hx hb dX9_letter_69 (lv_at hl 5 rfl) ?_
                    refine xn_icmp_eq (tgt := 97) hx hb (by omega) (by omega) dX9_letter_71 (by decide) (fun c71 => ?_) (fun c71 => ?_)
                    · refine lv_iconst (v := nI 0) hx hb dX9_letter_97 rfl ?_
                      refine xn_to hx (z := b2 False) (b2_0 (fun z => z)) ?_
                      refine lv_istore (lv' := [(8, .int (b2 False)), (0, .ref (a 0)), (3, .int (hav C w n v)), (4, .int (hav C w n z)), (5, .int (msk (fun h => tbI (hav C w n v) (nI h) ∧ ∃ o, o < n ∧ o ≠ h ∧ tbI (hav C w n z) (nI o) ∧ sClr w (C.1 6) (sTop C (C.1 5) (flP C)) (plN C o) (plN C h)) h ||| orc (∃ o, o < i ∧ (fun o => ¬ h = o ∧ (tbI (hav C w n v) (nI h) ∧ (tbI (hav C w n z) (nI o) ∧ sClr w (C.1 6) (sTop C (C.1 5) (flP C)) (plN C o) (plN C h)))) o) (nI 1 <<< (nI h &&& 31)))), (6, .int (nI h)), (7, .int (nI i))]) hx hb dX9_letter_98 hl (by decide) rfl (fun ls hl => ?_)
                      refine lv_iload hx hb dX9_letter_100 (lv_at hl 4 rfl) ?_
                      refine lv_iload hx hb dX9_letter_102 (lv_at hl 0 rfl) ?_
                      refine xb_eq (tgt := 125) hx hb dX9_letter_104 (by decide) (fun c104 => ?_) (fun c104 => ?_)
                      · refine lv_iconst (v := nI 0) hx hb dX9_letter_125 rfl ?_
                        refine lv_ior hx hb dX9_letter_126 ?_
                        refine lv_istore (lv' := [(5, .int ((msk (fun h => tbI (hav C w n v) (nI h) ∧ ∃ o, o < n ∧ o ≠ h ∧ tbI (hav C w n z) (nI o) ∧ sClr w (C.1 6) (sTop C (C.1 5) (flP C)) (plN C o) (plN C h)) h ||| orc (∃ o, o < i ∧ (fun o => ¬ h = o ∧ (tbI (hav C w n v) (nI h) ∧ (tbI (hav C w n z) (nI o) ∧ sClr w (C.1 6) (sTop C (C.1 5) (flP C)) (plN C o) (plN C h)))) o) (nI 1 <<< (nI h &&& 31))) ||| (nI 0))), (8, .int (b2 False)), (0, .ref (a 0)), (3, .int (hav C w n v)), (4, .int (hav C w n z)), (6, .int (nI h)), (7, .int (nI i))]) hx hb dX9_letter_127 hl (by decide) rfl (fun ls hl => ?_)
                        refine lv_iinc (v := nI (i + 1)) (lv' := [(7, .int (nI (i + 1))), (5, .int ((msk (fun h => tbI (hav C w n v) (nI h) ∧ ∃ o, o < n ∧ o ≠ h ∧ tbI (hav C w n z) (nI o) ∧ sClr w (C.1 6) (sTop C (C.1 5) (flP C)) (plN C o) (plN C h)) h ||| orc (∃ o, o < i ∧ (fun o => ¬ h = o ∧ (tbI (hav C w n v) (nI h) ∧ (tbI (hav C w n z) (nI o) ∧ sClr w (C.1 6) (sTop C (C.1 5) (flP C)) (plN C o) (plN C h)))) o) (nI 1 <<< (nI h &&& 31))) ||| (nI 0))), (8, .int (b2 False)), (0, .ref (a 0)), (3, .int (hav C w n v)), (4, .int (hav C w n z)), (6, .int (nI h))]) hx hb dX9_letter_129 hl (k := 6) rfl (xn_inc i 1) (by decide) rfl (fun ls hl => ?_)
                        refine lv_goto (tgt := 58) hx hb dX9_letter_132 (by decide) ?_
                        rw [or_nI0] at hl
                        rw [orc_f (q := (fun o => ¬ h = o ∧ (tbI (hav C w n v) (nI h) ∧ (tbI (hav C w n z) (nI o) ∧ sClr w (C.1 6) (sTop C (C.1 5) (flP C)) (plN C o) (plN C h))))) (i := i) (by first | exact (fun z => z.1 c71) | exact (fun z => c80 z.2.1) | exact (fun z => c90 z.2.2.1) | exact (fun z => c115 z.2.2.2))] at hl
                        exact ih58 (i + 1) (by omega) (by omega) H locs ls hP hS (lv_sub hl [3, 4, 5, 1, 6, 0] rfl)
                      · exact c104.elim
                    · refine lv_iload_n hx hb dX9_letter_74 rfl (lv_at hl 1 rfl) ?_
                      refine lv_iload hx hb dX9_letter_75 (lv_at hl 4 rfl) ?_
                      refine cStI [.int (hav C w n v), .int (nI h)] [] FX hK (c_X9_isIn l D y (hav C w n v) (nI h)) (va_cwS 2 hts gX9_letter_X9_isIn rfl rfl rfl (by decide +kernel) ⟨Nat.le_of_ble_eq_true rfl, Nat.le_of_ble_eq_true rfl⟩) rfl rfl hl (Nat.le_of_ble_eq_true rfl) dX9_letter_77 ⟨Nat.zero_le _, Nat.zero_le _⟩ hP hS (fun r77 H locs hp77 hP hS => ?_)
                      obtain rfl := hp77
                      refine xb_eq (tgt := 97) hx hb dX9_letter_80 (by decide) (fun c80 => ?_) (fun c80 => ?_)
                      · refine lv_iconst (v := nI 0) hx hb dX9_letter_97 rfl ?_
                        refine xn_to hx (z := b2 False) (b2_0 (fun z => z)) ?_
                        refine lv_istore (lv' := [(8, .int (b2 False)), (0, .ref (a 0)), (3, .int (hav C w n v)), (4, .int (hav C w n z)), (5, .int (msk (fun h => tbI (hav C w n v) (nI h) ∧ ∃ o, o < n ∧ o ≠ h ∧ tbI (hav C w n z) (nI o) ∧ sClr w (C.1 6) (sTop C (C.1 5) (flP C)) (plN C o) (plN C h)) h ||| orc (∃ o, o < i ∧ (fun o => ¬ h = o ∧ (tbI (hav C w n v) (nI h) ∧ (tbI (hav C w n z) (nI o) ∧ sClr w (C.1 6) (sTop C (C.1 5) (flP C)) (plN C o) (plN C h)))) o) (nI 1 <<< (nI h &&& 31)))), (6, .int (nI h)), (7, .int (nI i))]) hx hb dX9_letter_98 hl (by decide) rfl (fun ls hl => ?_)
                        refine lv_iload hx hb dX9_letter_100 (lv_at hl 4 rfl) ?_
                        refine lv_iload hx hb dX9_letter_102 (lv_at hl 0 rfl) ?_
                        refine xb_eq (tgt := 125) hx hb dX9_letter_104 (by decide) (fun c104 => ?_) (fun c104 => ?_)
                        · refine lv_iconst (v := nI 0) hx hb dX9_letter_125 rfl ?_
                          refine lv_ior hx hb dX9_letter_126 ?_
                          refine lv_istore (lv' := [(5, .int ((msk (fun h => tbI (hav C w n v) (nI h) ∧ ∃ o, o < n ∧ o ≠ h ∧ tbI (hav C w n z) (nI o) ∧ sClr w (C.1 6) (sTop C (C.1 5) (flP C)) (plN C o) (plN C h)) h ||| orc (∃ o, o < i ∧ (fun o => ¬ h = o ∧ (tbI (hav C w n v) (nI h) ∧ (tbI (hav C w n z) (nI o) ∧ sClr w (C.1 6) (sTop C (C.1 5) (flP C)) (plN C o) (plN C h)))) o) (nI 1 <<< (nI h &&& 31))) ||| (nI 0))), (8, .int (b2 False)), (0, .ref (a 0)), (3, .int (hav C w n v)), (4, .int (hav C w n z)), (6, .int (nI h)), (7, .int (nI i))]) hx hb dX9_letter_127 hl (by decide) rfl (fun ls hl => ?_)
                          refine lv_iinc (v := nI (i + 1)) (lv' := [(7, .int (nI (i + 1))), (5, .int ((msk (fun h => tbI (hav C w n v) (nI h) ∧ ∃ o, o < n ∧ o ≠ h ∧ tbI (hav C w n z) (nI o) ∧ sClr w (C.1 6) (sTop C (C.1 5) (flP C)) (plN C o) (plN C h)) h ||| orc (∃ o, o < i ∧ (fun o => ¬ h = o ∧ (tbI (hav C w n v) (nI h) ∧ (tbI (hav C w n z) (nI o) ∧ sClr w (C.1 6) (sTop C (C.1 5) (flP C)) (plN C o) (plN C h)))) o) (nI 1 <<< (nI h &&& 31))) ||| (nI 0))), (8, .int (b2 False)), (0, .ref (a 0)), (3, .int (hav C w n v)), (4, .int (hav C w n z)), (6, .int (nI h))]) hx hb dX9_letter_129 hl (k := 6) rfl (xn_inc i 1) (by decide) rfl (fun ls hl => ?_)
                          refine lv_goto (tgt := 58) hx hb dX9_letter_132 (by decide) ?_
                          rw [or_nI0] at hl
                          rw [orc_f (q := (fun o => ¬ h = o ∧ (tbI (hav C w n v) (nI h) ∧ (tbI (hav C w n z) (nI o) ∧ sClr w (C.1 6) (sTop C (C.1 5) (flP C)) (plN C o) (plN C h))))) (i := i) (by first | exact (fun z => z.1 c71) | exact (fun z => c80 z.2.1) | exact (fun z => c90 z.2.2.1) | exact (fun z => c115 z.2.2.2))] at hl
                          exact ih58 (i + 1) (by omega) (by omega) H locs ls hP hS (lv_sub hl [3, 4, 5, 1, 6, 0] rfl)
                        · exact c104.elim
                      · refine lv_iload hx hb dX9_letter_83 (lv_at hl 2 rfl) ?_
                        refine lv_iload hx hb dX9_letter_85 (lv_at hl 5 rfl) ?_
                        refine cStI [.int (hav C w n z), .int (nI i)] [] FX hK (c_X9_isIn l D y (hav C w n z) (nI i)) (va_cwS 2 hts gX9_letter_X9_isIn rfl rfl rfl (by decide +kernel) ⟨Nat.le_of_ble_eq_true rfl, Nat.le_of_ble_eq_true rfl⟩) rfl rfl hl (Nat.le_of_ble_eq_true rfl) dX9_letter_87 ⟨Nat.zero_le _, Nat.zero_le _⟩ hP hS (fun r87 H locs hp87 hP hS => ?_)
                        obtain rfl := hp87
                        refine xb_eq (tgt := 97) hx hb dX9_letter_90 (by decide) (fun c90 => ?_) (fun c90 => ?_)
                        · refine lv_iconst (v := nI 0) hx hb dX9_letter_97 rfl ?_
                          refine xn_to hx (z := b2 False) (b2_0 (fun z => z)) ?_
                          refine lv_istore (lv' := [(8, .int (b2 False)), (0, .ref (a 0)), (3, .int (hav C w n v)), (4, .int (hav C w n z)), (5, .int (msk (fun h => tbI (hav C w n v) (nI h) ∧ ∃ o, o < n ∧ o ≠ h ∧ tbI (hav C w n z) (nI o) ∧ sClr w (C.1 6) (sTop C (C.1 5) (flP C)) (plN C o) (plN C h)) h ||| orc (∃ o, o < i ∧ (fun o => ¬ h = o ∧ (tbI (hav C w n v) (nI h) ∧ (tbI (hav C w n z) (nI o) ∧ sClr w (C.1 6) (sTop C (C.1 5) (flP C)) (plN C o) (plN C h)))) o) (nI 1 <<< (nI h &&& 31)))), (6, .int (nI h)), (7, .int (nI i))]) hx hb dX9_letter_98 hl (by decide) rfl (fun ls hl => ?_)
                          refine lv_iload hx hb dX9_letter_100 (lv_at hl 4 rfl) ?_
                          refine lv_iload hx hb dX9_letter_102 (lv_at hl 0 rfl) ?_
                          refine xb_eq (tgt := 125) hx hb dX9_letter_104 (by decide) (fun c104 => ?_) (fun c104 => ?_)
                          · refine lv_iconst (v := nI 0) hx hb dX9_letter_125 rfl ?_
                            refine lv_ior hx hb dX9_letter_126 ?_
                            refine lv_istore (lv' := [(5, .int ((msk (fun h => tbI (hav C w n v) (nI h) ∧ ∃ o, o < n ∧ o ≠ h ∧ tbI (hav C w n z) (nI o) ∧ sClr w (C.1 6) (sTop C (C.1 5) (flP C)) (plN C o) (plN C h)) h ||| orc (∃ o, o < i ∧ (fun o => ¬ h = o ∧ (tbI (hav C w n v) (nI h) ∧ (tbI (hav C w n z) (nI o) ∧ sClr w (C.1 6) (sTop C (C.1 5) (flP C)) (plN C o) (plN C h)))) o) (nI 1 <<< (nI h &&& 31))) ||| (nI 0))), (8, .int (b2 False)), (0, .ref (a 0)), (3, .int (hav C w n v)), (4, .int (hav C w n z)), (6, .int (nI h)), (7, .int (nI i))]) hx hb dX9_letter_127 hl (by decide) rfl (fun ls hl => ?_)
                            refine lv_iinc (v := nI (i + 1)) (lv' := [(7, .int (nI (i + 1))), (5, .int ((msk (fun h => tbI (hav C w n v) (nI h) ∧ ∃ o, o < n ∧ o ≠ h ∧ tbI (hav C w n z) (nI o) ∧ sClr w (C.1 6) (sTop C (C.1 5) (flP C)) (plN C o) (plN C h)) h ||| orc (∃ o, o < i ∧ (fun o => ¬ h = o ∧ (tbI (hav C w n v) (nI h) ∧ (tbI (hav C w n z) (nI o) ∧ sClr w (C.1 6) (sTop C (C.1 5) (flP C)) (plN C o) (plN C h)))) o) (nI 1 <<< (nI h &&& 31))) ||| (nI 0))), (8, .int (b2 False)), (0, .ref (a 0)), (3, .int (hav C w n v)), (4, .int (hav C w n z)), (6, .int (nI h))]) hx hb dX9_letter_129 hl (k := 6) rfl (xn_inc i 1) (by decide) rfl (fun ls hl => ?_)
                            refine lv_goto (tgt := 58) hx hb dX9_letter_132 (by decide) ?_
                            rw [or_nI0] at hl
                            rw [orc_f (q := (fun o => ¬ h = o ∧ (tbI (hav C w n v) (nI h) ∧ (tbI (hav C w n z) (nI o) ∧ sClr w (C.1 6) (sTop C (C.1 5) (flP C)) (plN C o) (plN C h))))) (i := i) (by first | exact (fun z => z.1 c71) | exact (fun z => c80 z.2.1) | exact (fun z => c90 z.2.2.1) | exact (fun z => c115 z.2.2.2))] at hl
                            exact ih58 (i + 1) (by omega) (by omega) H locs ls hP hS (lv_sub hl [3, 4, 5, 1, 6, 0] rfl)
                          · exact c104.elim
                        · refine lv_iconst (v := nI 1) hx hb dX9_letter_93 rfl ?_
                          refine lv_goto (tgt := 98) hx hb dX9_letter_94 (by decide) ?_
                          refine xn_to hx (z := b2 True) (b2_1 trivial) ?_
                          refine lv_istore (lv' := [(8, .int (b2 True)), (0, .ref (a 0)), (3, .int (hav C w n v)), (4, .int (hav C w n z)), (5, .int (msk (fun h => tbI (hav C w n v) (nI h) ∧ ∃ o, o < n ∧ o ≠ h ∧ tbI (hav C w n z) (nI o) ∧ sClr w (C.1 6) (sTop C (C.1 5) (flP C)) (plN C o) (plN C h)) h ||| orc (∃ o, o < i ∧ (fun o => ¬ h = o ∧ (tbI (hav C w n v) (nI h) ∧ (tbI (hav C w n z) (nI o) ∧ sClr w (C.1 6) (sTop C (C.1 5) (flP C)) (plN C o) (plN C h)))) o) (nI 1 <<< (nI h &&& 31)))), (6, .int (nI h)), (7, .int (nI i))]) hx hb dX9_letter_98 hl (by decide) rfl (fun ls hl => ?_)
                          refine lv_iload hx hb dX9_letter_100 (lv_at hl 4 rfl) ?_
                          refine lv_iload hx hb dX9_letter_102 (lv_at hl 0 rfl) ?_
                          refine xb_eq (tgt := 125) hx hb dX9_letter_104 (by decide) (fun c104 => ?_) (fun c104 => ?_)
                          · exact absurd trivial c104
                          · refine lv_aload_n hx hb dX9_letter_107 rfl (lv_at hl 1 rfl) ?_
                            refine lv_iload hx hb dX9_letter_108 (lv_at hl 6 rfl) ?_
                            refine lv_iload hx hb dX9_letter_110 (lv_at hl 5 rfl) ?_
                            refine cViI [.int (nI i), .int (nI h)] [.int (msk (fun h => tbI (hav C w n v) (nI h) ∧ ∃ o, o < n ∧ o ≠ h ∧ tbI (hav C w n z) (nI o) ∧ sClr w (C.1 6) (sTop C (C.1 5) (flP C)) (plN C o) (plN C h)) h ||| orc (∃ o, o < i ∧ (fun o => ¬ h = o ∧ (tbI (hav C w n v) (nI h) ∧ (tbI (hav C w n z) (nI o) ∧ sClr w (C.1 6) (sTop C (C.1 5) (flP C)) (plN C o) (plN C h)))) o) (nI 1 <<< (nI h &&& 31)))] FX hK (c_X9_doSee l D y a hA P w cN n t hi i h hI (by omega) (by omega) (fun q => c71 q)) (cwV 2 hts gX9_letter_X9_doSee rfl rfl rfl (by decide +kernel) ⟨Nat.le_of_ble_eq_true rfl, Nat.le_of_ble_eq_true rfl⟩) hP (pre_recv hK hP (ci := 9) (q0 := 0) rfl rfl) rfl rfl hl (Nat.le_of_ble_eq_true rfl) dX9_letter_112 ⟨Nat.zero_le _, Nat.zero_le _⟩ hS (fun _ h => h) (fun r112 u112 H locs hp112 hP hS _ _ => ?_)
                            obtain rfl := hp112
                            refine xn_to hx (z := b2 (sClr w (C.1 6) (sTop C (C.1 5) (flP C)) (plN C i) (plN C h))) (b2_iff (hR.clr hC hc1 (by omega) (by omega))) ?_
                            refine xb_eq (tgt := 125) hx hb dX9_letter_115 (by decide) (fun c115 => ?_) (fun c115 => ?_)
                            · refine lv_iconst (v := nI 0) hx hb dX9_letter_125 rfl ?_
                              refine lv_ior hx hb dX9_letter_126 ?_
                              refine lv_istore (lv' := [(5, .int ((msk (fun h => tbI (hav C w n v) (nI h) ∧ ∃ o, o < n ∧ o ≠ h ∧ tbI (hav C w n z) (nI o) ∧ sClr w (C.1 6) (sTop C (C.1 5) (flP C)) (plN C o) (plN C h)) h ||| orc (∃ o, o < i ∧ (fun o => ¬ h = o ∧ (tbI (hav C w n v) (nI h) ∧ (tbI (hav C w n z) (nI o) ∧ sClr w (C.1 6) (sTop C (C.1 5) (flP C)) (plN C o) (plN C h)))) o) (nI 1 <<< (nI h &&& 31))) ||| (nI 0))), (8, .int (b2 True)), (0, .ref (a 0)), (3, .int (hav C w n v)), (4, .int (hav C w n z)), (6, .int (nI h)), (7, .int (nI i))]) hx hb dX9_letter_127 hl (by decide) rfl (fun ls hl => ?_)
                              refine lv_iinc (v := nI (i + 1)) (lv' := [(7, .int (nI (i + 1))), (5, .int ((msk (fun h => tbI (hav C w n v) (nI h) ∧ ∃ o, o < n ∧ o ≠ h ∧ tbI (hav C w n z) (nI o) ∧ sClr w (C.1 6) (sTop C (C.1 5) (flP C)) (plN C o) (plN C h)) h ||| orc (∃ o, o < i ∧ (fun o => ¬ h = o ∧ (tbI (hav C w n v) (nI h) ∧ (tbI (hav C w n z) (nI o) ∧ sClr w (C.1 6) (sTop C (C.1 5) (flP C)) (plN C o) (plN C h)))) o) (nI 1 <<< (nI h &&& 31))) ||| (nI 0))), (8, .int (b2 True)), (0, .ref (a 0)), (3, .int (hav C w n v)), (4, .int (hav C w n z)), (6, .int (nI h))]) hx hb dX9_letter_129 hl (k := 6) rfl (xn_inc i 1) (by decide) rfl (fun ls hl => ?_)
                              refine lv_goto (tgt := 58) hx hb dX9_letter_132 (by decide) ?_
                              rw [or_nI0] at hl
                              rw [orc_f (q := (fun o => ¬ h = o ∧ (tbI (hav C w n v) (nI h) ∧ (tbI (hav C w n z) (nI o) ∧ sClr w (C.1 6) (sTop C (C.1 5) (flP C)) (plN C o) (plN C h))))) (i := i) (by first | exact (fun z => z.1 c71) | exact (fun z => c80 z.2.1) | exact (fun z => c90 z.2.2.1) | exact (fun z => c115 z.2.2.2))] at hl
                              exact ih58 (i + 1) (by omega) (by omega) H locs ls hP hS (lv_sub hl [3, 4, 5, 1, 6, 0] rfl)
                            · refine lv_iconst (v := nI 1) hx hb dX9_letter_118 rfl ?_
                              refine lv_iload hx hb dX9_letter_119 (lv_at hl 5 rfl) ?_
                              refine lv_ishl hx hb dX9_letter_121 ?_
                              refine lv_goto (tgt := 126) hx hb dX9_letter_122 (by decide) ?_
                              refine lv_ior hx hb dX9_letter_126 ?_
                              refine lv_istore (lv' := [(5, .int ((msk (fun h => tbI (hav C w n v) (nI h) ∧ ∃ o, o < n ∧ o ≠ h ∧ tbI (hav C w n z) (nI o) ∧ sClr w (C.1 6) (sTop C (C.1 5) (flP C)) (plN C o) (plN C h)) h ||| orc (∃ o, o < i ∧ (fun o => ¬ h = o ∧ (tbI (hav C w n v) (nI h) ∧ (tbI (hav C w n z) (nI o) ∧ sClr w (C.1 6) (sTop C (C.1 5) (flP C)) (plN C o) (plN C h)))) o) (nI 1 <<< (nI h &&& 31))) ||| ((nI 1) <<< ((nI h) &&& 31)))), (8, .int (b2 True)), (0, .ref (a 0)), (3, .int (hav C w n v)), (4, .int (hav C w n z)), (6, .int (nI h)), (7, .int (nI i))]) hx hb dX9_letter_127 hl (by decide) rfl (fun ls hl => ?_)
                              refine lv_iinc (v := nI (i + 1)) (lv' := [(7, .int (nI (i + 1))), (5, .int ((msk (fun h => tbI (hav C w n v) (nI h) ∧ ∃ o, o < n ∧ o ≠ h ∧ tbI (hav C w n z) (nI o) ∧ sClr w (C.1 6) (sTop C (C.1 5) (flP C)) (plN C o) (plN C h)) h ||| orc (∃ o, o < i ∧ (fun o => ¬ h = o ∧ (tbI (hav C w n v) (nI h) ∧ (tbI (hav C w n z) (nI o) ∧ sClr w (C.1 6) (sTop C (C.1 5) (flP C)) (plN C o) (plN C h)))) o) (nI 1 <<< (nI h &&& 31))) ||| ((nI 1) <<< ((nI h) &&& 31)))), (8, .int (b2 True)), (0, .ref (a 0)), (3, .int (hav C w n v)), (4, .int (hav C w n z)), (6, .int (nI h))]) hx hb dX9_letter_129 hl (k := 6) rfl (xn_inc i 1) (by decide) rfl (fun ls hl => ?_)
                              refine lv_goto (tgt := 58) hx hb dX9_letter_132 (by decide) ?_
                              rw [orc_t (q := (fun o => ¬ h = o ∧ (tbI (hav C w n v) (nI h) ∧ (tbI (hav C w n z) (nI o) ∧ sClr w (C.1 6) (sTop C (C.1 5) (flP C)) (plN C o) (plN C h))))) (i := i) ⟨c71, c80, c90, c115⟩] at hl
                              exact ih58 (i + 1) (by omega) (by omega) H locs ls hP hS (lv_sub hl [3, 4, 5, 1, 6, 0] rfl)
              rw [show msk (fun h => tbI (hav C w n v) (nI h) ∧ ∃ o, o < n ∧ o ≠ h ∧ tbI (hav C w n z) (nI o) ∧ sClr w (C.1 6) (sTop C (C.1 5) (flP C)) (plN C o) (plN C h)) h = msk (fun h => tbI (hav C w n v) (nI h) ∧ ∃ o, o < n ∧ o ≠ h ∧ tbI (hav C w n z) (nI o) ∧ sClr w (C.1 6) (sTop C (C.1 5) (flP C)) (plN C o) (plN C h)) h ||| orc (∃ o, o < 0 ∧ (fun o => ¬ h = o ∧ (tbI (hav C w n v) (nI h) ∧ (tbI (hav C w n z) (nI o) ∧ sClr w (C.1 6) (sTop C (C.1 5) (flP C)) (plN C o) (plN C h)))) o) (nI 1 <<< (nI h &&& 31)) from orc_0] at hl
              exact L58 _ 0 (Nat.zero_le _) (Nat.lt_succ_self _) H locs ls hP hS (lv_sub hl [1, 2, 3, 4, 5, 0] rfl)
        exact L46 _ 0 (Nat.zero_le _) (Nat.lt_succ_self _) H locs ls hP hS (lv_sub hl [4, 3, 2, 1, 0] rfl)
      · refine lv_bipush (v := (-3)) hx hb dX9_letter_24 rfl ?_
        exact ret H locs 26 ls (-3) P dX9_letter_26 (by unfold ansLetter; rw [cif_t c4, cif_t c11, cif_f (show ¬ 0 < cN by omega)]; exact ⟨rfl, hR⟩) hP hS
    · refine lv_bipush (v := (-2)) hx hb dX9_letter_14 rfl ?_
      exact ret H locs 16 ls (-2) P dX9_letter_16 (by unfold ansLetter; rw [cif_t c4, cif_f c11]; exact ⟨rfl, hR⟩) hP hS

abbrev rmX9_mean : Room := { frames := 4, cells := 0, slots := 0, locals := 98 }
set_option maxRecDepth 100000 in
set_option maxHeartbeats 4000000 in
theorem c_X9_mean (l : Launch) (D : va_G) (y : Nat → ClassId) (a : Nat → Nat) (hA : CA a 26) (P : PT) (C : PT) (w cN n t rd : Nat) (wh : Int32)  (hR : RQ C P) (hC : IP C w cN n t) (hc1 : C.1 1 = nI cN) (hr : RD C n rd) : CtL l D y yX9_mean wsX9_mean rmX9_mean [.ref (a 0), .int wh] (wM y a P) (fun (r : Int64) (P' : PT) => r = (ansMean C w cN n wh).1 ∧ RQ (ansMean C w cN n wh).2 P') (fun P' => wM y a P') (AM a) := by
  refine mkL (cc := cX9_mean) (maxL := 4) RX9 rfl (by decide) rfl (Nat.le_of_ble_eq_true rfl) ?_
  intro p e s m args below meth c Q FX hK hP ret ls hl
  obtain ⟨hx, hb, hml, hown, hts⟩ := id FX
  have hS : va_S (AM a) s.heap s.heap [] := va_S.rf
  have in9 : ∀ w ∈ wsX90, w ∈ wsX9_mean := fun _ h => List.mem_cons_of_mem _ (List.mem_append_right _ (h))
  have hl : lv_has ls 4 [(0, .ref (a 0)), (1, .int wh)] := hl
  obtain ⟨hi, hi5, hI, hi0⟩ := hR.iq hC hc1
  have hcl := hC.c30
  have hnl := hC.n8
  have htl := hC.t8
  have hrl := hr.2.1
  refine lv_iload_n hx hb dX9_mean_0 rfl (lv_at hl 1 rfl) ?_
  refine lv_i2l hx hb dX9_mean_1 rfl ?_
  refine lv_lconst (v := 0) hx hb dX9_mean_2 rfl ?_
  refine lv_lconst (v := 1) hx hb dX9_mean_3 rfl ?_
  refine cStI [.long (wh.toInt64), .long 0, .long 1] [] FX hK (c_X9_in l D y (wh.toInt64) 0 1) (va_cwS 3 hts gX9_mean_X9_in rfl rfl rfl (by decide +kernel) ⟨Nat.le_of_ble_eq_true rfl, Nat.le_of_ble_eq_true rfl⟩) rfl rfl hl (Nat.le_of_ble_eq_true rfl) dX9_mean_4 ⟨Nat.zero_le _, Nat.zero_le _⟩ hP hS (fun r4 H locs hp4 hP hS => ?_)
  obtain rfl := hp4
  refine xn_to hx (z := b2 (inR 0 1 wh)) (b2_iff (in_R (lo := 0) (hi := 1) rfl rfl (by decide))) ?_
  refine xb_eq (tgt := 17) hx hb dX9_mean_7 (by decide) (fun c7 => ?_) (fun c7 => ?_)
  · refine cStL [] [] FX hK (c_X9_lost l D y) (va_cwS 0 hts gX9_mean_X9_lost rfl rfl rfl (by decide +kernel) ⟨Nat.le_of_ble_eq_true rfl, Nat.le_of_ble_eq_true rfl⟩) rfl rfl hl (Nat.le_of_ble_eq_true rfl) dX9_mean_17 ⟨Nat.zero_le _, Nat.zero_le _⟩ hP hS (fun r17 H locs hp17 hP hS => ?_)
    obtain rfl := hp17
    exact ret H locs 20 ls LOST P dX9_mean_20 (by unfold ansMean; rw [cif_f c7]; exact ⟨rfl, hR⟩) hP hS
  · refine lv_aload_n hx hb dX9_mean_10 rfl (lv_at hl 0 rfl) ?_
    refine mg_1 FX hK in9 hP (List.mem_of_getElem? (i := 1) rfl) dX9_mean_11 ?_
    refine xn_to hx (z := nI hi) hI.hh ?_
    refine xn_if_ne (tgt := 21) hx hb (by omega) dX9_mean_14 (by decide) (fun c14 => ?_) (fun c14 => ?_)
    · refine lv_aload_n hx hb dX9_mean_21 rfl (lv_at hl 0 rfl) ?_
      refine mg_6 FX hK in9 hP (List.mem_of_getElem? (i := 2) rfl) dX9_mean_22 ?_
      refine xn_to hx (z := nI n) hI.nn ?_
      refine xn_if_ne (tgt := 31) hx hb (by omega) dX9_mean_25 (by decide) (fun c25 => ?_) (fun c25 => ?_)
      · refine lv_iconst (v := nI 0) hx hb dX9_mean_31 rfl ?_
        refine lv_istore_n (lv' := [(2, .int (nI 0)), (0, .ref (a 0)), (1, .int wh)]) hx hb dX9_mean_32 rfl hl (by decide) rfl (fun ls hl => ?_)
        refine lv_iconst (v := nI 0) hx hb dX9_mean_33 rfl ?_
        refine lv_istore_n (lv' := [(3, .int (nI 0)), (2, .int (nI 0)), (0, .ref (a 0)), (1, .int wh)]) hx hb dX9_mean_34 rfl hl (by decide) rfl (fun ls hl => ?_)
        have L35 : ∀ (N : Nat) (i : Nat), (i ≤ n) → n - i < N → ∀ (H : Heap) (locs : List Loc) (ls : Array Slot), va_P D vwCl (wM y a P) H → va_S (AM a) s.heap H locs → lv_has ls 4 [(0, .ref (a 0)), (1, .int wh), (2, .int (nI (sm (numP C w n) i))), (3, .int (nI i))] → W p l e rmX9_mean s m args below meth c H locs 0 0 Q (F0 m 35 ls []) := by
          intro N35
          induction N35 with
          | zero => intro i hi9 hmeas; exact absurd hmeas (Nat.not_lt_zero _)
          | succ N35 ih35 =>
            intro i hi9 hmeas H locs ls hP hS hl
            refine lv_iload_n hx hb dX9_mean_35 rfl (lv_at hl 3 rfl) ?_
            refine lv_aload_n hx hb dX9_mean_36 rfl (lv_at hl 0 rfl) ?_
            refine mg_6 FX hK in9 hP (List.mem_of_getElem? (i := 2) rfl) dX9_mean_37 ?_
            refine xn_to hx (z := nI n) hI.nn ?_
            refine xn_icmp_ge (tgt := 57) hx hb (by omega) (by omega) dX9_mean_40 (by decide) (fun c40 => ?_) (fun c40 => ?_)
            · rw [show i = n by omega] at hl
              have hsm : sm (numP C w n) n ≤ n * 8 := sm_le (fun k hk => Nat.le_trans (sNf_le _ _ _ _ _ _) hC.n8)
              have hgp := gcS_pos (sm (numP C w n) n) n
              have hgl : gcS (sm (numP C w n) n) n < 100 := gcS_le (by omega) (by omega) (by decide)
              refine lv_iload_n hx hb dX9_mean_57 rfl (lv_at hl 1 rfl) ?_
              refine lv_if_ne (tgt := 65) hx hb dX9_mean_58 (by decide) (fun c58 => ?_) (fun c58 => ?_)
              · refine lv_aload_n hx hb dX9_mean_65 rfl (lv_at hl 0 rfl) ?_
                refine mg_6 FX hK in9 hP (List.mem_of_getElem? (i := 2) rfl) dX9_mean_66 ?_
                refine xn_to hx (z := nI n) hI.nn ?_
                refine lv_iload_n hx hb dX9_mean_69 rfl (lv_at hl 2 rfl) ?_
                refine lv_aload_n hx hb dX9_mean_70 rfl (lv_at hl 0 rfl) ?_
                refine mg_6 FX hK in9 hP (List.mem_of_getElem? (i := 2) rfl) dX9_mean_71 ?_
                refine xn_to hx (z := nI n) hI.nn ?_
                refine cStI [.int (nI (sm (numP C w n) n)), .int (nI n)] [.int (nI n)] FX hK (c_X9_common l D y (sm (numP C w n) n) (n) (by omega) (by omega)) (va_cwS 2 hts gX9_mean_X9_common rfl rfl rfl (by decide +kernel) ⟨Nat.le_of_ble_eq_true rfl, Nat.le_of_ble_eq_true rfl⟩) rfl rfl hl (Nat.le_of_ble_eq_true rfl) dX9_mean_74 ⟨Nat.zero_le _, Nat.zero_le _⟩ hP hS (fun r74 H locs hp74 hP hS => ?_)
                obtain rfl := hp74
                refine xn_to hx (z := nI (gcS (sm (numP C w n) n) n)) (by rw [gcd_gcS (by omega)]) ?_
                refine xn_idiv (a := n) (b := gcS (sm (numP C w n) n) n) hx hb (by omega) (by omega) (by omega) dX9_mean_77 ?_
                refine lv_i2l hx hb dX9_mean_78 rfl ?_
                exact ret H locs 79 ls ((nI (n / (gcS (sm (numP C w n) n) n))).toInt64) P dX9_mean_79 (by unfold ansMean; rw [cif_t c7, cif_t (show 0 < cN by omega), cif_f (show ¬ n = 0 by omega), cif_f c58]; exact ⟨rfl, hR⟩) hP hS
              · refine lv_iload_n hx hb dX9_mean_61 rfl (lv_at hl 2 rfl) ?_
                refine lv_goto (tgt := 69) hx hb dX9_mean_62 (by decide) ?_
                refine lv_iload_n hx hb dX9_mean_69 rfl (lv_at hl 2 rfl) ?_
                refine lv_aload_n hx hb dX9_mean_70 rfl (lv_at hl 0 rfl) ?_
                refine mg_6 FX hK in9 hP (List.mem_of_getElem? (i := 2) rfl) dX9_mean_71 ?_
                refine xn_to hx (z := nI n) hI.nn ?_
                refine cStI [.int (nI (sm (numP C w n) n)), .int (nI n)] [.int (nI (sm (numP C w n) n))] FX hK (c_X9_common l D y (sm (numP C w n) n) (n) (by omega) (by omega)) (va_cwS 2 hts gX9_mean_X9_common rfl rfl rfl (by decide +kernel) ⟨Nat.le_of_ble_eq_true rfl, Nat.le_of_ble_eq_true rfl⟩) rfl rfl hl (Nat.le_of_ble_eq_true rfl) dX9_mean_74 ⟨Nat.zero_le _, Nat.zero_le _⟩ hP hS (fun r74 H locs hp74 hP hS => ?_)
                obtain rfl := hp74
                refine xn_to hx (z := nI (gcS (sm (numP C w n) n) n)) (by rw [gcd_gcS (by omega)]) ?_
                refine xn_idiv (a := sm (numP C w n) n) (b := gcS (sm (numP C w n) n) n) hx hb (by omega) (by omega) (by omega) dX9_mean_77 ?_
                refine lv_i2l hx hb dX9_mean_78 rfl ?_
                exact ret H locs 79 ls ((nI ((sm (numP C w n) n) / (gcS (sm (numP C w n) n) n))).toInt64) P dX9_mean_79 (by unfold ansMean; rw [cif_t c7, cif_t (show 0 < cN by omega), cif_f (show ¬ n = 0 by omega), cif_t c58]; exact ⟨rfl, hR⟩) hP hS
            · refine lv_iload_n hx hb dX9_mean_43 rfl (lv_at hl 2 rfl) ?_
              refine lv_aload_n hx hb dX9_mean_44 rfl (lv_at hl 0 rfl) ?_
              refine lv_iload_n hx hb dX9_mean_45 rfl (lv_at hl 3 rfl) ?_
              refine cViI [.int (nI i)] [.int (nI (sm (numP C w n) i))] FX hK (c_X9_numberOf l D y a hA P w cN n t hi i hI (by omega)) (cwV 1 hts gX9_mean_X9_numberOf rfl rfl rfl (by decide +kernel) ⟨Nat.le_of_ble_eq_true rfl, Nat.le_of_ble_eq_true rfl⟩) hP (pre_recv hK hP (ci := 9) (q0 := 0) rfl rfl) rfl rfl hl (Nat.le_of_ble_eq_true rfl) dX9_mean_46 ⟨Nat.zero_le _, Nat.zero_le _⟩ hS (fun _ h => h) (fun r46 u46 H locs hp46 hP hS _ _ => ?_)
              obtain rfl := hp46
              refine xn_to hx (z := nI (numP C w n i)) (by rw [hR.num hC hc1 (by omega)]) ?_
              refine xn_iadd (a := sm (numP C w n) i) (b := numP C w n i) hx hb dX9_mean_49 ?_
              refine lv_istore_n (lv' := [(2, .int (nI ((sm (numP C w n) i) + (numP C w n i)))), (0, .ref (a 0)), (1, .int wh), (3, .int (nI i))]) hx hb dX9_mean_50 rfl hl (by decide) rfl (fun ls hl => ?_)
              refine lv_iinc (v := nI (i + 1)) (lv' := [(3, .int (nI (i + 1))), (2, .int (nI ((sm (numP C w n) i) + (numP C w n i)))), (0, .ref (a 0)), (1, .int wh)]) hx hb dX9_mean_51 hl (k := 3) rfl (xn_inc i 1) (by decide) rfl (fun ls hl => ?_)
              refine lv_goto (tgt := 35) hx hb dX9_mean_54 (by decide) ?_
              exact ih35 (i + 1) (by omega) (by omega) H locs ls hP hS (lv_sub hl [2, 3, 1, 0] rfl)
        exact L35 _ 0 (Nat.zero_le _) (Nat.lt_succ_self _) H locs ls hP hS (lv_sub hl [2, 3, 1, 0] rfl)
      · refine lv_iload_n hx hb dX9_mean_28 rfl (lv_at hl 1 rfl) ?_
        refine lv_i2l hx hb dX9_mean_29 rfl ?_
        exact ret H locs 30 ls (wh.toInt64) P dX9_mean_30 (by unfold ansMean; rw [cif_t c7, cif_t (show 0 < cN by omega), cif_t c25]; exact ⟨rfl, hR⟩) hP hS
    · refine cStL [] [] FX hK (c_X9_lost l D y) (va_cwS 0 hts gX9_mean_X9_lost rfl rfl rfl (by decide +kernel) ⟨Nat.le_of_ble_eq_true rfl, Nat.le_of_ble_eq_true rfl⟩) rfl rfl hl (Nat.le_of_ble_eq_true rfl) dX9_mean_17 ⟨Nat.zero_le _, Nat.zero_le _⟩ hP hS (fun r17 H locs hp17 hP hS => ?_)
      obtain rfl := hp17
      exact ret H locs 20 ls LOST P dX9_mean_20 (by unfold ansMean; rw [cif_t c7, cif_f (show ¬ 0 < cN by omega)]; exact ⟨rfl, hR⟩) hP hS
