abbrev rmX9_walled : Room := { frames := 4, cells := 0, slots := 0, locals := 98 }
set_option maxRecDepth 100000 in
set_option maxHeartbeats 4000000 in
theorem c_X9_walled (l : Launch) (D : va_G) (y : Nat → ClassId) (a : Nat → Nat) (hA : CA a 26) (P : PT) (C : PT) (w cN n t rd : Nat) (x : Int32) (v : Int32)  (hR : RQ C P) (hC : IP C w cN n t) (hc1 : C.1 1 = nI cN) (hr : RD C n rd) : CtI l D y yX9_walled wsX9_walled rmX9_walled [.ref (a 0), .int x, .int v] (wM y a P) (fun (r : Int32) (P' : PT) => r = (ansWalled C w cN n x v).1 ∧ RQ (ansWalled C w cN n x v).2 P') (fun P' => wM y a P') (AM a) := by
  refine mkI (cc := cX9_walled) (maxL := 7) (ret := some .int) RX9 rfl (by decide) rfl (Or.inl rfl) (Nat.le_of_ble_eq_true rfl) ?_
  intro p e s m args below meth c Q FX hK hP ret ls hl
  obtain ⟨hx, hb, hml, hown, hts⟩ := id FX
  have hS : va_S (AM a) s.heap s.heap [] := va_S.rf
  have in9 : ∀ w ∈ wsX90, w ∈ wsX9_walled := fun _ h => List.mem_cons_of_mem _ (List.mem_append_right _ (h))
  have hl : lv_has ls 7 [(0, .ref (a 0)), (1, .int x), (2, .int v)] := hl
  obtain ⟨hi, hi5, hI, hi0⟩ := hR.iq hC hc1
  have hcl := hC.c30
  have hnl := hC.n8
  have htl := hC.t8
  have hrl := hr.2.1
  refine lv_aload_n hx hb dX9_walled_0 rfl (lv_at hl 0 rfl) ?_
  refine lv_iload_n hx hb dX9_walled_1 rfl (lv_at hl 1 rfl) ?_
  refine cViI [.int x] [] FX hK (c_X9_noHouse l D y a hA P n x hI.nn hI.n9) (cwV 1 hts gX9_walled_X9_noHouse rfl rfl rfl (by decide +kernel) ⟨Nat.le_of_ble_eq_true rfl, Nat.le_of_ble_eq_true rfl⟩) hP (pre_recv hK hP (ci := 9) (q0 := 0) rfl rfl) rfl rfl hl (Nat.le_of_ble_eq_true rfl) dX9_walled_2 ⟨Nat.zero_le _, Nat.zero_le _⟩ hS (fun _ h => h) (fun r2 u2 H locs hp2 hP hS _ _ => ?_)
  obtain rfl := hp2
  refine xb_eq (tgt := 10) hx hb dX9_walled_5 (by decide) (fun c5 => ?_) (fun c5 => ?_)
  · have k5 : inN n x := Classical.not_not.mp c5
    obtain ⟨h, hh, eh⟩ := id k5
    subst eh
    refine lv_iload_n hx hb dX9_walled_10 rfl (lv_at hl 2 rfl) ?_
    refine cStI [.int v] [] FX hK (c_X9_isNumber l D y v) (va_cwS 1 hts gX9_walled_X9_isNumber rfl rfl rfl (by decide +kernel) ⟨Nat.le_of_ble_eq_true rfl, Nat.le_of_ble_eq_true rfl⟩) rfl rfl hl (Nat.le_of_ble_eq_true rfl) dX9_walled_11 ⟨Nat.zero_le _, Nat.zero_le _⟩ hP hS (fun r11 H locs hp11 hP hS => ?_)
    obtain rfl := hp11
    refine xb_ne (tgt := 20) hx hb dX9_walled_14 (by decide) (fun c14 => ?_) (fun c14 => ?_)
    · refine lv_iconst (v := nI 1) hx hb dX9_walled_20 rfl ?_
      refine lv_istore_n (lv' := [(3, .int (nI 1)), (0, .ref (a 0)), (1, .int (nI h)), (2, .int v)]) hx hb dX9_walled_21 rfl hl (by decide) rfl (fun ls hl => ?_)
      have L22 : ∀ (N : Nat) (k : Nat), (k ≤ 9) → (fsI (fun k => fsI (fun q => fnd (C.2 2 q = 0 ∧ nI (sNf C w n (C.1 6) (upd (sTop C (C.1 5) (flP C)) q (C.2 0 q + nI (k + 1))) (plN C h)) = v) (100 * (k + 1) + q)) cN) k = -9) → 9 - k < N → ∀ (H : Heap) (locs : List Loc) (ls : Array Slot), va_P D vwCl (wM y a P) H → va_S (AM a) s.heap H locs → lv_has ls 7 [(0, .ref (a 0)), (1, .int (nI h)), (2, .int v), (3, .int (nI (k + 1)))] → W p l e rmX9_walled s m args below meth c H locs 0 0 Q (F0 m 22 ls []) := by
        intro N22
        induction N22 with
        | zero => intro k hk hno hmeas; exact absurd hmeas (Nat.not_lt_zero _)
        | succ N22 ih22 =>
          intro k hk hno hmeas H locs ls hP hS hl
          refine lv_iload_n hx hb dX9_walled_22 rfl (lv_at hl 3 rfl) ?_
          refine lv_bipush (v := nI 10) hx hb dX9_walled_23 rfl ?_
          refine xn_icmp_ge (tgt := 117) hx hb (by omega) (by omega) dX9_walled_25 (by decide) (fun c25 => ?_) (fun c25 => ?_)
          · refine lv_bipush (v := (-9)) hx hb dX9_walled_117 rfl ?_
            exact ret H locs 119 ls (-9) P dX9_walled_119 (by unfold ansWalled; rw [dN_nI (show h < 2 ^ 31 by omega), cif_t k5, cif_t c14]; exact ⟨(by rw [show k = 9 by omega] at hno; exact hno.symm), hR⟩) hP hS
          · refine lv_iconst (v := nI 0) hx hb dX9_walled_28 rfl ?_
            refine lv_istore (lv' := [(4, .int (nI 0)), (0, .ref (a 0)), (1, .int (nI h)), (2, .int v), (3, .int (nI (k + 1)))]) hx hb dX9_walled_29 hl (by decide) rfl (fun ls hl => ?_)
            have L31 : ∀ (N : Nat) (j : Nat), (j ≤ cN) → (fsI (fun q => fnd (C.2 2 q = 0 ∧ nI (sNf C w n (C.1 6) (upd (sTop C (C.1 5) (flP C)) q (C.2 0 q + nI (k + 1))) (plN C h)) = v) (100 * (k + 1) + q)) j = -9) → cN - j < N → ∀ (H : Heap) (locs : List Loc) (ls : Array Slot), va_P D vwCl (wM y a P) H → va_S (AM a) s.heap H locs → lv_has ls 7 [(0, .ref (a 0)), (1, .int (nI h)), (2, .int v), (3, .int (nI (k + 1))), (4, .int (nI j))] → W p l e rmX9_walled s m args below meth c H locs 0 0 Q (F0 m 31 ls []) := by
              intro N31
              induction N31 with
              | zero => intro j hj hno2 hmeas; exact absurd hmeas (Nat.not_lt_zero _)
              | succ N31 ih31 =>
                intro j hj hno2 hmeas H locs ls hP hS hl
                refine lv_iload hx hb dX9_walled_31 (lv_at hl 4 rfl) ?_
                refine lv_aload_n hx hb dX9_walled_33 rfl (lv_at hl 0 rfl) ?_
                refine cViI [] [.int (nI j)] FX hK (c_X9_cells l D y a hA P w hi hI.ww hI.hh) (cwV 0 hts gX9_walled_X9_cells rfl rfl rfl (by decide +kernel) ⟨Nat.le_of_ble_eq_true rfl, Nat.le_of_ble_eq_true rfl⟩) hP (pre_recv hK hP (ci := 9) (q0 := 0) rfl rfl) rfl rfl hl (Nat.le_of_ble_eq_true rfl) dX9_walled_34 ⟨Nat.zero_le _, Nat.zero_le _⟩ hS (fun _ h => h) (fun r34 u34 H locs hp34 hP hS _ _ => ?_)
                obtain rfl := hp34
                refine xn_to hx (z := nI cN) (by rw [← hI.cc]) ?_
                refine xn_icmp_ge (tgt := 111) hx hb (by omega) (by omega) dX9_walled_37 (by decide) (fun c37 => ?_) (fun c37 => ?_)
                · refine lv_iinc (v := nI (k + 1 + 1)) (lv' := [(3, .int (nI (k + 1 + 1))), (0, .ref (a 0)), (1, .int (nI h)), (2, .int v), (4, .int (nI j))]) hx hb dX9_walled_111 hl (k := 3) rfl (xn_inc (k + 1) 1) (by decide) rfl (fun ls hl => ?_)
                  refine lv_goto (tgt := 22) hx hb dX9_walled_114 (by decide) ?_
                  exact ih22 (k + 1) (by omega) (fsI_step hno (by rw [show cN = j by omega]; exact hno2)) (by omega) H locs ls hP hS (lv_sub hl [1, 2, 3, 0] rfl)
                · refine lv_aload_n hx hb dX9_walled_40 rfl (lv_at hl 0 rfl) ?_
                  refine mg_4 FX hK in9 hP (List.mem_of_getElem? (i := 1) rfl) dX9_walled_41 ?_
                  refine lv_iload hx hb dX9_walled_44 (lv_at hl 4 rfl) ?_
                  refine ma2 (i := j) (by omega) FX hK hP dX9_walled_46 ?_
                  refine xn_to hx (z := C.2 2 j) (hR.cell hC hc1 (k := 2) (by decide) (by omega)) ?_
                  refine lv_if_ne (tgt := 105) hx hb dX9_walled_47 (by decide) (fun c47 => ?_) (fun c47 => ?_)
                  · refine lv_iinc (v := nI (j + 1)) (lv' := [(4, .int (nI (j + 1))), (0, .ref (a 0)), (1, .int (nI h)), (2, .int v), (3, .int (nI (k + 1)))]) hx hb dX9_walled_105 hl (k := 4) rfl (xn_inc j 1) (by decide) rfl (fun ls hl => ?_)
                    refine lv_goto (tgt := 31) hx hb dX9_walled_108 (by decide) ?_
                    exact ih31 (j + 1) (by omega) (fnd_miss hno2 (by first | exact (fun z => c47 z.1) | exact (fun z => c73 z.2))) (by omega) H locs ls hP hS (lv_sub hl [1, 2, 3, 4, 0] rfl)
                  · refine lv_aload_n hx hb dX9_walled_50 rfl (lv_at hl 0 rfl) ?_
                    refine mg_5 FX hK in9 hP (List.mem_of_getElem? (i := 2) rfl) dX9_walled_51 ?_
                    refine lv_iload hx hb dX9_walled_54 (lv_at hl 4 rfl) ?_
                    refine ma3 (i := j) (by omega) FX hK hP dX9_walled_56 ?_
                    refine lv_istore (lv' := [(5, .int (P.2 1 j)), (0, .ref (a 0)), (1, .int (nI h)), (2, .int v), (3, .int (nI (k + 1))), (4, .int (nI j))]) hx hb dX9_walled_57 hl (by decide) rfl (fun ls hl => ?_)
                    refine lv_aload_n hx hb dX9_walled_59 rfl (lv_at hl 1 rfl) ?_
                    refine mg_5 FX hK in9 hP (List.mem_of_getElem? (i := 2) rfl) dX9_walled_60 ?_
                    refine lv_iload hx hb dX9_walled_63 (lv_at hl 5 rfl) ?_
                    refine lv_iload_n hx hb dX9_walled_65 rfl (lv_at hl 4 rfl) ?_
                    refine ms3 (i := j) (by omega) FX hK hP hA hS dX9_walled_66 (fun H locs hP hS => ?_)
                    refine lv_aload_n hx hb dX9_walled_67 rfl (lv_at hl 1 rfl) ?_
                    refine lv_iload_n hx hb dX9_walled_68 rfl (lv_at hl 2 rfl) ?_
                    refine cViI [.int (nI h)] [] FX hK (c_X9_numberOf l D y a hA (pa P 1 j (nI (k + 1))) w cN n t hi h hI (by omega)) (cwV 1 hts gX9_walled_X9_numberOf rfl rfl rfl (by decide +kernel) ⟨Nat.le_of_ble_eq_true rfl, Nat.le_of_ble_eq_true rfl⟩) hP (pre_recv hK hP (ci := 9) (q0 := 0) rfl rfl) rfl rfl hl (Nat.le_of_ble_eq_true rfl) dX9_walled_69 ⟨Nat.zero_le _, Nat.zero_le _⟩ hS (fun _ h => h) (fun r69 u69 H locs hp69 hP hS _ _ => ?_)
                    obtain rfl := hp69
                    refine xn_to hx (z := nI (sNf C w n (C.1 6) (upd (sTop C (C.1 5) (flP C)) j (C.2 0 j + nI (k + 1))) (plN C h))) (by rw [(hR.wpa (k := 1) (by decide) j (nI (k + 1))).num (hC.wall j _) hc1 hh, num_wall hC c47 _ hh]) ?_
                    refine lv_iload_n hx hb dX9_walled_72 rfl (lv_at hl 3 rfl) ?_
                    refine lv_icmp_ne (tgt := 80) hx hb dX9_walled_73 (by decide) (fun c73 => ?_) (fun c73 => ?_)
                    · refine lv_iconst (v := nI 0) hx hb dX9_walled_80 rfl ?_
                      refine lv_istore (lv' := [(6, .int (nI 0)), (5, .int (P.2 1 j)), (0, .ref (a 0)), (1, .int (nI h)), (2, .int v), (3, .int (nI (k + 1))), (4, .int (nI j))]) hx hb dX9_walled_81 hl (by decide) rfl (fun ls hl => ?_)
                      refine lv_aload_n hx hb dX9_walled_83 rfl (lv_at hl 2 rfl) ?_
                      refine mg_5 FX hK in9 hP (List.mem_of_getElem? (i := 2) rfl) dX9_walled_84 ?_
                      refine lv_iload hx hb dX9_walled_87 (lv_at hl 6 rfl) ?_
                      refine lv_iload hx hb dX9_walled_89 (lv_at hl 1 rfl) ?_
                      refine ms3 (i := j) (by omega) FX hK hP hA hS dX9_walled_91 (fun H locs hP hS => ?_)
                      rw [pa_back] at hP
                      refine lv_iload hx hb dX9_walled_92 (lv_at hl 0 rfl) ?_
                      refine xn_if_eq (tgt := 105) hx hb (by omega) dX9_walled_94 (by decide) (fun c94 => ?_) (fun c94 => ?_)
                      · refine lv_iinc (v := nI (j + 1)) (lv' := [(4, .int (nI (j + 1))), (6, .int (nI 0)), (5, .int (P.2 1 j)), (0, .ref (a 0)), (1, .int (nI h)), (2, .int v), (3, .int (nI (k + 1)))]) hx hb dX9_walled_105 hl (k := 6) rfl (xn_inc j 1) (by decide) rfl (fun ls hl => ?_)
                        refine lv_goto (tgt := 31) hx hb dX9_walled_108 (by decide) ?_
                        exact ih31 (j + 1) (by omega) (fnd_miss hno2 (by first | exact (fun z => c47 z.1) | exact (fun z => c73 z.2))) (by omega) H locs ls hP hS (lv_sub hl [3, 4, 5, 6, 0] rfl)
                      · exact absurd c94 (by decide)
                    · refine lv_iconst (v := nI 1) hx hb dX9_walled_76 rfl ?_
                      refine lv_goto (tgt := 81) hx hb dX9_walled_77 (by decide) ?_
                      refine lv_istore (lv' := [(6, .int (nI 1)), (5, .int (P.2 1 j)), (0, .ref (a 0)), (1, .int (nI h)), (2, .int v), (3, .int (nI (k + 1))), (4, .int (nI j))]) hx hb dX9_walled_81 hl (by decide) rfl (fun ls hl => ?_)
                      refine lv_aload_n hx hb dX9_walled_83 rfl (lv_at hl 2 rfl) ?_
                      refine mg_5 FX hK in9 hP (List.mem_of_getElem? (i := 2) rfl) dX9_walled_84 ?_
                      refine lv_iload hx hb dX9_walled_87 (lv_at hl 6 rfl) ?_
                      refine lv_iload hx hb dX9_walled_89 (lv_at hl 1 rfl) ?_
                      refine ms3 (i := j) (by omega) FX hK hP hA hS dX9_walled_91 (fun H locs hP hS => ?_)
                      rw [pa_back] at hP
                      refine lv_iload hx hb dX9_walled_92 (lv_at hl 0 rfl) ?_
                      refine xn_if_eq (tgt := 105) hx hb (by omega) dX9_walled_94 (by decide) (fun c94 => ?_) (fun c94 => ?_)
                      · exact absurd c94 (by decide)
                      · refine lv_bipush (v := nI 100) hx hb dX9_walled_97 rfl ?_
                        refine lv_iload_n hx hb dX9_walled_99 rfl (lv_at hl 5 rfl) ?_
                        refine xn_imul (a := 100) (b := k + 1) hx hb dX9_walled_100 ?_
                        refine lv_iload hx hb dX9_walled_101 (lv_at hl 6 rfl) ?_
                        refine xn_iadd (a := 100 * (k + 1)) (b := j) hx hb dX9_walled_103 ?_
                        exact ret H locs 104 ls (nI ((100 * (k + 1)) + j)) P dX9_walled_104 (by unfold ansWalled; rw [dN_nI (show h < 2 ^ 31 by omega), cif_t k5, cif_t c14]; exact ⟨(by have e := fnd_hit hno2 c37 ⟨c47, c73⟩ (by omega); have e2 := fsI_found (g := (fun k => fsI (fun q => fnd (C.2 2 q = 0 ∧ nI (sNf C w n (C.1 6) (upd (sTop C (C.1 5) (flP C)) q (C.2 0 q + nI (k + 1))) (plN C h)) = v) (100 * (k + 1) + q)) cN)) (N := 9) hno (by omega) (by rw [← e]; exact nI_ne9 (by omega)); exact e.trans e2.symm), hR⟩) hP hS
            exact L31 _ 0 (Nat.zero_le _) rfl (Nat.lt_succ_self _) H locs ls hP hS (lv_sub hl [1, 2, 3, 4, 0] rfl)
      exact L22 _ 0 (Nat.zero_le _) rfl (Nat.lt_succ_self _) H locs ls hP hS (lv_sub hl [1, 2, 3, 0] rfl)
    · refine lv_bipush (v := (-2)) hx hb dX9_walled_17 rfl ?_
      exact ret H locs 19 ls (-2) P dX9_walled_19 (by unfold ansWalled; rw [dN_nI (show h < 2 ^ 31 by omega), cif_t k5, cif_f c14]; exact ⟨rfl, hR⟩) hP hS
  · refine lv_iconst (v := (-1)) hx hb dX9_walled_8 rfl ?_
    exact ret H locs 9 ls (-1) P dX9_walled_9 (by unfold ansWalled; rw [cif_f c5]; exact ⟨rfl, hR⟩) hP hS

abbrev rmX9_raised : Room := { frames := 4, cells := 0, slots := 0, locals := 98 }
set_option maxRecDepth 100000 in
set_option maxHeartbeats 4000000 in
theorem c_X9_raised (l : Launch) (D : va_G) (y : Nat → ClassId) (a : Nat → Nat) (hA : CA a 26) (P : PT) (C : PT) (w cN n t rd : Nat) (x : Int32) (v : Int32)  (hR : RQ C P) (hC : IP C w cN n t) (hc1 : C.1 1 = nI cN) (hr : RD C n rd) : CtI l D y yX9_raised wsX9_raised rmX9_raised [.ref (a 0), .int x, .int v] (wM y a P) (fun (r : Int32) (P' : PT) => r = (ansRaised C w n x v).1 ∧ RQ (ansRaised C w n x v).2 P') (fun P' => wM y a P') (AM a) := by
  refine mkI (cc := cX9_raised) (maxL := 6) (ret := some .int) RX9 rfl (by decide) rfl (Or.inl rfl) (Nat.le_of_ble_eq_true rfl) ?_
  intro p e s m args below meth c Q FX hK hP ret ls hl
  obtain ⟨hx, hb, hml, hown, hts⟩ := id FX
  have hS : va_S (AM a) s.heap s.heap [] := va_S.rf
  have in9 : ∀ w ∈ wsX90, w ∈ wsX9_raised := fun _ h => List.mem_cons_of_mem _ (List.mem_append_right _ (h))
  have hl : lv_has ls 6 [(0, .ref (a 0)), (1, .int x), (2, .int v)] := hl
  obtain ⟨hi, hi5, hI, hi0⟩ := hR.iq hC hc1
  have hcl := hC.c30
  have hnl := hC.n8
  have htl := hC.t8
  have hrl := hr.2.1
  refine lv_aload_n hx hb dX9_raised_0 rfl (lv_at hl 0 rfl) ?_
  refine lv_iload_n hx hb dX9_raised_1 rfl (lv_at hl 1 rfl) ?_
  refine cViI [.int x] [] FX hK (c_X9_noHouse l D y a hA P n x hI.nn hI.n9) (cwV 1 hts gX9_raised_X9_noHouse rfl rfl rfl (by decide +kernel) ⟨Nat.le_of_ble_eq_true rfl, Nat.le_of_ble_eq_true rfl⟩) hP (pre_recv hK hP (ci := 9) (q0 := 0) rfl rfl) rfl rfl hl (Nat.le_of_ble_eq_true rfl) dX9_raised_2 ⟨Nat.zero_le _, Nat.zero_le _⟩ hS (fun _ h => h) (fun r2 u2 H locs hp2 hP hS _ _ => ?_)
  obtain rfl := hp2
  refine xb_eq (tgt := 10) hx hb dX9_raised_5 (by decide) (fun c5 => ?_) (fun c5 => ?_)
  · have k5 : inN n x := Classical.not_not.mp c5
    obtain ⟨h, hh, eh⟩ := id k5
    subst eh
    refine lv_iload_n hx hb dX9_raised_10 rfl (lv_at hl 2 rfl) ?_
    refine cStI [.int v] [] FX hK (c_X9_isNumber l D y v) (va_cwS 1 hts gX9_raised_X9_isNumber rfl rfl rfl (by decide +kernel) ⟨Nat.le_of_ble_eq_true rfl, Nat.le_of_ble_eq_true rfl⟩) rfl rfl hl (Nat.le_of_ble_eq_true rfl) dX9_raised_11 ⟨Nat.zero_le _, Nat.zero_le _⟩ hP hS (fun r11 H locs hp11 hP hS => ?_)
    obtain rfl := hp11
    refine xb_ne (tgt := 20) hx hb dX9_raised_14 (by decide) (fun c14 => ?_) (fun c14 => ?_)
    · refine lv_aload_n hx hb dX9_raised_20 rfl (lv_at hl 0 rfl) ?_
      refine mg_10 FX hK in9 hP (List.mem_of_getElem? (i := 1) rfl) dX9_raised_21 ?_
      refine lv_iload_n hx hb dX9_raised_24 rfl (lv_at hl 1 rfl) ?_
      refine ma7 (i := h) (by omega) FX hK hP dX9_raised_25 ?_
      refine lv_istore_n (lv' := [(3, .int (P.2 6 h)), (0, .ref (a 0)), (1, .int (nI h)), (2, .int v)]) hx hb dX9_raised_26 rfl hl (by decide) rfl (fun ls hl => ?_)
      refine lv_bipush (v := (-9)) hx hb dX9_raised_27 rfl ?_
      refine lv_istore (lv' := [(4, .int (-9)), (3, .int (P.2 6 h)), (0, .ref (a 0)), (1, .int (nI h)), (2, .int v)]) hx hb dX9_raised_29 hl (by decide) rfl (fun ls hl => ?_)
      refine lv_bipush (v := nI 9) hx hb dX9_raised_31 rfl ?_
      refine lv_istore (lv' := [(5, .int (nI 9)), (4, .int (-9)), (3, .int (P.2 6 h)), (0, .ref (a 0)), (1, .int (nI h)), (2, .int v)]) hx hb dX9_raised_33 hl (by decide) rfl (fun ls hl => ?_)
      have L35 : ∀ (N : Nat) (u : Nat) (z : Int32), (u ≤ 10) → u < N → ∀ (H : Heap) (locs : List Loc) (ls : Array Slot), va_P D vwCl (wM y a (pa P 6 h z)) H → va_S (AM a) s.heap H locs → lv_has ls 6 [(0, .ref (a 0)), (1, .int (nI h)), (2, .int v), (3, .int (P.2 6 h)), (4, .int (dsI (fun k => fnd (nI (sNf C w n (C.1 6) (upd (sTop C (C.1 5) (flP C)) (plN C h) (C.2 0 (plN C h) + sHt C h (nI k))) (plN C h)) = v) k) u 10)), (5, .int (vI u))] → W p l e rmX9_raised s m args below meth c H locs 0 0 Q (F0 m 35 ls []) := by
        intro N35
        induction N35 with
        | zero => intro u z hu hmeas; exact absurd hmeas (Nat.not_lt_zero _)
        | succ N35 ih35 =>
          intro u z hu hmeas H locs ls hP hS hl
          refine lv_iload hx hb dX9_raised_35 (lv_at hl 5 rfl) ?_
          refine lv_if_lt (tgt := 72) hx hb dX9_raised_37 (by decide) (fun c37 => ?_) (fun c37 => ?_)
          · refine lv_aload_n hx hb dX9_raised_72 rfl (lv_at hl 0 rfl) ?_
            refine mg_10 FX hK in9 hP (List.mem_of_getElem? (i := 1) rfl) dX9_raised_73 ?_
            refine lv_iload_n hx hb dX9_raised_76 rfl (lv_at hl 1 rfl) ?_
            refine lv_iload_n hx hb dX9_raised_77 rfl (lv_at hl 3 rfl) ?_
            refine ms7 (i := h) (by omega) FX hK hP hA hS dX9_raised_78 (fun H locs hP hS => ?_)
            rw [pa_pa, pa_same P 6 h rfl] at hP
            refine lv_iload hx hb dX9_raised_79 (lv_at hl 4 rfl) ?_
            exact ret H locs 81 ls (dsI (fun k => fnd (nI (sNf C w n (C.1 6) (upd (sTop C (C.1 5) (flP C)) (plN C h) (C.2 0 (plN C h) + sHt C h (nI k))) (plN C h)) = v) k) u 10) P dX9_raised_81 (by unfold ansRaised; rw [dN_nI (show h < 2 ^ 31 by omega), cif_t k5, cif_t c14]; exact ⟨(by rw [vI_pos (by omega) c37, ds_0]; rfl), hR⟩) hP hS
          · obtain ⟨u', rfl⟩ : ∃ u', u = u' + 1 := ⟨u - 1, by have := vI_neg (by omega) c37; omega⟩
            rw [vI_s] at hl
            refine lv_aload_n hx hb dX9_raised_40 rfl (lv_at hl 0 rfl) ?_
            refine mg_10 FX hK in9 hP (List.mem_of_getElem? (i := 1) rfl) dX9_raised_41 ?_
            refine lv_iload_n hx hb dX9_raised_44 rfl (lv_at hl 1 rfl) ?_
            refine lv_iload hx hb dX9_raised_45 (lv_at hl 5 rfl) ?_
            refine ms7 (i := h) (by omega) FX hK hP hA hS dX9_raised_47 (fun H locs hP hS => ?_)
            rw [pa_pa] at hP
            refine lv_aload_n hx hb dX9_raised_48 rfl (lv_at hl 0 rfl) ?_
            refine lv_iload_n hx hb dX9_raised_49 rfl (lv_at hl 1 rfl) ?_
            refine cViI [.int (nI h)] [] FX hK (c_X9_numberOf l D y a hA (pa P 6 h (nI u')) w cN n t hi h hI (by omega)) (cwV 1 hts gX9_raised_X9_numberOf rfl rfl rfl (by decide +kernel) ⟨Nat.le_of_ble_eq_true rfl, Nat.le_of_ble_eq_true rfl⟩) hP (pre_recv hK hP (ci := 9) (q0 := 0) rfl rfl) rfl rfl hl (Nat.le_of_ble_eq_true rfl) dX9_raised_50 ⟨Nat.zero_le _, Nat.zero_le _⟩ hS (fun _ h => h) (fun r50 u50 H locs hp50 hP hS _ _ => ?_)
            obtain rfl := hp50
            refine xn_to hx (z := nI (sNf C w n (C.1 6) (upd (sTop C (C.1 5) (flP C)) (plN C h) (C.2 0 (plN C h) + sHt C h (nI u'))) (plN C h))) (by rw [(hR.wpa (k := 6) (by decide) h (nI u')).num (hC.floor h _) hc1 hh, num_floor hC _ hh]) ?_
            refine lv_iload_n hx hb dX9_raised_53 rfl (lv_at hl 2 rfl) ?_
            refine lv_icmp_ne (tgt := 62) hx hb dX9_raised_54 (by decide) (fun c54 => ?_) (fun c54 => ?_)
            · refine lv_iload hx hb dX9_raised_62 (lv_at hl 4 rfl) ?_
              refine lv_istore (lv' := [(4, .int (dsI (fun k => fnd (nI (sNf C w n (C.1 6) (upd (sTop C (C.1 5) (flP C)) (plN C h) (C.2 0 (plN C h) + sHt C h (nI k))) (plN C h)) = v) k) (u' + 1) 10)), (0, .ref (a 0)), (1, .int (nI h)), (2, .int v), (3, .int (P.2 6 h)), (5, .int (nI u'))]) hx hb dX9_raised_64 hl (by decide) rfl (fun ls hl => ?_)
              refine lv_iinc (v := vI u') (lv' := [(5, .int (vI u')), (4, .int (dsI (fun k => fnd (nI (sNf C w n (C.1 6) (upd (sTop C (C.1 5) (flP C)) (plN C h) (C.2 0 (plN C h) + sHt C h (nI k))) (plN C h)) = v) k) (u' + 1) 10)), (0, .ref (a 0)), (1, .int (nI h)), (2, .int v), (3, .int (P.2 6 h))]) hx hb dX9_raised_66 hl (k := 5) rfl rfl (by decide) rfl (fun ls hl => ?_)
              refine lv_goto (tgt := 35) hx hb dX9_raised_69 (by decide) ?_
              have e9 : dsI (fun k => fnd (nI (sNf C w n (C.1 6) (upd (sTop C (C.1 5) (flP C)) (plN C h) (C.2 0 (plN C h) + sHt C h (nI k))) (plN C h)) = v) k) u' 10 = dsI (fun k => fnd (nI (sNf C w n (C.1 6) (upd (sTop C (C.1 5) (flP C)) (plN C h) (C.2 0 (plN C h) + sHt C h (nI k))) (plN C h)) = v) k) (u' + 1) 10 := by rw [ds_s (by omega), cif_t (fnd_f c54)]
              rw [← e9] at hl
              exact ih35 u' (nI u') (by omega) (by omega) H locs ls hP hS (lv_sub hl [2, 3, 4, 5, 1, 0] rfl)
            · refine lv_iload hx hb dX9_raised_57 (lv_at hl 5 rfl) ?_
              refine lv_goto (tgt := 64) hx hb dX9_raised_59 (by decide) ?_
              refine lv_istore (lv' := [(4, .int (nI u')), (0, .ref (a 0)), (1, .int (nI h)), (2, .int v), (3, .int (P.2 6 h)), (5, .int (nI u'))]) hx hb dX9_raised_64 hl (by decide) rfl (fun ls hl => ?_)
              refine lv_iinc (v := vI u') (lv' := [(5, .int (vI u')), (4, .int (nI u')), (0, .ref (a 0)), (1, .int (nI h)), (2, .int v), (3, .int (P.2 6 h))]) hx hb dX9_raised_66 hl (k := 5) rfl rfl (by decide) rfl (fun ls hl => ?_)
              refine lv_goto (tgt := 35) hx hb dX9_raised_69 (by decide) ?_
              have e9 : dsI (fun k => fnd (nI (sNf C w n (C.1 6) (upd (sTop C (C.1 5) (flP C)) (plN C h) (C.2 0 (plN C h) + sHt C h (nI k))) (plN C h)) = v) k) u' 10 = nI u' := by rw [ds_s (by omega), cif_f (by rw [fnd_t c54]; exact nI_ne9 (by omega)), fnd_t c54]
              have hl := lv_eq4 hl e9.symm
              exact ih35 u' (nI u') (by omega) (by omega) H locs ls hP hS (lv_sub hl [2, 3, 4, 5, 1, 0] rfl)
      rw [← pa_same P 6 h rfl] at hP
      rw [show (-9 : Int32) = dsI (fun k => fnd (nI (sNf C w n (C.1 6) (upd (sTop C (C.1 5) (flP C)) (plN C h) (C.2 0 (plN C h) + sHt C h (nI k))) (plN C h)) = v) k) 10 10 from (ds_end _ _).symm, show nI 9 = vI 10 from rfl] at hl
      exact L35 _ 10 (P.2 6 h) (Nat.le_refl _) (Nat.lt_succ_self _) H locs ls hP hS (lv_sub hl [3, 4, 5, 2, 1, 0] rfl)
    · refine lv_bipush (v := (-2)) hx hb dX9_raised_17 rfl ?_
      exact ret H locs 19 ls (-2) P dX9_raised_19 (by unfold ansRaised; rw [dN_nI (show h < 2 ^ 31 by omega), cif_t k5, cif_f c14]; exact ⟨rfl, hR⟩) hP hS
  · refine lv_iconst (v := (-1)) hx hb dX9_raised_8 rfl ?_
    exact ret H locs 9 ls (-1) P dX9_raised_9 (by unfold ansRaised; rw [cif_f c5]; exact ⟨rfl, hR⟩) hP hS

abbrev rmX9_reading : Room := { frames := 2, cells := 0, slots := 0, locals := 46 }
set_option maxRecDepth 100000 in
set_option maxHeartbeats 4000000 in
theorem c_X9_reading (l : Launch) (D : va_G) (y : Nat → ClassId) (a : Nat → Nat) (hA : CA a 26) (P : PT) (C : PT) (w cN n t rd : Nat) (x : Int32) (yr : Int32) (v : Int32)  (hR : RQ C P) (hC : IP C w cN n t) (hc1 : C.1 1 = nI cN) (hr : RD C n rd) : CtI l D y yX9_reading wsX9_reading rmX9_reading [.ref (a 0), .int x, .int yr, .int v] (wM y a P) (fun (r : Int32) (P' : PT) => r = (ansReading C n rd x yr v).1 ∧ RQ (ansReading C n rd x yr v).2 P') (fun P' => wM y a P') (AM a) := by
  refine mkI (cc := cX9_reading) (maxL := 4) (ret := some .int) RX9 rfl (by decide) rfl (Or.inl rfl) (Nat.le_of_ble_eq_true rfl) ?_
  intro p e s m args below meth c Q FX hK hP ret ls hl
  obtain ⟨hx, hb, hml, hown, hts⟩ := id FX
  have hS : va_S (AM a) s.heap s.heap [] := va_S.rf
  have in9 : ∀ w ∈ wsX90, w ∈ wsX9_reading := fun _ h => List.mem_cons_of_mem _ (List.mem_append_right _ (h))
  have hl : lv_has ls 4 [(0, .ref (a 0)), (1, .int x), (2, .int yr), (3, .int v)] := hl
  obtain ⟨hi, hi5, hI, hi0⟩ := hR.iq hC hc1
  have hcl := hC.c30
  have hnl := hC.n8
  have htl := hC.t8
  have hrl := hr.2.1
  refine lv_aload_n hx hb dX9_reading_0 rfl (lv_at hl 0 rfl) ?_
  refine lv_iload_n hx hb dX9_reading_1 rfl (lv_at hl 1 rfl) ?_
  refine cViI [.int x] [] FX hK (c_X9_noHouse l D y a hA P n x hI.nn hI.n9) (cwV 1 hts gX9_reading_X9_noHouse rfl rfl rfl (by decide +kernel) ⟨Nat.le_of_ble_eq_true rfl, Nat.le_of_ble_eq_true rfl⟩) hP (pre_recv hK hP (ci := 9) (q0 := 0) rfl rfl) rfl rfl hl (Nat.le_of_ble_eq_true rfl) dX9_reading_2 ⟨Nat.zero_le _, Nat.zero_le _⟩ hS (fun _ h => h) (fun r2 u2 H locs hp2 hP hS _ _ => ?_)
  obtain rfl := hp2
  refine xb_eq (tgt := 10) hx hb dX9_reading_5 (by decide) (fun c5 => ?_) (fun c5 => ?_)
  · have k5 : inN n x := Classical.not_not.mp c5
    obtain ⟨j, hj, ej⟩ := id k5
    subst ej
    refine lv_iload_n hx hb dX9_reading_10 rfl (lv_at hl 2 rfl) ?_
    refine lv_i2l hx hb dX9_reading_11 rfl ?_
    refine lv_lconst (v := 0) hx hb dX9_reading_12 rfl ?_
    refine lv_ldc2 hx hb hown (hts _ (List.mem_of_getElem? (i := 1) rfl)) dX9_reading_13 ?_
    refine cStI [.long (yr.toInt64), .long 0, .long (30)] [] FX hK (c_X9_in l D y (yr.toInt64) 0 (30)) (va_cwS 3 hts gX9_reading_X9_in rfl rfl rfl (by decide +kernel) ⟨Nat.le_of_ble_eq_true rfl, Nat.le_of_ble_eq_true rfl⟩) rfl rfl hl (Nat.le_of_ble_eq_true rfl) dX9_reading_16 ⟨Nat.zero_le _, Nat.zero_le _⟩ hP hS (fun r16 H locs hp16 hP hS => ?_)
    obtain rfl := hp16
    refine xn_to hx (z := b2 (inR 0 30 yr)) (b2_iff (in_R (lo := 0) (hi := 30) rfl rfl (by decide))) ?_
    refine xb_eq (tgt := 29) hx hb dX9_reading_19 (by decide) (fun c19 => ?_) (fun c19 => ?_)
    · refine lv_bipush (v := (-2)) hx hb dX9_reading_29 rfl ?_
      exact ret H locs 31 ls (-2) P dX9_reading_31 (by unfold ansReading; rw [cif_t k5, cif_f c19]; exact ⟨rfl, hR⟩) hP hS
    · refine lv_iload_n hx hb dX9_reading_22 rfl (lv_at hl 3 rfl) ?_
      refine cStI [.int v] [] FX hK (c_X9_isNumber l D y v) (va_cwS 1 hts gX9_reading_X9_isNumber rfl rfl rfl (by decide +kernel) ⟨Nat.le_of_ble_eq_true rfl, Nat.le_of_ble_eq_true rfl⟩) rfl rfl hl (Nat.le_of_ble_eq_true rfl) dX9_reading_23 ⟨Nat.zero_le _, Nat.zero_le _⟩ hP hS (fun r23 H locs hp23 hP hS => ?_)
      obtain rfl := hp23
      refine xb_ne (tgt := 32) hx hb dX9_reading_26 (by decide) (fun c26 => ?_) (fun c26 => ?_)
      · refine lv_aload_n hx hb dX9_reading_32 rfl (lv_at hl 0 rfl) ?_
        refine mg_32 FX hK in9 hP (List.mem_of_getElem? (i := 2) rfl) dX9_reading_33 ?_
        refine xn_to hx (z := nI rd) ((hR.1 8 (by omega)).trans hr.1) ?_
        refine lv_bipush (v := nI 8) hx hb dX9_reading_36 rfl ?_
        refine xn_icmp_ne (tgt := 44) hx hb (by omega) (by omega) dX9_reading_38 (by decide) (fun c38 => ?_) (fun c38 => ?_)
        · refine lv_aload_n hx hb dX9_reading_44 rfl (lv_at hl 0 rfl) ?_
          refine mg_33 FX hK in9 hP (List.mem_of_getElem? (i := 3) rfl) dX9_reading_45 ?_
          refine lv_aload_n hx hb dX9_reading_48 rfl (lv_at hl 0 rfl) ?_
          refine mg_32 FX hK in9 hP (List.mem_of_getElem? (i := 2) rfl) dX9_reading_49 ?_
          refine xn_to hx (z := nI rd) ((hR.1 8 (by omega)).trans hr.1) ?_
          refine lv_iload_n hx hb dX9_reading_52 rfl (lv_at hl 1 rfl) ?_
          refine ms19 (i := rd) (by omega) FX hK hP hA hS dX9_reading_53 (fun H locs hP hS => ?_)
          refine lv_aload_n hx hb dX9_reading_54 rfl (lv_at hl 0 rfl) ?_
          refine mg_34 FX hK in9 hP (List.mem_of_getElem? (i := 4) rfl) dX9_reading_55 ?_
          refine lv_aload_n hx hb dX9_reading_58 rfl (lv_at hl 0 rfl) ?_
          refine mg_32 FX hK in9 hP (List.mem_of_getElem? (i := 2) rfl) dX9_reading_59 ?_
          refine xn_to hx (z := nI rd) ((hR.1 8 (by omega)).trans hr.1) ?_
          refine lv_iload_n hx hb dX9_reading_62 rfl (lv_at hl 2 rfl) ?_
          refine ms20 (i := rd) (by omega) FX hK hP hA hS dX9_reading_63 (fun H locs hP hS => ?_)
          refine lv_aload_n hx hb dX9_reading_64 rfl (lv_at hl 0 rfl) ?_
          refine mg_35 FX hK in9 hP (List.mem_of_getElem? (i := 5) rfl) dX9_reading_65 ?_
          refine lv_aload_n hx hb dX9_reading_68 rfl (lv_at hl 0 rfl) ?_
          refine mg_32 FX hK in9 hP (List.mem_of_getElem? (i := 2) rfl) dX9_reading_69 ?_
          refine xn_to hx (z := nI rd) ((hR.1 8 (by omega)).trans hr.1) ?_
          refine lv_iload_n hx hb dX9_reading_72 rfl (lv_at hl 3 rfl) ?_
          refine ms21 (i := rd) (by omega) FX hK hP hA hS dX9_reading_73 (fun H locs hP hS => ?_)
          refine lv_aload_n hx hb dX9_reading_74 rfl (lv_at hl 0 rfl) ?_
          refine lv_dup hx hb dX9_reading_75 rfl ?_
          refine mg_32 FX hK in9 hP (List.mem_of_getElem? (i := 2) rfl) dX9_reading_76 ?_
          refine xn_to hx (z := nI rd) ((hR.1 8 (by omega)).trans hr.1) ?_
          refine lv_iconst (v := nI 1) hx hb dX9_reading_79 rfl ?_
          refine xn_iadd (a := rd) (b := 1) hx hb dX9_reading_80 ?_
          refine mp_32 FX hK in9 hP hA hS (List.mem_of_getElem? (i := 2) rfl) dX9_reading_81 (fun H locs hP hS => ?_)
          refine lv_aload_n hx hb dX9_reading_84 rfl (lv_at hl 0 rfl) ?_
          refine mg_32 FX hK in9 hP (List.mem_of_getElem? (i := 2) rfl) dX9_reading_85 ?_
          refine xn_to hx (z := nI (rd + 1)) rfl ?_
          refine lv_iconst (v := nI 1) hx hb dX9_reading_88 rfl ?_
          refine xn_isub (a := rd + 1) (b := 1) hx hb (by omega) dX9_reading_89 ?_
          exact ret H locs 90 ls (nI ((rd + 1) - 1)) (pg (pa (pa (pa P 9 rd (nI j)) 10 rd yr) 11 rd v) 8 (nI (rd + 1))) dX9_reading_90 (by unfold ansReading; rw [cif_t k5, cif_t c19, cif_t c26, cif_f (show ¬ 8 ≤ rd by omega)]; exact ⟨rfl, hR.addr hr (by omega) (nI j) yr v⟩) hP hS
        · refine lv_bipush (v := (-4)) hx hb dX9_reading_41 rfl ?_
          exact ret H locs 43 ls (-4) P dX9_reading_43 (by unfold ansReading; rw [cif_t k5, cif_t c19, cif_t c26, cif_t (show 8 ≤ rd by omega)]; exact ⟨rfl, hR⟩) hP hS
      · refine lv_bipush (v := (-2)) hx hb dX9_reading_29 rfl ?_
        exact ret H locs 31 ls (-2) P dX9_reading_31 (by unfold ansReading; rw [cif_t k5, cif_t c19, cif_f c26]; exact ⟨rfl, hR⟩) hP hS
  · refine lv_iconst (v := (-1)) hx hb dX9_reading_8 rfl ?_
    exact ret H locs 9 ls (-1) P dX9_reading_9 (by unfold ansReading; rw [cif_f c5]; exact ⟨rfl, hR⟩) hP hS

abbrev rmX9_back : Room := { frames := 1, cells := 0, slots := 0, locals := 25 }
set_option maxRecDepth 100000 in
set_option maxHeartbeats 4000000 in
theorem c_X9_back (l : Launch) (D : va_G) (y : Nat → ClassId) (a : Nat → Nat) (hA : CA a 26) (P : PT) (C : PT) (w cN n t rd : Nat) (x : Int32)  (hR : RQ C P) (hC : IP C w cN n t) (hc1 : C.1 1 = nI cN) (hr : RD C n rd) : CtI l D y yX9_back wsX9_back rmX9_back [.ref (a 0), .int x] (wM y a P) (fun (r : Int32) (P' : PT) => r = (ansBack C rd x).1 ∧ RQ (ansBack C rd x).2 P') (fun P' => wM y a P') (AM a) := by
  refine mkI (cc := cX9_back) (maxL := 2) (ret := some .int) RX9 rfl (by decide) rfl (Or.inl rfl) (Nat.le_of_ble_eq_true rfl) ?_
  intro p e s m args below meth c Q FX hK hP ret ls hl
  obtain ⟨hx, hb, hml, hown, hts⟩ := id FX
  have hS : va_S (AM a) s.heap s.heap [] := va_S.rf
  have in9 : ∀ w ∈ wsX90, w ∈ wsX9_back := fun _ h => List.mem_cons_of_mem _ (List.mem_append_right _ (h))
  have hl : lv_has ls 2 [(0, .ref (a 0)), (1, .int x)] := hl
  obtain ⟨hi, hi5, hI, hi0⟩ := hR.iq hC hc1
  have hcl := hC.c30
  have hnl := hC.n8
  have htl := hC.t8
  have hrl := hr.2.1
  refine lv_iload_n hx hb dX9_back_0 rfl (lv_at hl 1 rfl) ?_
  refine lv_i2l hx hb dX9_back_1 rfl ?_
  refine lv_lconst (v := 0) hx hb dX9_back_2 rfl ?_
  refine lv_aload_n hx hb dX9_back_3 rfl (lv_at hl 0 rfl) ?_
  refine mg_32 FX hK in9 hP (List.mem_of_getElem? (i := 1) rfl) dX9_back_4 ?_
  refine xn_to hx (z := nI rd) ((hR.1 8 (by omega)).trans hr.1) ?_
  refine lv_i2l hx hb dX9_back_7 rfl ?_
  refine cStI [.long (x.toInt64), .long 0, .long ((nI rd).toInt64)] [] FX hK (c_X9_in l D y (x.toInt64) 0 ((nI rd).toInt64)) (va_cwS 3 hts gX9_back_X9_in rfl rfl rfl (by decide +kernel) ⟨Nat.le_of_ble_eq_true rfl, Nat.le_of_ble_eq_true rfl⟩) rfl rfl hl (Nat.le_of_ble_eq_true rfl) dX9_back_8 ⟨Nat.zero_le _, Nat.zero_le _⟩ hP hS (fun r8 H locs hp8 hP hS => ?_)
  obtain rfl := hp8
  refine xn_to hx (z := b2 (inR 0 rd x)) (b2_iff (in_R (lo := 0) (hi := rd) rfl (by rw [Int32.toInt_toInt64, nI_toInt (by omega)]) (by omega))) ?_
  refine xb_ne (tgt := 17) hx hb dX9_back_11 (by decide) (fun c11 => ?_) (fun c11 => ?_)
  · have k11 := c11
    obtain ⟨j, hj0, hj, ej⟩ := id k11
    subst ej
    refine lv_aload_n hx hb dX9_back_17 rfl (lv_at hl 0 rfl) ?_
    refine lv_dup hx hb dX9_back_18 rfl ?_
    refine mg_32 FX hK in9 hP (List.mem_of_getElem? (i := 1) rfl) dX9_back_19 ?_
    refine xn_to hx (z := nI rd) ((hR.1 8 (by omega)).trans hr.1) ?_
    refine lv_iload_n hx hb dX9_back_22 rfl (lv_at hl 1 rfl) ?_
    refine xn_isub (a := rd) (b := j) hx hb (by omega) dX9_back_23 ?_
    refine mp_32 FX hK in9 hP hA hS (List.mem_of_getElem? (i := 1) rfl) dX9_back_24 (fun H locs hP hS => ?_)
    refine lv_aload_n hx hb dX9_back_27 rfl (lv_at hl 0 rfl) ?_
    refine mg_32 FX hK in9 hP (List.mem_of_getElem? (i := 1) rfl) dX9_back_28 ?_
    refine xn_to hx (z := nI (rd - j)) rfl ?_
    exact ret H locs 31 ls (nI (rd - j)) (pg P 8 (nI (rd - j))) dX9_back_31 (by unfold ansBack; rw [dN_nI (show j < 2 ^ 31 by omega), cif_t k11]; exact ⟨rfl, hR.w8 (by omega) (fun k r h1 h2 h3 => hR.rdg hr h1 h2 (by omega))⟩) hP hS
  · refine lv_bipush (v := (-2)) hx hb dX9_back_14 rfl ?_
    exact ret H locs 16 ls (-2) P dX9_back_16 (by unfold ansBack; rw [cif_f c11]; exact ⟨rfl, hR⟩) hP hS

abbrev rmX9_tell : Room := { frames := 2, cells := 0, slots := 0, locals := 46 }
set_option maxRecDepth 100000 in
set_option maxHeartbeats 4000000 in
theorem c_X9_tell (l : Launch) (D : va_G) (y : Nat → ClassId) (a : Nat → Nat) (hA : CA a 26) (P : PT) (C : PT) (w cN n t rd : Nat) (x : Int32)  (hR : RQ C P) (hC : IP C w cN n t) (hc1 : C.1 1 = nI cN) (hr : RD C n rd) (hkd : ∀ h, h < n → ∃ kd, kd ≤ 2 ∧ C.2 3 h = nI kd) : CtI l D y yX9_tell wsX9_tell rmX9_tell [.ref (a 0), .int x] (wM y a P) (fun (r : Int32) (P' : PT) => r = (ansTell C n x).1 ∧ RQ (ansTell C n x).2 P') (fun P' => wM y a P') (AM a) := by
  refine mkI (cc := cX9_tell) (maxL := 4) (ret := some .int) RX9 rfl (by decide) rfl (Or.inl rfl) (Nat.le_of_ble_eq_true rfl) ?_
  intro p e s m args below meth c Q FX hK hP ret ls hl
  obtain ⟨hx, hb, hml, hown, hts⟩ := id FX
  have hS : va_S (AM a) s.heap s.heap [] := va_S.rf
  have in9 : ∀ w ∈ wsX90, w ∈ wsX9_tell := fun _ h => List.mem_cons_of_mem _ (List.mem_append_right _ (h))
  have hl : lv_has ls 4 [(0, .ref (a 0)), (1, .int x)] := hl
  obtain ⟨hi, hi5, hI, hi0⟩ := hR.iq hC hc1
  have hcl := hC.c30
  have hnl := hC.n8
  have htl := hC.t8
  have hrl := hr.2.1
  refine lv_aload_n hx hb dX9_tell_0 rfl (lv_at hl 0 rfl) ?_
  refine lv_iload_n hx hb dX9_tell_1 rfl (lv_at hl 1 rfl) ?_
  refine cViI [.int x] [] FX hK (c_X9_noHouse l D y a hA P n x hI.nn hI.n9) (cwV 1 hts gX9_tell_X9_noHouse rfl rfl rfl (by decide +kernel) ⟨Nat.le_of_ble_eq_true rfl, Nat.le_of_ble_eq_true rfl⟩) hP (pre_recv hK hP (ci := 9) (q0 := 0) rfl rfl) rfl rfl hl (Nat.le_of_ble_eq_true rfl) dX9_tell_2 ⟨Nat.zero_le _, Nat.zero_le _⟩ hS (fun _ h => h) (fun r2 u2 H locs hp2 hP hS _ _ => ?_)
  obtain rfl := hp2
  refine xb_eq (tgt := 10) hx hb dX9_tell_5 (by decide) (fun c5 => ?_) (fun c5 => ?_)
  · have k5 : inN n x := Classical.not_not.mp c5
    obtain ⟨j, hj, ej⟩ := id k5
    subst ej
    refine lv_aload_n hx hb dX9_tell_10 rfl (lv_at hl 0 rfl) ?_
    refine mg_7 FX hK in9 hP (List.mem_of_getElem? (i := 1) rfl) dX9_tell_11 ?_
    refine lv_iload_n hx hb dX9_tell_14 rfl (lv_at hl 1 rfl) ?_
    refine ma4 (i := j) (by omega) FX hK hP dX9_tell_15 ?_
    refine xn_to hx (z := C.2 3 j) (hR.house hC (k := 3) (by decide) (by decide) (by omega)) ?_
    refine lv_istore_n (lv' := [(2, .int (C.2 3 j)), (0, .ref (a 0)), (1, .int (nI j))]) hx hb dX9_tell_16 rfl hl (by decide) rfl (fun ls hl => ?_)
    obtain ⟨kd, hk1, hk2⟩ := hkd j hj
    rw [hk2] at hl
    rcases (show kd = 0 ∨ kd = 1 ∨ kd = 2 by omega) with e | e | e <;> subst e
    · refine lv_iload_n hx hb dX9_tell_17 rfl (lv_at hl 0 rfl) ?_
      refine lv_iconst (v := nI 2) hx hb dX9_tell_18 rfl ?_
      refine xn_icmp_ne (tgt := 27) hx hb (by omega) (by omega) dX9_tell_19 (by decide) (fun c19 => ?_) (fun c19 => ?_)
      · refine lv_iload_n hx hb dX9_tell_27 rfl (lv_at hl 0 rfl) ?_
        refine xn_if_le (tgt := 36) hx hb (by omega) dX9_tell_28 (by decide) (fun c28 => ?_) (fun c28 => ?_)
        · refine lv_aload_n hx hb dX9_tell_36 rfl (lv_at hl 1 rfl) ?_
          refine lv_iconst (v := nI 1) hx hb dX9_tell_37 rfl ?_
          refine cViV [.int (nI 1)] [] FX hK (c_X9_traced l D y a hA P 1) (cwV 1 hts gX9_tell_X9_traced rfl rfl rfl (by decide +kernel) ⟨Nat.le_of_ble_eq_true rfl, Nat.le_of_ble_eq_true rfl⟩) hP (pre_recv hK hP (ci := 9) (q0 := 0) rfl rfl) rfl rfl hl (Nat.le_of_ble_eq_true rfl) dX9_tell_38 ⟨Nat.zero_le _, Nat.zero_le _⟩ hS (fun _ h => h) (fun u38 H locs hp38 hP hS _ _ => ?_)
          refine lv_iload_n hx hb dX9_tell_41 rfl (lv_at hl 0 rfl) ?_
          refine lv_iconst (v := nI 2) hx hb dX9_tell_42 rfl ?_
          refine xn_icmp_ne (tgt := 51) hx hb (by omega) (by omega) dX9_tell_43 (by decide) (fun c43 => ?_) (fun c43 => ?_)
          · refine lv_aload_n hx hb dX9_tell_51 rfl (lv_at hl 1 rfl) ?_
            refine mg_9 FX hK in9 hP (List.mem_of_getElem? (i := 2) rfl) dX9_tell_52 ?_
            refine lv_iload_n hx hb dX9_tell_55 rfl (lv_at hl 2 rfl) ?_
            refine ma6 (i := j) (by omega) FX hK hP dX9_tell_56 ?_
            refine xn_to hx (z := C.2 5 j) (hR.house hC (k := 5) (by decide) (by decide) (by omega)) ?_
            refine lv_istore_n (lv' := [(3, .int (C.2 5 j)), (2, .int (nI 0)), (0, .ref (a 0)), (1, .int (nI j))]) hx hb dX9_tell_57 rfl hl (by decide) rfl (fun ls hl => ?_)
            refine lv_iload_n hx hb dX9_tell_58 rfl (lv_at hl 1 rfl) ?_
            refine xn_if_ne (tgt := 66) hx hb (by omega) dX9_tell_59 (by decide) (fun c59 => ?_) (fun c59 => ?_)
            · exact absurd c59 (by decide)
            · refine lv_iload_n hx hb dX9_tell_62 rfl (lv_at hl 0 rfl) ?_
              refine lv_goto (tgt := 84) hx hb dX9_tell_63 (by decide) ?_
              exact ret H locs 84 ls (C.2 5 j) (trc P 1) dX9_tell_84 (by unfold ansTell; rw [dN_nI (show j < 2 ^ 31 by omega), cif_t k5, cif_f (show ¬ C.2 3 j = 1 by rw [hk2]; decide), cif_f (show ¬ C.2 3 j = 2 by rw [hk2]; decide)]; exact ⟨rfl, hR.trace 1⟩) hP hS
          · exact absurd c43 (by decide)
        · exact absurd c28 (by decide)
      · exact absurd c19 (by decide)
    · refine lv_iload_n hx hb dX9_tell_17 rfl (lv_at hl 0 rfl) ?_
      refine lv_iconst (v := nI 2) hx hb dX9_tell_18 rfl ?_
      refine xn_icmp_ne (tgt := 27) hx hb (by omega) (by omega) dX9_tell_19 (by decide) (fun c19 => ?_) (fun c19 => ?_)
      · refine lv_iload_n hx hb dX9_tell_27 rfl (lv_at hl 0 rfl) ?_
        refine xn_if_le (tgt := 36) hx hb (by omega) dX9_tell_28 (by decide) (fun c28 => ?_) (fun c28 => ?_)
        · exact absurd c28 (by decide)
        · refine lv_aload_n hx hb dX9_tell_31 rfl (lv_at hl 1 rfl) ?_
          refine lv_iconst (v := nI 2) hx hb dX9_tell_32 rfl ?_
          refine cViV [.int (nI 2)] [] FX hK (c_X9_traced l D y a hA P 2) (cwV 1 hts gX9_tell_X9_traced rfl rfl rfl (by decide +kernel) ⟨Nat.le_of_ble_eq_true rfl, Nat.le_of_ble_eq_true rfl⟩) hP (pre_recv hK hP (ci := 9) (q0 := 0) rfl rfl) rfl rfl hl (Nat.le_of_ble_eq_true rfl) dX9_tell_33 ⟨Nat.zero_le _, Nat.zero_le _⟩ hS (fun _ h => h) (fun u33 H locs hp33 hP hS _ _ => ?_)
          refine lv_aload_n hx hb dX9_tell_36 rfl (lv_at hl 1 rfl) ?_
          refine lv_iconst (v := nI 1) hx hb dX9_tell_37 rfl ?_
          refine cViV [.int (nI 1)] [] FX hK (c_X9_traced l D y a hA (trc P 2) 1) (cwV 1 hts gX9_tell_X9_traced rfl rfl rfl (by decide +kernel) ⟨Nat.le_of_ble_eq_true rfl, Nat.le_of_ble_eq_true rfl⟩) hP (pre_recv hK hP (ci := 9) (q0 := 0) rfl rfl) rfl rfl hl (Nat.le_of_ble_eq_true rfl) dX9_tell_38 ⟨Nat.zero_le _, Nat.zero_le _⟩ hS (fun _ h => h) (fun u38 H locs hp38 hP hS _ _ => ?_)
          refine lv_iload_n hx hb dX9_tell_41 rfl (lv_at hl 0 rfl) ?_
          refine lv_iconst (v := nI 2) hx hb dX9_tell_42 rfl ?_
          refine xn_icmp_ne (tgt := 51) hx hb (by omega) (by omega) dX9_tell_43 (by decide) (fun c43 => ?_) (fun c43 => ?_)
          · refine lv_aload_n hx hb dX9_tell_51 rfl (lv_at hl 1 rfl) ?_
            refine mg_9 FX hK in9 hP (List.mem_of_getElem? (i := 2) rfl) dX9_tell_52 ?_
            refine lv_iload_n hx hb dX9_tell_55 rfl (lv_at hl 2 rfl) ?_
            refine ma6 (i := j) (by omega) FX hK hP dX9_tell_56 ?_
            refine xn_to hx (z := C.2 5 j) (hR.house hC (k := 5) (by decide) (by decide) (by omega)) ?_
            refine lv_istore_n (lv' := [(3, .int (C.2 5 j)), (2, .int (nI 1)), (0, .ref (a 0)), (1, .int (nI j))]) hx hb dX9_tell_57 rfl hl (by decide) rfl (fun ls hl => ?_)
            refine lv_iload_n hx hb dX9_tell_58 rfl (lv_at hl 1 rfl) ?_
            refine xn_if_ne (tgt := 66) hx hb (by omega) dX9_tell_59 (by decide) (fun c59 => ?_) (fun c59 => ?_)
            · refine lv_iload_n hx hb dX9_tell_66 rfl (lv_at hl 1 rfl) ?_
              refine lv_iconst (v := nI 1) hx hb dX9_tell_67 rfl ?_
              refine xn_icmp_ne (tgt := 78) hx hb (by omega) (by omega) dX9_tell_68 (by decide) (fun c68 => ?_) (fun c68 => ?_)
              · exact absurd c68 (by decide)
              · refine lv_iload_n hx hb dX9_tell_71 rfl (lv_at hl 0 rfl) ?_
                refine lv_bipush (v := nI 100) hx hb dX9_tell_72 rfl ?_
                refine lv_iadd hx hb dX9_tell_74 ?_
                refine lv_goto (tgt := 84) hx hb dX9_tell_75 (by decide) ?_
                exact ret H locs 84 ls ((C.2 5 j) + (nI 100)) (trc (trc P 2) 1) dX9_tell_84 (by unfold ansTell; rw [dN_nI (show j < 2 ^ 31 by omega), cif_t k5, cif_t (show C.2 3 j = 1 by rw [hk2]; rfl)]; exact ⟨rfl, (hR.trace 2).trace 1⟩) hP hS
            · exact absurd c59 (by decide)
          · exact absurd c43 (by decide)
      · exact absurd c19 (by decide)
    · refine lv_iload_n hx hb dX9_tell_17 rfl (lv_at hl 0 rfl) ?_
      refine lv_iconst (v := nI 2) hx hb dX9_tell_18 rfl ?_
      refine xn_icmp_ne (tgt := 27) hx hb (by omega) (by omega) dX9_tell_19 (by decide) (fun c19 => ?_) (fun c19 => ?_)
      · exact absurd c19 (by decide)
      · refine lv_aload_n hx hb dX9_tell_22 rfl (lv_at hl 1 rfl) ?_
        refine lv_iconst (v := nI 3) hx hb dX9_tell_23 rfl ?_
        refine cViV [.int (nI 3)] [] FX hK (c_X9_traced l D y a hA P 3) (cwV 1 hts gX9_tell_X9_traced rfl rfl rfl (by decide +kernel) ⟨Nat.le_of_ble_eq_true rfl, Nat.le_of_ble_eq_true rfl⟩) hP (pre_recv hK hP (ci := 9) (q0 := 0) rfl rfl) rfl rfl hl (Nat.le_of_ble_eq_true rfl) dX9_tell_24 ⟨Nat.zero_le _, Nat.zero_le _⟩ hS (fun _ h => h) (fun u24 H locs hp24 hP hS _ _ => ?_)
        refine lv_iload_n hx hb dX9_tell_27 rfl (lv_at hl 0 rfl) ?_
        refine xn_if_le (tgt := 36) hx hb (by omega) dX9_tell_28 (by decide) (fun c28 => ?_) (fun c28 => ?_)
        · exact absurd c28 (by decide)
        · refine lv_aload_n hx hb dX9_tell_31 rfl (lv_at hl 1 rfl) ?_
          refine lv_iconst (v := nI 2) hx hb dX9_tell_32 rfl ?_
          refine cViV [.int (nI 2)] [] FX hK (c_X9_traced l D y a hA (trc P 3) 2) (cwV 1 hts gX9_tell_X9_traced rfl rfl rfl (by decide +kernel) ⟨Nat.le_of_ble_eq_true rfl, Nat.le_of_ble_eq_true rfl⟩) hP (pre_recv hK hP (ci := 9) (q0 := 0) rfl rfl) rfl rfl hl (Nat.le_of_ble_eq_true rfl) dX9_tell_33 ⟨Nat.zero_le _, Nat.zero_le _⟩ hS (fun _ h => h) (fun u33 H locs hp33 hP hS _ _ => ?_)
          refine lv_aload_n hx hb dX9_tell_36 rfl (lv_at hl 1 rfl) ?_
          refine lv_iconst (v := nI 1) hx hb dX9_tell_37 rfl ?_
          refine cViV [.int (nI 1)] [] FX hK (c_X9_traced l D y a hA (trc (trc P 3) 2) 1) (cwV 1 hts gX9_tell_X9_traced rfl rfl rfl (by decide +kernel) ⟨Nat.le_of_ble_eq_true rfl, Nat.le_of_ble_eq_true rfl⟩) hP (pre_recv hK hP (ci := 9) (q0 := 0) rfl rfl) rfl rfl hl (Nat.le_of_ble_eq_true rfl) dX9_tell_38 ⟨Nat.zero_le _, Nat.zero_le _⟩ hS (fun _ h => h) (fun u38 H locs hp38 hP hS _ _ => ?_)
          refine lv_iload_n hx hb dX9_tell_41 rfl (lv_at hl 0 rfl) ?_
          refine lv_iconst (v := nI 2) hx hb dX9_tell_42 rfl ?_
          refine xn_icmp_ne (tgt := 51) hx hb (by omega) (by omega) dX9_tell_43 (by decide) (fun c43 => ?_) (fun c43 => ?_)
          · exact absurd c43 (by decide)
          · refine lv_aload_n hx hb dX9_tell_46 rfl (lv_at hl 1 rfl) ?_
            refine lv_iconst (v := nI 1) hx hb dX9_tell_47 rfl ?_
            refine cViV [.int (nI 1)] [] FX hK (c_X9_traced l D y a hA (trc (trc (trc P 3) 2) 1) 1) (cwV 1 hts gX9_tell_X9_traced rfl rfl rfl (by decide +kernel) ⟨Nat.le_of_ble_eq_true rfl, Nat.le_of_ble_eq_true rfl⟩) hP (pre_recv hK hP (ci := 9) (q0 := 0) rfl rfl) rfl rfl hl (Nat.le_of_ble_eq_true rfl) dX9_tell_48 ⟨Nat.zero_le _, Nat.zero_le _⟩ hS (fun _ h => h) (fun u48 H locs hp48 hP hS _ _ => ?_)
            refine lv_aload_n hx hb dX9_tell_51 rfl (lv_at hl 1 rfl) ?_
            refine mg_9 FX hK in9 hP (List.mem_of_getElem? (i := 2) rfl) dX9_tell_52 ?_
            refine lv_iload_n hx hb dX9_tell_55 rfl (lv_at hl 2 rfl) ?_
            refine ma6 (i := j) (by omega) FX hK hP dX9_tell_56 ?_
            refine xn_to hx (z := C.2 5 j) (hR.house hC (k := 5) (by decide) (by decide) (by omega)) ?_
            refine lv_istore_n (lv' := [(3, .int (C.2 5 j)), (2, .int (nI 2)), (0, .ref (a 0)), (1, .int (nI j))]) hx hb dX9_tell_57 rfl hl (by decide) rfl (fun ls hl => ?_)
            refine lv_iload_n hx hb dX9_tell_58 rfl (lv_at hl 1 rfl) ?_
            refine xn_if_ne (tgt := 66) hx hb (by omega) dX9_tell_59 (by decide) (fun c59 => ?_) (fun c59 => ?_)
            · refine lv_iload_n hx hb dX9_tell_66 rfl (lv_at hl 1 rfl) ?_
              refine lv_iconst (v := nI 1) hx hb dX9_tell_67 rfl ?_
              refine xn_icmp_ne (tgt := 78) hx hb (by omega) (by omega) dX9_tell_68 (by decide) (fun c68 => ?_) (fun c68 => ?_)
              · refine lv_iconst (v := nI 2) hx hb dX9_tell_78 rfl ?_
                refine lv_iload_n hx hb dX9_tell_79 rfl (lv_at hl 0 rfl) ?_
                refine lv_imul hx hb dX9_tell_80 ?_
                refine lv_bipush (v := nI 100) hx hb dX9_tell_81 rfl ?_
                refine lv_iadd hx hb dX9_tell_83 ?_
                exact ret H locs 84 ls (((nI 2) * (C.2 5 j)) + (nI 100)) (trc (trc (trc (trc P 3) 2) 1) 1) dX9_tell_84 (by unfold ansTell; rw [dN_nI (show j < 2 ^ 31 by omega), cif_t k5, cif_f (show ¬ C.2 3 j = 1 by rw [hk2]; decide), cif_t (show C.2 3 j = 2 by rw [hk2]; rfl)]; exact ⟨two_a _, (((hR.trace 3).trace 2).trace 1).trace 1⟩) hP hS
              · exact absurd c68 (by decide)
            · exact absurd c59 (by decide)
  · refine lv_iconst (v := (-1)) hx hb dX9_tell_8 rfl ?_
    exact ret H locs 9 ls (-1) P dX9_tell_9 (by unfold ansTell; rw [cif_f c5]; exact ⟨rfl, hR⟩) hP hS

abbrev rmX9_rent : Room := { frames := 2, cells := 0, slots := 0, locals := 46 }
set_option maxRecDepth 100000 in
set_option maxHeartbeats 4000000 in
theorem c_X9_rent (l : Launch) (D : va_G) (y : Nat → ClassId) (a : Nat → Nat) (hA : CA a 26) (P : PT) (C : PT) (w cN n t rd : Nat) (x : Int32)  (hR : RQ C P) (hC : IP C w cN n t) (hc1 : C.1 1 = nI cN) (hr : RD C n rd) : CtI l D y yX9_rent wsX9_rent rmX9_rent [.ref (a 0), .int x] (wM y a P) (fun (r : Int32) (P' : PT) => r = (ansRent C n x).1 ∧ RQ (ansRent C n x).2 P') (fun P' => wM y a P') (AM a) := by
  refine mkI (cc := cX9_rent) (maxL := 2) (ret := some .int) RX9 rfl (by decide) rfl (Or.inl rfl) (Nat.le_of_ble_eq_true rfl) ?_
  intro p e s m args below meth c Q FX hK hP ret ls hl
  obtain ⟨hx, hb, hml, hown, hts⟩ := id FX
  have hS : va_S (AM a) s.heap s.heap [] := va_S.rf
  have in9 : ∀ w ∈ wsX90, w ∈ wsX9_rent := fun _ h => List.mem_cons_of_mem _ (List.mem_append_right _ (h))
  have hl : lv_has ls 2 [(0, .ref (a 0)), (1, .int x)] := hl
  obtain ⟨hi, hi5, hI, hi0⟩ := hR.iq hC hc1
  have hcl := hC.c30
  have hnl := hC.n8
  have htl := hC.t8
  have hrl := hr.2.1
  refine lv_aload_n hx hb dX9_rent_0 rfl (lv_at hl 0 rfl) ?_
  refine lv_iload_n hx hb dX9_rent_1 rfl (lv_at hl 1 rfl) ?_
  refine cViI [.int x] [] FX hK (c_X9_noHouse l D y a hA P n x hI.nn hI.n9) (cwV 1 hts gX9_rent_X9_noHouse rfl rfl rfl (by decide +kernel) ⟨Nat.le_of_ble_eq_true rfl, Nat.le_of_ble_eq_true rfl⟩) hP (pre_recv hK hP (ci := 9) (q0 := 0) rfl rfl) rfl rfl hl (Nat.le_of_ble_eq_true rfl) dX9_rent_2 ⟨Nat.zero_le _, Nat.zero_le _⟩ hS (fun _ h => h) (fun r2 u2 H locs hp2 hP hS _ _ => ?_)
  obtain rfl := hp2
  refine xb_eq (tgt := 10) hx hb dX9_rent_5 (by decide) (fun c5 => ?_) (fun c5 => ?_)
  · have k5 : inN n x := Classical.not_not.mp c5
    obtain ⟨j, hj, ej⟩ := id k5
    subst ej
    refine lv_aload_n hx hb dX9_rent_10 rfl (lv_at hl 0 rfl) ?_
    refine lv_aload_n hx hb dX9_rent_11 rfl (lv_at hl 0 rfl) ?_
    refine mg_7 FX hK in9 hP (List.mem_of_getElem? (i := 1) rfl) dX9_rent_12 ?_
    refine lv_iload_n hx hb dX9_rent_15 rfl (lv_at hl 1 rfl) ?_
    refine ma4 (i := j) (by omega) FX hK hP dX9_rent_16 ?_
    refine xn_to hx (z := C.2 3 j) (hR.house hC (k := 3) (by decide) (by decide) (by omega)) ?_
    refine lv_iconst (v := nI 2) hx hb dX9_rent_17 rfl ?_
    refine lv_icmp_ne (tgt := 25) hx hb dX9_rent_18 (by decide) (fun c18 => ?_) (fun c18 => ?_)
    · refine lv_iconst (v := nI 4) hx hb dX9_rent_25 rfl ?_
      refine cViV [.int (nI 4)] [] FX hK (c_X9_traced l D y a hA P 4) (cwV 1 hts gX9_rent_X9_traced rfl rfl rfl (by decide +kernel) ⟨Nat.le_of_ble_eq_true rfl, Nat.le_of_ble_eq_true rfl⟩) hP (pre_recv hK hP (ci := 9) (q0 := 0) rfl rfl) rfl rfl hl (Nat.le_of_ble_eq_true rfl) dX9_rent_26 ⟨Nat.zero_le _, Nat.zero_le _⟩ hS (fun _ h => h) (fun u26 H locs hp26 hP hS _ _ => ?_)
      refine lv_aload_n hx hb dX9_rent_29 rfl (lv_at hl 0 rfl) ?_
      refine mg_7 FX hK in9 hP (List.mem_of_getElem? (i := 1) rfl) dX9_rent_30 ?_
      refine lv_iload_n hx hb dX9_rent_33 rfl (lv_at hl 1 rfl) ?_
      refine ma4 (i := j) (by omega) FX hK hP dX9_rent_34 ?_
      refine xn_to hx (z := C.2 3 j) (hR.house hC (k := 3) (by decide) (by decide) (by omega)) ?_
      refine lv_iconst (v := nI 2) hx hb dX9_rent_35 rfl ?_
      refine lv_icmp_ne (tgt := 44) hx hb dX9_rent_36 (by decide) (fun c36 => ?_) (fun c36 => ?_)
      · refine lv_iload_n hx hb dX9_rent_44 rfl (lv_at hl 1 rfl) ?_
        exact ret H locs 45 ls (nI j) (trc P 4) dX9_rent_45 (by unfold ansRent; rw [dN_nI (show j < 2 ^ 31 by omega), cif_t k5, cif_f c18]; exact ⟨rfl, hR.trace 4⟩) hP hS
      · exact absurd c36 c18
    · refine lv_iconst (v := nI 5) hx hb dX9_rent_21 rfl ?_
      refine lv_goto (tgt := 26) hx hb dX9_rent_22 (by decide) ?_
      refine cViV [.int (nI 5)] [] FX hK (c_X9_traced l D y a hA P 5) (cwV 1 hts gX9_rent_X9_traced rfl rfl rfl (by decide +kernel) ⟨Nat.le_of_ble_eq_true rfl, Nat.le_of_ble_eq_true rfl⟩) hP (pre_recv hK hP (ci := 9) (q0 := 0) rfl rfl) rfl rfl hl (Nat.le_of_ble_eq_true rfl) dX9_rent_26 ⟨Nat.zero_le _, Nat.zero_le _⟩ hS (fun _ h => h) (fun u26 H locs hp26 hP hS _ _ => ?_)
      refine lv_aload_n hx hb dX9_rent_29 rfl (lv_at hl 0 rfl) ?_
      refine mg_7 FX hK in9 hP (List.mem_of_getElem? (i := 1) rfl) dX9_rent_30 ?_
      refine lv_iload_n hx hb dX9_rent_33 rfl (lv_at hl 1 rfl) ?_
      refine ma4 (i := j) (by omega) FX hK hP dX9_rent_34 ?_
      refine xn_to hx (z := C.2 3 j) (hR.house hC (k := 3) (by decide) (by decide) (by omega)) ?_
      refine lv_iconst (v := nI 2) hx hb dX9_rent_35 rfl ?_
      refine lv_icmp_ne (tgt := 44) hx hb dX9_rent_36 (by decide) (fun c36 => ?_) (fun c36 => ?_)
      · exact absurd c18 c36
      · refine lv_bipush (v := nI 70) hx hb dX9_rent_39 rfl ?_
        refine lv_goto (tgt := 45) hx hb dX9_rent_41 (by decide) ?_
        exact ret H locs 45 ls (nI 70) (trc P 5) dX9_rent_45 (by unfold ansRent; rw [dN_nI (show j < 2 ^ 31 by omega), cif_t k5, cif_t c18]; exact ⟨rfl, hR.trace 5⟩) hP hS
  · refine lv_iconst (v := (-1)) hx hb dX9_rent_8 rfl ?_
    exact ret H locs 9 ls (-1) P dX9_rent_9 (by unfold ansRent; rw [cif_f c5]; exact ⟨rfl, hR⟩) hP hS

abbrev rmX9_as : Room := { frames := 2, cells := 0, slots := 0, locals := 46 }
set_option maxRecDepth 100000 in
set_option maxHeartbeats 4000000 in
theorem c_X9_as (l : Launch) (D : va_G) (y : Nat → ClassId) (a : Nat → Nat) (hA : CA a 26) (P : PT) (C : PT) (w cN n t rd : Nat) (x : Int32) (k : Int32)  (hR : RQ C P) (hC : IP C w cN n t) (hc1 : C.1 1 = nI cN) (hr : RD C n rd) : CtI l D y yX9_as wsX9_as rmX9_as [.ref (a 0), .int x, .int k] (wM y a P) (fun (r : Int32) (P' : PT) => r = (ansAs C n x k).1 ∧ RQ (ansAs C n x k).2 P') (fun P' => wM y a P') (AM a) := by
  refine mkI (cc := cX9_as) (maxL := 3) (ret := some .int) RX9 rfl (by decide) rfl (Or.inl rfl) (Nat.le_of_ble_eq_true rfl) ?_
  intro p e s m args below meth c Q FX hK hP ret ls hl
  obtain ⟨hx, hb, hml, hown, hts⟩ := id FX
  have hS : va_S (AM a) s.heap s.heap [] := va_S.rf
  have in9 : ∀ w ∈ wsX90, w ∈ wsX9_as := fun _ h => List.mem_cons_of_mem _ (List.mem_append_right _ (h))
  have hl : lv_has ls 3 [(0, .ref (a 0)), (1, .int x), (2, .int k)] := hl
  obtain ⟨hi, hi5, hI, hi0⟩ := hR.iq hC hc1
  have hcl := hC.c30
  have hnl := hC.n8
  have htl := hC.t8
  have hrl := hr.2.1
  refine lv_aload_n hx hb dX9_as_0 rfl (lv_at hl 0 rfl) ?_
  refine lv_iload_n hx hb dX9_as_1 rfl (lv_at hl 1 rfl) ?_
  refine cViI [.int x] [] FX hK (c_X9_noHouse l D y a hA P n x hI.nn hI.n9) (cwV 1 hts gX9_as_X9_noHouse rfl rfl rfl (by decide +kernel) ⟨Nat.le_of_ble_eq_true rfl, Nat.le_of_ble_eq_true rfl⟩) hP (pre_recv hK hP (ci := 9) (q0 := 0) rfl rfl) rfl rfl hl (Nat.le_of_ble_eq_true rfl) dX9_as_2 ⟨Nat.zero_le _, Nat.zero_le _⟩ hS (fun _ h => h) (fun r2 u2 H locs hp2 hP hS _ _ => ?_)
  obtain rfl := hp2
  refine xb_eq (tgt := 14) hx hb dX9_as_5 (by decide) (fun c5 => ?_) (fun c5 => ?_)
  · have k5 : inN n x := Classical.not_not.mp c5
    obtain ⟨j, hj, ej⟩ := id k5
    subst ej
    refine lv_iload_n hx hb dX9_as_14 rfl (lv_at hl 2 rfl) ?_
    refine lv_i2l hx hb dX9_as_15 rfl ?_
    refine lv_lconst (v := 0) hx hb dX9_as_16 rfl ?_
    refine lv_ldc2 hx hb hown (hts _ (List.mem_of_getElem? (i := 1) rfl)) dX9_as_17 ?_
    refine cStI [.long (k.toInt64), .long 0, .long (2)] [] FX hK (c_X9_in l D y (k.toInt64) 0 (2)) (va_cwS 3 hts gX9_as_X9_in rfl rfl rfl (by decide +kernel) ⟨Nat.le_of_ble_eq_true rfl, Nat.le_of_ble_eq_true rfl⟩) rfl rfl hl (Nat.le_of_ble_eq_true rfl) dX9_as_20 ⟨Nat.zero_le _, Nat.zero_le _⟩ hP hS (fun r20 H locs hp20 hP hS => ?_)
    obtain rfl := hp20
    refine xn_to hx (z := b2 (inR 0 2 k)) (b2_iff (in_R (lo := 0) (hi := 2) rfl rfl (by decide))) ?_
    refine xb_ne (tgt := 33) hx hb dX9_as_23 (by decide) (fun c23 => ?_) (fun c23 => ?_)
    · refine lv_aload_n hx hb dX9_as_33 rfl (lv_at hl 0 rfl) ?_
      refine mg_7 FX hK in9 hP (List.mem_of_getElem? (i := 2) rfl) dX9_as_34 ?_
      refine lv_iload_n hx hb dX9_as_37 rfl (lv_at hl 1 rfl) ?_
      refine ma4 (i := j) (by omega) FX hK hP dX9_as_38 ?_
      refine xn_to hx (z := C.2 3 j) (hR.house hC (k := 3) (by decide) (by decide) (by omega)) ?_
      refine lv_iload_n hx hb dX9_as_39 rfl (lv_at hl 2 rfl) ?_
      refine lv_icmp_lt (tgt := 51) hx hb dX9_as_40 (by decide) (fun c40 => ?_) (fun c40 => ?_)
      · refine lv_aload_n hx hb dX9_as_51 rfl (lv_at hl 0 rfl) ?_
        refine lv_iconst (v := nI 2) hx hb dX9_as_52 rfl ?_
        refine cViI [.int (nI 2)] [] FX hK (c_X9_failed l D y a hA P (nI 2)) (cwV 1 hts gX9_as_X9_failed rfl rfl rfl (by decide +kernel) ⟨Nat.le_of_ble_eq_true rfl, Nat.le_of_ble_eq_true rfl⟩) hP (pre_recv hK hP (ci := 9) (q0 := 0) rfl rfl) rfl rfl hl (Nat.le_of_ble_eq_true rfl) dX9_as_53 ⟨Nat.zero_le _, Nat.zero_le _⟩ hS (fun _ h => h) (fun r53 u53 H locs hp53 hP hS _ _ => ?_)
        obtain rfl := hp53
        exact ret H locs 56 ls ((-10) - (nI 2)) (pg P 10 (nI 2)) dX9_as_56 (by unfold ansAs; rw [dN_nI (show j < 2 ^ 31 by omega), cif_t k5, cif_t c23, cif_f (fun z => z c40)]; exact ⟨rfl, (by rw [pg_pg]; exact hR.wpg (by omega) _)⟩) hP hS
      · refine lv_aload_n hx hb dX9_as_43 rfl (lv_at hl 0 rfl) ?_
        refine lv_iconst (v := nI 1) hx hb dX9_as_44 rfl ?_
        refine cViI [.int (nI 1)] [] FX hK (c_X9_refused l D y a hA P (nI 1)) (cwV 1 hts gX9_as_X9_refused rfl rfl rfl (by decide +kernel) ⟨Nat.le_of_ble_eq_true rfl, Nat.le_of_ble_eq_true rfl⟩) hP (pre_recv hK hP (ci := 9) (q0 := 0) rfl rfl) rfl rfl hl (Nat.le_of_ble_eq_true rfl) dX9_as_45 ⟨Nat.zero_le _, Nat.zero_le _⟩ hS (fun _ h => h) (fun r45 u45 H locs hp45 hP hS _ _ => ?_)
        obtain rfl := hp45
        refine lv_goto (tgt := 56) hx hb dX9_as_48 (by decide) ?_
        exact ret H locs 56 ls (nI 1) (pg P 10 (nI 0)) dX9_as_56 (by unfold ansAs; rw [dN_nI (show j < 2 ^ 31 by omega), cif_t k5, cif_t c23, cif_t c40]; exact ⟨rfl, hR.wpg (by omega) _⟩) hP hS
    · refine lv_aload_n hx hb dX9_as_26 rfl (lv_at hl 0 rfl) ?_
      refine lv_bipush (v := (-2)) hx hb dX9_as_27 rfl ?_
      refine cViI [.int (-2)] [] FX hK (c_X9_refused l D y a hA P (-2)) (cwV 1 hts gX9_as_X9_refused rfl rfl rfl (by decide +kernel) ⟨Nat.le_of_ble_eq_true rfl, Nat.le_of_ble_eq_true rfl⟩) hP (pre_recv hK hP (ci := 9) (q0 := 0) rfl rfl) rfl rfl hl (Nat.le_of_ble_eq_true rfl) dX9_as_29 ⟨Nat.zero_le _, Nat.zero_le _⟩ hS (fun _ h => h) (fun r29 u29 H locs hp29 hP hS _ _ => ?_)
      obtain rfl := hp29
      exact ret H locs 32 ls (-2) (pg P 10 (nI 0)) dX9_as_32 (by unfold ansAs; rw [dN_nI (show j < 2 ^ 31 by omega), cif_t k5, cif_f c23]; exact ⟨rfl, hR.wpg (by omega) _⟩) hP hS
  · refine lv_aload_n hx hb dX9_as_8 rfl (lv_at hl 0 rfl) ?_
    refine lv_iconst (v := (-1)) hx hb dX9_as_9 rfl ?_
    refine cViI [.int (-1)] [] FX hK (c_X9_refused l D y a hA P (-1)) (cwV 1 hts gX9_as_X9_refused rfl rfl rfl (by decide +kernel) ⟨Nat.le_of_ble_eq_true rfl, Nat.le_of_ble_eq_true rfl⟩) hP (pre_recv hK hP (ci := 9) (q0 := 0) rfl rfl) rfl rfl hl (Nat.le_of_ble_eq_true rfl) dX9_as_10 ⟨Nat.zero_le _, Nat.zero_le _⟩ hS (fun _ h => h) (fun r10 u10 H locs hp10 hP hS _ _ => ?_)
    obtain rfl := hp10
    exact ret H locs 13 ls (-1) (pg P 10 (nI 0)) dX9_as_13 (by unfold ansAs; rw [cif_f c5]; exact ⟨rfl, hR.wpg (by omega) _⟩) hP hS

abbrev rmX9_trace : Room := { frames := 0, cells := 0, slots := 0, locals := 0 }
set_option maxRecDepth 100000 in
set_option maxHeartbeats 4000000 in
theorem c_X9_trace (l : Launch) (D : va_G) (y : Nat → ClassId) (a : Nat → Nat) (hA : CA a 26) (P : PT) (C : PT) (w cN n t rd : Nat)  (hR : RQ C P) (hC : IP C w cN n t) (hc1 : C.1 1 = nI cN) (hr : RD C n rd) : CtI l D y yX9_trace wsX9_trace rmX9_trace [.ref (a 0)] (wM y a P) (fun (r : Int32) (P' : PT) => r = ((fun C => (C.1 9, C)) C).1 ∧ RQ ((fun C => (C.1 9, C)) C).2 P') (fun P' => wM y a P') (AM a) := by
  refine mkI (cc := cX9_trace) (maxL := 1) (ret := some .int) RX9 rfl (by decide) rfl (Or.inl rfl) (Nat.le_of_ble_eq_true rfl) ?_
  intro p e s m args below meth c Q FX hK hP ret ls hl
  obtain ⟨hx, hb, hml, hown, hts⟩ := id FX
  have hS : va_S (AM a) s.heap s.heap [] := va_S.rf
  have in9 : ∀ w ∈ wsX90, w ∈ wsX9_trace := fun _ h => List.mem_cons_of_mem _ (List.mem_append_right _ (h))
  have hl : lv_has ls 1 [(0, .ref (a 0))] := hl
  obtain ⟨hi, hi5, hI, hi0⟩ := hR.iq hC hc1
  have hcl := hC.c30
  have hnl := hC.n8
  have htl := hC.t8
  have hrl := hr.2.1
  refine lv_aload_n hx hb dX9_trace_0 rfl (lv_at hl 0 rfl) ?_
  refine mg_40 FX hK in9 hP (List.mem_of_getElem? (i := 1) rfl) dX9_trace_1 ?_
  refine xn_to hx (z := C.1 9) (hR.1 9 (by omega)) ?_
  exact ret s.heap [] 4 ls (C.1 9) P dX9_trace_4 ⟨rfl, hR⟩ hP hS

abbrev rmX9_fault : Room := { frames := 0, cells := 0, slots := 0, locals := 0 }
set_option maxRecDepth 100000 in
set_option maxHeartbeats 4000000 in
theorem c_X9_fault (l : Launch) (D : va_G) (y : Nat → ClassId) (a : Nat → Nat) (hA : CA a 26) (P : PT) (C : PT) (w cN n t rd : Nat)  (hR : RQ C P) (hC : IP C w cN n t) (hc1 : C.1 1 = nI cN) (hr : RD C n rd) : CtI l D y yX9_fault wsX9_fault rmX9_fault [.ref (a 0)] (wM y a P) (fun (r : Int32) (P' : PT) => r = ((fun C => (C.1 10, C)) C).1 ∧ RQ ((fun C => (C.1 10, C)) C).2 P') (fun P' => wM y a P') (AM a) := by
  refine mkI (cc := cX9_fault) (maxL := 1) (ret := some .int) RX9 rfl (by decide) rfl (Or.inl rfl) (Nat.le_of_ble_eq_true rfl) ?_
  intro p e s m args below meth c Q FX hK hP ret ls hl
  obtain ⟨hx, hb, hml, hown, hts⟩ := id FX
  have hS : va_S (AM a) s.heap s.heap [] := va_S.rf
  have in9 : ∀ w ∈ wsX90, w ∈ wsX9_fault := fun _ h => List.mem_cons_of_mem _ (List.mem_append_right _ (h))
  have hl : lv_has ls 1 [(0, .ref (a 0))] := hl
  obtain ⟨hi, hi5, hI, hi0⟩ := hR.iq hC hc1
  have hcl := hC.c30
  have hnl := hC.n8
  have htl := hC.t8
  have hrl := hr.2.1
  refine lv_aload_n hx hb dX9_fault_0 rfl (lv_at hl 0 rfl) ?_
  refine mg_0 FX hK in9 hP (List.mem_of_getElem? (i := 1) rfl) dX9_fault_1 ?_
  refine xn_to hx (z := C.1 10) (hR.1 10 (by omega)) ?_
  exact ret s.heap [] 4 ls (C.1 10) P dX9_fault_4 ⟨rfl, hR⟩ hP hS

abbrev rmX9_many : Room := { frames := 1, cells := 0, slots := 0, locals := 20 }
set_option maxRecDepth 100000 in
set_option maxHeartbeats 4000000 in
theorem c_X9_many (l : Launch) (D : va_G) (y : Nat → ClassId) (a : Nat → Nat) (hA : CA a 26) (P : PT) (C : PT) (w cN n t rd : Nat) (wh : Int32)  (hR : RQ C P) (hC : IP C w cN n t) (hc1 : C.1 1 = nI cN) (hr : RD C n rd) : CtI l D y yX9_many wsX9_many rmX9_many [.ref (a 0), .int wh] (wM y a P) (fun (r : Int32) (P' : PT) => r = (ansMany C wh).1 ∧ RQ (ansMany C wh).2 P') (fun P' => wM y a P') (AM a) := by
  refine mkI (cc := cX9_many) (maxL := 2) (ret := some .int) RX9 rfl (by decide) rfl (Or.inl rfl) (Nat.le_of_ble_eq_true rfl) ?_
  intro p e s m args below meth c Q FX hK hP ret ls hl
  obtain ⟨hx, hb, hml, hown, hts⟩ := id FX
  have hS : va_S (AM a) s.heap s.heap [] := va_S.rf
  have in9 : ∀ w ∈ wsX90, w ∈ wsX9_many := fun _ h => List.mem_cons_of_mem _ (List.mem_append_right _ (h))
  have hl : lv_has ls 2 [(0, .ref (a 0)), (1, .int wh)] := hl
  obtain ⟨hi, hi5, hI, hi0⟩ := hR.iq hC hc1
  have hcl := hC.c30
  have hnl := hC.n8
  have htl := hC.t8
  have hrl := hr.2.1
  refine lv_iload_n hx hb dX9_many_0 rfl (lv_at hl 1 rfl) ?_
  by_cases c1_0 : wh = 0
  · refine lv_tableIn (off := 43) (tgt := 44) hx hb dX9_many_1 (by rw [c1_0]; decide) (by rw [c1_0]; decide) (by rw [c1_0]; rfl) (by decide) ?_
    refine lv_aload_n hx hb dX9_many_44 rfl (lv_at hl 0 rfl) ?_
    refine cViI [] [] FX hK (c_X9_cells l D y a hA P w hi hI.ww hI.hh) (cwV 0 hts gX9_many_X9_cells rfl rfl rfl (by decide +kernel) ⟨Nat.le_of_ble_eq_true rfl, Nat.le_of_ble_eq_true rfl⟩) hP (pre_recv hK hP (ci := 9) (q0 := 0) rfl rfl) rfl rfl hl (Nat.le_of_ble_eq_true rfl) dX9_many_45 ⟨Nat.zero_le _, Nat.zero_le _⟩ hS (fun _ h => h) (fun r45 u45 H locs hp45 hP hS _ _ => ?_)
    obtain rfl := hp45
    refine xn_to hx (z := nI cN) (by rw [← hI.cc]) ?_
    exact ret H locs 48 ls (nI cN) P dX9_many_48 (by unfold ansMany; rw [cif_t c1_0]; exact ⟨hc1.symm, hR⟩) hP hS
  by_cases c1_1 : wh = 1
  · refine lv_tableIn (off := 48) (tgt := 49) hx hb dX9_many_1 (by rw [c1_1]; decide) (by rw [c1_1]; decide) (by rw [c1_1]; rfl) (by decide) ?_
    refine lv_aload_n hx hb dX9_many_49 rfl (lv_at hl 0 rfl) ?_
    refine mg_2 FX hK in9 hP (List.mem_of_getElem? (i := 1) rfl) dX9_many_50 ?_
    refine xn_to hx (z := C.1 0) (hR.1 0 (by omega)) ?_
    exact ret s.heap [] 53 ls (C.1 0) P dX9_many_53 (by unfold ansMany; rw [cif_f c1_0, cif_t c1_1]; exact ⟨rfl, hR⟩) hP hS
  by_cases c1_2 : wh = 2
  · refine lv_tableIn (off := 53) (tgt := 54) hx hb dX9_many_1 (by rw [c1_2]; decide) (by rw [c1_2]; decide) (by rw [c1_2]; rfl) (by decide) ?_
    refine lv_aload_n hx hb dX9_many_54 rfl (lv_at hl 0 rfl) ?_
    refine mg_6 FX hK in9 hP (List.mem_of_getElem? (i := 2) rfl) dX9_many_55 ?_
    refine xn_to hx (z := C.1 2) (hR.1 2 (by omega)) ?_
    exact ret s.heap [] 58 ls (C.1 2) P dX9_many_58 (by unfold ansMany; rw [cif_f c1_0, cif_f c1_1, cif_t c1_2]; exact ⟨rfl, hR⟩) hP hS
  by_cases c1_3 : wh = 3
  · refine lv_tableIn (off := 58) (tgt := 59) hx hb dX9_many_1 (by rw [c1_3]; decide) (by rw [c1_3]; decide) (by rw [c1_3]; rfl) (by decide) ?_
    refine lv_aload_n hx hb dX9_many_59 rfl (lv_at hl 0 rfl) ?_
    refine mg_11 FX hK in9 hP (List.mem_of_getElem? (i := 3) rfl) dX9_many_60 ?_
    refine xn_to hx (z := C.1 3) (hR.1 3 (by omega)) ?_
    exact ret s.heap [] 63 ls (C.1 3) P dX9_many_63 (by unfold ansMany; rw [cif_f c1_0, cif_f c1_1, cif_f c1_2, cif_t c1_3]; exact ⟨rfl, hR⟩) hP hS
  by_cases c1_4 : wh = 4
  · refine lv_tableIn (off := 63) (tgt := 64) hx hb dX9_many_1 (by rw [c1_4]; decide) (by rw [c1_4]; decide) (by rw [c1_4]; rfl) (by decide) ?_
    refine lv_aload_n hx hb dX9_many_64 rfl (lv_at hl 0 rfl) ?_
    refine mg_32 FX hK in9 hP (List.mem_of_getElem? (i := 4) rfl) dX9_many_65 ?_
    refine xn_to hx (z := C.1 8) (hR.1 8 (by omega)) ?_
    exact ret s.heap [] 68 ls (C.1 8) P dX9_many_68 (by unfold ansMany; rw [cif_f c1_0, cif_f c1_1, cif_f c1_2, cif_f c1_3, cif_t c1_4]; exact ⟨rfl, hR⟩) hP hS
  by_cases c1_5 : wh = 5
  · refine lv_tableIn (off := 68) (tgt := 69) hx hb dX9_many_1 (by rw [c1_5]; decide) (by rw [c1_5]; decide) (by rw [c1_5]; rfl) (by decide) ?_
    refine lv_aload_n hx hb dX9_many_69 rfl (lv_at hl 0 rfl) ?_
    refine mg_15 FX hK in9 hP (List.mem_of_getElem? (i := 5) rfl) dX9_many_70 ?_
    refine xn_to hx (z := C.1 5) (hR.1 5 (by omega)) ?_
    exact ret s.heap [] 73 ls (C.1 5) P dX9_many_73 (by unfold ansMany; rw [cif_f c1_0, cif_f c1_1, cif_f c1_2, cif_f c1_3, cif_f c1_4, cif_t c1_5]; exact ⟨rfl, hR⟩) hP hS
  by_cases c1_6 : wh = 6
  · refine lv_tableIn (off := 73) (tgt := 74) hx hb dX9_many_1 (by rw [c1_6]; decide) (by rw [c1_6]; decide) (by rw [c1_6]; rfl) (by decide) ?_
    refine lv_aload_n hx hb dX9_many_74 rfl (lv_at hl 0 rfl) ?_
    refine mg_16 FX hK in9 hP (List.mem_of_getElem? (i := 6) rfl) dX9_many_75 ?_
    refine xn_to hx (z := C.1 6) (hR.1 6 (by omega)) ?_
    exact ret s.heap [] 78 ls (C.1 6) P dX9_many_78 (by unfold ansMany; rw [cif_f c1_0, cif_f c1_1, cif_f c1_2, cif_f c1_3, cif_f c1_4, cif_f c1_5, cif_t c1_6]; exact ⟨rfl, hR⟩) hP hS
  refine lv_tableOut (tgt := 79) hx hb dX9_many_1 (sw_out6 c1_0 c1_1 c1_2 c1_3 c1_4 c1_5 c1_6) (by decide) ?_
  refine lv_bipush (v := (-2)) hx hb dX9_many_79 rfl ?_
  exact ret s.heap [] 81 ls (-2) P dX9_many_81 (by unfold ansMany; rw [cif_f c1_0, cif_f c1_1, cif_f c1_2, cif_f c1_3, cif_f c1_4, cif_f c1_5, cif_f c1_6]; exact ⟨rfl, hR⟩) hP hS
