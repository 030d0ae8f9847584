abbrev rmX9_failedLong : Room := { frames := 1, cells := 0, slots := 0, locals := 19 }
set_option maxRecDepth 100000 in
set_option maxHeartbeats 4000000 in
theorem c_X9_failedLong (l : Launch) (D : va_G) (y : Nat → ClassId) (a : Nat → Nat) (hA : CA a 26) (P : PT) (k : Int32)  : CtL l D y yX9_failedLong wsX9_failedLong rmX9_failedLong [.ref (a 0), .int k] (wM y a P) (fun (r : Int64) (_ : Unit) => r = LOST) (fun _ => wM y a (pg P 10 k)) (AM a) := by
  refine mkL (cc := cX9_failedLong) (maxL := 2) RX9 rfl (by decide) rfl (Nat.le_of_ble_eq_true rfl) ?_
  intro p e s m args below meth c Q FX hK hP ret ls hl
  obtain ⟨hx, hb, hml, hown, hts⟩ := id FX
  have hS : va_S (AM a) s.heap s.heap [] := va_S.rf
  have in9 : ∀ w ∈ wsX90, w ∈ wsX9_failedLong := fun _ h => List.mem_cons_of_mem _ (List.mem_append_right _ (h))
  have hl : lv_has ls 2 [(0, .ref (a 0)), (1, .int k)] := hl
  refine lv_aload_n hx hb dX9_failedLong_0 rfl (lv_at hl 0 rfl) ?_
  refine lv_iload_n hx hb dX9_failedLong_1 rfl (lv_at hl 1 rfl) ?_
  refine mp_0 FX hK in9 hP hA hS (List.mem_of_getElem? (i := 1) rfl) dX9_failedLong_2 (fun H locs hP hS => ?_)
  refine cStL [] [] FX hK (c_X9_lost l D y) (va_cwS 0 hts gX9_failedLong_X9_lost rfl rfl rfl (by decide +kernel) ⟨Nat.le_of_ble_eq_true rfl, Nat.le_of_ble_eq_true rfl⟩) rfl rfl hl (Nat.le_of_ble_eq_true rfl) dX9_failedLong_5 ⟨Nat.zero_le _, Nat.zero_le _⟩ hP hS (fun r5 H locs hp5 hP hS => ?_)
  obtain rfl := hp5
  exact ret H locs 8 ls LOST () dX9_failedLong_8 rfl hP hS

abbrev rmX9_isBeyond : Room := { frames := 0, cells := 0, slots := 0, locals := 0 }
set_option maxRecDepth 100000 in
set_option maxHeartbeats 4000000 in
theorem c_X9_isBeyond (l : Launch) (D : va_G) (y : Nat → ClassId) (x n0 : Int32) (m0 : Nat) (hm : m0 ≤ 100) : CtI l D y yX9_isBeyond wsX9_isBeyond rmX9_isBeyond [.int x, .long (n0.toInt64), .int (nI m0)] ([]) (fun r (_ : Unit) => r = b2 (¬ inRun x n0 (nI m0))) (fun _ => []) ((fun _ => False)) := by
  refine mkI (cc := cX9_isBeyond) (maxL := 4) (ret := some .boolean) RX9 rfl (by decide) rfl (Or.inr ⟨rfl, fun r u h => by rw [h]; exact b2_01 _⟩) (Nat.le_of_ble_eq_true rfl) ?_
  intro p e s m args below meth c Q FX hK hP ret ls hl
  obtain ⟨hx, hb, hml, hown, hts⟩ := id FX
  have hS : va_S (fun _ => False) s.heap s.heap [] := va_S.rf
  have hl : lv_has ls 4 [(0, .int x), (1, .long (n0.toInt64)), (3, .int (nI m0))] := hl
  refine lv_iload_n hx hb dX9_isBeyond_0 rfl (lv_at hl 0 rfl) ?_
  refine lv_if_lt (tgt := 20) hx hb dX9_isBeyond_1 (by decide) (fun c1 => ?_) (fun c1 => ?_)
  · refine lv_iconst (v := nI 1) hx hb dX9_isBeyond_20 rfl ?_
    refine lv_goto (tgt := 25) hx hb dX9_isBeyond_21 (by decide) ?_
    exact ret s.heap [] 25 ls (nI 1) () dX9_isBeyond_25 (by first | exact b2_1 (fun z => z.1 c1) | exact b2_1 (fun z => z.2.1 (neg_L.mp c7)) | exact b2_1 (fun z => c17 ((beyond_iff hm c1 k7).mpr z.2.2))) hP hS
  · refine lv_lload_n hx hb dX9_isBeyond_4 rfl (lv_at hl 1 rfl) ?_
    refine lv_lconst (v := 0) hx hb dX9_isBeyond_5 rfl ?_
    refine W.lcmp hx hb dX9_isBeyond_6 ?_
    refine lv_if_lt (tgt := 20) hx hb dX9_isBeyond_7 (by decide) (fun c7 => ?_) (fun c7 => ?_)
    · refine lv_iconst (v := nI 1) hx hb dX9_isBeyond_20 rfl ?_
      refine lv_goto (tgt := 25) hx hb dX9_isBeyond_21 (by decide) ?_
      exact ret s.heap [] 25 ls (nI 1) () dX9_isBeyond_25 (by first | exact b2_1 (fun z => z.1 c1) | exact b2_1 (fun z => z.2.1 (neg_L.mp c7)) | exact b2_1 (fun z => c17 ((beyond_iff hm c1 k7).mpr z.2.2))) hP hS
    · have k7 : ¬ n0 < 0 := fun z => c7 (neg_L.mpr z)
      refine lv_iload_n hx hb dX9_isBeyond_10 rfl (lv_at hl 0 rfl) ?_
      refine lv_i2l hx hb dX9_isBeyond_11 rfl ?_
      refine lv_lload_n hx hb dX9_isBeyond_12 rfl (lv_at hl 1 rfl) ?_
      refine lv_ladd hx hb dX9_isBeyond_13 ?_
      refine lv_iload_n hx hb dX9_isBeyond_14 rfl (lv_at hl 2 rfl) ?_
      refine lv_i2l hx hb dX9_isBeyond_15 rfl ?_
      refine W.lcmp hx hb dX9_isBeyond_16 ?_
      refine lv_if_le (tgt := 24) hx hb dX9_isBeyond_17 (by decide) (fun c17 => ?_) (fun c17 => ?_)
      · refine lv_iconst (v := nI 0) hx hb dX9_isBeyond_24 rfl ?_
        exact ret s.heap [] 25 ls (nI 0) () dX9_isBeyond_25 (b2_0 (fun z => z ⟨c1, k7, (beyond_iff hm c1 k7).mp c17⟩)) hP hS
      · refine lv_iconst (v := nI 1) hx hb dX9_isBeyond_20 rfl ?_
        refine lv_goto (tgt := 25) hx hb dX9_isBeyond_21 (by decide) ?_
        exact ret s.heap [] 25 ls (nI 1) () dX9_isBeyond_25 (by first | exact b2_1 (fun z => z.1 c1) | exact b2_1 (fun z => z.2.1 (neg_L.mp c7)) | exact b2_1 (fun z => c17 ((beyond_iff hm c1 k7).mpr z.2.2))) hP hS

abbrev rmX9_noCell_ : Room := { frames := 1, cells := 0, slots := 0, locals := 25 }
set_option maxRecDepth 100000 in
set_option maxHeartbeats 4000000 in
theorem c_X9_noCell_ (l : Launch) (D : va_G) (y : Nat → ClassId) (a : Nat → Nat) (hA : CA a 26) (P : PT) (C : PT) (k : Nat) (x : Int32) (hR : RQ C P) (hsh : SH C) (hk : k < 4) : CtI l D y yX9_noCell_ wsX9_noCell_ rmX9_noCell_ [.ref (a 0), .int (nI k), .int x] (wM y a P) (fun r (_ : Unit) => r = ncS C k x) (fun _ => wM y a P) (AM a) := by
  refine mkI (cc := cX9_noCell_) (maxL := 3) (ret := some .int) RX9 rfl (by decide) rfl (Or.inl rfl) (Nat.le_of_ble_eq_true rfl) ?_
  intro p e s m args below meth c Q FX hK hP ret ls hl
  obtain ⟨hx, hb, hml, hown, hts⟩ := id FX
  have hS : va_S (AM a) s.heap s.heap [] := va_S.rf
  have in9 : ∀ w ∈ wsX90, w ∈ wsX9_noCell_ := fun _ h => List.mem_cons_of_mem _ (List.mem_append_right _ (h))
  have hl : lv_has ls 3 [(0, .ref (a 0)), (1, .int (nI k)), (2, .int x)] := hl
  refine lv_aload_n hx hb dX9_noCell__0 rfl (lv_at hl 0 rfl) ?_
  refine mg_36 FX hK in9 hP (List.mem_of_getElem? (i := 1) rfl) dX9_noCell__1 ?_
  refine lv_iload_n hx hb dX9_noCell__4 rfl (lv_at hl 1 rfl) ?_
  refine ma22 (i := k) (by omega) FX hK hP dX9_noCell__5 ?_
  refine xn_to hx (z := C.2 13 k) (hR.shv (k := 13) (q := k) (by omega) (by decide) (by decide)) ?_
  refine lv_if_ge (tgt := 13) hx hb dX9_noCell__6 (by decide) (fun c6 => ?_) (fun c6 => ?_)
  · obtain ⟨m0, hm0, hs0⟩ := sh_nn hsh hk (sh_ge0 c6)
    refine lv_iload_n hx hb dX9_noCell__13 rfl (lv_at hl 2 rfl) ?_
    refine lv_i2l hx hb dX9_noCell__14 rfl ?_
    refine lv_lconst (v := 0) hx hb dX9_noCell__15 rfl ?_
    refine lv_aload_n hx hb dX9_noCell__16 rfl (lv_at hl 0 rfl) ?_
    refine mg_36 FX hK in9 hP (List.mem_of_getElem? (i := 1) rfl) dX9_noCell__17 ?_
    refine lv_iload_n hx hb dX9_noCell__20 rfl (lv_at hl 1 rfl) ?_
    refine ma22 (i := k) (by omega) FX hK hP dX9_noCell__21 ?_
    refine xn_to hx (z := nI m0) ((hR.shv (k := 13) (q := k) (by omega) (by decide) (by decide)).trans hs0) ?_
    refine lv_i2l hx hb dX9_noCell__22 rfl ?_
    refine lv_lconst (v := 1) hx hb dX9_noCell__23 rfl ?_
    refine lv_lsub hx hb dX9_noCell__24 ?_
    refine cStI [.long (x.toInt64), .long 0, .long (((nI m0).toInt64) - 1)] [] FX hK (c_X9_in l D y (x.toInt64) 0 (((nI m0).toInt64) - 1)) (va_cwS 3 hts gX9_noCell__X9_in rfl rfl rfl (by decide +kernel) ⟨Nat.le_of_ble_eq_true rfl, Nat.le_of_ble_eq_true rfl⟩) rfl rfl hl (Nat.le_of_ble_eq_true rfl) dX9_noCell__25 ⟨Nat.zero_le _, Nat.zero_le _⟩ hP hS (fun r25 H locs hp25 hP hS => ?_)
    obtain rfl := hp25
    refine xn_to hx (z := b2 (inN m0 x)) (b2_iff (in_N (by omega))) ?_
    refine xb_eq (tgt := 35) hx hb dX9_noCell__28 (by decide) (fun c28 => ?_) (fun c28 => ?_)
    · refine lv_iconst (v := nI 3) hx hb dX9_noCell__35 rfl ?_
      exact ret H locs 36 ls (nI 3) () dX9_noCell__36 (ncS_3 hs0 hm0 c28) hP hS
    · refine lv_iconst (v := nI 0) hx hb dX9_noCell__31 rfl ?_
      refine lv_goto (tgt := 36) hx hb dX9_noCell__32 (by decide) ?_
      exact ret H locs 36 ls (nI 0) () dX9_noCell__36 (ncS_z hs0 hm0 c28) hP hS
  · refine lv_iconst (v := nI 1) hx hb dX9_noCell__9 rfl ?_
    refine lv_goto (tgt := 36) hx hb dX9_noCell__10 (by decide) ?_
    exact ret s.heap [] 36 ls (nI 1) () dX9_noCell__36 (ncS_1 (sh_lt hsh hk c6)) hP hS

abbrev rmX9_sheet : Room := { frames := 2, cells := 0, slots := 0, locals := 45 }
set_option maxRecDepth 100000 in
set_option maxHeartbeats 4000000 in
theorem c_X9_sheet (l : Launch) (D : va_G) (y : Nat → ClassId) (a : Nat → Nat) (hA : CA a 26) (P : PT) (C : PT) (w cN n t rd : Nat) (x : Int32) (lane : Int32) (mz : Int32)  (hR : RQ C P) (hC : IP C w cN n t) (hc1 : C.1 1 = nI cN) (hr : RD C n rd) : CtI l D y yX9_sheet wsX9_sheet rmX9_sheet [.ref (a 0), .int x, .int lane, .int mz] (wM y a P) (fun (r : Int32) (P' : PT) => r = (ansSheet C x lane mz).1 ∧ RQ (ansSheet C x lane mz).2 P') (fun P' => wM y a P') (AM a) := by
  refine mkI (cc := cX9_sheet) (maxL := 5) (ret := some .int) RX9 rfl (by decide) rfl (Or.inl rfl) (Nat.le_of_ble_eq_true rfl) ?_
  intro p e s m args below meth c Q FX hK hP ret ls hl
  obtain ⟨hx, hb, hml, hown, hts⟩ := id FX
  have hS : va_S (AM a) s.heap s.heap [] := va_S.rf
  have in9 : ∀ w ∈ wsX90, w ∈ wsX9_sheet := fun _ h => List.mem_cons_of_mem _ (List.mem_append_right _ (h))
  have hl : lv_has ls 5 [(0, .ref (a 0)), (1, .int x), (2, .int lane), (3, .int mz)] := hl
  obtain ⟨hi, hi5, hI, hi0⟩ := hR.iq hC hc1
  have hcl := hC.c30
  have hnl := hC.n8
  have htl := hC.t8
  have hrl := hr.2.1
  refine lv_iload_n hx hb dX9_sheet_0 rfl (lv_at hl 1 rfl) ?_
  refine cStI [.int x] [] FX hK (c_X9_noSheet l D y x) (va_cwS 1 hts gX9_sheet_X9_noSheet rfl rfl rfl (by decide +kernel) ⟨Nat.le_of_ble_eq_true rfl, Nat.le_of_ble_eq_true rfl⟩) rfl rfl hl (Nat.le_of_ble_eq_true rfl) dX9_sheet_1 ⟨Nat.zero_le _, Nat.zero_le _⟩ hP hS (fun r1 H locs hp1 hP hS => ?_)
  obtain rfl := hp1
  refine xb_eq (tgt := 13) hx hb dX9_sheet_4 (by decide) (fun c4 => ?_) (fun c4 => ?_)
  · have k4 : inN 4 x := Classical.not_not.mp c4
    obtain ⟨j, hj, ej⟩ := id k4
    subst ej
    refine lv_iload_n hx hb dX9_sheet_13 rfl (lv_at hl 2 rfl) ?_
    refine lv_i2l hx hb dX9_sheet_14 rfl ?_
    refine lv_lconst (v := 0) hx hb dX9_sheet_15 rfl ?_
    refine lv_ldc2 hx hb hown (hts _ (List.mem_of_getElem? (i := 1) rfl)) dX9_sheet_16 ?_
    refine cStI [.long (lane.toInt64), .long 0, .long (2)] [] FX hK (c_X9_in l D y (lane.toInt64) 0 (2)) (va_cwS 3 hts gX9_sheet_X9_in rfl rfl rfl (by decide +kernel) ⟨Nat.le_of_ble_eq_true rfl, Nat.le_of_ble_eq_true rfl⟩) rfl rfl hl (Nat.le_of_ble_eq_true rfl) dX9_sheet_19 ⟨Nat.zero_le _, Nat.zero_le _⟩ hP hS (fun r19 H locs hp19 hP hS => ?_)
    obtain rfl := hp19
    refine xn_to hx (z := b2 (inR 0 2 lane)) (b2_iff (in_R (lo := 0) (hi := 2) rfl rfl (by decide))) ?_
    refine xb_eq (tgt := 31) hx hb dX9_sheet_22 (by decide) (fun c22 => ?_) (fun c22 => ?_)
    · refine lv_aload_n hx hb dX9_sheet_31 rfl (lv_at hl 0 rfl) ?_
      refine lv_bipush (v := (-2)) hx hb dX9_sheet_32 rfl ?_
      refine cViI [.int (-2)] [] FX hK (c_X9_refused l D y a hA P (-2)) (cwV 1 hts gX9_sheet_X9_refused rfl rfl rfl (by decide +kernel) ⟨Nat.le_of_ble_eq_true rfl, Nat.le_of_ble_eq_true rfl⟩) hP (pre_recv hK hP (ci := 9) (q0 := 0) rfl rfl) rfl rfl hl (Nat.le_of_ble_eq_true rfl) dX9_sheet_34 ⟨Nat.zero_le _, Nat.zero_le _⟩ hS (fun _ h => h) (fun r34 u34 H locs hp34 hP hS _ _ => ?_)
      obtain rfl := hp34
      exact ret H locs 37 ls (-2) (pg P 10 (nI 0)) dX9_sheet_37 (by unfold ansSheet; rw [dN_nI (show j < 2 ^ 31 by omega), cif_t k4, cif_f c22]; exact ⟨rfl, hR.wpg (by omega) _⟩) hP hS
    · refine lv_iload_n hx hb dX9_sheet_25 rfl (lv_at hl 3 rfl) ?_
      refine lv_bipush (v := nI 100) hx hb dX9_sheet_26 rfl ?_
      refine lv_icmp_le (tgt := 38) hx hb dX9_sheet_28 (by decide) (fun c28 => ?_) (fun c28 => ?_)
      · refine lv_iload_n hx hb dX9_sheet_38 rfl (lv_at hl 3 rfl) ?_
        refine lv_if_ge (tgt := 48) hx hb dX9_sheet_39 (by decide) (fun c39 => ?_) (fun c39 => ?_)
        · have k28 := c28
          have k39 := c39
          obtain ⟨mm, hm, em⟩ := nat_of (k := 100) (by decide) c39 c28
          subst em
          refine lv_aload_n hx hb dX9_sheet_48 rfl (lv_at hl 0 rfl) ?_
          refine mg_36 FX hK in9 hP (List.mem_of_getElem? (i := 2) rfl) dX9_sheet_49 ?_
          refine lv_iload_n hx hb dX9_sheet_52 rfl (lv_at hl 1 rfl) ?_
          refine lv_iload_n hx hb dX9_sheet_53 rfl (lv_at hl 3 rfl) ?_
          refine ms22 (i := j) (by omega) FX hK hP hA hS dX9_sheet_54 (fun H locs hP hS => ?_)
          refine lv_aload_n hx hb dX9_sheet_55 rfl (lv_at hl 0 rfl) ?_
          refine mg_37 FX hK in9 hP (List.mem_of_getElem? (i := 3) rfl) dX9_sheet_56 ?_
          refine lv_iload_n hx hb dX9_sheet_59 rfl (lv_at hl 1 rfl) ?_
          refine lv_iload_n hx hb dX9_sheet_60 rfl (lv_at hl 2 rfl) ?_
          refine ms23 (i := j) (by omega) FX hK hP hA hS dX9_sheet_61 (fun H locs hP hS => ?_)
          refine lv_iconst (v := nI 0) hx hb dX9_sheet_62 rfl ?_
          refine lv_istore (lv' := [(4, .int (nI 0)), (0, .ref (a 0)), (1, .int (nI j)), (2, .int lane), (3, .int (nI mm))]) hx hb dX9_sheet_63 hl (by decide) rfl (fun ls hl => ?_)
          have L65 : ∀ (N : Nat) (i : Nat), (i ≤ mm) → mm - i < N → ∀ (H : Heap) (locs : List Loc) (ls : Array Slot), va_P D vwCl (wM y a (zq (pa (pa P 13 j (nI mm)) 12 j lane) j i)) H → va_S (AM a) s.heap H locs → lv_has ls 5 [(0, .ref (a 0)), (1, .int (nI j)), (3, .int (nI mm)), (4, .int (nI i))] → W p l e rmX9_sheet s m args below meth c H locs 0 0 Q (F0 m 65 ls []) := by
            intro N65
            induction N65 with
            | zero => intro i hi9 hmeas; exact absurd hmeas (Nat.not_lt_zero _)
            | succ N65 ih65 =>
              intro i hi9 hmeas H locs ls hP hS hl
              refine lv_iload hx hb dX9_sheet_65 (lv_at hl 3 rfl) ?_
              refine lv_iload_n hx hb dX9_sheet_67 rfl (lv_at hl 2 rfl) ?_
              refine xn_icmp_ge (tgt := 90) hx hb (by omega) (by omega) dX9_sheet_68 (by decide) (fun c68 => ?_) (fun c68 => ?_)
              · refine lv_aload_n hx hb dX9_sheet_90 rfl (lv_at hl 0 rfl) ?_
                refine lv_iconst (v := nI 1) hx hb dX9_sheet_91 rfl ?_
                refine cViI [.int (nI 1)] [] FX hK (c_X9_refused l D y a hA (zq (pa (pa P 13 j (nI mm)) 12 j lane) j i) (nI 1)) (cwV 1 hts gX9_sheet_X9_refused rfl rfl rfl (by decide +kernel) ⟨Nat.le_of_ble_eq_true rfl, Nat.le_of_ble_eq_true rfl⟩) hP (pre_recv hK hP (ci := 9) (q0 := 0) rfl rfl) rfl rfl hl (Nat.le_of_ble_eq_true rfl) dX9_sheet_92 ⟨Nat.zero_le _, Nat.zero_le _⟩ hS (fun _ h => h) (fun r92 u92 H locs hp92 hP hS _ _ => ?_)
                obtain rfl := hp92
                exact ret H locs 95 ls (nI 1) (pg (zq (pa (pa P 13 j (nI mm)) 12 j lane) j i) 10 (nI 0)) dX9_sheet_95 (by unfold ansSheet; rw [dN_nI (show j < 2 ^ 31 by omega), dN_nI (show mm < 2 ^ 31 by omega), cif_t k4, cif_t c22, cif_t k28, cif_t k39]; exact ⟨rfl, (by rw [sheet_eq, show i = mm by omega]; exact ((((hR.wpa (k := 13) (by decide) j (nI mm)).wpa (k := 12) (by decide) j lane).zero hj hm).wpg (by omega) _))⟩) hP hS
              · refine lv_aload_n hx hb dX9_sheet_71 rfl (lv_at hl 0 rfl) ?_
                refine mg_38 FX hK in9 hP (List.mem_of_getElem? (i := 4) rfl) dX9_sheet_72 ?_
                refine lv_bipush (v := nI 100) hx hb dX9_sheet_75 rfl ?_
                refine lv_iload_n hx hb dX9_sheet_77 rfl (lv_at hl 1 rfl) ?_
                refine xn_imul (a := 100) (b := j) hx hb dX9_sheet_78 ?_
                refine lv_iload hx hb dX9_sheet_79 (lv_at hl 3 rfl) ?_
                refine xn_iadd (a := 100 * j) (b := i) hx hb dX9_sheet_81 ?_
                refine lv_iconst (v := nI 0) hx hb dX9_sheet_82 rfl ?_
                refine ms24 (i := (100 * j) + i) (by omega) FX hK hP hA hS dX9_sheet_83 (fun H locs hP hS => ?_)
                refine lv_iinc (v := nI (i + 1)) (lv' := [(4, .int (nI (i + 1))), (0, .ref (a 0)), (1, .int (nI j)), (3, .int (nI mm))]) hx hb dX9_sheet_84 hl (k := 3) rfl (xn_inc i 1) (by decide) rfl (fun ls hl => ?_)
                refine lv_goto (tgt := 65) hx hb dX9_sheet_87 (by decide) ?_
                rw [zq_s] at hP
                exact ih65 (i + 1) (by omega) (by omega) H locs ls hP hS (lv_sub hl [1, 2, 3, 0] rfl)
          rw [← zq_0 (pa (pa P 13 j (nI mm)) 12 j lane) j] at hP
          exact L65 _ 0 (Nat.zero_le _) (Nat.lt_succ_self _) H locs ls hP hS (lv_sub hl [1, 2, 4, 0] rfl)
        · refine lv_aload_n hx hb dX9_sheet_42 rfl (lv_at hl 0 rfl) ?_
          refine lv_iconst (v := nI 4) hx hb dX9_sheet_43 rfl ?_
          refine cViI [.int (nI 4)] [] FX hK (c_X9_failed l D y a hA P (nI 4)) (cwV 1 hts gX9_sheet_X9_failed rfl rfl rfl (by decide +kernel) ⟨Nat.le_of_ble_eq_true rfl, Nat.le_of_ble_eq_true rfl⟩) hP (pre_recv hK hP (ci := 9) (q0 := 0) rfl rfl) rfl rfl hl (Nat.le_of_ble_eq_true rfl) dX9_sheet_44 ⟨Nat.zero_le _, Nat.zero_le _⟩ hS (fun _ h => h) (fun r44 u44 H locs hp44 hP hS _ _ => ?_)
          obtain rfl := hp44
          exact ret H locs 47 ls ((-10) - (nI 4)) (pg P 10 (nI 4)) dX9_sheet_47 (by unfold ansSheet; rw [dN_nI (show j < 2 ^ 31 by omega), cif_t k4, cif_t c22, cif_t c28, cif_f c39]; exact ⟨rfl, (by rw [pg_pg]; exact hR.wpg (by omega) _)⟩) hP hS
      · refine lv_aload_n hx hb dX9_sheet_31 rfl (lv_at hl 0 rfl) ?_
        refine lv_bipush (v := (-2)) hx hb dX9_sheet_32 rfl ?_
        refine cViI [.int (-2)] [] FX hK (c_X9_refused l D y a hA P (-2)) (cwV 1 hts gX9_sheet_X9_refused rfl rfl rfl (by decide +kernel) ⟨Nat.le_of_ble_eq_true rfl, Nat.le_of_ble_eq_true rfl⟩) hP (pre_recv hK hP (ci := 9) (q0 := 0) rfl rfl) rfl rfl hl (Nat.le_of_ble_eq_true rfl) dX9_sheet_34 ⟨Nat.zero_le _, Nat.zero_le _⟩ hS (fun _ h => h) (fun r34 u34 H locs hp34 hP hS _ _ => ?_)
        obtain rfl := hp34
        exact ret H locs 37 ls (-2) (pg P 10 (nI 0)) dX9_sheet_37 (by unfold ansSheet; rw [dN_nI (show j < 2 ^ 31 by omega), cif_t k4, cif_t c22, cif_f c28]; exact ⟨rfl, hR.wpg (by omega) _⟩) hP hS
  · refine lv_aload_n hx hb dX9_sheet_7 rfl (lv_at hl 0 rfl) ?_
    refine lv_iconst (v := (-1)) hx hb dX9_sheet_8 rfl ?_
    refine cViI [.int (-1)] [] FX hK (c_X9_refused l D y a hA P (-1)) (cwV 1 hts gX9_sheet_X9_refused rfl rfl rfl (by decide +kernel) ⟨Nat.le_of_ble_eq_true rfl, Nat.le_of_ble_eq_true rfl⟩) hP (pre_recv hK hP (ci := 9) (q0 := 0) rfl rfl) rfl rfl hl (Nat.le_of_ble_eq_true rfl) dX9_sheet_9 ⟨Nat.zero_le _, Nat.zero_le _⟩ hS (fun _ h => h) (fun r9 u9 H locs hp9 hP hS _ _ => ?_)
    obtain rfl := hp9
    exact ret H locs 12 ls (-1) (pg P 10 (nI 0)) dX9_sheet_12 (by unfold ansSheet; rw [cif_f c4]; exact ⟨rfl, hR.wpg (by omega) _⟩) hP hS

abbrev rmX9_lose : Room := { frames := 2, cells := 0, slots := 0, locals := 45 }
set_option maxRecDepth 100000 in
set_option maxHeartbeats 4000000 in
theorem c_X9_lose (l : Launch) (D : va_G) (y : Nat → ClassId) (a : Nat → Nat) (hA : CA a 26) (P : PT) (C : PT) (w cN n t rd : Nat) (x : Int32)  (hR : RQ C P) (hC : IP C w cN n t) (hc1 : C.1 1 = nI cN) (hr : RD C n rd) (hsh : SH C) : CtI l D y yX9_lose wsX9_lose rmX9_lose [.ref (a 0), .int x] (wM y a P) (fun (r : Int32) (P' : PT) => r = (ansLose C x).1 ∧ RQ (ansLose C x).2 P') (fun P' => wM y a P') (AM a) := by
  refine mkI (cc := cX9_lose) (maxL := 3) (ret := some .int) RX9 rfl (by decide) rfl (Or.inl rfl) (Nat.le_of_ble_eq_true rfl) ?_
  intro p e s m args below meth c Q FX hK hP ret ls hl
  obtain ⟨hx, hb, hml, hown, hts⟩ := id FX
  have hS : va_S (AM a) s.heap s.heap [] := va_S.rf
  have in9 : ∀ w ∈ wsX90, w ∈ wsX9_lose := fun _ h => List.mem_cons_of_mem _ (List.mem_append_right _ (h))
  have hl : lv_has ls 3 [(0, .ref (a 0)), (1, .int x)] := hl
  obtain ⟨hi, hi5, hI, hi0⟩ := hR.iq hC hc1
  have hcl := hC.c30
  have hnl := hC.n8
  have htl := hC.t8
  have hrl := hr.2.1
  refine lv_iload_n hx hb dX9_lose_0 rfl (lv_at hl 1 rfl) ?_
  refine cStI [.int x] [] FX hK (c_X9_noSheet l D y x) (va_cwS 1 hts gX9_lose_X9_noSheet rfl rfl rfl (by decide +kernel) ⟨Nat.le_of_ble_eq_true rfl, Nat.le_of_ble_eq_true rfl⟩) rfl rfl hl (Nat.le_of_ble_eq_true rfl) dX9_lose_1 ⟨Nat.zero_le _, Nat.zero_le _⟩ hP hS (fun r1 H locs hp1 hP hS => ?_)
  obtain rfl := hp1
  refine xb_eq (tgt := 9) hx hb dX9_lose_4 (by decide) (fun c4 => ?_) (fun c4 => ?_)
  · have k4 : inN 4 x := Classical.not_not.mp c4
    obtain ⟨j, hj, ej⟩ := id k4
    subst ej
    refine lv_aload_n hx hb dX9_lose_9 rfl (lv_at hl 0 rfl) ?_
    refine mg_36 FX hK in9 hP (List.mem_of_getElem? (i := 1) rfl) dX9_lose_10 ?_
    refine lv_iload_n hx hb dX9_lose_13 rfl (lv_at hl 1 rfl) ?_
    refine ma22 (i := j) (by omega) FX hK hP dX9_lose_14 ?_
    refine xn_to hx (z := C.2 13 j) (hR.shv (k := 13) (q := j) (by omega) (by decide) (by decide)) ?_
    refine lv_if_ge (tgt := 22) hx hb dX9_lose_15 (by decide) (fun c15 => ?_) (fun c15 => ?_)
    · refine lv_iconst (v := nI 1) hx hb dX9_lose_22 rfl ?_
      refine lv_istore_n (lv' := [(2, .int (nI 1)), (0, .ref (a 0)), (1, .int (nI j))]) hx hb dX9_lose_23 rfl hl (by decide) rfl (fun ls hl => ?_)
      refine lv_aload_n hx hb dX9_lose_24 rfl (lv_at hl 1 rfl) ?_
      refine mg_36 FX hK in9 hP (List.mem_of_getElem? (i := 1) rfl) dX9_lose_25 ?_
      refine lv_iload_n hx hb dX9_lose_28 rfl (lv_at hl 2 rfl) ?_
      refine lv_iconst (v := (-1)) hx hb dX9_lose_29 rfl ?_
      refine ms22 (i := j) (by omega) FX hK hP hA hS dX9_lose_30 (fun H locs hP hS => ?_)
      refine lv_iload_n hx hb dX9_lose_31 rfl (lv_at hl 0 rfl) ?_
      exact ret H locs 32 ls (nI 1) (pa P 13 j (-1)) dX9_lose_32 (by unfold ansLose; rw [dN_nI (show j < 2 ^ 31 by omega), cif_t k4, cif_t (sh_ge0 c15)]; exact ⟨rfl, hR.lose⟩) hP hS
    · refine lv_iconst (v := nI 0) hx hb dX9_lose_18 rfl ?_
      refine lv_goto (tgt := 23) hx hb dX9_lose_19 (by decide) ?_
      refine lv_istore_n (lv' := [(2, .int (nI 0)), (0, .ref (a 0)), (1, .int (nI j))]) hx hb dX9_lose_23 rfl hl (by decide) rfl (fun ls hl => ?_)
      refine lv_aload_n hx hb dX9_lose_24 rfl (lv_at hl 1 rfl) ?_
      refine mg_36 FX hK in9 hP (List.mem_of_getElem? (i := 1) rfl) dX9_lose_25 ?_
      refine lv_iload_n hx hb dX9_lose_28 rfl (lv_at hl 2 rfl) ?_
      refine lv_iconst (v := (-1)) hx hb dX9_lose_29 rfl ?_
      refine ms22 (i := j) (by omega) FX hK hP hA hS dX9_lose_30 (fun H locs hP hS => ?_)
      refine lv_iload_n hx hb dX9_lose_31 rfl (lv_at hl 0 rfl) ?_
      exact ret H locs 32 ls (nI 0) (pa P 13 j (-1)) dX9_lose_32 (by unfold ansLose; rw [dN_nI (show j < 2 ^ 31 by omega), cif_t k4, cif_f (fun z => z (sh_lt hsh hj c15))]; exact ⟨rfl, (by have z := hR.lose (k := j); rw [pa_same C 13 j (sh_lt hsh hj c15)] at z; exact z)⟩) hP hS
  · refine lv_iconst (v := (-1)) hx hb dX9_lose_7 rfl ?_
    exact ret H locs 8 ls (-1) P dX9_lose_8 (by unfold ansLose; rw [cif_f c4]; exact ⟨rfl, hR⟩) hP hS

abbrev rmX9_put : Room := { frames := 2, cells := 0, slots := 0, locals := 47 }
set_option maxRecDepth 100000 in
set_option maxHeartbeats 4000000 in
theorem c_X9_put (l : Launch) (D : va_G) (y : Nat → ClassId) (a : Nat → Nat) (hA : CA a 26) (P : PT) (C : PT) (w cN n t rd : Nat) (x : Int32) (i0 : Int32) (v : Int32)  (hR : RQ C P) (hC : IP C w cN n t) (hc1 : C.1 1 = nI cN) (hr : RD C n rd) (hsh : SH C) : CtI l D y yX9_put wsX9_put rmX9_put [.ref (a 0), .int x, .int i0, .int v] (wM y a P) (fun (r : Int32) (P' : PT) => r = (ansPut C x i0 v).1 ∧ RQ (ansPut C x i0 v).2 P') (fun P' => wM y a P') (AM a) := by
  refine mkI (cc := cX9_put) (maxL := 4) (ret := some .int) RX9 rfl (by decide) rfl (Or.inl rfl) (Nat.le_of_ble_eq_true rfl) ?_
  intro p e s m args below meth c Q FX hK hP ret ls hl
  obtain ⟨hx, hb, hml, hown, hts⟩ := id FX
  have hS : va_S (AM a) s.heap s.heap [] := va_S.rf
  have in9 : ∀ w ∈ wsX90, w ∈ wsX9_put := fun _ h => List.mem_cons_of_mem _ (List.mem_append_right _ (h))
  have hl : lv_has ls 4 [(0, .ref (a 0)), (1, .int x), (2, .int i0), (3, .int v)] := hl
  obtain ⟨hi, hi5, hI, hi0⟩ := hR.iq hC hc1
  have hcl := hC.c30
  have hnl := hC.n8
  have htl := hC.t8
  have hrl := hr.2.1
  refine lv_iload_n hx hb dX9_put_0 rfl (lv_at hl 1 rfl) ?_
  refine cStI [.int x] [] FX hK (c_X9_noSheet l D y x) (va_cwS 1 hts gX9_put_X9_noSheet rfl rfl rfl (by decide +kernel) ⟨Nat.le_of_ble_eq_true rfl, Nat.le_of_ble_eq_true rfl⟩) rfl rfl hl (Nat.le_of_ble_eq_true rfl) dX9_put_1 ⟨Nat.zero_le _, Nat.zero_le _⟩ hP hS (fun r1 H locs hp1 hP hS => ?_)
  obtain rfl := hp1
  refine xb_eq (tgt := 13) hx hb dX9_put_4 (by decide) (fun c4 => ?_) (fun c4 => ?_)
  · have k4 : inN 4 x := Classical.not_not.mp c4
    obtain ⟨j, hj, ej⟩ := id k4
    subst ej
    refine lv_aload_n hx hb dX9_put_13 rfl (lv_at hl 0 rfl) ?_
    refine lv_iload_n hx hb dX9_put_14 rfl (lv_at hl 1 rfl) ?_
    refine lv_iload_n hx hb dX9_put_15 rfl (lv_at hl 2 rfl) ?_
    refine cViI [.int (nI j), .int i0] [] FX hK (c_X9_noCell_ l D y a hA P (C) j i0 hR hsh (by omega)) (cwV 2 hts gX9_put_X9_noCell_ rfl rfl rfl (by decide +kernel) ⟨Nat.le_of_ble_eq_true rfl, Nat.le_of_ble_eq_true rfl⟩) hP (pre_recv hK hP (ci := 9) (q0 := 0) rfl rfl) rfl rfl hl (Nat.le_of_ble_eq_true rfl) dX9_put_16 ⟨Nat.zero_le _, Nat.zero_le _⟩ hS (fun _ h => h) (fun r16 u16 H locs hp16 hP hS _ _ => ?_)
    obtain rfl := hp16
    refine lv_if_le (tgt := 33) hx hb dX9_put_19 (by decide) (fun c19 => ?_) (fun c19 => ?_)
    · obtain ⟨hs1, hs2⟩ := ncS_le c19
      obtain ⟨ii, ms, hi1, hi2, ei, hsz⟩ := inS_nat hsh hj hs2
      subst ei
      refine lv_aload_n hx hb dX9_put_33 rfl (lv_at hl 0 rfl) ?_
      refine mg_38 FX hK in9 hP (List.mem_of_getElem? (i := 1) rfl) dX9_put_34 ?_
      refine lv_bipush (v := nI 100) hx hb dX9_put_37 rfl ?_
      refine lv_iload_n hx hb dX9_put_39 rfl (lv_at hl 1 rfl) ?_
      refine xn_imul (a := 100) (b := j) hx hb dX9_put_40 ?_
      refine lv_iload_n hx hb dX9_put_41 rfl (lv_at hl 2 rfl) ?_
      refine xn_iadd (a := 100 * j) (b := ii) hx hb dX9_put_42 ?_
      refine lv_aload_n hx hb dX9_put_43 rfl (lv_at hl 0 rfl) ?_
      refine mg_37 FX hK in9 hP (List.mem_of_getElem? (i := 2) rfl) dX9_put_44 ?_
      refine lv_iload_n hx hb dX9_put_47 rfl (lv_at hl 1 rfl) ?_
      refine ma23 (i := j) (by omega) FX hK hP dX9_put_48 ?_
      refine xn_to hx (z := C.2 12 j) (hR.shv (k := 12) (q := j) (by omega) (by decide) (by decide)) ?_
      refine lv_if_ne (tgt := 57) hx hb dX9_put_49 (by decide) (fun c49 => ?_) (fun c49 => ?_)
      · refine lv_aload_n hx hb dX9_put_57 rfl (lv_at hl 0 rfl) ?_
        refine mg_37 FX hK in9 hP (List.mem_of_getElem? (i := 2) rfl) dX9_put_58 ?_
        refine lv_iload_n hx hb dX9_put_61 rfl (lv_at hl 1 rfl) ?_
        refine ma23 (i := j) (by omega) FX hK hP dX9_put_62 ?_
        refine xn_to hx (z := C.2 12 j) (hR.shv (k := 12) (q := j) (by omega) (by decide) (by decide)) ?_
        refine lv_iconst (v := nI 1) hx hb dX9_put_63 rfl ?_
        refine lv_icmp_ne (tgt := 72) hx hb dX9_put_64 (by decide) (fun c64 => ?_) (fun c64 => ?_)
        · refine lv_iload_n hx hb dX9_put_72 rfl (lv_at hl 3 rfl) ?_
          refine ms24 (i := (100 * j) + ii) (by omega) FX hK hP hA hS dX9_put_73 (fun H locs hP hS => ?_)
          refine lv_aload_n hx hb dX9_put_74 rfl (lv_at hl 0 rfl) ?_
          refine lv_iconst (v := nI 1) hx hb dX9_put_75 rfl ?_
          refine cViI [.int (nI 1)] [] FX hK (c_X9_refused l D y a hA (pa P 18 ((100 * j) + ii) v) (nI 1)) (cwV 1 hts gX9_put_X9_refused rfl rfl rfl (by decide +kernel) ⟨Nat.le_of_ble_eq_true rfl, Nat.le_of_ble_eq_true rfl⟩) hP (pre_recv hK hP (ci := 9) (q0 := 0) rfl rfl) rfl rfl hl (Nat.le_of_ble_eq_true rfl) dX9_put_76 ⟨Nat.zero_le _, Nat.zero_le _⟩ hS (fun _ h => h) (fun r76 u76 H locs hp76 hP hS _ _ => ?_)
          obtain rfl := hp76
          exact ret H locs 79 ls (nI 1) (pg (pa P 18 ((100 * j) + ii) v) 10 (nI 0)) dX9_put_79 (by unfold ansPut; rw [dN_nI (show j < 2 ^ 31 by omega), cif_t k4, cif_t hs1, cif_t hs2, dN_nI (show ii < 2 ^ 31 by omega)]; exact ⟨rfl, (by rw [show cut (C.2 12 j) v = v from (by unfold cut; rw [cif_f c49, cif_f (show ¬ C.2 12 j = 1 from c64)])]; exact (hR.wsh hj (by omega) _).wpg (by omega) _)⟩) hP hS
        · refine lv_iload_n hx hb dX9_put_67 rfl (lv_at hl 3 rfl) ?_
          refine lv_i2s hx hb dX9_put_68 rfl ?_
          refine lv_goto (tgt := 73) hx hb dX9_put_69 (by decide) ?_
          refine ms24 (i := (100 * j) + ii) (by omega) FX hK hP hA hS dX9_put_73 (fun H locs hP hS => ?_)
          refine lv_aload_n hx hb dX9_put_74 rfl (lv_at hl 0 rfl) ?_
          refine lv_iconst (v := nI 1) hx hb dX9_put_75 rfl ?_
          refine cViI [.int (nI 1)] [] FX hK (c_X9_refused l D y a hA (pa P 18 ((100 * j) + ii) (v.toInt16.toInt32)) (nI 1)) (cwV 1 hts gX9_put_X9_refused rfl rfl rfl (by decide +kernel) ⟨Nat.le_of_ble_eq_true rfl, Nat.le_of_ble_eq_true rfl⟩) hP (pre_recv hK hP (ci := 9) (q0 := 0) rfl rfl) rfl rfl hl (Nat.le_of_ble_eq_true rfl) dX9_put_76 ⟨Nat.zero_le _, Nat.zero_le _⟩ hS (fun _ h => h) (fun r76 u76 H locs hp76 hP hS _ _ => ?_)
          obtain rfl := hp76
          exact ret H locs 79 ls (nI 1) (pg (pa P 18 ((100 * j) + ii) (v.toInt16.toInt32)) 10 (nI 0)) dX9_put_79 (by unfold ansPut; rw [dN_nI (show j < 2 ^ 31 by omega), cif_t k4, cif_t hs1, cif_t hs2, dN_nI (show ii < 2 ^ 31 by omega)]; exact ⟨rfl, (by rw [show cut (C.2 12 j) v = (v.toInt16.toInt32) from (by unfold cut; rw [cif_f c49, cif_t (show C.2 12 j = 1 from c64)])]; exact (hR.wsh hj (by omega) _).wpg (by omega) _)⟩) hP hS
      · refine lv_iload_n hx hb dX9_put_52 rfl (lv_at hl 3 rfl) ?_
        refine lv_i2b hx hb dX9_put_53 rfl ?_
        refine lv_goto (tgt := 73) hx hb dX9_put_54 (by decide) ?_
        refine ms24 (i := (100 * j) + ii) (by omega) FX hK hP hA hS dX9_put_73 (fun H locs hP hS => ?_)
        refine lv_aload_n hx hb dX9_put_74 rfl (lv_at hl 0 rfl) ?_
        refine lv_iconst (v := nI 1) hx hb dX9_put_75 rfl ?_
        refine cViI [.int (nI 1)] [] FX hK (c_X9_refused l D y a hA (pa P 18 ((100 * j) + ii) (v.toInt8.toInt32)) (nI 1)) (cwV 1 hts gX9_put_X9_refused rfl rfl rfl (by decide +kernel) ⟨Nat.le_of_ble_eq_true rfl, Nat.le_of_ble_eq_true rfl⟩) hP (pre_recv hK hP (ci := 9) (q0 := 0) rfl rfl) rfl rfl hl (Nat.le_of_ble_eq_true rfl) dX9_put_76 ⟨Nat.zero_le _, Nat.zero_le _⟩ hS (fun _ h => h) (fun r76 u76 H locs hp76 hP hS _ _ => ?_)
        obtain rfl := hp76
        exact ret H locs 79 ls (nI 1) (pg (pa P 18 ((100 * j) + ii) (v.toInt8.toInt32)) 10 (nI 0)) dX9_put_79 (by unfold ansPut; rw [dN_nI (show j < 2 ^ 31 by omega), cif_t k4, cif_t hs1, cif_t hs2, dN_nI (show ii < 2 ^ 31 by omega)]; exact ⟨rfl, (by rw [show cut (C.2 12 j) v = (v.toInt8.toInt32) from (by unfold cut; rw [cif_t c49])]; exact (hR.wsh hj (by omega) _).wpg (by omega) _)⟩) hP hS
    · refine lv_aload_n hx hb dX9_put_22 rfl (lv_at hl 0 rfl) ?_
      refine lv_aload_n hx hb dX9_put_23 rfl (lv_at hl 0 rfl) ?_
      refine lv_iload_n hx hb dX9_put_24 rfl (lv_at hl 1 rfl) ?_
      refine lv_iload_n hx hb dX9_put_25 rfl (lv_at hl 2 rfl) ?_
      refine cViI [.int (nI j), .int i0] [.ref (a 0)] FX hK (c_X9_noCell_ l D y a hA P (C) j i0 hR hsh (by omega)) (cwV 2 hts gX9_put_X9_noCell_ rfl rfl rfl (by decide +kernel) ⟨Nat.le_of_ble_eq_true rfl, Nat.le_of_ble_eq_true rfl⟩) hP (pre_recv hK hP (ci := 9) (q0 := 0) rfl rfl) rfl rfl hl (Nat.le_of_ble_eq_true rfl) dX9_put_26 ⟨Nat.zero_le _, Nat.zero_le _⟩ hS (fun _ h => h) (fun r26 u26 H locs hp26 hP hS _ _ => ?_)
      obtain rfl := hp26
      refine cViI [.int (ncS C j i0)] [] FX hK (c_X9_failed l D y a hA P (ncS C j i0)) (cwV 1 hts gX9_put_X9_failed rfl rfl rfl (by decide +kernel) ⟨Nat.le_of_ble_eq_true rfl, Nat.le_of_ble_eq_true rfl⟩) hP (pre_recv hK hP (ci := 9) (q0 := 0) rfl rfl) rfl rfl hl (Nat.le_of_ble_eq_true rfl) dX9_put_29 ⟨Nat.zero_le _, Nat.zero_le _⟩ hS (fun _ h => h) (fun r29 u29 H locs hp29 hP hS _ _ => ?_)
      obtain rfl := hp29
      exact ret H locs 32 ls ((-10) - (ncS C j i0)) (pg P 10 (ncS C j i0)) dX9_put_32 (by rw [ansPut_bad hj c19]; exact ⟨rfl, hR.wpg (by omega) _⟩) hP hS
  · refine lv_aload_n hx hb dX9_put_7 rfl (lv_at hl 0 rfl) ?_
    refine lv_iconst (v := (-1)) hx hb dX9_put_8 rfl ?_
    refine cViI [.int (-1)] [] FX hK (c_X9_refused l D y a hA P (-1)) (cwV 1 hts gX9_put_X9_refused rfl rfl rfl (by decide +kernel) ⟨Nat.le_of_ble_eq_true rfl, Nat.le_of_ble_eq_true rfl⟩) hP (pre_recv hK hP (ci := 9) (q0 := 0) rfl rfl) rfl rfl hl (Nat.le_of_ble_eq_true rfl) dX9_put_9 ⟨Nat.zero_le _, Nat.zero_le _⟩ hS (fun _ h => h) (fun r9 u9 H locs hp9 hP hS _ _ => ?_)
    obtain rfl := hp9
    exact ret H locs 12 ls (-1) (pg P 10 (nI 0)) dX9_put_12 (by unfold ansPut; rw [cif_f c4]; exact ⟨rfl, hR.wpg (by omega) _⟩) hP hS

abbrev rmX9_cell : Room := { frames := 2, cells := 0, slots := 0, locals := 47 }
set_option maxRecDepth 100000 in
set_option maxHeartbeats 4000000 in
theorem c_X9_cell (l : Launch) (D : va_G) (y : Nat → ClassId) (a : Nat → Nat) (hA : CA a 26) (P : PT) (C : PT) (w cN n t rd : Nat) (x : Int32) (i0 : Int32) (lane : Int32)  (hR : RQ C P) (hC : IP C w cN n t) (hc1 : C.1 1 = nI cN) (hr : RD C n rd) (hsh : SH C) : CtL l D y yX9_cell wsX9_cell rmX9_cell [.ref (a 0), .int x, .int i0, .int lane] (wM y a P) (fun (r : Int64) (P' : PT) => r = (ansCell C x i0 lane).1 ∧ RQ (ansCell C x i0 lane).2 P') (fun P' => wM y a P') (AM a) := by
  refine mkL (cc := cX9_cell) (maxL := 4) RX9 rfl (by decide) rfl (Nat.le_of_ble_eq_true rfl) ?_
  intro p e s m args below meth c Q FX hK hP ret ls hl
  obtain ⟨hx, hb, hml, hown, hts⟩ := id FX
  have hS : va_S (AM a) s.heap s.heap [] := va_S.rf
  have in9 : ∀ w ∈ wsX90, w ∈ wsX9_cell := fun _ h => List.mem_cons_of_mem _ (List.mem_append_right _ (h))
  have hl : lv_has ls 4 [(0, .ref (a 0)), (1, .int x), (2, .int i0), (3, .int lane)] := hl
  obtain ⟨hi, hi5, hI, hi0⟩ := hR.iq hC hc1
  have hcl := hC.c30
  have hnl := hC.n8
  have htl := hC.t8
  have hrl := hr.2.1
  refine lv_aload_n hx hb dX9_cell_0 rfl (lv_at hl 0 rfl) ?_
  refine lv_iconst (v := nI 0) hx hb dX9_cell_1 rfl ?_
  refine mp_0 FX hK in9 hP hA hS (List.mem_of_getElem? (i := 1) rfl) dX9_cell_2 (fun H locs hP hS => ?_)
  refine lv_iload_n hx hb dX9_cell_5 rfl (lv_at hl 1 rfl) ?_
  refine cStI [.int x] [] FX hK (c_X9_noSheet l D y x) (va_cwS 1 hts gX9_cell_X9_noSheet rfl rfl rfl (by decide +kernel) ⟨Nat.le_of_ble_eq_true rfl, Nat.le_of_ble_eq_true rfl⟩) rfl rfl hl (Nat.le_of_ble_eq_true rfl) dX9_cell_6 ⟨Nat.zero_le _, Nat.zero_le _⟩ hP hS (fun r6 H locs hp6 hP hS => ?_)
  obtain rfl := hp6
  refine xb_ne (tgt := 24) hx hb dX9_cell_9 (by decide) (fun c9 => ?_) (fun c9 => ?_)
  · refine cStL [] [] FX hK (c_X9_lost l D y) (va_cwS 0 hts gX9_cell_X9_lost rfl rfl rfl (by decide +kernel) ⟨Nat.le_of_ble_eq_true rfl, Nat.le_of_ble_eq_true rfl⟩) rfl rfl hl (Nat.le_of_ble_eq_true rfl) dX9_cell_24 ⟨Nat.zero_le _, Nat.zero_le _⟩ hP hS (fun r24 H locs hp24 hP hS => ?_)
    obtain rfl := hp24
    exact ret H locs 27 ls LOST (pg P 10 (nI 0)) dX9_cell_27 (by unfold ansCell; rw [cif_f c9]; exact ⟨rfl, hR.wpg (by omega) _⟩) hP hS
  · have k9 : inN 4 x := Classical.not_not.mp c9
    obtain ⟨j, hj, ej⟩ := id k9
    subst ej
    refine lv_iload_n hx hb dX9_cell_12 rfl (lv_at hl 3 rfl) ?_
    refine lv_i2l hx hb dX9_cell_13 rfl ?_
    refine lv_lconst (v := 0) hx hb dX9_cell_14 rfl ?_
    refine lv_ldc2 hx hb hown (hts _ (List.mem_of_getElem? (i := 2) rfl)) dX9_cell_15 ?_
    refine cStI [.long (lane.toInt64), .long 0, .long (2)] [] FX hK (c_X9_in l D y (lane.toInt64) 0 (2)) (va_cwS 3 hts gX9_cell_X9_in rfl rfl rfl (by decide +kernel) ⟨Nat.le_of_ble_eq_true rfl, Nat.le_of_ble_eq_true rfl⟩) rfl rfl hl (Nat.le_of_ble_eq_true rfl) dX9_cell_18 ⟨Nat.zero_le _, Nat.zero_le _⟩ hP hS (fun r18 H locs hp18 hP hS => ?_)
    obtain rfl := hp18
    refine xn_to hx (z := b2 (inR 0 2 lane)) (b2_iff (in_R (lo := 0) (hi := 2) rfl rfl (by decide))) ?_
    refine xb_ne (tgt := 28) hx hb dX9_cell_21 (by decide) (fun c21 => ?_) (fun c21 => ?_)
    · refine lv_aload_n hx hb dX9_cell_28 rfl (lv_at hl 0 rfl) ?_
      refine mg_36 FX hK in9 hP (List.mem_of_getElem? (i := 3) rfl) dX9_cell_29 ?_
      refine lv_iload_n hx hb dX9_cell_32 rfl (lv_at hl 1 rfl) ?_
      refine ma22 (i := j) (by omega) FX hK hP dX9_cell_33 ?_
      refine xn_to hx (z := C.2 13 j) (hR.shv (k := 13) (q := j) (by omega) (by decide) (by decide)) ?_
      refine lv_if_lt (tgt := 53) hx hb dX9_cell_34 (by decide) (fun c34 => ?_) (fun c34 => ?_)
      · refine lv_aload_n hx hb dX9_cell_53 rfl (lv_at hl 0 rfl) ?_
        refine lv_iload_n hx hb dX9_cell_54 rfl (lv_at hl 1 rfl) ?_
        refine lv_iload_n hx hb dX9_cell_55 rfl (lv_at hl 2 rfl) ?_
        refine cViI [.int (nI j), .int i0] [] FX hK (c_X9_noCell_ l D y a hA (pg P 10 (nI 0)) (pg C 10 (nI 0)) j i0 (hR.wpg (by omega) _) hsh (by omega)) (cwV 2 hts gX9_cell_X9_noCell_ rfl rfl rfl (by decide +kernel) ⟨Nat.le_of_ble_eq_true rfl, Nat.le_of_ble_eq_true rfl⟩) hP (pre_recv hK hP (ci := 9) (q0 := 0) rfl rfl) rfl rfl hl (Nat.le_of_ble_eq_true rfl) dX9_cell_56 ⟨Nat.zero_le _, Nat.zero_le _⟩ hS (fun _ h => h) (fun r56 u56 H locs hp56 hP hS _ _ => ?_)
        obtain rfl := hp56
        refine xn_to hx (z := ncS C j i0) rfl ?_
        refine lv_if_le (tgt := 75) hx hb dX9_cell_59 (by decide) (fun c59 => ?_) (fun c59 => ?_)
        · exact absurd c59 (by rw [← ncS_1 (sh_lt0 hsh hj c34)]; decide)
        · refine lv_aload_n hx hb dX9_cell_62 rfl (lv_at hl 0 rfl) ?_
          refine lv_aload_n hx hb dX9_cell_63 rfl (lv_at hl 0 rfl) ?_
          refine lv_iload_n hx hb dX9_cell_64 rfl (lv_at hl 1 rfl) ?_
          refine lv_iload_n hx hb dX9_cell_65 rfl (lv_at hl 2 rfl) ?_
          refine cViI [.int (nI j), .int i0] [.ref (a 0)] FX hK (c_X9_noCell_ l D y a hA (pg P 10 (nI 0)) (pg C 10 (nI 0)) j i0 (hR.wpg (by omega) _) hsh (by omega)) (cwV 2 hts gX9_cell_X9_noCell_ rfl rfl rfl (by decide +kernel) ⟨Nat.le_of_ble_eq_true rfl, Nat.le_of_ble_eq_true rfl⟩) hP (pre_recv hK hP (ci := 9) (q0 := 0) rfl rfl) rfl rfl hl (Nat.le_of_ble_eq_true rfl) dX9_cell_66 ⟨Nat.zero_le _, Nat.zero_le _⟩ hS (fun _ h => h) (fun r66 u66 H locs hp66 hP hS _ _ => ?_)
          obtain rfl := hp66
          refine xn_to hx (z := ncS C j i0) rfl ?_
          refine cViL [.int (ncS C j i0)] [] FX hK (c_X9_failedLong l D y a hA (pg P 10 (nI 0)) (ncS C j i0)) (cwV 1 hts gX9_cell_X9_failedLong rfl rfl rfl (by decide +kernel) ⟨Nat.le_of_ble_eq_true rfl, Nat.le_of_ble_eq_true rfl⟩) hP (pre_recv hK hP (ci := 9) (q0 := 0) rfl rfl) rfl rfl hl (Nat.le_of_ble_eq_true rfl) dX9_cell_69 ⟨Nat.zero_le _, Nat.zero_le _⟩ hS (fun _ h => h) (fun r69 u69 H locs hp69 hP hS _ _ => ?_)
          obtain rfl := hp69
          refine lv_goto (tgt := 87) hx hb dX9_cell_72 (by decide) ?_
          exact ret H locs 87 ls LOST (pg (pg P 10 (nI 0)) 10 (ncS C j i0)) dX9_cell_87 (by rw [ansCell_bad hj c21 (by first | exact Or.inl (sh_lt0 hsh hj c34) | exact Or.inr c44) c59]; refine ⟨rfl, ?_⟩; rw [pg_pg]; exact hR.wpg (by omega) _) hP hS
      · refine lv_aload_n hx hb dX9_cell_37 rfl (lv_at hl 0 rfl) ?_
        refine mg_37 FX hK in9 hP (List.mem_of_getElem? (i := 4) rfl) dX9_cell_38 ?_
        refine lv_iload_n hx hb dX9_cell_41 rfl (lv_at hl 1 rfl) ?_
        refine ma23 (i := j) (by omega) FX hK hP dX9_cell_42 ?_
        refine xn_to hx (z := C.2 12 j) (hR.shv (k := 12) (q := j) (by omega) (by decide) (by decide)) ?_
        refine lv_iload_n hx hb dX9_cell_43 rfl (lv_at hl 3 rfl) ?_
        refine lv_icmp_eq (tgt := 53) hx hb dX9_cell_44 (by decide) (fun c44 => ?_) (fun c44 => ?_)
        · refine lv_aload_n hx hb dX9_cell_53 rfl (lv_at hl 0 rfl) ?_
          refine lv_iload_n hx hb dX9_cell_54 rfl (lv_at hl 1 rfl) ?_
          refine lv_iload_n hx hb dX9_cell_55 rfl (lv_at hl 2 rfl) ?_
          refine cViI [.int (nI j), .int i0] [] FX hK (c_X9_noCell_ l D y a hA (pg P 10 (nI 0)) (pg C 10 (nI 0)) j i0 (hR.wpg (by omega) _) hsh (by omega)) (cwV 2 hts gX9_cell_X9_noCell_ rfl rfl rfl (by decide +kernel) ⟨Nat.le_of_ble_eq_true rfl, Nat.le_of_ble_eq_true rfl⟩) hP (pre_recv hK hP (ci := 9) (q0 := 0) rfl rfl) rfl rfl hl (Nat.le_of_ble_eq_true rfl) dX9_cell_56 ⟨Nat.zero_le _, Nat.zero_le _⟩ hS (fun _ h => h) (fun r56 u56 H locs hp56 hP hS _ _ => ?_)
          obtain rfl := hp56
          refine xn_to hx (z := ncS C j i0) rfl ?_
          refine lv_if_le (tgt := 75) hx hb dX9_cell_59 (by decide) (fun c59 => ?_) (fun c59 => ?_)
          · obtain ⟨hs1, hs2⟩ := ncS_le c59
            obtain ⟨ii, ms, hi1, hi2, ei, hsz⟩ := inS_nat hsh hj hs2
            subst ei
            refine lv_aload_n hx hb dX9_cell_75 rfl (lv_at hl 0 rfl) ?_
            refine mg_38 FX hK in9 hP (List.mem_of_getElem? (i := 5) rfl) dX9_cell_76 ?_
            refine lv_bipush (v := nI 100) hx hb dX9_cell_79 rfl ?_
            refine lv_iload_n hx hb dX9_cell_81 rfl (lv_at hl 1 rfl) ?_
            refine xn_imul (a := 100) (b := j) hx hb dX9_cell_82 ?_
            refine lv_iload_n hx hb dX9_cell_83 rfl (lv_at hl 2 rfl) ?_
            refine xn_iadd (a := 100 * j) (b := ii) hx hb dX9_cell_84 ?_
            refine ma24 (i := (100 * j) + ii) (by omega) FX hK hP dX9_cell_85 ?_
            refine xn_to hx (z := C.2 (14 + j) ii) (hR.shc hj (by omega)) ?_
            refine lv_i2l hx hb dX9_cell_86 rfl ?_
            exact ret H locs 87 ls ((C.2 (14 + j) ii).toInt64) (pg P 10 (nI 0)) dX9_cell_87 (by rw [ansCell_ok hj (by omega) c21 (sh_ne c34) c44 hs2]; exact ⟨rfl, hR.wpg (by omega) _⟩) hP hS
          · refine lv_aload_n hx hb dX9_cell_62 rfl (lv_at hl 0 rfl) ?_
            refine lv_aload_n hx hb dX9_cell_63 rfl (lv_at hl 0 rfl) ?_
            refine lv_iload_n hx hb dX9_cell_64 rfl (lv_at hl 1 rfl) ?_
            refine lv_iload_n hx hb dX9_cell_65 rfl (lv_at hl 2 rfl) ?_
            refine cViI [.int (nI j), .int i0] [.ref (a 0)] FX hK (c_X9_noCell_ l D y a hA (pg P 10 (nI 0)) (pg C 10 (nI 0)) j i0 (hR.wpg (by omega) _) hsh (by omega)) (cwV 2 hts gX9_cell_X9_noCell_ rfl rfl rfl (by decide +kernel) ⟨Nat.le_of_ble_eq_true rfl, Nat.le_of_ble_eq_true rfl⟩) hP (pre_recv hK hP (ci := 9) (q0 := 0) rfl rfl) rfl rfl hl (Nat.le_of_ble_eq_true rfl) dX9_cell_66 ⟨Nat.zero_le _, Nat.zero_le _⟩ hS (fun _ h => h) (fun r66 u66 H locs hp66 hP hS _ _ => ?_)
            obtain rfl := hp66
            refine xn_to hx (z := ncS C j i0) rfl ?_
            refine cViL [.int (ncS C j i0)] [] FX hK (c_X9_failedLong l D y a hA (pg P 10 (nI 0)) (ncS C j i0)) (cwV 1 hts gX9_cell_X9_failedLong rfl rfl rfl (by decide +kernel) ⟨Nat.le_of_ble_eq_true rfl, Nat.le_of_ble_eq_true rfl⟩) hP (pre_recv hK hP (ci := 9) (q0 := 0) rfl rfl) rfl rfl hl (Nat.le_of_ble_eq_true rfl) dX9_cell_69 ⟨Nat.zero_le _, Nat.zero_le _⟩ hS (fun _ h => h) (fun r69 u69 H locs hp69 hP hS _ _ => ?_)
            obtain rfl := hp69
            refine lv_goto (tgt := 87) hx hb dX9_cell_72 (by decide) ?_
            exact ret H locs 87 ls LOST (pg (pg P 10 (nI 0)) 10 (ncS C j i0)) dX9_cell_87 (by rw [ansCell_bad hj c21 (by first | exact Or.inl (sh_lt0 hsh hj c34) | exact Or.inr c44) c59]; refine ⟨rfl, ?_⟩; rw [pg_pg]; exact hR.wpg (by omega) _) hP hS
        · refine lv_aload_n hx hb dX9_cell_47 rfl (lv_at hl 0 rfl) ?_
          refine lv_iconst (v := nI 2) hx hb dX9_cell_48 rfl ?_
          refine cViL [.int (nI 2)] [] FX hK (c_X9_failedLong l D y a hA (pg P 10 (nI 0)) (nI 2)) (cwV 1 hts gX9_cell_X9_failedLong rfl rfl rfl (by decide +kernel) ⟨Nat.le_of_ble_eq_true rfl, Nat.le_of_ble_eq_true rfl⟩) hP (pre_recv hK hP (ci := 9) (q0 := 0) rfl rfl) rfl rfl hl (Nat.le_of_ble_eq_true rfl) dX9_cell_49 ⟨Nat.zero_le _, Nat.zero_le _⟩ hS (fun _ h => h) (fun r49 u49 H locs hp49 hP hS _ _ => ?_)
          obtain rfl := hp49
          exact ret H locs 52 ls LOST (pg (pg P 10 (nI 0)) 10 (nI 2)) dX9_cell_52 (by rw [ansCell_cast hj c21 (sh_ne c34) c44]; refine ⟨rfl, ?_⟩; rw [pg_pg]; exact hR.wpg (by omega) _) hP hS
    · refine cStL [] [] FX hK (c_X9_lost l D y) (va_cwS 0 hts gX9_cell_X9_lost rfl rfl rfl (by decide +kernel) ⟨Nat.le_of_ble_eq_true rfl, Nat.le_of_ble_eq_true rfl⟩) rfl rfl hl (Nat.le_of_ble_eq_true rfl) dX9_cell_24 ⟨Nat.zero_le _, Nat.zero_le _⟩ hP hS (fun r24 H locs hp24 hP hS => ?_)
      obtain rfl := hp24
      exact ret H locs 27 ls LOST (pg P 10 (nI 0)) dX9_cell_27 (by unfold ansCell; rw [dN_nI (show j < 2 ^ 31 by omega), cif_t k9, cif_f c21]; exact ⟨rfl, hR.wpg (by omega) _⟩) hP hS

abbrev rmX9_copy : Room := { frames := 2, cells := 0, slots := 0, locals := 45 }
set_option maxRecDepth 100000 in
set_option maxHeartbeats 4000000 in
theorem c_X9_copy (l : Launch) (D : va_G) (y : Nat → ClassId) (a : Nat → Nat) (hA : CA a 26) (P : PT) (C : PT) (w cN n t rd : Nat) (x : Int32) (i0 : Int32) (z : Int32) (j0 : Int32) (m0 : Int32)  (hR : RQ C P) (hC : IP C w cN n t) (hc1 : C.1 1 = nI cN) (hr : RD C n rd) (hsh : SH C) : CtI l D y yX9_copy wsX9_copy rmX9_copy [.ref (a 0), .int x, .int i0, .int z, .int j0, .int m0] (wM y a P) (fun (r : Int32) (P' : PT) => r = (ansCopy C x i0 z j0 m0).1 ∧ RQ (ansCopy C x i0 z j0 m0).2 P') (fun P' => wM y a P') (AM a) := by
  refine mkI (cc := cX9_copy) (maxL := 7) (ret := some .int) RX9 rfl (by decide) rfl (Or.inl rfl) (Nat.le_of_ble_eq_true rfl) ?_
  intro p e s m args below meth c Q FX hK hP ret ls hl
  obtain ⟨hx, hb, hml, hown, hts⟩ := id FX
  have hS : va_S (AM a) s.heap s.heap [] := va_S.rf
  have in9 : ∀ w ∈ wsX90, w ∈ wsX9_copy := fun _ h => List.mem_cons_of_mem _ (List.mem_append_right _ (h))
  have hl : lv_has ls 7 [(0, .ref (a 0)), (1, .int x), (2, .int i0), (3, .int z), (4, .int j0), (5, .int m0)] := hl
  obtain ⟨hi, hi5, hI, hi0⟩ := hR.iq hC hc1
  have hcl := hC.c30
  have hnl := hC.n8
  have htl := hC.t8
  have hrl := hr.2.1
  refine lv_iload_n hx hb dX9_copy_0 rfl (lv_at hl 1 rfl) ?_
  refine cStI [.int x] [] FX hK (c_X9_noSheet l D y x) (va_cwS 1 hts gX9_copy_X9_noSheet rfl rfl rfl (by decide +kernel) ⟨Nat.le_of_ble_eq_true rfl, Nat.le_of_ble_eq_true rfl⟩) rfl rfl hl (Nat.le_of_ble_eq_true rfl) dX9_copy_1 ⟨Nat.zero_le _, Nat.zero_le _⟩ hP hS (fun r1 H locs hp1 hP hS => ?_)
  obtain rfl := hp1
  refine xb_ne (tgt := 14) hx hb dX9_copy_4 (by decide) (fun c4 => ?_) (fun c4 => ?_)
  · refine lv_aload_n hx hb dX9_copy_14 rfl (lv_at hl 0 rfl) ?_
    refine lv_iconst (v := (-1)) hx hb dX9_copy_15 rfl ?_
    refine cViI [.int (-1)] [] FX hK (c_X9_refused l D y a hA P (-1)) (cwV 1 hts gX9_copy_X9_refused rfl rfl rfl (by decide +kernel) ⟨Nat.le_of_ble_eq_true rfl, Nat.le_of_ble_eq_true rfl⟩) hP (pre_recv hK hP (ci := 9) (q0 := 0) rfl rfl) rfl rfl hl (Nat.le_of_ble_eq_true rfl) dX9_copy_16 ⟨Nat.zero_le _, Nat.zero_le _⟩ hS (fun _ h => h) (fun r16 u16 H locs hp16 hP hS _ _ => ?_)
    obtain rfl := hp16
    exact ret H locs 19 ls (-1) (pg P 10 (nI 0)) dX9_copy_19 (by unfold ansCopy; rw [cif_f c4]; exact ⟨rfl, hR.wpg (by omega) _⟩) hP hS
  · have k4 : inN 4 x := Classical.not_not.mp c4
    obtain ⟨j, hj, ej⟩ := id k4
    subst ej
    refine lv_iload_n hx hb dX9_copy_7 rfl (lv_at hl 3 rfl) ?_
    refine cStI [.int z] [] FX hK (c_X9_noSheet l D y z) (va_cwS 1 hts gX9_copy_X9_noSheet rfl rfl rfl (by decide +kernel) ⟨Nat.le_of_ble_eq_true rfl, Nat.le_of_ble_eq_true rfl⟩) rfl rfl hl (Nat.le_of_ble_eq_true rfl) dX9_copy_8 ⟨Nat.zero_le _, Nat.zero_le _⟩ hP hS (fun r8 H locs hp8 hP hS => ?_)
    obtain rfl := hp8
    refine xb_eq (tgt := 20) hx hb dX9_copy_11 (by decide) (fun c11 => ?_) (fun c11 => ?_)
    · have k11 : inN 4 z := Classical.not_not.mp c11
      obtain ⟨k, hk, ek⟩ := id k11
      subst ek
      refine lv_aload_n hx hb dX9_copy_20 rfl (lv_at hl 0 rfl) ?_
      refine mg_36 FX hK in9 hP (List.mem_of_getElem? (i := 1) rfl) dX9_copy_21 ?_
      refine lv_iload_n hx hb dX9_copy_24 rfl (lv_at hl 1 rfl) ?_
      refine ma22 (i := j) (by omega) FX hK hP dX9_copy_25 ?_
      refine xn_to hx (z := C.2 13 j) (hR.shv (k := 13) (q := j) (by omega) (by decide) (by decide)) ?_
      refine lv_if_lt (tgt := 38) hx hb dX9_copy_26 (by decide) (fun c26 => ?_) (fun c26 => ?_)
      · refine lv_aload_n hx hb dX9_copy_38 rfl (lv_at hl 0 rfl) ?_
        refine lv_iconst (v := nI 1) hx hb dX9_copy_39 rfl ?_
        refine cViI [.int (nI 1)] [] FX hK (c_X9_failed l D y a hA P (nI 1)) (cwV 1 hts gX9_copy_X9_failed rfl rfl rfl (by decide +kernel) ⟨Nat.le_of_ble_eq_true rfl, Nat.le_of_ble_eq_true rfl⟩) hP (pre_recv hK hP (ci := 9) (q0 := 0) rfl rfl) rfl rfl hl (Nat.le_of_ble_eq_true rfl) dX9_copy_40 ⟨Nat.zero_le _, Nat.zero_le _⟩ hS (fun _ h => h) (fun r40 u40 H locs hp40 hP hS _ _ => ?_)
        obtain rfl := hp40
        exact ret H locs 43 ls ((-10) - (nI 1)) (pg P 10 (nI 1)) dX9_copy_43 (by unfold ansCopy; rw [dN_nI (show k < 2 ^ 31 by omega), dN_nI (show j < 2 ^ 31 by omega), cif_t k4, cif_t k11, cif_f (fun z => z (sh_lt0 hsh hj c26))]; exact ⟨rfl, (by rw [pg_pg]; exact hR.wpg (by omega) _)⟩) hP hS
      · have k26 := sh_ne c26
        obtain ⟨m1, hm1, hs1⟩ := sh_nn hsh hj k26
        refine lv_aload_n hx hb dX9_copy_29 rfl (lv_at hl 0 rfl) ?_
        refine mg_36 FX hK in9 hP (List.mem_of_getElem? (i := 1) rfl) dX9_copy_30 ?_
        refine lv_iload_n hx hb dX9_copy_33 rfl (lv_at hl 3 rfl) ?_
        refine ma22 (i := k) (by omega) FX hK hP dX9_copy_34 ?_
        refine xn_to hx (z := C.2 13 k) (hR.shv (k := 13) (q := k) (by omega) (by decide) (by decide)) ?_
        refine lv_if_ge (tgt := 44) hx hb dX9_copy_35 (by decide) (fun c35 => ?_) (fun c35 => ?_)
        · have k35 := sh_ge0 c35
          obtain ⟨m2, hm2, hs2⟩ := sh_nn hsh hk k35
          refine lv_aload_n hx hb dX9_copy_44 rfl (lv_at hl 0 rfl) ?_
          refine mg_37 FX hK in9 hP (List.mem_of_getElem? (i := 2) rfl) dX9_copy_45 ?_
          refine lv_iload_n hx hb dX9_copy_48 rfl (lv_at hl 1 rfl) ?_
          refine ma23 (i := j) (by omega) FX hK hP dX9_copy_49 ?_
          refine xn_to hx (z := C.2 12 j) (hR.shv (k := 12) (q := j) (by omega) (by decide) (by decide)) ?_
          refine lv_aload_n hx hb dX9_copy_50 rfl (lv_at hl 0 rfl) ?_
          refine mg_37 FX hK in9 hP (List.mem_of_getElem? (i := 2) rfl) dX9_copy_51 ?_
          refine lv_iload_n hx hb dX9_copy_54 rfl (lv_at hl 3 rfl) ?_
          refine ma23 (i := k) (by omega) FX hK hP dX9_copy_55 ?_
          refine xn_to hx (z := C.2 12 k) (hR.shv (k := 12) (q := k) (by omega) (by decide) (by decide)) ?_
          refine lv_icmp_eq (tgt := 65) hx hb dX9_copy_56 (by decide) (fun c56 => ?_) (fun c56 => ?_)
          · refine lv_iload_n hx hb dX9_copy_65 rfl (lv_at hl 2 rfl) ?_
            refine lv_iload hx hb dX9_copy_66 (lv_at hl 5 rfl) ?_
            refine lv_i2l hx hb dX9_copy_68 rfl ?_
            refine lv_aload_n hx hb dX9_copy_69 rfl (lv_at hl 0 rfl) ?_
            refine mg_36 FX hK in9 hP (List.mem_of_getElem? (i := 1) rfl) dX9_copy_70 ?_
            refine lv_iload_n hx hb dX9_copy_73 rfl (lv_at hl 1 rfl) ?_
            refine ma22 (i := j) (by omega) FX hK hP dX9_copy_74 ?_
            refine xn_to hx (z := nI m1) ((hR.shv (k := 13) (q := j) (by omega) (by decide) (by decide)).trans hs1) ?_
            refine cStI [.int i0, .long (m0.toInt64), .int (nI m1)] [] FX hK (c_X9_isBeyond l D y i0 m0 m1 (by omega)) (va_cwS 3 hts gX9_copy_X9_isBeyond rfl rfl rfl (by decide +kernel) ⟨Nat.le_of_ble_eq_true rfl, Nat.le_of_ble_eq_true rfl⟩) rfl rfl hl (Nat.le_of_ble_eq_true rfl) dX9_copy_75 ⟨Nat.zero_le _, Nat.zero_le _⟩ hP hS (fun r75 H locs hp75 hP hS => ?_)
            obtain rfl := hp75
            refine xn_to hx (z := b2 (¬ inRun i0 m0 (C.2 13 j))) (by rw [hs1]) ?_
            refine xb_ne (tgt := 98) hx hb dX9_copy_78 (by decide) (fun c78 => ?_) (fun c78 => ?_)
            · refine lv_aload_n hx hb dX9_copy_98 rfl (lv_at hl 0 rfl) ?_
              refine lv_iconst (v := nI 3) hx hb dX9_copy_99 rfl ?_
              refine cViI [.int (nI 3)] [] FX hK (c_X9_failed l D y a hA P (nI 3)) (cwV 1 hts gX9_copy_X9_failed rfl rfl rfl (by decide +kernel) ⟨Nat.le_of_ble_eq_true rfl, Nat.le_of_ble_eq_true rfl⟩) hP (pre_recv hK hP (ci := 9) (q0 := 0) rfl rfl) rfl rfl hl (Nat.le_of_ble_eq_true rfl) dX9_copy_100 ⟨Nat.zero_le _, Nat.zero_le _⟩ hS (fun _ h => h) (fun r100 u100 H locs hp100 hP hS _ _ => ?_)
              obtain rfl := hp100
              exact ret H locs 103 ls ((-10) - (nI 3)) (pg P 10 (nI 3)) dX9_copy_103 (by unfold ansCopy; rw [dN_nI (show k < 2 ^ 31 by omega), dN_nI (show j < 2 ^ 31 by omega), cif_t k4, cif_t k11, cif_t k26, cif_t k35, cif_t c56, cif_f c78]; exact ⟨rfl, (by rw [pg_pg]; exact hR.wpg (by omega) _)⟩) hP hS
            · have k78 := Classical.not_not.mp c78
              refine lv_iload hx hb dX9_copy_81 (lv_at hl 4 rfl) ?_
              refine lv_iload hx hb dX9_copy_83 (lv_at hl 5 rfl) ?_
              refine lv_i2l hx hb dX9_copy_85 rfl ?_
              refine lv_aload_n hx hb dX9_copy_86 rfl (lv_at hl 0 rfl) ?_
              refine mg_36 FX hK in9 hP (List.mem_of_getElem? (i := 1) rfl) dX9_copy_87 ?_
              refine lv_iload_n hx hb dX9_copy_90 rfl (lv_at hl 3 rfl) ?_
              refine ma22 (i := k) (by omega) FX hK hP dX9_copy_91 ?_
              refine xn_to hx (z := nI m2) ((hR.shv (k := 13) (q := k) (by omega) (by decide) (by decide)).trans hs2) ?_
              refine cStI [.int j0, .long (m0.toInt64), .int (nI m2)] [] FX hK (c_X9_isBeyond l D y j0 m0 m2 (by omega)) (va_cwS 3 hts gX9_copy_X9_isBeyond rfl rfl rfl (by decide +kernel) ⟨Nat.le_of_ble_eq_true rfl, Nat.le_of_ble_eq_true rfl⟩) rfl rfl hl (Nat.le_of_ble_eq_true rfl) dX9_copy_92 ⟨Nat.zero_le _, Nat.zero_le _⟩ hP hS (fun r92 H locs hp92 hP hS => ?_)
              obtain rfl := hp92
              refine xn_to hx (z := b2 (¬ inRun j0 m0 (C.2 13 k))) (by rw [hs2]) ?_
              refine xb_eq (tgt := 104) hx hb dX9_copy_95 (by decide) (fun c95 => ?_) (fun c95 => ?_)
              · have k95 := Classical.not_not.mp c95
                obtain ⟨ii, mm, s1, h1, h2, e1, e2, h3⟩ := inRun_nat hsh hj k26 k78
                obtain ⟨jj, mm2, s2, h4, h5, e3, e4, h7⟩ := inRun_nat hsh hk k35 k95
                subst e1
                subst e3
                rw [e2] at e4
                have e5 := nI_inj (by omega) (by omega) e4
                subst e5
                subst e2
                refine lv_iconst (v := nI 0) hx hb dX9_copy_104 rfl ?_
                refine lv_istore (lv' := [(6, .int (nI 0)), (0, .ref (a 0)), (1, .int (nI j)), (2, .int (nI ii)), (3, .int (nI k)), (4, .int (nI jj)), (5, .int (nI mm))]) hx hb dX9_copy_105 hl (by decide) rfl (fun ls hl => ?_)
                have L107 : ∀ (N : Nat) (i : Nat) (P1 : PT), (i ≤ mm) → (RQ C P1) → (∀ x, x < i → P1.2 28 x = C.2 (14 + j) (ii + x)) → mm - i < N → ∀ (H : Heap) (locs : List Loc) (ls : Array Slot), va_P D vwCl (wM y a P1) H → va_S (AM a) s.heap H locs → lv_has ls 7 [(0, .ref (a 0)), (1, .int (nI j)), (2, .int (nI ii)), (3, .int (nI k)), (4, .int (nI jj)), (5, .int (nI mm)), (6, .int (nI i))] → W p l e rmX9_copy s m args below meth c H locs 0 0 Q (F0 m 107 ls []) := by
                  intro N107
                  induction N107 with
                  | zero => intro i P1 hi9 hR1 hh1 hmeas; exact absurd hmeas (Nat.not_lt_zero _)
                  | succ N107 ih107 =>
                    intro i P1 hi9 hR1 hh1 hmeas H locs ls hP hS hl
                    have hR := hR1
                    refine lv_iload hx hb dX9_copy_107 (lv_at hl 6 rfl) ?_
                    refine lv_iload hx hb dX9_copy_109 (lv_at hl 5 rfl) ?_
                    refine xn_icmp_ge (tgt := 141) hx hb (by omega) (by omega) dX9_copy_111 (by decide) (fun c111 => ?_) (fun c111 => ?_)
                    · have hh1 : ∀ x, x < mm → P1.2 28 x = C.2 (14 + j) (ii + x) := fun x hx => hh1 x (by omega)
                      refine lv_iconst (v := nI 0) hx hb dX9_copy_141 rfl ?_
                      refine lv_istore (lv' := [(6, .int (nI 0)), (0, .ref (a 0)), (1, .int (nI j)), (2, .int (nI ii)), (3, .int (nI k)), (4, .int (nI jj)), (5, .int (nI mm))]) hx hb dX9_copy_142 hl (by decide) rfl (fun ls hl => ?_)
                      have L144 : ∀ (N : Nat) (i : Nat), (i ≤ mm) → mm - i < N → ∀ (H : Heap) (locs : List Loc) (ls : Array Slot), va_P D vwCl (wM y a (cq P1 k jj i)) H → va_S (AM a) s.heap H locs → lv_has ls 7 [(0, .ref (a 0)), (3, .int (nI k)), (4, .int (nI jj)), (5, .int (nI mm)), (6, .int (nI i))] → W p l e rmX9_copy s m args below meth c H locs 0 0 Q (F0 m 144 ls []) := by
                        intro N144
                        induction N144 with
                        | zero => intro i hi8 hmeas; exact absurd hmeas (Nat.not_lt_zero _)
                        | succ N144 ih144 =>
                          intro i hi8 hmeas H locs ls hP hS hl
                          refine lv_iload hx hb dX9_copy_144 (lv_at hl 4 rfl) ?_
                          refine lv_iload hx hb dX9_copy_146 (lv_at hl 3 rfl) ?_
                          refine xn_icmp_ge (tgt := 179) hx hb (by omega) (by omega) dX9_copy_148 (by decide) (fun c148 => ?_) (fun c148 => ?_)
                          · refine lv_aload_n hx hb dX9_copy_179 rfl (lv_at hl 0 rfl) ?_
                            refine lv_iload hx hb dX9_copy_180 (lv_at hl 3 rfl) ?_
                            refine cViI [.int (nI mm)] [] FX hK (c_X9_refused l D y a hA (cq P1 k jj i) (nI mm)) (cwV 1 hts gX9_copy_X9_refused rfl rfl rfl (by decide +kernel) ⟨Nat.le_of_ble_eq_true rfl, Nat.le_of_ble_eq_true rfl⟩) hP (pre_recv hK hP (ci := 9) (q0 := 0) rfl rfl) rfl rfl hl (Nat.le_of_ble_eq_true rfl) dX9_copy_182 ⟨Nat.zero_le _, Nat.zero_le _⟩ hS (fun _ h => h) (fun r182 u182 H locs hp182 hP hS _ _ => ?_)
                            obtain rfl := hp182
                            exact ret H locs 185 ls (nI mm) (pg (cq P1 k jj i) 10 (nI 0)) dX9_copy_185 (by unfold ansCopy; rw [dN_nI (show ii < 2 ^ 31 by omega), dN_nI (show mm < 2 ^ 31 by omega), dN_nI (show jj < 2 ^ 31 by omega), dN_nI (show k < 2 ^ 31 by omega), dN_nI (show j < 2 ^ 31 by omega), cif_t k4, cif_t k11, cif_t k26, cif_t k35, cif_t c56, cif_t k78, cif_t k95]; exact ⟨rfl, (by rw [show i = mm by omega]; exact (hR.copy hj hk (by omega) hh1).wpg (by omega) _)⟩) hP hS
                          · refine lv_aload_n hx hb dX9_copy_151 rfl (lv_at hl 0 rfl) ?_
                            refine mg_38 FX hK in9 hP (List.mem_of_getElem? (i := 4) rfl) dX9_copy_152 ?_
                            refine lv_bipush (v := nI 100) hx hb dX9_copy_155 rfl ?_
                            refine lv_iload_n hx hb dX9_copy_157 rfl (lv_at hl 1 rfl) ?_
                            refine xn_imul (a := 100) (b := k) hx hb dX9_copy_158 ?_
                            refine lv_iload hx hb dX9_copy_159 (lv_at hl 2 rfl) ?_
                            refine xn_iadd (a := 100 * k) (b := jj) hx hb dX9_copy_161 ?_
                            refine lv_iload hx hb dX9_copy_162 (lv_at hl 4 rfl) ?_
                            refine xn_iadd (a := (100 * k) + jj) (b := i) hx hb dX9_copy_164 ?_
                            refine lv_aload_n hx hb dX9_copy_165 rfl (lv_at hl 0 rfl) ?_
                            refine mg_39 FX hK in9 hP (List.mem_of_getElem? (i := 3) rfl) dX9_copy_166 ?_
                            refine lv_iload hx hb dX9_copy_169 (lv_at hl 4 rfl) ?_
                            refine ma25 (i := i) (by omega) FX hK hP dX9_copy_171 ?_
                            refine xn_to hx (z := P1.2 28 i) rfl ?_
                            refine ms24 (i := ((100 * k) + jj) + i) (by omega) FX hK hP hA hS dX9_copy_172 (fun H locs hP hS => ?_)
                            refine lv_iinc (v := nI (i + 1)) (lv' := [(6, .int (nI (i + 1))), (0, .ref (a 0)), (3, .int (nI k)), (4, .int (nI jj)), (5, .int (nI mm))]) hx hb dX9_copy_173 hl (k := 4) rfl (xn_inc i 1) (by decide) rfl (fun ls hl => ?_)
                            refine lv_goto (tgt := 144) hx hb dX9_copy_176 (by decide) ?_
                            rw [cq_s] at hP
                            exact ih144 (i + 1) (by omega) (by omega) H locs ls hP hS (lv_sub hl [1, 2, 3, 4, 0] rfl)
                      rw [← cq_0 P1 k jj] at hP
                      exact L144 _ 0 (Nat.zero_le _) (Nat.lt_succ_self _) H locs ls hP hS (lv_sub hl [1, 4, 5, 6, 0] rfl)
                    · refine lv_aload_n hx hb dX9_copy_114 rfl (lv_at hl 0 rfl) ?_
                      refine mg_39 FX hK in9 hP (List.mem_of_getElem? (i := 3) rfl) dX9_copy_115 ?_
                      refine lv_iload hx hb dX9_copy_118 (lv_at hl 6 rfl) ?_
                      refine lv_aload_n hx hb dX9_copy_120 rfl (lv_at hl 0 rfl) ?_
                      refine mg_38 FX hK in9 hP (List.mem_of_getElem? (i := 4) rfl) dX9_copy_121 ?_
                      refine lv_bipush (v := nI 100) hx hb dX9_copy_124 rfl ?_
                      refine lv_iload_n hx hb dX9_copy_126 rfl (lv_at hl 1 rfl) ?_
                      refine xn_imul (a := 100) (b := j) hx hb dX9_copy_127 ?_
                      refine lv_iload_n hx hb dX9_copy_128 rfl (lv_at hl 2 rfl) ?_
                      refine xn_iadd (a := 100 * j) (b := ii) hx hb dX9_copy_129 ?_
                      refine lv_iload hx hb dX9_copy_130 (lv_at hl 6 rfl) ?_
                      refine xn_iadd (a := (100 * j) + ii) (b := i) hx hb dX9_copy_132 ?_
                      refine ma24 (i := ((100 * j) + ii) + i) (by omega) FX hK hP dX9_copy_133 ?_
                      refine xn_to hx (z := C.2 (14 + j) (ii + i)) (by rw [Nat.add_assoc]; exact hR.shc hj (by omega)) ?_
                      refine ms25 (i := i) (by omega) FX hK hP hA hS dX9_copy_134 (fun H locs hP hS => ?_)
                      refine lv_iinc (v := nI (i + 1)) (lv' := [(6, .int (nI (i + 1))), (0, .ref (a 0)), (1, .int (nI j)), (2, .int (nI ii)), (3, .int (nI k)), (4, .int (nI jj)), (5, .int (nI mm))]) hx hb dX9_copy_135 hl (k := 6) rfl (xn_inc i 1) (by decide) rfl (fun ls hl => ?_)
                      refine lv_goto (tgt := 107) hx hb dX9_copy_138 (by decide) ?_
                      exact ih107 (i + 1) (pa P1 28 i (C.2 (14 + j) (ii + i))) (by omega) (hR.sa (by decide) _ _) (pa_step (f := fun x => C.2 (14 + j) (ii + x)) hh1) (by omega) H locs ls hP hS (lv_sub hl [1, 2, 3, 4, 5, 6, 0] rfl)
                exact L107 _ 0 P (Nat.zero_le _) hR (fun k h => absurd h (Nat.not_lt_zero _)) (Nat.lt_succ_self _) H locs ls hP hS (lv_sub hl [1, 2, 3, 4, 5, 6, 0] rfl)
              · refine lv_aload_n hx hb dX9_copy_98 rfl (lv_at hl 0 rfl) ?_
                refine lv_iconst (v := nI 3) hx hb dX9_copy_99 rfl ?_
                refine cViI [.int (nI 3)] [] FX hK (c_X9_failed l D y a hA P (nI 3)) (cwV 1 hts gX9_copy_X9_failed rfl rfl rfl (by decide +kernel) ⟨Nat.le_of_ble_eq_true rfl, Nat.le_of_ble_eq_true rfl⟩) hP (pre_recv hK hP (ci := 9) (q0 := 0) rfl rfl) rfl rfl hl (Nat.le_of_ble_eq_true rfl) dX9_copy_100 ⟨Nat.zero_le _, Nat.zero_le _⟩ hS (fun _ h => h) (fun r100 u100 H locs hp100 hP hS _ _ => ?_)
                obtain rfl := hp100
                exact ret H locs 103 ls ((-10) - (nI 3)) (pg P 10 (nI 3)) dX9_copy_103 (by unfold ansCopy; rw [dN_nI (show k < 2 ^ 31 by omega), dN_nI (show j < 2 ^ 31 by omega), cif_t k4, cif_t k11, cif_t k26, cif_t k35, cif_t c56, cif_t k78, cif_f c95]; exact ⟨rfl, (by rw [pg_pg]; exact hR.wpg (by omega) _)⟩) hP hS
          · refine lv_aload_n hx hb dX9_copy_59 rfl (lv_at hl 0 rfl) ?_
            refine lv_iconst (v := nI 2) hx hb dX9_copy_60 rfl ?_
            refine cViI [.int (nI 2)] [] FX hK (c_X9_failed l D y a hA P (nI 2)) (cwV 1 hts gX9_copy_X9_failed rfl rfl rfl (by decide +kernel) ⟨Nat.le_of_ble_eq_true rfl, Nat.le_of_ble_eq_true rfl⟩) hP (pre_recv hK hP (ci := 9) (q0 := 0) rfl rfl) rfl rfl hl (Nat.le_of_ble_eq_true rfl) dX9_copy_61 ⟨Nat.zero_le _, Nat.zero_le _⟩ hS (fun _ h => h) (fun r61 u61 H locs hp61 hP hS _ _ => ?_)
            obtain rfl := hp61
            exact ret H locs 64 ls ((-10) - (nI 2)) (pg P 10 (nI 2)) dX9_copy_64 (by unfold ansCopy; rw [dN_nI (show k < 2 ^ 31 by omega), dN_nI (show j < 2 ^ 31 by omega), cif_t k4, cif_t k11, cif_t k26, cif_t k35, cif_f c56]; exact ⟨rfl, (by rw [pg_pg]; exact hR.wpg (by omega) _)⟩) hP hS
        · refine lv_aload_n hx hb dX9_copy_38 rfl (lv_at hl 0 rfl) ?_
          refine lv_iconst (v := nI 1) hx hb dX9_copy_39 rfl ?_
          refine cViI [.int (nI 1)] [] FX hK (c_X9_failed l D y a hA P (nI 1)) (cwV 1 hts gX9_copy_X9_failed rfl rfl rfl (by decide +kernel) ⟨Nat.le_of_ble_eq_true rfl, Nat.le_of_ble_eq_true rfl⟩) hP (pre_recv hK hP (ci := 9) (q0 := 0) rfl rfl) rfl rfl hl (Nat.le_of_ble_eq_true rfl) dX9_copy_40 ⟨Nat.zero_le _, Nat.zero_le _⟩ hS (fun _ h => h) (fun r40 u40 H locs hp40 hP hS _ _ => ?_)
          obtain rfl := hp40
          exact ret H locs 43 ls ((-10) - (nI 1)) (pg P 10 (nI 1)) dX9_copy_43 (by unfold ansCopy; rw [dN_nI (show k < 2 ^ 31 by omega), dN_nI (show j < 2 ^ 31 by omega), cif_t k4, cif_t k11, cif_t k26, cif_f (fun z => z (sh_lt hsh hk c35))]; exact ⟨rfl, (by rw [pg_pg]; exact hR.wpg (by omega) _)⟩) hP hS
    · refine lv_aload_n hx hb dX9_copy_14 rfl (lv_at hl 0 rfl) ?_
      refine lv_iconst (v := (-1)) hx hb dX9_copy_15 rfl ?_
      refine cViI [.int (-1)] [] FX hK (c_X9_refused l D y a hA P (-1)) (cwV 1 hts gX9_copy_X9_refused rfl rfl rfl (by decide +kernel) ⟨Nat.le_of_ble_eq_true rfl, Nat.le_of_ble_eq_true rfl⟩) hP (pre_recv hK hP (ci := 9) (q0 := 0) rfl rfl) rfl rfl hl (Nat.le_of_ble_eq_true rfl) dX9_copy_16 ⟨Nat.zero_le _, Nat.zero_le _⟩ hS (fun _ h => h) (fun r16 u16 H locs hp16 hP hS _ _ => ?_)
      obtain rfl := hp16
      exact ret H locs 19 ls (-1) (pg P 10 (nI 0)) dX9_copy_19 (by unfold ansCopy; rw [dN_nI (show j < 2 ^ 31 by omega), cif_t k4, cif_f c11]; exact ⟨rfl, hR.wpg (by omega) _⟩) hP hS
