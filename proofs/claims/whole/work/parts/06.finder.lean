abbrev rmJ6_bitCount_0f7a4 : Room := { frames := 0, cells := 0, slots := 0, locals := 0 }
set_option maxRecDepth 100000 in
set_option maxHeartbeats 4000000 in
theorem c_J6_bitCount_0f7a4 (l : Launch) (D : va_G) (y : Nat → ClassId) (m0 : Nat) (hm0 : m0 < 256) : CtI l D y yJ6_bitCount_0f7a4 wsJ6_bitCount_0f7a4 rmJ6_bitCount_0f7a4 [.int (nI m0)] ([]) (fun r (_ : Unit) => r = nI (pcn m0)) (fun _ => []) ((fun _ => False)) := by
  refine mkI (cc := cJ6_bitCount_0f7a4) (maxL := 1) (ret := some .int) RJ6 rfl (by decide) rfl (Or.inl rfl) (Nat.le_of_ble_eq_true rfl) ?_
  intro p e s m args below meth c Q FX hK hP ret ls hl
  obtain ⟨hx, hb, hml, hown, hts⟩ := id FX
  have hS : va_S (fun _ => False) s.heap s.heap [] := va_S.rf
  have hl : lv_has ls 1 [(0, .int (nI m0))] := hl
  refine lv_iload_n hx hb dJ6_bitCount_0f7a4_0 rfl (lv_at hl 0 rfl) ?_
  refine lv_iload_n hx hb dJ6_bitCount_0f7a4_1 rfl (lv_at hl 0 rfl) ?_
  refine lv_iconst (v := nI 1) hx hb dJ6_bitCount_0f7a4_2 rfl ?_
  refine lv_iushr hx hb dJ6_bitCount_0f7a4_3 rfl ?_
  refine lv_ldcw hx hb hown (hts _ (List.mem_of_getElem? (i := 1) rfl)) dJ6_bitCount_0f7a4_4 ?_
  refine lv_iand hx hb dJ6_bitCount_0f7a4_7 ?_
  refine lv_isub hx hb dJ6_bitCount_0f7a4_8 ?_
  refine lv_istore_n (lv' := [(0, .int ((nI m0) - ((((nI m0).toUInt32 >>> ((nI 1).toUInt32 &&& Int32.toUInt32 31)).toInt32) &&& (1431655765))))]) hx hb dJ6_bitCount_0f7a4_9 rfl hl (by decide) rfl (fun ls hl => ?_)
  refine lv_iload_n hx hb dJ6_bitCount_0f7a4_10 rfl (lv_at hl 0 rfl) ?_
  refine lv_ldcw hx hb hown (hts _ (List.mem_of_getElem? (i := 2) rfl)) dJ6_bitCount_0f7a4_11 ?_
  refine lv_iand hx hb dJ6_bitCount_0f7a4_14 ?_
  refine lv_iload_n hx hb dJ6_bitCount_0f7a4_15 rfl (lv_at hl 0 rfl) ?_
  refine lv_iconst (v := nI 2) hx hb dJ6_bitCount_0f7a4_16 rfl ?_
  refine lv_iushr hx hb dJ6_bitCount_0f7a4_17 rfl ?_
  refine lv_ldcw hx hb hown (hts _ (List.mem_of_getElem? (i := 2) rfl)) dJ6_bitCount_0f7a4_18 ?_
  refine lv_iand hx hb dJ6_bitCount_0f7a4_21 ?_
  refine lv_iadd hx hb dJ6_bitCount_0f7a4_22 ?_
  refine lv_istore_n (lv' := [(0, .int ((((nI m0) - ((((nI m0).toUInt32 >>> ((nI 1).toUInt32 &&& Int32.toUInt32 31)).toInt32) &&& (1431655765))) &&& (858993459)) + (((((nI m0) - ((((nI m0).toUInt32 >>> ((nI 1).toUInt32 &&& Int32.toUInt32 31)).toInt32) &&& (1431655765))).toUInt32 >>> ((nI 2).toUInt32 &&& Int32.toUInt32 31)).toInt32) &&& (858993459))))]) hx hb dJ6_bitCount_0f7a4_23 rfl hl (by decide) rfl (fun ls hl => ?_)
  refine lv_iload_n hx hb dJ6_bitCount_0f7a4_24 rfl (lv_at hl 0 rfl) ?_
  refine lv_iload_n hx hb dJ6_bitCount_0f7a4_25 rfl (lv_at hl 0 rfl) ?_
  refine lv_iconst (v := nI 4) hx hb dJ6_bitCount_0f7a4_26 rfl ?_
  refine lv_iushr hx hb dJ6_bitCount_0f7a4_27 rfl ?_
  refine lv_iadd hx hb dJ6_bitCount_0f7a4_28 ?_
  refine lv_ldcw hx hb hown (hts _ (List.mem_of_getElem? (i := 3) rfl)) dJ6_bitCount_0f7a4_29 ?_
  refine lv_iand hx hb dJ6_bitCount_0f7a4_32 ?_
  refine lv_istore_n (lv' := [(0, .int ((((((nI m0) - ((((nI m0).toUInt32 >>> ((nI 1).toUInt32 &&& Int32.toUInt32 31)).toInt32) &&& (1431655765))) &&& (858993459)) + (((((nI m0) - ((((nI m0).toUInt32 >>> ((nI 1).toUInt32 &&& Int32.toUInt32 31)).toInt32) &&& (1431655765))).toUInt32 >>> ((nI 2).toUInt32 &&& Int32.toUInt32 31)).toInt32) &&& (858993459))) + ((((((nI m0) - ((((nI m0).toUInt32 >>> ((nI 1).toUInt32 &&& Int32.toUInt32 31)).toInt32) &&& (1431655765))) &&& (858993459)) + (((((nI m0) - ((((nI m0).toUInt32 >>> ((nI 1).toUInt32 &&& Int32.toUInt32 31)).toInt32) &&& (1431655765))).toUInt32 >>> ((nI 2).toUInt32 &&& Int32.toUInt32 31)).toInt32) &&& (858993459))).toUInt32 >>> ((nI 4).toUInt32 &&& Int32.toUInt32 31)).toInt32)) &&& (252645135)))]) hx hb dJ6_bitCount_0f7a4_33 rfl hl (by decide) rfl (fun ls hl => ?_)
  refine lv_iload_n hx hb dJ6_bitCount_0f7a4_34 rfl (lv_at hl 0 rfl) ?_
  refine lv_iload_n hx hb dJ6_bitCount_0f7a4_35 rfl (lv_at hl 0 rfl) ?_
  refine lv_bipush (v := nI 8) hx hb dJ6_bitCount_0f7a4_36 rfl ?_
  refine lv_iushr hx hb dJ6_bitCount_0f7a4_38 rfl ?_
  refine lv_iadd hx hb dJ6_bitCount_0f7a4_39 ?_
  refine lv_istore_n (lv' := [(0, .int (((((((nI m0) - ((((nI m0).toUInt32 >>> ((nI 1).toUInt32 &&& Int32.toUInt32 31)).toInt32) &&& (1431655765))) &&& (858993459)) + (((((nI m0) - ((((nI m0).toUInt32 >>> ((nI 1).toUInt32 &&& Int32.toUInt32 31)).toInt32) &&& (1431655765))).toUInt32 >>> ((nI 2).toUInt32 &&& Int32.toUInt32 31)).toInt32) &&& (858993459))) + ((((((nI m0) - ((((nI m0).toUInt32 >>> ((nI 1).toUInt32 &&& Int32.toUInt32 31)).toInt32) &&& (1431655765))) &&& (858993459)) + (((((nI m0) - ((((nI m0).toUInt32 >>> ((nI 1).toUInt32 &&& Int32.toUInt32 31)).toInt32) &&& (1431655765))).toUInt32 >>> ((nI 2).toUInt32 &&& Int32.toUInt32 31)).toInt32) &&& (858993459))).toUInt32 >>> ((nI 4).toUInt32 &&& Int32.toUInt32 31)).toInt32)) &&& (252645135)) + ((((((((nI m0) - ((((nI m0).toUInt32 >>> ((nI 1).toUInt32 &&& Int32.toUInt32 31)).toInt32) &&& (1431655765))) &&& (858993459)) + (((((nI m0) - ((((nI m0).toUInt32 >>> ((nI 1).toUInt32 &&& Int32.toUInt32 31)).toInt32) &&& (1431655765))).toUInt32 >>> ((nI 2).toUInt32 &&& Int32.toUInt32 31)).toInt32) &&& (858993459))) + ((((((nI m0) - ((((nI m0).toUInt32 >>> ((nI 1).toUInt32 &&& Int32.toUInt32 31)).toInt32) &&& (1431655765))) &&& (858993459)) + (((((nI m0) - ((((nI m0).toUInt32 >>> ((nI 1).toUInt32 &&& Int32.toUInt32 31)).toInt32) &&& (1431655765))).toUInt32 >>> ((nI 2).toUInt32 &&& Int32.toUInt32 31)).toInt32) &&& (858993459))).toUInt32 >>> ((nI 4).toUInt32 &&& Int32.toUInt32 31)).toInt32)) &&& (252645135)).toUInt32 >>> ((nI 8).toUInt32 &&& Int32.toUInt32 31)).toInt32)))]) hx hb dJ6_bitCount_0f7a4_40 rfl hl (by decide) rfl (fun ls hl => ?_)
  refine lv_iload_n hx hb dJ6_bitCount_0f7a4_41 rfl (lv_at hl 0 rfl) ?_
  refine lv_iload_n hx hb dJ6_bitCount_0f7a4_42 rfl (lv_at hl 0 rfl) ?_
  refine lv_bipush (v := nI 16) hx hb dJ6_bitCount_0f7a4_43 rfl ?_
  refine lv_iushr hx hb dJ6_bitCount_0f7a4_45 rfl ?_
  refine lv_iadd hx hb dJ6_bitCount_0f7a4_46 ?_
  refine lv_istore_n (lv' := [(0, .int ((((((((nI m0) - ((((nI m0).toUInt32 >>> ((nI 1).toUInt32 &&& Int32.toUInt32 31)).toInt32) &&& (1431655765))) &&& (858993459)) + (((((nI m0) - ((((nI m0).toUInt32 >>> ((nI 1).toUInt32 &&& Int32.toUInt32 31)).toInt32) &&& (1431655765))).toUInt32 >>> ((nI 2).toUInt32 &&& Int32.toUInt32 31)).toInt32) &&& (858993459))) + ((((((nI m0) - ((((nI m0).toUInt32 >>> ((nI 1).toUInt32 &&& Int32.toUInt32 31)).toInt32) &&& (1431655765))) &&& (858993459)) + (((((nI m0) - ((((nI m0).toUInt32 >>> ((nI 1).toUInt32 &&& Int32.toUInt32 31)).toInt32) &&& (1431655765))).toUInt32 >>> ((nI 2).toUInt32 &&& Int32.toUInt32 31)).toInt32) &&& (858993459))).toUInt32 >>> ((nI 4).toUInt32 &&& Int32.toUInt32 31)).toInt32)) &&& (252645135)) + ((((((((nI m0) - ((((nI m0).toUInt32 >>> ((nI 1).toUInt32 &&& Int32.toUInt32 31)).toInt32) &&& (1431655765))) &&& (858993459)) + (((((nI m0) - ((((nI m0).toUInt32 >>> ((nI 1).toUInt32 &&& Int32.toUInt32 31)).toInt32) &&& (1431655765))).toUInt32 >>> ((nI 2).toUInt32 &&& Int32.toUInt32 31)).toInt32) &&& (858993459))) + ((((((nI m0) - ((((nI m0).toUInt32 >>> ((nI 1).toUInt32 &&& Int32.toUInt32 31)).toInt32) &&& (1431655765))) &&& (858993459)) + (((((nI m0) - ((((nI m0).toUInt32 >>> ((nI 1).toUInt32 &&& Int32.toUInt32 31)).toInt32) &&& (1431655765))).toUInt32 >>> ((nI 2).toUInt32 &&& Int32.toUInt32 31)).toInt32) &&& (858993459))).toUInt32 >>> ((nI 4).toUInt32 &&& Int32.toUInt32 31)).toInt32)) &&& (252645135)).toUInt32 >>> ((nI 8).toUInt32 &&& Int32.toUInt32 31)).toInt32)) + (((((((((nI m0) - ((((nI m0).toUInt32 >>> ((nI 1).toUInt32 &&& Int32.toUInt32 31)).toInt32) &&& (1431655765))) &&& (858993459)) + (((((nI m0) - ((((nI m0).toUInt32 >>> ((nI 1).toUInt32 &&& Int32.toUInt32 31)).toInt32) &&& (1431655765))).toUInt32 >>> ((nI 2).toUInt32 &&& Int32.toUInt32 31)).toInt32) &&& (858993459))) + ((((((nI m0) - ((((nI m0).toUInt32 >>> ((nI 1).toUInt32 &&& Int32.toUInt32 31)).toInt32) &&& (1431655765))) &&& (858993459)) + (((((nI m0) - ((((nI m0).toUInt32 >>> ((nI 1).toUInt32 &&& Int32.toUInt32 31)).toInt32) &&& (1431655765))).toUInt32 >>> ((nI 2).toUInt32 &&& Int32.toUInt32 31)).toInt32) &&& (858993459))).toUInt32 >>> ((nI 4).toUInt32 &&& Int32.toUInt32 31)).toInt32)) &&& (252645135)) + ((((((((nI m0) - ((((nI m0).toUInt32 >>> ((nI 1).toUInt32 &&& Int32.toUInt32 31)).toInt32) &&& (1431655765))) &&& (858993459)) + (((((nI m0) - ((((nI m0).toUInt32 >>> ((nI 1).toUInt32 &&& Int32.toUInt32 31)).toInt32) &&& (1431655765))).toUInt32 >>> ((nI 2).toUInt32 &&& Int32.toUInt32 31)).toInt32) &&& (858993459))) + ((((((nI m0) - ((((nI m0).toUInt32 >>> ((nI 1).toUInt32 &&& Int32.toUInt32 31)).toInt32) &&& (1431655765))) &&& (858993459)) + (((((nI m0) - ((((nI m0).toUInt32 >>> ((nI 1).toUInt32 &&& Int32.toUInt32 31)).toInt32) &&& (1431655765))).toUInt32 >>> ((nI 2).toUInt32 &&& Int32.toUInt32 31)).toInt32) &&& (858993459))).toUInt32 >>> ((nI 4).toUInt32 &&& Int32.toUInt32 31)).toInt32)) &&& (252645135)).toUInt32 >>> ((nI 8).toUInt32 &&& Int32.toUInt32 31)).toInt32)).toUInt32 >>> ((nI 16).toUInt32 &&& Int32.toUInt32 31)).toInt32)))]) hx hb dJ6_bitCount_0f7a4_47 rfl hl (by decide) rfl (fun ls hl => ?_)
  refine lv_iload_n hx hb dJ6_bitCount_0f7a4_48 rfl (lv_at hl 0 rfl) ?_
  refine lv_bipush (v := nI 63) hx hb dJ6_bitCount_0f7a4_49 rfl ?_
  refine lv_iand hx hb dJ6_bitCount_0f7a4_51 ?_
  exact ret s.heap [] 52 ls (((((((((nI m0) - ((((nI m0).toUInt32 >>> ((nI 1).toUInt32 &&& Int32.toUInt32 31)).toInt32) &&& (1431655765))) &&& (858993459)) + (((((nI m0) - ((((nI m0).toUInt32 >>> ((nI 1).toUInt32 &&& Int32.toUInt32 31)).toInt32) &&& (1431655765))).toUInt32 >>> ((nI 2).toUInt32 &&& Int32.toUInt32 31)).toInt32) &&& (858993459))) + ((((((nI m0) - ((((nI m0).toUInt32 >>> ((nI 1).toUInt32 &&& Int32.toUInt32 31)).toInt32) &&& (1431655765))) &&& (858993459)) + (((((nI m0) - ((((nI m0).toUInt32 >>> ((nI 1).toUInt32 &&& Int32.toUInt32 31)).toInt32) &&& (1431655765))).toUInt32 >>> ((nI 2).toUInt32 &&& Int32.toUInt32 31)).toInt32) &&& (858993459))).toUInt32 >>> ((nI 4).toUInt32 &&& Int32.toUInt32 31)).toInt32)) &&& (252645135)) + ((((((((nI m0) - ((((nI m0).toUInt32 >>> ((nI 1).toUInt32 &&& Int32.toUInt32 31)).toInt32) &&& (1431655765))) &&& (858993459)) + (((((nI m0) - ((((nI m0).toUInt32 >>> ((nI 1).toUInt32 &&& Int32.toUInt32 31)).toInt32) &&& (1431655765))).toUInt32 >>> ((nI 2).toUInt32 &&& Int32.toUInt32 31)).toInt32) &&& (858993459))) + ((((((nI m0) - ((((nI m0).toUInt32 >>> ((nI 1).toUInt32 &&& Int32.toUInt32 31)).toInt32) &&& (1431655765))) &&& (858993459)) + (((((nI m0) - ((((nI m0).toUInt32 >>> ((nI 1).toUInt32 &&& Int32.toUInt32 31)).toInt32) &&& (1431655765))).toUInt32 >>> ((nI 2).toUInt32 &&& Int32.toUInt32 31)).toInt32) &&& (858993459))).toUInt32 >>> ((nI 4).toUInt32 &&& Int32.toUInt32 31)).toInt32)) &&& (252645135)).toUInt32 >>> ((nI 8).toUInt32 &&& Int32.toUInt32 31)).toInt32)) + (((((((((nI m0) - ((((nI m0).toUInt32 >>> ((nI 1).toUInt32 &&& Int32.toUInt32 31)).toInt32) &&& (1431655765))) &&& (858993459)) + (((((nI m0) - ((((nI m0).toUInt32 >>> ((nI 1).toUInt32 &&& Int32.toUInt32 31)).toInt32) &&& (1431655765))).toUInt32 >>> ((nI 2).toUInt32 &&& Int32.toUInt32 31)).toInt32) &&& (858993459))) + ((((((nI m0) - ((((nI m0).toUInt32 >>> ((nI 1).toUInt32 &&& Int32.toUInt32 31)).toInt32) &&& (1431655765))) &&& (858993459)) + (((((nI m0) - ((((nI m0).toUInt32 >>> ((nI 1).toUInt32 &&& Int32.toUInt32 31)).toInt32) &&& (1431655765))).toUInt32 >>> ((nI 2).toUInt32 &&& Int32.toUInt32 31)).toInt32) &&& (858993459))).toUInt32 >>> ((nI 4).toUInt32 &&& Int32.toUInt32 31)).toInt32)) &&& (252645135)) + ((((((((nI m0) - ((((nI m0).toUInt32 >>> ((nI 1).toUInt32 &&& Int32.toUInt32 31)).toInt32) &&& (1431655765))) &&& (858993459)) + (((((nI m0) - ((((nI m0).toUInt32 >>> ((nI 1).toUInt32 &&& Int32.toUInt32 31)).toInt32) &&& (1431655765))).toUInt32 >>> ((nI 2).toUInt32 &&& Int32.toUInt32 31)).toInt32) &&& (858993459))) + ((((((nI m0) - ((((nI m0).toUInt32 >>> ((nI 1).toUInt32 &&& Int32.toUInt32 31)).toInt32) &&& (1431655765))) &&& (858993459)) + (((((nI m0) - ((((nI m0).toUInt32 >>> ((nI 1).toUInt32 &&& Int32.toUInt32 31)).toInt32) &&& (1431655765))).toUInt32 >>> ((nI 2).toUInt32 &&& Int32.toUInt32 31)).toInt32) &&& (858993459))).toUInt32 >>> ((nI 4).toUInt32 &&& Int32.toUInt32 31)).toInt32)) &&& (252645135)).toUInt32 >>> ((nI 8).toUInt32 &&& Int32.toUInt32 31)).toInt32)).toUInt32 >>> ((nI 16).toUInt32 &&& Int32.toUInt32 31)).toInt32)) &&& (nI 63)) () dJ6_bitCount_0f7a4_52 (bc_tab m0 hm0) hP hS

abbrev rmX0_lowestWall : Room := { frames := 5, cells := 0, slots := 0, locals := 120 }
set_option maxRecDepth 100000 in
set_option maxHeartbeats 4000000 in
theorem c_X0_lowestWall (l : Launch) (D : va_G) (y : Nat → ClassId) (a : Nat → Nat) (hA : CA a 44) (P X : PT) (row : Value) (w cN n t : Nat) (h : Nat) (v : Int32) (hI : IP P w cN n t) (hc1 : P.1 1 = nI cN) (hh : h < n) : CtI l D y yX0_lowestWall wsX0_lowestWall rmX0_lowestWall [.ref (a 39), .int (nI h), .int v] (wC y a P X row) (fun r (_ : PT) => r = aWalled P w cN n (flB (P.1 4)) h v) (fun X' => wC y a P X' row) (AC a) := by
  refine mkI (cc := cX0_lowestWall) (maxL := 6) (ret := some .int) RX0 rfl (by decide) rfl (Or.inl rfl) (Nat.le_of_ble_eq_true rfl) ?_
  intro p e s m args below meth c Q FX hK hP ret ls hl
  obtain ⟨hx, hb, hml, hown, hts⟩ := id FX
  have hS : va_S (AC a) s.heap s.heap [] := va_S.rf
  have in0 : ∀ w ∈ wsX00, w ∈ wsX0_lowestWall := fun _ h => List.mem_cons_of_mem _ (List.mem_append_left _ (List.mem_append_left _ (List.mem_append_left _ (List.mem_append_left _ (List.mem_append_right _ (h))))))
  have in1 : ∀ w ∈ wsX10, w ∈ wsX0_lowestWall := fun _ h => List.mem_cons_of_mem _ (List.mem_append_left _ (List.mem_append_left _ (List.mem_append_right _ (h))))
  have in2 : ∀ w ∈ wsX20, w ∈ wsX0_lowestWall := fun _ h => List.mem_cons_of_mem _ (List.mem_append_left _ (List.mem_append_left _ (List.mem_append_left _ (List.mem_append_right _ (h)))))
  have in5 : ∀ w ∈ wsX50, w ∈ wsX0_lowestWall := fun _ h => List.mem_cons_of_mem _ (List.mem_append_left _ (List.mem_append_right _ (h)))
  have in7 : ∀ w ∈ wsX70, w ∈ wsX0_lowestWall := fun _ h => List.mem_cons_of_mem _ (List.mem_append_right _ (h))
  have hl : lv_has ls 6 [(0, .ref (a 39)), (1, .int (nI h)), (2, .int v)] := hl
  have hcl := hI.c30
  have hnl := hI.n8
  obtain ⟨hp1, hp2, hp3⟩ := hI.pl hh
  refine lv_aload_n hx hb dX0_lowestWall_0 rfl (lv_at hl 0 rfl) ?_
  refine cg0_1 FX hK in0 hP (List.mem_of_getElem? (i := 1) rfl) dX0_lowestWall_1 ?_
  refine cViV [] [] FX hK (c_X5_lookNow l D y a hA P X row w cN n t hI hc1) (cwV 0 hts gX0_lowestWall_X5_lookNow rfl rfl rfl (by decide +kernel) ⟨Nat.le_of_ble_eq_true rfl, Nat.le_of_ble_eq_true rfl⟩) hP (pre_recv hK hP (ci := 5) (q0 := 36) rfl rfl) rfl rfl hl (Nat.le_of_ble_eq_true rfl) dX0_lowestWall_4 ⟨Nat.zero_le _, Nat.zero_le _⟩ hS (fun _ h => h) (fun X1 H locs hp4 hP hS _ _ => ?_)
  obtain ⟨hf1, ht1⟩ := hp4
  refine lv_aload_n hx hb dX0_lowestWall_7 rfl (lv_at hl 0 rfl) ?_
  refine cg0_0 FX hK in0 hP (List.mem_of_getElem? (i := 2) rfl) dX0_lowestWall_8 ?_
  refine cg2_3 FX hK in2 hP (List.mem_of_getElem? (i := 3) rfl) dX0_lowestWall_11 ?_
  refine lv_iload_n hx hb dX0_lowestWall_14 rfl (lv_at hl 1 rfl) ?_
  refine ca18 (i := h) (by omega) FX hK hP dX0_lowestWall_15 ?_
  refine cg1_1 (h := h) (by omega) FX hK in1 hP (List.mem_of_getElem? (i := 4) rfl) dX0_lowestWall_16 ?_
  refine xn_to hx (z := nI (plN P h)) hp1 ?_
  refine lv_istore_n (lv' := [(3, .int (nI (plN P h))), (0, .ref (a 39)), (1, .int (nI h)), (2, .int v)]) hx hb dX0_lowestWall_19 rfl hl (by decide) rfl (fun ls hl => ?_)
  refine lv_iconst (v := nI 1) hx hb dX0_lowestWall_20 rfl ?_
  refine lv_istore (lv' := [(4, .int (nI 1)), (3, .int (nI (plN P h))), (0, .ref (a 39)), (1, .int (nI h)), (2, .int v)]) hx hb dX0_lowestWall_21 hl (by decide) rfl (fun ls hl => ?_)
  have L23 : ∀ (N : Nat) (k : Nat), (k ≤ 9) → (fsI (fun k => fsI (fun q => fnd (P.2 2 q = 0 ∧ nI (sNf P w n (P.1 6) (upd (sTop P (P.1 5) (flB (P.1 4))) q (P.2 0 q + nI (k + 1))) (plN P h)) = v) (100 * (k + 1) + q)) cN) k = -9) → 9 - k < N → ∀ (H : Heap) (locs : List Loc) (ls : Array Slot), va_P D vwCl (wC y a P X1 row) H → va_S (AC a) s.heap H locs → lv_has ls 6 [(0, .ref (a 39)), (1, .int (nI h)), (2, .int v), (3, .int (nI (plN P h))), (4, .int (nI (k + 1)))] → W p l e rmX0_lowestWall s m args below meth c H locs 0 0 Q (F0 m 23 ls []) := by
    intro N23
    induction N23 with
    | zero => intro k hk hno hmeas; exact absurd hmeas (Nat.not_lt_zero _)
    | succ N23 ih23 =>
      intro k hk hno hmeas H locs ls hP hS hl
      refine lv_iload hx hb dX0_lowestWall_23 (lv_at hl 4 rfl) ?_
      refine lv_bipush (v := nI 9) hx hb dX0_lowestWall_25 rfl ?_
      refine xn_icmp_gt (tgt := 105) hx hb (by omega) (by omega) dX0_lowestWall_27 (by decide) (fun c27 => ?_) (fun c27 => ?_)
      · refine lv_bipush (v := (-9)) hx hb dX0_lowestWall_105 rfl ?_
        exact ret H locs 107 ls (-9) X1 dX0_lowestWall_107 (by rw [show k = 9 by omega] at hno; exact hno.symm) hP hS
      · refine lv_iconst (v := nI 0) hx hb dX0_lowestWall_30 rfl ?_
        refine lv_istore (lv' := [(5, .int (nI 0)), (0, .ref (a 39)), (1, .int (nI h)), (2, .int v), (3, .int (nI (plN P h))), (4, .int (nI (k + 1)))]) hx hb dX0_lowestWall_31 hl (by decide) rfl (fun ls hl => ?_)
        have L33 : ∀ (N : Nat) (j : Nat), (j ≤ cN) → (fsI (fun q => fnd (P.2 2 q = 0 ∧ nI (sNf P w n (P.1 6) (upd (sTop P (P.1 5) (flB (P.1 4))) q (P.2 0 q + nI (k + 1))) (plN P h)) = v) (100 * (k + 1) + q)) j = -9) → cN - j < N → ∀ (H : Heap) (locs : List Loc) (ls : Array Slot), va_P D vwCl (wC y a P X1 row) H → va_S (AC a) s.heap H locs → lv_has ls 6 [(0, .ref (a 39)), (1, .int (nI h)), (2, .int v), (3, .int (nI (plN P h))), (4, .int (nI (k + 1))), (5, .int (nI j))] → W p l e rmX0_lowestWall s m args below meth c H locs 0 0 Q (F0 m 33 ls []) := by
          intro N33
          induction N33 with
          | zero => intro j hj hno2 hmeas; exact absurd hmeas (Nat.not_lt_zero _)
          | succ N33 ih33 =>
            intro j hj hno2 hmeas H locs ls hP hS hl
            refine lv_iload hx hb dX0_lowestWall_33 (lv_at hl 5 rfl) ?_
            refine lv_aload_n hx hb dX0_lowestWall_35 rfl (lv_at hl 0 rfl) ?_
            refine cg0_0 FX hK in0 hP (List.mem_of_getElem? (i := 2) rfl) dX0_lowestWall_36 ?_
            refine cg2_6 FX hK in2 hP (List.mem_of_getElem? (i := 5) rfl) dX0_lowestWall_39 ?_
            refine xn_to hx (z := nI cN) hc1 ?_
            refine xn_icmp_ge (tgt := 99) hx hb (by omega) (by omega) dX0_lowestWall_42 (by decide) (fun c42 => ?_) (fun c42 => ?_)
            · refine lv_iinc (v := nI (k + 1 + 1)) (lv' := [(4, .int (nI (k + 1 + 1))), (0, .ref (a 39)), (1, .int (nI h)), (2, .int v), (3, .int (nI (plN P h))), (5, .int (nI j))]) hx hb dX0_lowestWall_99 hl (k := 4) rfl (xn_inc (k + 1) 1) (by decide) rfl (fun ls hl => ?_)
              refine lv_goto (tgt := 23) hx hb dX0_lowestWall_102 (by decide) ?_
              exact ih23 (k + 1) (by omega) (fsI_step hno (by rw [show cN = j by omega]; exact hno2)) (by omega) H locs ls hP hS (lv_sub hl [1, 2, 3, 4, 0] rfl)
            · refine lv_aload_n hx hb dX0_lowestWall_45 rfl (lv_at hl 0 rfl) ?_
              refine cg0_0 FX hK in0 hP (List.mem_of_getElem? (i := 2) rfl) dX0_lowestWall_46 ?_
              refine lv_iload hx hb dX0_lowestWall_49 (lv_at hl 5 rfl) ?_
              refine cViI [.int (nI j)] [] FX hK (c_X2_hasNothing l D y a hA P X1 row j (by omega)) (cwV 1 hts gX0_lowestWall_X2_hasNothing rfl rfl rfl (by decide +kernel) ⟨Nat.le_of_ble_eq_true rfl, Nat.le_of_ble_eq_true rfl⟩) hP (pre_recv hK hP (ci := 2) (q0 := 14) rfl rfl) rfl rfl hl (Nat.le_of_ble_eq_true rfl) dX0_lowestWall_51 ⟨Nat.zero_le _, Nat.zero_le _⟩ hS (fun _ h => h) (fun r51 u51 H locs hp51 hP hS _ _ => ?_)
              obtain rfl := hp51
              refine xb_eq (tgt := 93) hx hb dX0_lowestWall_54 (by decide) (fun c54 => ?_) (fun c54 => ?_)
              · refine lv_iinc (v := nI (j + 1)) (lv' := [(5, .int (nI (j + 1))), (0, .ref (a 39)), (1, .int (nI h)), (2, .int v), (3, .int (nI (plN P h))), (4, .int (nI (k + 1)))]) hx hb dX0_lowestWall_93 hl (k := 5) rfl (xn_inc j 1) (by decide) rfl (fun ls hl => ?_)
                refine lv_goto (tgt := 33) hx hb dX0_lowestWall_96 (by decide) ?_
                exact ih33 (j + 1) (by omega) (fnd_miss hno2 (by first | exact (fun z => c54 z.1) | exact (fun z => c81 z.2))) (by omega) H locs ls hP hS (lv_sub hl [1, 2, 3, 4, 5, 0] rfl)
              · refine lv_aload_n hx hb dX0_lowestWall_57 rfl (lv_at hl 0 rfl) ?_
                refine cg0_1 FX hK in0 hP (List.mem_of_getElem? (i := 1) rfl) dX0_lowestWall_58 ?_
                refine lv_iload_n hx hb dX0_lowestWall_61 rfl (lv_at hl 3 rfl) ?_
                refine lv_iload hx hb dX0_lowestWall_62 (lv_at hl 5 rfl) ?_
                refine lv_aload_n hx hb dX0_lowestWall_64 rfl (lv_at hl 0 rfl) ?_
                refine cg0_0 FX hK in0 hP (List.mem_of_getElem? (i := 2) rfl) dX0_lowestWall_65 ?_
                refine cg2_0 FX hK in2 hP (List.mem_of_getElem? (i := 6) rfl) dX0_lowestWall_68 ?_
                refine lv_iload hx hb dX0_lowestWall_71 (lv_at hl 5 rfl) ?_
                refine ca15 (i := j) (by omega) FX hK hP dX0_lowestWall_73 ?_
                refine lv_iload hx hb dX0_lowestWall_74 (lv_at hl 4 rfl) ?_
                refine lv_iadd hx hb dX0_lowestWall_76 ?_
                refine cViI [.int (nI (plN P h)), .int (nI j), .int ((P.2 0 j) + (nI (k + 1)))] [] FX hK (c_X5_numberIf l D y a hA P X1 row w cN n t (plN P h) j ((P.2 0 j) + (nI (k + 1))) hI (by omega) (by omega)) (cwV 3 hts gX0_lowestWall_X5_numberIf rfl rfl rfl (by decide +kernel) ⟨Nat.le_of_ble_eq_true rfl, Nat.le_of_ble_eq_true rfl⟩) hP (pre_recv hK hP (ci := 5) (q0 := 36) rfl rfl) rfl rfl hl (Nat.le_of_ble_eq_true rfl) dX0_lowestWall_77 ⟨Nat.zero_le _, Nat.zero_le _⟩ hS (fun _ h => h) (fun r77 u77 H locs hp77 hP hS _ _ => ?_)
                obtain rfl := hp77
                refine xn_to hx (z := nI (sNf P w n (P.1 6) (upd (sTop P (P.1 5) (flB (P.1 4))) j ((P.2 0 j) + (nI (k + 1)))) (plN P h))) (by rw [nIf_canon hI (by omega) hf1 ht1]) ?_
                refine lv_iload_n hx hb dX0_lowestWall_80 rfl (lv_at hl 2 rfl) ?_
                refine lv_icmp_ne (tgt := 93) hx hb dX0_lowestWall_81 (by decide) (fun c81 => ?_) (fun c81 => ?_)
                · refine lv_iinc (v := nI (j + 1)) (lv' := [(5, .int (nI (j + 1))), (0, .ref (a 39)), (1, .int (nI h)), (2, .int v), (3, .int (nI (plN P h))), (4, .int (nI (k + 1)))]) hx hb dX0_lowestWall_93 hl (k := 5) rfl (xn_inc j 1) (by decide) rfl (fun ls hl => ?_)
                  refine lv_goto (tgt := 33) hx hb dX0_lowestWall_96 (by decide) ?_
                  exact ih33 (j + 1) (by omega) (fnd_miss hno2 (by first | exact (fun z => c54 z.1) | exact (fun z => c81 z.2))) (by omega) H locs ls hP hS (lv_sub hl [1, 2, 3, 4, 5, 0] rfl)
                · refine lv_bipush (v := nI 100) hx hb dX0_lowestWall_84 rfl ?_
                  refine lv_iload hx hb dX0_lowestWall_86 (lv_at hl 4 rfl) ?_
                  refine xn_imul (a := 100) (b := k + 1) hx hb dX0_lowestWall_88 ?_
                  refine lv_iload hx hb dX0_lowestWall_89 (lv_at hl 5 rfl) ?_
                  refine xn_iadd (a := 100 * (k + 1)) (b := j) hx hb dX0_lowestWall_91 ?_
                  exact ret H locs 92 ls (nI ((100 * (k + 1)) + j)) X1 dX0_lowestWall_92 (by have e := fnd_hit hno2 c42 ⟨c54, c81⟩ (by omega); have e2 := fsI_found (g := (fun k => fsI (fun q => fnd (P.2 2 q = 0 ∧ nI (sNf P w n (P.1 6) (upd (sTop P (P.1 5) (flB (P.1 4))) q (P.2 0 q + nI (k + 1))) (plN P h)) = v) (100 * (k + 1) + q)) cN)) (N := 9) hno (by omega) (by rw [← e]; exact nI_ne9 (by omega)); exact e.trans e2.symm) hP hS
        exact L33 _ 0 (Nat.zero_le _) rfl (Nat.lt_succ_self _) H locs ls hP hS (lv_sub hl [1, 2, 3, 4, 5, 0] rfl)
  exact L23 _ 0 (Nat.zero_le _) rfl (Nat.lt_succ_self _) H locs ls hP hS (lv_sub hl [2, 3, 4, 1, 0] rfl)

abbrev rmX0_leastFloors : Room := { frames := 5, cells := 0, slots := 0, locals := 120 }
set_option maxRecDepth 100000 in
set_option maxHeartbeats 4000000 in
theorem c_X0_leastFloors (l : Launch) (D : va_G) (y : Nat → ClassId) (a : Nat → Nat) (hA : CA a 44) (P X : PT) (row : Value) (w cN n t : Nat) (h : Nat) (v : Int32) (hI : IP P w cN n t) (hc1 : P.1 1 = nI cN) (hh : h < n) : CtI l D y yX0_leastFloors wsX0_leastFloors rmX0_leastFloors [.ref (a 39), .int (nI h), .int v] (wC y a P X row) (fun r (_ : PT) => r = aRaised P w n (flB (P.1 4)) h v) (fun X' => wC y a P X' row) (AC a) := by
  refine mkI (cc := cX0_leastFloors) (maxL := 6) (ret := some .int) RX0 rfl (by decide) rfl (Or.inl rfl) (Nat.le_of_ble_eq_true rfl) ?_
  intro p e s m args below meth c Q FX hK hP ret ls hl
  obtain ⟨hx, hb, hml, hown, hts⟩ := id FX
  have hS : va_S (AC a) s.heap s.heap [] := va_S.rf
  have in0 : ∀ w ∈ wsX00, w ∈ wsX0_leastFloors := fun _ h => List.mem_cons_of_mem _ (List.mem_append_left _ (List.mem_append_left _ (List.mem_append_left _ (List.mem_append_left _ (List.mem_append_right _ (h))))))
  have in1 : ∀ w ∈ wsX10, w ∈ wsX0_leastFloors := fun _ h => List.mem_cons_of_mem _ (List.mem_append_left _ (List.mem_append_left _ (List.mem_append_right _ (h))))
  have in2 : ∀ w ∈ wsX20, w ∈ wsX0_leastFloors := fun _ h => List.mem_cons_of_mem _ (List.mem_append_left _ (List.mem_append_left _ (List.mem_append_left _ (List.mem_append_right _ (h)))))
  have in5 : ∀ w ∈ wsX50, w ∈ wsX0_leastFloors := fun _ h => List.mem_cons_of_mem _ (List.mem_append_left _ (List.mem_append_right _ (h)))
  have in7 : ∀ w ∈ wsX70, w ∈ wsX0_leastFloors := fun _ h => List.mem_cons_of_mem _ (List.mem_append_right _ (h))
  have hl : lv_has ls 6 [(0, .ref (a 39)), (1, .int (nI h)), (2, .int v)] := hl
  have hcl := hI.c30
  have hnl := hI.n8
  obtain ⟨hp1, hp2, hp3⟩ := hI.pl hh
  refine lv_aload_n hx hb dX0_leastFloors_0 rfl (lv_at hl 0 rfl) ?_
  refine cg0_1 FX hK in0 hP (List.mem_of_getElem? (i := 1) rfl) dX0_leastFloors_1 ?_
  refine cViV [] [] FX hK (c_X5_lookNow l D y a hA P X row w cN n t hI hc1) (cwV 0 hts gX0_leastFloors_X5_lookNow rfl rfl rfl (by decide +kernel) ⟨Nat.le_of_ble_eq_true rfl, Nat.le_of_ble_eq_true rfl⟩) hP (pre_recv hK hP (ci := 5) (q0 := 36) rfl rfl) rfl rfl hl (Nat.le_of_ble_eq_true rfl) dX0_leastFloors_4 ⟨Nat.zero_le _, Nat.zero_le _⟩ hS (fun _ h => h) (fun X1 H locs hp4 hP hS _ _ => ?_)
  obtain ⟨hf1, ht1⟩ := hp4
  refine lv_aload_n hx hb dX0_leastFloors_7 rfl (lv_at hl 0 rfl) ?_
  refine cg0_0 FX hK in0 hP (List.mem_of_getElem? (i := 2) rfl) dX0_leastFloors_8 ?_
  refine cg2_3 FX hK in2 hP (List.mem_of_getElem? (i := 3) rfl) dX0_leastFloors_11 ?_
  refine lv_iload_n hx hb dX0_leastFloors_14 rfl (lv_at hl 1 rfl) ?_
  refine ca18 (i := h) (by omega) FX hK hP dX0_leastFloors_15 ?_
  refine lv_astore_n (lv' := [(3, .ref (a (20 + h))), (0, .ref (a 39)), (1, .int (nI h)), (2, .int v)]) hx hb dX0_leastFloors_16 rfl hl (by decide) rfl (fun ls hl => ?_)
  refine lv_iconst (v := nI 0) hx hb dX0_leastFloors_17 rfl ?_
  refine lv_istore (lv' := [(4, .int (nI 0)), (3, .ref (a (20 + h))), (0, .ref (a 39)), (1, .int (nI h)), (2, .int v)]) hx hb dX0_leastFloors_18 hl (by decide) rfl (fun ls hl => ?_)
  have L20 : ∀ (N : Nat) (k : Nat), (k ≤ 10) → (fsI (fun k => fnd (nI (sNf P w n (P.1 6) (upd (sTop P (P.1 5) (flB (P.1 4))) (plN P h) (P.2 0 (plN P h) + sHt P h (nI k))) (plN P h)) = v) k) k = -9) → 10 - k < N → ∀ (H : Heap) (locs : List Loc) (ls : Array Slot), va_P D vwCl (wC y a P X1 row) H → va_S (AC a) s.heap H locs → lv_has ls 6 [(0, .ref (a 39)), (1, .int (nI h)), (2, .int v), (3, .ref (a (20 + h))), (4, .int (nI k))] → W p l e rmX0_leastFloors s m args below meth c H locs 0 0 Q (F0 m 20 ls []) := by
    intro N20
    induction N20 with
    | zero => intro k hk hno hmeas; exact absurd hmeas (Nat.not_lt_zero _)
    | succ N20 ih20 =>
      intro k hk hno hmeas H locs ls hP hS hl
      refine lv_iload hx hb dX0_leastFloors_20 (lv_at hl 4 rfl) ?_
      refine lv_bipush (v := nI 9) hx hb dX0_leastFloors_22 rfl ?_
      refine xn_icmp_gt (tgt := 85) hx hb (by omega) (by omega) dX0_leastFloors_24 (by decide) (fun c24 => ?_) (fun c24 => ?_)
      · refine lv_bipush (v := (-9)) hx hb dX0_leastFloors_85 rfl ?_
        exact ret H locs 87 ls (-9) X1 dX0_leastFloors_87 (by rw [show k = 10 by omega] at hno; exact hno.symm) hP hS
      · refine lv_aload_n hx hb dX0_leastFloors_27 rfl (lv_at hl 0 rfl) ?_
        refine cg0_0 FX hK in0 hP (List.mem_of_getElem? (i := 2) rfl) dX0_leastFloors_28 ?_
        refine cg2_0 FX hK in2 hP (List.mem_of_getElem? (i := 4) rfl) dX0_leastFloors_31 ?_
        refine lv_aload_n hx hb dX0_leastFloors_34 rfl (lv_at hl 3 rfl) ?_
        refine cg1_1 (h := h) (by omega) FX hK in1 hP (List.mem_of_getElem? (i := 5) rfl) dX0_leastFloors_35 ?_
        refine xn_to hx (z := nI (plN P h)) hp1 ?_
        refine ca15 (i := plN P h) (by omega) FX hK hP dX0_leastFloors_38 ?_
        refine lv_aload_n hx hb dX0_leastFloors_39 rfl (lv_at hl 3 rfl) ?_
        refine lv_iload hx hb dX0_leastFloors_40 (lv_at hl 4 rfl) ?_
        refine lv_aload_n hx hb dX0_leastFloors_42 rfl (lv_at hl 0 rfl) ?_
        refine cg0_0 FX hK in0 hP (List.mem_of_getElem? (i := 2) rfl) dX0_leastFloors_43 ?_
        refine cg2_12 FX hK in2 hP (List.mem_of_getElem? (i := 6) rfl) dX0_leastFloors_46 ?_
        refine cViI [.int (nI k), .int (P.1 7)] [.int (P.2 0 (plN P h))] FX hK (c_X1_tallWith l D y a hA P X1 row h (nI k) (by omega)) (cwV 2 hts gX0_leastFloors_X1_tallWith rfl rfl rfl (by decide +kernel) ⟨Nat.le_of_ble_eq_true rfl, Nat.le_of_ble_eq_true rfl⟩) hP (pre_recv hK hP (ci := 1) (q0 := 20 + h) rfl (wC_house y a _ _ _ h (by omega))) rfl rfl hl (Nat.le_of_ble_eq_true rfl) dX0_leastFloors_49 ⟨Nat.zero_le _, Nat.zero_le _⟩ hS (fun _ h => h) (fun r49 u49 H locs hp49 hP hS _ _ => ?_)
        obtain rfl := hp49
        refine lv_iadd hx hb dX0_leastFloors_52 ?_
        refine lv_istore (lv' := [(5, .int ((P.2 0 (plN P h)) + (sHt P h (nI k)))), (0, .ref (a 39)), (1, .int (nI h)), (2, .int v), (3, .ref (a (20 + h))), (4, .int (nI k))]) hx hb dX0_leastFloors_53 hl (by decide) rfl (fun ls hl => ?_)
        refine lv_aload_n hx hb dX0_leastFloors_55 rfl (lv_at hl 1 rfl) ?_
        refine cg0_1 FX hK in0 hP (List.mem_of_getElem? (i := 1) rfl) dX0_leastFloors_56 ?_
        refine lv_aload_n hx hb dX0_leastFloors_59 rfl (lv_at hl 4 rfl) ?_
        refine cg1_1 (h := h) (by omega) FX hK in1 hP (List.mem_of_getElem? (i := 5) rfl) dX0_leastFloors_60 ?_
        refine xn_to hx (z := nI (plN P h)) hp1 ?_
        refine lv_aload_n hx hb dX0_leastFloors_63 rfl (lv_at hl 4 rfl) ?_
        refine cg1_1 (h := h) (by omega) FX hK in1 hP (List.mem_of_getElem? (i := 5) rfl) dX0_leastFloors_64 ?_
        refine xn_to hx (z := nI (plN P h)) hp1 ?_
        refine lv_iload hx hb dX0_leastFloors_67 (lv_at hl 0 rfl) ?_
        refine cViI [.int (nI (plN P h)), .int (nI (plN P h)), .int ((P.2 0 (plN P h)) + (sHt P h (nI k)))] [] FX hK (c_X5_numberIf l D y a hA P X1 row w cN n t (plN P h) (plN P h) ((P.2 0 (plN P h)) + (sHt P h (nI k))) hI (by omega) (by omega)) (cwV 3 hts gX0_leastFloors_X5_numberIf rfl rfl rfl (by decide +kernel) ⟨Nat.le_of_ble_eq_true rfl, Nat.le_of_ble_eq_true rfl⟩) hP (pre_recv hK hP (ci := 5) (q0 := 36) rfl rfl) rfl rfl hl (Nat.le_of_ble_eq_true rfl) dX0_leastFloors_69 ⟨Nat.zero_le _, Nat.zero_le _⟩ hS (fun _ h => h) (fun r69 u69 H locs hp69 hP hS _ _ => ?_)
        obtain rfl := hp69
        refine xn_to hx (z := nI (sNf P w n (P.1 6) (upd (sTop P (P.1 5) (flB (P.1 4))) (plN P h) ((P.2 0 (plN P h)) + (sHt P h (nI k)))) (plN P h))) (by rw [nIf_canon hI (by omega) hf1 ht1]) ?_
        refine lv_iload_n hx hb dX0_leastFloors_72 rfl (lv_at hl 3 rfl) ?_
        refine lv_icmp_ne (tgt := 79) hx hb dX0_leastFloors_73 (by decide) (fun c73 => ?_) (fun c73 => ?_)
        · refine lv_iinc (v := nI (k + 1)) (lv' := [(4, .int (nI (k + 1))), (5, .int ((P.2 0 (plN P h)) + (sHt P h (nI k)))), (0, .ref (a 39)), (1, .int (nI h)), (2, .int v), (3, .ref (a (20 + h)))]) hx hb dX0_leastFloors_79 hl (k := 5) rfl (xn_inc k 1) (by decide) rfl (fun ls hl => ?_)
          refine lv_goto (tgt := 20) hx hb dX0_leastFloors_82 (by decide) ?_
          exact ih20 (k + 1) (by omega) (fnd_miss hno c73) (by omega) H locs ls hP hS (lv_sub hl [2, 3, 4, 5, 0] rfl)
        · refine lv_iload hx hb dX0_leastFloors_76 (lv_at hl 5 rfl) ?_
          exact ret H locs 78 ls (nI k) X1 dX0_leastFloors_78 (fnd_hit (v := fun k => k) hno (by omega) c73 (by omega)) hP hS
  exact L20 _ 0 (Nat.zero_le _) rfl (Nat.lt_succ_self _) H locs ls hP hS (lv_sub hl [2, 3, 4, 1, 0] rfl)

abbrev rmX0_numberFelling : Room := { frames := 5, cells := 0, slots := 0, locals := 116 }
set_option maxRecDepth 100000 in
set_option maxHeartbeats 4000000 in
theorem c_X0_numberFelling (l : Launch) (D : va_G) (y : Nat → ClassId) (a : Nat → Nat) (hA : CA a 44) (P X : PT) (row : Value) (w cN n t : Nat) (h : Nat) (mo y0 : Int32) (f0 : Nat → Prop) (hI : IP P w cN n t) (hh : h < n) (hf0 : X.1 7 = P.1 6) (h0 : ∀ q, q < cN → X.2 3 q = sTop P y0 f0 q) : CtI l D y yX0_numberFelling wsX0_numberFelling rmX0_numberFelling [.ref (a 39), .int (nI h), .int mo] (wC y a P X row) (fun r (X' : PT) => r = nI (sNum P w n (P.1 6) (P.1 5) (flB (P.1 4 ||| mo)) h) ∧ X'.1 7 = P.1 6 ∧ ∀ q, q < cN → X'.2 3 q = sTop P (P.1 5) (flB (P.1 4 ||| mo)) q) (fun X' => wC y a P X' row) (AC a) := by
  refine mkI (cc := cX0_numberFelling) (maxL := 3) (ret := some .int) RX0 rfl (by decide) rfl (Or.inl rfl) (Nat.le_of_ble_eq_true rfl) ?_
  intro p e s m args below meth c Q FX hK hP ret ls hl
  obtain ⟨hx, hb, hml, hown, hts⟩ := id FX
  have hS : va_S (AC a) s.heap s.heap [] := va_S.rf
  have in0 : ∀ w ∈ wsX00, w ∈ wsX0_numberFelling := fun _ h => List.mem_cons_of_mem _ (List.mem_append_left _ (List.mem_append_left _ (List.mem_append_left _ (List.mem_append_left _ (List.mem_append_right _ (h))))))
  have in1 : ∀ w ∈ wsX10, w ∈ wsX0_numberFelling := fun _ h => List.mem_cons_of_mem _ (List.mem_append_right _ (h))
  have in2 : ∀ w ∈ wsX20, w ∈ wsX0_numberFelling := fun _ h => List.mem_cons_of_mem _ (List.mem_append_left _ (List.mem_append_left _ (List.mem_append_left _ (List.mem_append_right _ (h)))))
  have in5 : ∀ w ∈ wsX50, w ∈ wsX0_numberFelling := fun _ h => List.mem_cons_of_mem _ (List.mem_append_left _ (List.mem_append_left _ (List.mem_append_right _ (h))))
  have in7 : ∀ w ∈ wsX70, w ∈ wsX0_numberFelling := fun _ h => List.mem_cons_of_mem _ (List.mem_append_left _ (List.mem_append_right _ (h)))
  have hl : lv_has ls 3 [(0, .ref (a 39)), (1, .int (nI h)), (2, .int mo)] := hl
  refine lv_aload_n hx hb dX0_numberFelling_0 rfl (lv_at hl 0 rfl) ?_
  refine cg0_1 FX hK in0 hP (List.mem_of_getElem? (i := 1) rfl) dX0_numberFelling_1 ?_
  refine lv_aload_n hx hb dX0_numberFelling_4 rfl (lv_at hl 0 rfl) ?_
  refine cg0_0 FX hK in0 hP (List.mem_of_getElem? (i := 2) rfl) dX0_numberFelling_5 ?_
  refine cg2_10 FX hK in2 hP (List.mem_of_getElem? (i := 3) rfl) dX0_numberFelling_8 ?_
  refine lv_aload_n hx hb dX0_numberFelling_11 rfl (lv_at hl 0 rfl) ?_
  refine cg0_0 FX hK in0 hP (List.mem_of_getElem? (i := 2) rfl) dX0_numberFelling_12 ?_
  refine cg2_9 FX hK in2 hP (List.mem_of_getElem? (i := 4) rfl) dX0_numberFelling_15 ?_
  refine lv_iload_n hx hb dX0_numberFelling_18 rfl (lv_at hl 2 rfl) ?_
  refine lv_ior hx hb dX0_numberFelling_19 ?_
  refine cViV [.int (P.1 5), .int ((P.1 4) ||| mo)] [] FX hK (c_X5_lookWithTrees l D y a hA P X row w cN n t (P.1 5) ((P.1 4) ||| mo) y0 f0 hI h0) (cwV 2 hts gX0_numberFelling_X5_lookWithTrees rfl rfl rfl (by decide +kernel) ⟨Nat.le_of_ble_eq_true rfl, Nat.le_of_ble_eq_true rfl⟩) hP (pre_recv hK hP (ci := 5) (q0 := 36) rfl rfl) rfl rfl hl (Nat.le_of_ble_eq_true rfl) dX0_numberFelling_20 ⟨Nat.zero_le _, Nat.zero_le _⟩ hS (fun _ h => h) (fun X1 H locs hp20 hP hS _ _ => ?_)
  obtain ⟨hf1, hf2, ht1⟩ := hp20
  refine lv_aload_n hx hb dX0_numberFelling_23 rfl (lv_at hl 0 rfl) ?_
  refine cg0_1 FX hK in0 hP (List.mem_of_getElem? (i := 1) rfl) dX0_numberFelling_24 ?_
  refine lv_iload_n hx hb dX0_numberFelling_27 rfl (lv_at hl 1 rfl) ?_
  refine cViI [.int (nI h)] [] FX hK (c_X5_numberOf l D y a hA P X1 row w cN n t h hI (by omega)) (cwV 1 hts gX0_numberFelling_X5_numberOf rfl rfl rfl (by decide +kernel) ⟨Nat.le_of_ble_eq_true rfl, Nat.le_of_ble_eq_true rfl⟩) hP (pre_recv hK hP (ci := 5) (q0 := 36) rfl rfl) rfl rfl hl (Nat.le_of_ble_eq_true rfl) dX0_numberFelling_28 ⟨Nat.zero_le _, Nat.zero_le _⟩ hS (fun _ h => h) (fun r28 u28 H locs hp28 hP hS _ _ => ?_)
  obtain rfl := hp28
  exact ret H locs 31 ls (nI (sNf P w n (X1.1 7) (X1.2 3) (plN P h))) X1 dX0_numberFelling_31 ⟨by rw [nf_canon hI (hI.pl hh).2.1 (hf1.trans hf0) ht1]; rfl, hf1.trans hf0, ht1⟩ hP hS

abbrev rmX0_fewestFelled : Room := { frames := 6, cells := 0, slots := 0, locals := 138 }
set_option maxRecDepth 100000 in
set_option maxHeartbeats 4000000 in
theorem c_X0_fewestFelled (l : Launch) (D : va_G) (y : Nat → ClassId) (a : Nat → Nat) (hA : CA a 44) (P X : PT) (row : Value) (w cN n t : Nat) (h : Nat) (v : Int32) (hI : IP P w cN n t) (hc1 : P.1 1 = nI cN) (hh : h < n) : CtI l D y yX0_fewestFelled wsX0_fewestFelled rmX0_fewestFelled [.ref (a 39), .int (nI h), .int v] (wC y a P X row) (fun r (_ : PT) => r = bestS (okF P w n (fun s => flB (P.1 4 ||| nI s)) (fun s => nI s &&& P.1 4 = 0) h v) (2 ^ t)) (fun X' => wC y a P X' row) (AC a) := by
  refine mkI (cc := cX0_fewestFelled) (maxL := 7) (ret := some .int) RX0 rfl (by decide) rfl (Or.inl rfl) (Nat.le_of_ble_eq_true rfl) ?_
  intro p e s m args below meth c Q FX hK hP ret ls hl
  obtain ⟨hx, hb, hml, hown, hts⟩ := id FX
  have hS : va_S (AC a) s.heap s.heap [] := va_S.rf
  have in0 : ∀ w ∈ wsX00, w ∈ wsX0_fewestFelled := fun _ h => List.mem_cons_of_mem _ (List.mem_append_left _ (List.mem_append_left _ (List.mem_append_left _ (List.mem_append_left _ (List.mem_append_right _ (h))))))
  have in1 : ∀ w ∈ wsX10, w ∈ wsX0_fewestFelled := fun _ h => List.mem_cons_of_mem _ (List.mem_append_left _ (List.mem_append_right _ (h)))
  have in2 : ∀ w ∈ wsX20, w ∈ wsX0_fewestFelled := fun _ h => List.mem_cons_of_mem _ (List.mem_append_left _ (List.mem_append_left _ (List.mem_append_left _ (List.mem_append_right _ (h)))))
  have in5 : ∀ w ∈ wsX50, w ∈ wsX0_fewestFelled := fun _ h => List.mem_cons_of_mem _ (List.mem_append_left _ (List.mem_append_left _ (List.mem_append_right _ (h))))
  have in7 : ∀ w ∈ wsX70, w ∈ wsX0_fewestFelled := fun _ h => List.mem_cons_of_mem _ (List.mem_append_right _ (h))
  have hl : lv_has ls 7 [(0, .ref (a 39)), (1, .int (nI h)), (2, .int v)] := hl
  have htl := hI.t8
  have hpw := pow8 htl
  refine lv_aload_n hx hb dX0_fewestFelled_0 rfl (lv_at hl 0 rfl) ?_
  refine cg0_1 FX hK in0 hP (List.mem_of_getElem? (i := 1) rfl) dX0_fewestFelled_1 ?_
  refine cViV [] [] FX hK (c_X5_lookNow l D y a hA P X row w cN n t hI hc1) (cwV 0 hts gX0_fewestFelled_X5_lookNow rfl rfl rfl (by decide +kernel) ⟨Nat.le_of_ble_eq_true rfl, Nat.le_of_ble_eq_true rfl⟩) hP (pre_recv hK hP (ci := 5) (q0 := 36) rfl rfl) rfl rfl hl (Nat.le_of_ble_eq_true rfl) dX0_fewestFelled_4 ⟨Nat.zero_le _, Nat.zero_le _⟩ hS (fun _ h => h) (fun X1 H locs hp4 hP hS _ _ => ?_)
  obtain ⟨hf1, ht1⟩ := hp4
  refine lv_iconst (v := nI 1) hx hb dX0_fewestFelled_7 rfl ?_
  refine lv_aload_n hx hb dX0_fewestFelled_8 rfl (lv_at hl 0 rfl) ?_
  refine cg0_0 FX hK in0 hP (List.mem_of_getElem? (i := 2) rfl) dX0_fewestFelled_9 ?_
  refine cg2_8 FX hK in2 hP (List.mem_of_getElem? (i := 3) rfl) dX0_fewestFelled_12 ?_
  refine xn_to hx (z := nI t) hI.tt ?_
  refine lv_ishl hx hb dX0_fewestFelled_15 ?_
  refine xn_to hx (z := nI (2 ^ t)) (shl1 t (by omega)) ?_
  refine lv_istore_n (lv' := [(3, .int (nI (2 ^ t))), (0, .ref (a 39)), (1, .int (nI h)), (2, .int v)]) hx hb dX0_fewestFelled_16 rfl hl (by decide) rfl (fun ls hl => ?_)
  refine lv_bipush (v := (-9)) hx hb dX0_fewestFelled_17 rfl ?_
  refine lv_istore (lv' := [(4, .int (-9)), (3, .int (nI (2 ^ t))), (0, .ref (a 39)), (1, .int (nI h)), (2, .int v)]) hx hb dX0_fewestFelled_19 hl (by decide) rfl (fun ls hl => ?_)
  refine lv_iconst (v := nI 0) hx hb dX0_fewestFelled_21 rfl ?_
  refine lv_istore (lv' := [(5, .int (nI 0)), (4, .int (-9)), (3, .int (nI (2 ^ t))), (0, .ref (a 39)), (1, .int (nI h)), (2, .int v)]) hx hb dX0_fewestFelled_22 hl (by decide) rfl (fun ls hl => ?_)
  have L24 : ∀ (N : Nat) (i : Nat) (X' : PT), (i ≤ 2 ^ t) → (X'.1 7 = P.1 6) → ((∃ y0 f0, ∀ q, q < cN → X'.2 3 q = sTop P y0 f0 q)) → 2 ^ t - i < N → ∀ (H : Heap) (locs : List Loc) (ls : Array Slot), va_P D vwCl (wC y a P X' row) H → va_S (AC a) s.heap H locs → lv_has ls 7 [(0, .ref (a 39)), (1, .int (nI h)), (2, .int v), (3, .int (nI (2 ^ t))), (4, .int (bestS (okF P w n (fun s => flB (P.1 4 ||| nI s)) (fun s => nI s &&& P.1 4 = 0) h v) i)), (5, .int (nI i))] → W p l e rmX0_fewestFelled s m args below meth c H locs 0 0 Q (F0 m 24 ls []) := by
    intro N24
    induction N24 with
    | zero => intro i X' hi hfx hex hmeas; exact absurd hmeas (Nat.not_lt_zero _)
    | succ N24 ih24 =>
      intro i X' hi hfx hex hmeas H locs ls hP hS hl
      obtain ⟨y0, f0, htx⟩ := hex
      refine lv_iload hx hb dX0_fewestFelled_24 (lv_at hl 5 rfl) ?_
      refine lv_iload_n hx hb dX0_fewestFelled_26 rfl (lv_at hl 3 rfl) ?_
      refine xn_icmp_ge (tgt := 96) hx hb (by omega) (by omega) dX0_fewestFelled_27 (by decide) (fun c27 => ?_) (fun c27 => ?_)
      · refine lv_iload hx hb dX0_fewestFelled_96 (lv_at hl 4 rfl) ?_
        exact ret H locs 98 ls (bestS (okF P w n (fun s => flB (P.1 4 ||| nI s)) (fun s => nI s &&& P.1 4 = 0) h v) i) X' dX0_fewestFelled_98 (by rw [show 2 ^ t = i by omega]) hP hS
      · have J55 : ∀ (g : Prop), (g ↔ (bestS (okF P w n (fun s => flB (P.1 4 ||| nI s)) (fun s => nI s &&& P.1 4 = 0) h v) i = -9 ∨ pcn i < pcn (bestS (okF P w n (fun s => flB (P.1 4 ||| nI s)) (fun s => nI s &&& P.1 4 = 0) h v) i).toNatClampNeg)) → ∀ (H : Heap) (locs : List Loc) (ls : Array Slot), va_P D vwCl (wC y a P X' row) H → va_S (AC a) s.heap H locs → lv_has ls 7 [(0, .ref (a 39)), (1, .int (nI h)), (2, .int v), (3, .int (nI (2 ^ t))), (4, .int (bestS (okF P w n (fun s => flB (P.1 4 ||| nI s)) (fun s => nI s &&& P.1 4 = 0) h v) i)), (5, .int (nI i))] → W p l e rmX0_fewestFelled s m args below meth c H locs 0 0 Q (F0 m 55 ls [.int (b2 g)]) := by
          intro g hg H locs ls hP hS hl
          refine lv_istore (lv' := [(6, .int (b2 g)), (0, .ref (a 39)), (1, .int (nI h)), (2, .int v), (3, .int (nI (2 ^ t))), (4, .int (bestS (okF P w n (fun s => flB (P.1 4 ||| nI s)) (fun s => nI s &&& P.1 4 = 0) h v) i)), (5, .int (nI i))]) hx hb dX0_fewestFelled_55 hl (by decide) rfl (fun ls hl => ?_)
          refine lv_iload hx hb dX0_fewestFelled_57 (lv_at hl 0 rfl) ?_
          refine xb_eq (tgt := 90) hx hb dX0_fewestFelled_59 (by decide) (fun c59 => ?_) (fun c59 => ?_)
          · refine lv_iinc (v := nI (i + 1)) (lv' := [(5, .int (nI (i + 1))), (6, .int (b2 g)), (0, .ref (a 39)), (1, .int (nI h)), (2, .int v), (3, .int (nI (2 ^ t))), (4, .int (bestS (okF P w n (fun s => flB (P.1 4 ||| nI s)) (fun s => nI s &&& P.1 4 = 0) h v) i))]) hx hb dX0_fewestFelled_90 hl (k := 6) rfl (xn_inc i 1) (by decide) rfl (fun ls hl => ?_)
            refine lv_goto (tgt := 24) hx hb dX0_fewestFelled_93 (by decide) ?_
            rw [← bestS_f (ok := (okF P w n (fun s => flB (P.1 4 ||| nI s)) (fun s => nI s &&& P.1 4 = 0) h v)) (s := i) (by first | exact (fun z => c59 (hg.mpr z.2)) | exact (fun z => c72 z.1.1) | exact (fun z => c83 z.1.2))] at hl
            exact ih24 (i + 1) X' (by omega) hfx ⟨y0, f0, htx⟩ (by omega) H locs ls hP hS (lv_sub hl [2, 3, 4, 5, 6, 0] rfl)
          · refine lv_iload hx hb dX0_fewestFelled_62 (lv_at hl 6 rfl) ?_
            refine lv_aload_n hx hb dX0_fewestFelled_64 rfl (lv_at hl 1 rfl) ?_
            refine cg0_0 FX hK in0 hP (List.mem_of_getElem? (i := 2) rfl) dX0_fewestFelled_65 ?_
            refine cg2_9 FX hK in2 hP (List.mem_of_getElem? (i := 4) rfl) dX0_fewestFelled_68 ?_
            refine lv_iand hx hb dX0_fewestFelled_71 ?_
            refine lv_if_ne (tgt := 90) hx hb dX0_fewestFelled_72 (by decide) (fun c72 => ?_) (fun c72 => ?_)
            · refine lv_iinc (v := nI (i + 1)) (lv' := [(5, .int (nI (i + 1))), (6, .int (b2 g)), (0, .ref (a 39)), (1, .int (nI h)), (2, .int v), (3, .int (nI (2 ^ t))), (4, .int (bestS (okF P w n (fun s => flB (P.1 4 ||| nI s)) (fun s => nI s &&& P.1 4 = 0) h v) i))]) hx hb dX0_fewestFelled_90 hl (k := 6) rfl (xn_inc i 1) (by decide) rfl (fun ls hl => ?_)
              refine lv_goto (tgt := 24) hx hb dX0_fewestFelled_93 (by decide) ?_
              rw [← bestS_f (ok := (okF P w n (fun s => flB (P.1 4 ||| nI s)) (fun s => nI s &&& P.1 4 = 0) h v)) (s := i) (by first | exact (fun z => c59 (hg.mpr z.2)) | exact (fun z => c72 z.1.1) | exact (fun z => c83 z.1.2))] at hl
              exact ih24 (i + 1) X' (by omega) hfx ⟨y0, f0, htx⟩ (by omega) H locs ls hP hS (lv_sub hl [2, 3, 4, 5, 6, 0] rfl)
            · refine lv_aload_n hx hb dX0_fewestFelled_75 rfl (lv_at hl 1 rfl) ?_
              refine lv_iload_n hx hb dX0_fewestFelled_76 rfl (lv_at hl 2 rfl) ?_
              refine lv_iload hx hb dX0_fewestFelled_77 (lv_at hl 6 rfl) ?_
              refine cViI [.int (nI h), .int (nI i)] [] FX hK (c_X0_numberFelling l D y a hA P X' row w cN n t h (nI i) y0 f0 hI hh hfx htx) (cwV 2 hts gX0_fewestFelled_X0_numberFelling rfl rfl rfl (by decide +kernel) ⟨Nat.le_of_ble_eq_true rfl, Nat.le_of_ble_eq_true rfl⟩) hP (pre_recv hK hP (ci := 0) (q0 := 39) rfl rfl) rfl rfl hl (Nat.le_of_ble_eq_true rfl) dX0_fewestFelled_79 ⟨Nat.zero_le _, Nat.zero_le _⟩ hS (fun _ h => h) (fun r79 X2 H locs hp79 hP hS _ _ => ?_)
              obtain ⟨rfl, hf2, ht2⟩ := hp79
              refine lv_iload_n hx hb dX0_fewestFelled_82 rfl (lv_at hl 3 rfl) ?_
              refine lv_icmp_ne (tgt := 90) hx hb dX0_fewestFelled_83 (by decide) (fun c83 => ?_) (fun c83 => ?_)
              · refine lv_iinc (v := nI (i + 1)) (lv' := [(5, .int (nI (i + 1))), (6, .int (b2 g)), (0, .ref (a 39)), (1, .int (nI h)), (2, .int v), (3, .int (nI (2 ^ t))), (4, .int (bestS (okF P w n (fun s => flB (P.1 4 ||| nI s)) (fun s => nI s &&& P.1 4 = 0) h v) i))]) hx hb dX0_fewestFelled_90 hl (k := 6) rfl (xn_inc i 1) (by decide) rfl (fun ls hl => ?_)
                refine lv_goto (tgt := 24) hx hb dX0_fewestFelled_93 (by decide) ?_
                rw [← bestS_f (ok := (okF P w n (fun s => flB (P.1 4 ||| nI s)) (fun s => nI s &&& P.1 4 = 0) h v)) (s := i) (by first | exact (fun z => c59 (hg.mpr z.2)) | exact (fun z => c72 z.1.1) | exact (fun z => c83 z.1.2))] at hl
                exact ih24 (i + 1) X2 (by omega) hf2 ⟨_, _, ht2⟩ (by omega) H locs ls hP hS (lv_sub hl [2, 3, 4, 5, 6, 0] rfl)
              · refine lv_iload hx hb dX0_fewestFelled_86 (lv_at hl 6 rfl) ?_
                refine lv_istore (lv' := [(4, .int (nI i)), (6, .int (b2 g)), (0, .ref (a 39)), (1, .int (nI h)), (2, .int v), (3, .int (nI (2 ^ t))), (5, .int (nI i))]) hx hb dX0_fewestFelled_88 hl (by decide) rfl (fun ls hl => ?_)
                refine lv_iinc (v := nI (i + 1)) (lv' := [(5, .int (nI (i + 1))), (4, .int (nI i)), (6, .int (b2 g)), (0, .ref (a 39)), (1, .int (nI h)), (2, .int v), (3, .int (nI (2 ^ t)))]) hx hb dX0_fewestFelled_90 hl (k := 6) rfl (xn_inc i 1) (by decide) rfl (fun ls hl => ?_)
                refine lv_goto (tgt := 24) hx hb dX0_fewestFelled_93 (by decide) ?_
                rw [← bestS_t (ok := (okF P w n (fun s => flB (P.1 4 ||| nI s)) (fun s => nI s &&& P.1 4 = 0) h v)) (s := i) ⟨c72, c83⟩ (hg.mp c59)] at hl
                exact ih24 (i + 1) X2 (by omega) hf2 ⟨_, _, ht2⟩ (by omega) H locs ls hP hS (lv_sub hl [3, 4, 5, 6, 1, 0] rfl)
        refine lv_iload hx hb dX0_fewestFelled_30 (lv_at hl 4 rfl) ?_
        refine lv_bipush (v := (-9)) hx hb dX0_fewestFelled_32 rfl ?_
        refine lv_icmp_eq (tgt := 50) hx hb dX0_fewestFelled_34 (by decide) (fun c34 => ?_) (fun c34 => ?_)
        · refine lv_iconst (v := nI 1) hx hb dX0_fewestFelled_50 rfl ?_
          refine lv_goto (tgt := 55) hx hb dX0_fewestFelled_51 (by decide) ?_
          refine xn_to hx (z := b2 True) (b2_1 trivial) ?_
          exact J55 True (by first | exact ⟨fun _ => Or.inl c34, fun _ => trivial⟩ | exact ⟨fun _ => Or.inr (by rw [hb2, nI_clamp (by omega)]; exact c47), fun _ => trivial⟩) H locs ls hP hS (lv_sub hl [0, 1, 2, 3, 4, 5] rfl)
        · obtain ⟨b1, hb1, hb2⟩ := (bestS_cases (okF P w n (fun s => flB (P.1 4 ||| nI s)) (fun s => nI s &&& P.1 4 = 0) h v) i).resolve_left c34
          rw [hb2] at hl
          refine lv_iload hx hb dX0_fewestFelled_37 (lv_at hl 5 rfl) ?_
          refine cStI [.int (nI i)] [] FX hK (c_J6_bitCount_0f7a4 l D y i (by omega)) (va_cwS 1 hts gX0_fewestFelled_J6_bitCount_0f7a4 rfl rfl rfl (by decide +kernel) ⟨Nat.le_of_ble_eq_true rfl, Nat.le_of_ble_eq_true rfl⟩) rfl rfl hl (Nat.le_of_ble_eq_true rfl) dX0_fewestFelled_39 ⟨Nat.zero_le _, Nat.zero_le _⟩ hP hS (fun r39 H locs hp39 hP hS => ?_)
          obtain rfl := hp39
          refine lv_iload hx hb dX0_fewestFelled_42 (lv_at hl 4 rfl) ?_
          refine cStI [.int (nI b1)] [.int (nI (pcn i))] FX hK (c_J6_bitCount_0f7a4 l D y b1 (by omega)) (va_cwS 1 hts gX0_fewestFelled_J6_bitCount_0f7a4 rfl rfl rfl (by decide +kernel) ⟨Nat.le_of_ble_eq_true rfl, Nat.le_of_ble_eq_true rfl⟩) rfl rfl hl (Nat.le_of_ble_eq_true rfl) dX0_fewestFelled_44 ⟨Nat.zero_le _, Nat.zero_le _⟩ hP hS (fun r44 H locs hp44 hP hS => ?_)
          obtain rfl := hp44
          refine xn_icmp_ge (tgt := 54) hx hb (Nat.lt_of_le_of_lt (pcn_le _) (by decide)) (Nat.lt_of_le_of_lt (pcn_le _) (by decide)) dX0_fewestFelled_47 (by decide) (fun c47 => ?_) (fun c47 => ?_)
          · refine lv_iconst (v := nI 0) hx hb dX0_fewestFelled_54 rfl ?_
            refine xn_to hx (z := b2 False) (b2_0 (fun z => z)) ?_
            rw [← hb2] at hl
            exact J55 False ⟨fun z => z.elim, fun z => by rcases z with z | z; exact c34 z; rw [hb2, nI_clamp (by omega)] at z; omega⟩ H locs ls hP hS (lv_sub hl [0, 1, 2, 3, 4, 5] rfl)
          · refine lv_iconst (v := nI 1) hx hb dX0_fewestFelled_50 rfl ?_
            refine lv_goto (tgt := 55) hx hb dX0_fewestFelled_51 (by decide) ?_
            refine xn_to hx (z := b2 True) (b2_1 trivial) ?_
            rw [← hb2] at hl
            exact J55 True (by first | exact ⟨fun _ => Or.inl c34, fun _ => trivial⟩ | exact ⟨fun _ => Or.inr (by rw [hb2, nI_clamp (by omega)]; exact c47), fun _ => trivial⟩) H locs ls hP hS (lv_sub hl [0, 1, 2, 3, 4, 5] rfl)
  exact L24 _ 0 X1 (Nat.zero_le _) hf1 ⟨_, _, ht1⟩ (Nat.lt_succ_self _) H locs ls hP hS (lv_sub hl [3, 4, 5, 2, 1, 0] rfl)

abbrev rmX0_numberOfNew : Room := { frames := 5, cells := 0, slots := 0, locals := 120 }
set_option maxRecDepth 100000 in
set_option maxHeartbeats 4000000 in
theorem c_X0_numberOfNew (l : Launch) (D : va_G) (y : Nat → ClassId) (a : Nat → Nat) (hA : CA a 44) (P X : PT) (row : Value) (w cN n t : Nat) (q : Nat) (tall : Int32) (hI : IP P w cN n t) (hc1 : P.1 1 = nI cN) (hq : q < cN) : CtI l D y yX0_numberOfNew wsX0_numberOfNew rmX0_numberOfNew [.ref (a 39), .int (nI q), .int tall] (wC y a P X row) (fun r (_ : PT) => r = nI (aFresh P w n (flB (P.1 4)) q tall)) (fun X' => wC y a P X' row) (AC a) := by
  refine mkI (cc := cX0_numberOfNew) (maxL := 3) (ret := some .int) RX0 rfl (by decide) rfl (Or.inl rfl) (Nat.le_of_ble_eq_true rfl) ?_
  intro p e s m args below meth c Q FX hK hP ret ls hl
  obtain ⟨hx, hb, hml, hown, hts⟩ := id FX
  have hS : va_S (AC a) s.heap s.heap [] := va_S.rf
  have in0 : ∀ w ∈ wsX00, w ∈ wsX0_numberOfNew := fun _ h => List.mem_cons_of_mem _ (List.mem_append_left _ (List.mem_append_left _ (List.mem_append_left _ (List.mem_append_left _ (List.mem_append_right _ (h))))))
  have in1 : ∀ w ∈ wsX10, w ∈ wsX0_numberOfNew := fun _ h => List.mem_cons_of_mem _ (List.mem_append_left _ (List.mem_append_right _ (h)))
  have in2 : ∀ w ∈ wsX20, w ∈ wsX0_numberOfNew := fun _ h => List.mem_cons_of_mem _ (List.mem_append_left _ (List.mem_append_left _ (List.mem_append_left _ (List.mem_append_right _ (h)))))
  have in5 : ∀ w ∈ wsX50, w ∈ wsX0_numberOfNew := fun _ h => List.mem_cons_of_mem _ (List.mem_append_left _ (List.mem_append_left _ (List.mem_append_right _ (h))))
  have in7 : ∀ w ∈ wsX70, w ∈ wsX0_numberOfNew := fun _ h => List.mem_cons_of_mem _ (List.mem_append_right _ (h))
  have hl : lv_has ls 3 [(0, .ref (a 39)), (1, .int (nI q)), (2, .int tall)] := hl
  have hcl := hI.c30
  refine lv_aload_n hx hb dX0_numberOfNew_0 rfl (lv_at hl 0 rfl) ?_
  refine cg0_1 FX hK in0 hP (List.mem_of_getElem? (i := 1) rfl) dX0_numberOfNew_1 ?_
  refine cViV [] [] FX hK (c_X5_lookNow l D y a hA P X row w cN n t hI hc1) (cwV 0 hts gX0_numberOfNew_X5_lookNow rfl rfl rfl (by decide +kernel) ⟨Nat.le_of_ble_eq_true rfl, Nat.le_of_ble_eq_true rfl⟩) hP (pre_recv hK hP (ci := 5) (q0 := 36) rfl rfl) rfl rfl hl (Nat.le_of_ble_eq_true rfl) dX0_numberOfNew_4 ⟨Nat.zero_le _, Nat.zero_le _⟩ hS (fun _ h => h) (fun X1 H locs hp4 hP hS _ _ => ?_)
  obtain ⟨hf1, ht1⟩ := hp4
  refine lv_aload_n hx hb dX0_numberOfNew_7 rfl (lv_at hl 0 rfl) ?_
  refine cg0_1 FX hK in0 hP (List.mem_of_getElem? (i := 1) rfl) dX0_numberOfNew_8 ?_
  refine lv_iload_n hx hb dX0_numberOfNew_11 rfl (lv_at hl 1 rfl) ?_
  refine lv_iload_n hx hb dX0_numberOfNew_12 rfl (lv_at hl 1 rfl) ?_
  refine lv_aload_n hx hb dX0_numberOfNew_13 rfl (lv_at hl 0 rfl) ?_
  refine cg0_0 FX hK in0 hP (List.mem_of_getElem? (i := 2) rfl) dX0_numberOfNew_14 ?_
  refine cg2_0 FX hK in2 hP (List.mem_of_getElem? (i := 3) rfl) dX0_numberOfNew_17 ?_
  refine lv_iload_n hx hb dX0_numberOfNew_20 rfl (lv_at hl 1 rfl) ?_
  refine ca15 (i := q) (by omega) FX hK hP dX0_numberOfNew_21 ?_
  refine lv_iload_n hx hb dX0_numberOfNew_22 rfl (lv_at hl 2 rfl) ?_
  refine lv_iadd hx hb dX0_numberOfNew_23 ?_
  refine cViI [.int (nI q), .int (nI q), .int ((P.2 0 q) + tall)] [] FX hK (c_X5_numberIf l D y a hA P X1 row w cN n t q q ((P.2 0 q) + tall) hI (by omega) (by omega)) (cwV 3 hts gX0_numberOfNew_X5_numberIf rfl rfl rfl (by decide +kernel) ⟨Nat.le_of_ble_eq_true rfl, Nat.le_of_ble_eq_true rfl⟩) hP (pre_recv hK hP (ci := 5) (q0 := 36) rfl rfl) rfl rfl hl (Nat.le_of_ble_eq_true rfl) dX0_numberOfNew_24 ⟨Nat.zero_le _, Nat.zero_le _⟩ hS (fun _ h => h) (fun r24 u24 H locs hp24 hP hS _ _ => ?_)
  obtain rfl := hp24
  refine xn_to hx (z := nI (sNf P w n (P.1 6) (upd (sTop P (P.1 5) (flB (P.1 4))) q ((P.2 0 q) + tall)) q)) (by rw [nIf_canon hI (by omega) hf1 ht1]) ?_
  exact ret H locs 27 ls (nI (sNf P w n (P.1 6) (upd (sTop P (P.1 5) (flB (P.1 4))) q ((P.2 0 q) + tall)) q)) X1 dX0_numberOfNew_27 rfl hP hS

abbrev rmX0_changedByNew : Room := { frames := 6, cells := 0, slots := 0, locals := 137 }
set_option maxRecDepth 100000 in
set_option maxHeartbeats 4000000 in
theorem c_X0_changedByNew (l : Launch) (D : va_G) (y : Nat → ClassId) (a : Nat → Nat) (hA : CA a 44) (P X : PT) (row : Value) (w cN n t : Nat) (q : Nat) (tall : Int32) (hI : IP P w cN n t) (hc1 : P.1 1 = nI cN) (hq : q < cN) (hz : P.2 2 q = 0) : CtI l D y yX0_changedByNew wsX0_changedByNew rmX0_changedByNew [.ref (a 39), .int (nI q), .int tall] (wC y a P X row) (fun r (_ : PT) => r = aOthers P w n (flB (P.1 4)) q tall) (fun X' => wC y a P X' row) (AC a) := by
  refine mkI (cc := cX0_changedByNew) (maxL := 6) (ret := some .int) RX0 rfl (by decide) rfl (Or.inl rfl) (Nat.le_of_ble_eq_true rfl) ?_
  intro p e s m args below meth c Q FX hK hP ret ls hl
  obtain ⟨hx, hb, hml, hown, hts⟩ := id FX
  have hS : va_S (AC a) s.heap s.heap [] := va_S.rf
  have in0 : ∀ w ∈ wsX00, w ∈ wsX0_changedByNew := fun _ h => List.mem_cons_of_mem _ (List.mem_append_left _ (List.mem_append_left _ (List.mem_append_left _ (List.mem_append_left _ (List.mem_append_right _ (h))))))
  have in1 : ∀ w ∈ wsX10, w ∈ wsX0_changedByNew := fun _ h => List.mem_cons_of_mem _ (List.mem_append_left _ (List.mem_append_right _ (h)))
  have in2 : ∀ w ∈ wsX20, w ∈ wsX0_changedByNew := fun _ h => List.mem_cons_of_mem _ (List.mem_append_left _ (List.mem_append_left _ (List.mem_append_right _ (h))))
  have in5 : ∀ w ∈ wsX50, w ∈ wsX0_changedByNew := fun _ h => List.mem_cons_of_mem _ (List.mem_append_left _ (List.mem_append_left _ (List.mem_append_left _ (List.mem_append_right _ (h)))))
  have in7 : ∀ w ∈ wsX70, w ∈ wsX0_changedByNew := fun _ h => List.mem_cons_of_mem _ (List.mem_append_right _ (h))
  have hl : lv_has ls 6 [(0, .ref (a 39)), (1, .int (nI q)), (2, .int tall)] := hl
  have hcl := hI.c30
  have hnl := hI.n8
  have hvw := hI.vw (by omega)
  refine lv_aload_n hx hb dX0_changedByNew_0 rfl (lv_at hl 0 rfl) ?_
  refine cg0_1 FX hK in0 hP (List.mem_of_getElem? (i := 1) rfl) dX0_changedByNew_1 ?_
  refine cViV [] [] FX hK (c_X5_countAll l D y a hA P X row w cN n t hI hc1) (cwV 0 hts gX0_changedByNew_X5_countAll rfl rfl rfl (by decide +kernel) ⟨Nat.le_of_ble_eq_true rfl, Nat.le_of_ble_eq_true rfl⟩) hP (pre_recv hK hP (ci := 5) (q0 := 36) rfl rfl) rfl rfl hl (Nat.le_of_ble_eq_true rfl) dX0_changedByNew_4 ⟨Nat.zero_le _, Nat.zero_le _⟩ hS (fun _ h => h) (fun X1 H locs hp4 hP hS _ _ => ?_)
  obtain ⟨hf1, ht1, hn1⟩ := hp4
  refine lv_aload_n hx hb dX0_changedByNew_7 rfl (lv_at hl 0 rfl) ?_
  refine cg0_1 FX hK in0 hP (List.mem_of_getElem? (i := 1) rfl) dX0_changedByNew_8 ?_
  refine cg5_0 FX hK in5 hP (List.mem_of_getElem? (i := 2) rfl) dX0_changedByNew_11 ?_
  refine lv_iload_n hx hb dX0_changedByNew_14 rfl (lv_at hl 1 rfl) ?_
  refine lv_aload_n hx hb dX0_changedByNew_15 rfl (lv_at hl 0 rfl) ?_
  refine cg0_0 FX hK in0 hP (List.mem_of_getElem? (i := 3) rfl) dX0_changedByNew_16 ?_
  refine cg2_0 FX hK in2 hP (List.mem_of_getElem? (i := 4) rfl) dX0_changedByNew_19 ?_
  refine lv_iload_n hx hb dX0_changedByNew_22 rfl (lv_at hl 1 rfl) ?_
  refine ca15 (i := q) (by omega) FX hK hP dX0_changedByNew_23 ?_
  refine lv_iload_n hx hb dX0_changedByNew_24 rfl (lv_at hl 2 rfl) ?_
  refine lv_iadd hx hb dX0_changedByNew_25 ?_
  refine cs37 (i := q) (by omega) FX hK hP hA hS dX0_changedByNew_26 (fun H locs hP hS => ?_)
  refine lv_iconst (v := nI 0) hx hb dX0_changedByNew_27 rfl ?_
  refine lv_istore_n (lv' := [(3, .int (nI 0)), (0, .ref (a 39)), (1, .int (nI q)), (2, .int tall)]) hx hb dX0_changedByNew_28 rfl hl (by decide) rfl (fun ls hl => ?_)
  refine lv_iconst (v := nI 0) hx hb dX0_changedByNew_29 rfl ?_
  refine lv_istore (lv' := [(4, .int (nI 0)), (3, .int (nI 0)), (0, .ref (a 39)), (1, .int (nI q)), (2, .int tall)]) hx hb dX0_changedByNew_30 hl (by decide) rfl (fun ls hl => ?_)
  have L32 : ∀ (N : Nat) (i : Nat) (X2 : PT), (i ≤ n) → (X2.1 7 = P.1 6) → (∀ k, k < cN → X2.2 3 k = (upd (sTop P (P.1 5) (flB (P.1 4))) q (P.2 0 q + tall)) k) → (∀ h, h < n → X2.2 4 h = nI (sNf P w n (X1.1 7) (X1.2 3) (plN P h))) → n - i < N → ∀ (H : Heap) (locs : List Loc) (ls : Array Slot), va_P D vwCl (wC y a P X2 row) H → va_S (AC a) s.heap H locs → lv_has ls 6 [(0, .ref (a 39)), (1, .int (nI q)), (2, .int tall), (3, .int (msk (fun h => ¬ nThen P w n (flB (P.1 4)) q tall h = sNum P w n (P.1 6) (P.1 5) (flB (P.1 4)) h) i)), (4, .int (nI i))] → W p l e rmX0_changedByNew s m args below meth c H locs 0 0 Q (F0 m 32 ls []) := by
    intro N32
    induction N32 with
    | zero => intro i X2 hi hf2 ht2 hn2 hmeas; exact absurd hmeas (Nat.not_lt_zero _)
    | succ N32 ih32 =>
      intro i X2 hi hf2 ht2 hn2 hmeas H locs ls hP hS hl
      refine lv_iload hx hb dX0_changedByNew_32 (lv_at hl 4 rfl) ?_
      refine lv_aload_n hx hb dX0_changedByNew_34 rfl (lv_at hl 0 rfl) ?_
      refine cg0_0 FX hK in0 hP (List.mem_of_getElem? (i := 3) rfl) dX0_changedByNew_35 ?_
      refine cg2_7 FX hK in2 hP (List.mem_of_getElem? (i := 5) rfl) dX0_changedByNew_38 ?_
      refine xn_to hx (z := nI n) hI.nn ?_
      refine xn_icmp_ge (tgt := 110) hx hb (by omega) (by omega) dX0_changedByNew_41 (by decide) (fun c41 => ?_) (fun c41 => ?_)
      · refine lv_iload_n hx hb dX0_changedByNew_110 rfl (lv_at hl 3 rfl) ?_
        exact ret H locs 111 ls (msk (fun h => ¬ nThen P w n (flB (P.1 4)) q tall h = sNum P w n (P.1 6) (P.1 5) (flB (P.1 4)) h) i) X2 dX0_changedByNew_111 (by rw [show i = n by omega]; rfl) hP hS
      · obtain ⟨hp1, hp2, hp3⟩ := hI.pl c41
        refine lv_aload_n hx hb dX0_changedByNew_44 rfl (lv_at hl 0 rfl) ?_
        refine cg0_1 FX hK in0 hP (List.mem_of_getElem? (i := 1) rfl) dX0_changedByNew_45 ?_
        refine lv_iload hx hb dX0_changedByNew_48 (lv_at hl 4 rfl) ?_
        refine cViI [.int (nI i)] [] FX hK (c_X5_numberOf l D y a hA P X2 row w cN n t i hI c41) (cwV 1 hts gX0_changedByNew_X5_numberOf rfl rfl rfl (by decide +kernel) ⟨Nat.le_of_ble_eq_true rfl, Nat.le_of_ble_eq_true rfl⟩) hP (pre_recv hK hP (ci := 5) (q0 := 36) rfl rfl) rfl rfl hl (Nat.le_of_ble_eq_true rfl) dX0_changedByNew_50 ⟨Nat.zero_le _, Nat.zero_le _⟩ hS (fun _ h => h) (fun r50 u50 H locs hp50 hP hS _ _ => ?_)
        obtain rfl := hp50
        refine xn_to hx (z := nI (sNf P w n (P.1 6) (upd (sTop P (P.1 5) (flB (P.1 4))) q (P.2 0 q + tall)) (plN P i))) (by rw [nf_canon hI hp2 hf2 ht2]) ?_
        refine lv_istore (lv' := [(5, .int (nI (sNf P w n (P.1 6) (upd (sTop P (P.1 5) (flB (P.1 4))) q (P.2 0 q + tall)) (plN P i)))), (0, .ref (a 39)), (1, .int (nI q)), (2, .int tall), (3, .int (msk (fun h => ¬ nThen P w n (flB (P.1 4)) q tall h = sNum P w n (P.1 6) (P.1 5) (flB (P.1 4)) h) i)), (4, .int (nI i))]) hx hb dX0_changedByNew_53 hl (by decide) rfl (fun ls hl => ?_)
        refine lv_aload_n hx hb dX0_changedByNew_55 rfl (lv_at hl 1 rfl) ?_
        refine cg0_1 FX hK in0 hP (List.mem_of_getElem? (i := 1) rfl) dX0_changedByNew_56 ?_
        refine lv_aload_n hx hb dX0_changedByNew_59 rfl (lv_at hl 1 rfl) ?_
        refine cg0_0 FX hK in0 hP (List.mem_of_getElem? (i := 3) rfl) dX0_changedByNew_60 ?_
        refine cg2_3 FX hK in2 hP (List.mem_of_getElem? (i := 6) rfl) dX0_changedByNew_63 ?_
        refine lv_iload hx hb dX0_changedByNew_66 (lv_at hl 5 rfl) ?_
        refine ca18 (i := i) (by omega) FX hK hP dX0_changedByNew_68 ?_
        refine cg1_1 (h := i) (by omega) FX hK in1 hP (List.mem_of_getElem? (i := 7) rfl) dX0_changedByNew_69 ?_
        refine xn_to hx (z := nI (plN P i)) hp1 ?_
        refine lv_iload_n hx hb dX0_changedByNew_72 rfl (lv_at hl 2 rfl) ?_
        refine cViI [.int (nI (plN P i)), .int (nI q)] [] FX hK (c_X5_isClear l D y a hA P X2 row w cN (plN P i) q hI.ww hvw hp2 hq (fun z => by rw [z, hz] at hp3; exact absurd (nI_inj (a := 0) (by decide) (by omega) hp3) (by omega))) (cwV 2 hts gX0_changedByNew_X5_isClear rfl rfl rfl (by decide +kernel) ⟨Nat.le_of_ble_eq_true rfl, Nat.le_of_ble_eq_true rfl⟩) hP (pre_recv hK hP (ci := 5) (q0 := 36) rfl rfl) rfl rfl hl (Nat.le_of_ble_eq_true rfl) dX0_changedByNew_73 ⟨Nat.zero_le _, Nat.zero_le _⟩ hS (fun _ h => h) (fun r73 u73 H locs hp73 hP hS _ _ => ?_)
        obtain rfl := hp73
        refine xn_to hx (z := b2 (sClr w (P.1 6) (upd (sTop P (P.1 5) (flB (P.1 4))) q (P.2 0 q + tall)) (plN P i) q)) (b2_iff (by rw [hf2]; exact sClr_congr hp2 hq ht2)) ?_
        refine xb_eq (tgt := 82) hx hb dX0_changedByNew_76 (by decide) (fun c76 => ?_) (fun c76 => ?_)
        · refine lv_iload hx hb dX0_changedByNew_82 (lv_at hl 0 rfl) ?_
          refine lv_aload_n hx hb dX0_changedByNew_84 rfl (lv_at hl 1 rfl) ?_
          refine cg0_1 FX hK in0 hP (List.mem_of_getElem? (i := 1) rfl) dX0_changedByNew_85 ?_
          refine cg5_1 FX hK in5 hP (List.mem_of_getElem? (i := 8) rfl) dX0_changedByNew_88 ?_
          refine lv_iload hx hb dX0_changedByNew_91 (lv_at hl 5 rfl) ?_
          refine ca38 (i := i) (by omega) FX hK hP dX0_changedByNew_93 ?_
          refine xn_to hx (z := nI (sNum P w n (P.1 6) (P.1 5) (flB (P.1 4)) i)) (by rw [hn2 i c41, nf_canon hI hp2 hf1 ht1]; rfl) ?_
          refine xn_icmp_eq (tgt := 104) hx hb (by have := sNf_le P w n (P.1 6) (upd (sTop P (P.1 5) (flB (P.1 4))) q (P.2 0 q + tall)) (plN P i); omega) (by have := sNf_le P w n (P.1 6) (sTop P (P.1 5) (flB (P.1 4))) (plN P i); show sNf _ _ _ _ _ _ < _; omega) dX0_changedByNew_94 (by decide) (fun c94 => ?_) (fun c94 => ?_)
          · refine lv_iinc (v := nI (i + 1)) (lv' := [(4, .int (nI (i + 1))), (5, .int (nI (sNf P w n (P.1 6) (upd (sTop P (P.1 5) (flB (P.1 4))) q (P.2 0 q + tall)) (plN P i)))), (0, .ref (a 39)), (1, .int (nI q)), (2, .int tall), (3, .int (msk (fun h => ¬ nThen P w n (flB (P.1 4)) q tall h = sNum P w n (P.1 6) (P.1 5) (flB (P.1 4)) h) i))]) hx hb dX0_changedByNew_104 hl (k := 5) rfl (xn_inc i 1) (by decide) rfl (fun ls hl => ?_)
            refine lv_goto (tgt := 32) hx hb dX0_changedByNew_107 (by decide) ?_
            rw [← msk_f (p := (fun h => ¬ nThen P w n (flB (P.1 4)) q tall h = sNum P w n (P.1 6) (P.1 5) (flB (P.1 4)) h)) (n := i) (fun z => z (by unfold nThen; first | rw [cif_t c76]; exact c94 | rw [cif_f c76]; exact c94))] at hl
            exact ih32 (i + 1) X2 (by omega) hf2 ht2 hn2 (by omega) H locs ls hP hS (lv_sub hl [2, 3, 4, 5, 0] rfl)
          · refine lv_iload_n hx hb dX0_changedByNew_97 rfl (lv_at hl 4 rfl) ?_
            refine lv_iconst (v := nI 1) hx hb dX0_changedByNew_98 rfl ?_
            refine lv_iload hx hb dX0_changedByNew_99 (lv_at hl 5 rfl) ?_
            refine lv_ishl hx hb dX0_changedByNew_101 ?_
            refine lv_ior hx hb dX0_changedByNew_102 ?_
            refine lv_istore_n (lv' := [(3, .int ((msk (fun h => ¬ nThen P w n (flB (P.1 4)) q tall h = sNum P w n (P.1 6) (P.1 5) (flB (P.1 4)) h) i) ||| ((nI 1) <<< ((nI i) &&& 31)))), (5, .int (nI (sNf P w n (P.1 6) (upd (sTop P (P.1 5) (flB (P.1 4))) q (P.2 0 q + tall)) (plN P i)))), (0, .ref (a 39)), (1, .int (nI q)), (2, .int tall), (4, .int (nI i))]) hx hb dX0_changedByNew_103 rfl hl (by decide) rfl (fun ls hl => ?_)
            refine lv_iinc (v := nI (i + 1)) (lv' := [(4, .int (nI (i + 1))), (3, .int ((msk (fun h => ¬ nThen P w n (flB (P.1 4)) q tall h = sNum P w n (P.1 6) (P.1 5) (flB (P.1 4)) h) i) ||| ((nI 1) <<< ((nI i) &&& 31)))), (5, .int (nI (sNf P w n (P.1 6) (upd (sTop P (P.1 5) (flB (P.1 4))) q (P.2 0 q + tall)) (plN P i)))), (0, .ref (a 39)), (1, .int (nI q)), (2, .int tall)]) hx hb dX0_changedByNew_104 hl (k := 5) rfl (xn_inc i 1) (by decide) rfl (fun ls hl => ?_)
            refine lv_goto (tgt := 32) hx hb dX0_changedByNew_107 (by decide) ?_
            rw [← msk_t (p := (fun h => ¬ nThen P w n (flB (P.1 4)) q tall h = sNum P w n (P.1 6) (P.1 5) (flB (P.1 4)) h)) (n := i) (by unfold nThen; first | rw [cif_t c76]; exact c94 | rw [cif_f c76]; exact c94)] at hl
            exact ih32 (i + 1) X2 (by omega) hf2 ht2 hn2 (by omega) H locs ls hP hS (lv_sub hl [3, 4, 5, 1, 0] rfl)
        · refine lv_iinc (v := nI (sNf P w n (P.1 6) (upd (sTop P (P.1 5) (flB (P.1 4))) q (P.2 0 q + tall)) (plN P i) + 1)) (lv' := [(5, .int (nI (sNf P w n (P.1 6) (upd (sTop P (P.1 5) (flB (P.1 4))) q (P.2 0 q + tall)) (plN P i) + 1))), (0, .ref (a 39)), (1, .int (nI q)), (2, .int tall), (3, .int (msk (fun h => ¬ nThen P w n (flB (P.1 4)) q tall h = sNum P w n (P.1 6) (P.1 5) (flB (P.1 4)) h) i)), (4, .int (nI i))]) hx hb dX0_changedByNew_79 hl (k := 0) rfl (xn_inc (sNf P w n (P.1 6) (upd (sTop P (P.1 5) (flB (P.1 4))) q (P.2 0 q + tall)) (plN P i)) 1) (by decide) rfl (fun ls hl => ?_)
          refine lv_iload hx hb dX0_changedByNew_82 (lv_at hl 0 rfl) ?_
          refine lv_aload_n hx hb dX0_changedByNew_84 rfl (lv_at hl 1 rfl) ?_
          refine cg0_1 FX hK in0 hP (List.mem_of_getElem? (i := 1) rfl) dX0_changedByNew_85 ?_
          refine cg5_1 FX hK in5 hP (List.mem_of_getElem? (i := 8) rfl) dX0_changedByNew_88 ?_
          refine lv_iload hx hb dX0_changedByNew_91 (lv_at hl 5 rfl) ?_
          refine ca38 (i := i) (by omega) FX hK hP dX0_changedByNew_93 ?_
          refine xn_to hx (z := nI (sNum P w n (P.1 6) (P.1 5) (flB (P.1 4)) i)) (by rw [hn2 i c41, nf_canon hI hp2 hf1 ht1]; rfl) ?_
          refine xn_icmp_eq (tgt := 104) hx hb (by have := sNf_le P w n (P.1 6) (upd (sTop P (P.1 5) (flB (P.1 4))) q (P.2 0 q + tall)) (plN P i); omega) (by have := sNf_le P w n (P.1 6) (sTop P (P.1 5) (flB (P.1 4))) (plN P i); show sNf _ _ _ _ _ _ < _; omega) dX0_changedByNew_94 (by decide) (fun c94 => ?_) (fun c94 => ?_)
          · refine lv_iinc (v := nI (i + 1)) (lv' := [(4, .int (nI (i + 1))), (5, .int (nI (sNf P w n (P.1 6) (upd (sTop P (P.1 5) (flB (P.1 4))) q (P.2 0 q + tall)) (plN P i) + 1))), (0, .ref (a 39)), (1, .int (nI q)), (2, .int tall), (3, .int (msk (fun h => ¬ nThen P w n (flB (P.1 4)) q tall h = sNum P w n (P.1 6) (P.1 5) (flB (P.1 4)) h) i))]) hx hb dX0_changedByNew_104 hl (k := 5) rfl (xn_inc i 1) (by decide) rfl (fun ls hl => ?_)
            refine lv_goto (tgt := 32) hx hb dX0_changedByNew_107 (by decide) ?_
            rw [← msk_f (p := (fun h => ¬ nThen P w n (flB (P.1 4)) q tall h = sNum P w n (P.1 6) (P.1 5) (flB (P.1 4)) h)) (n := i) (fun z => z (by unfold nThen; first | rw [cif_t c76]; exact c94 | rw [cif_f c76]; exact c94))] at hl
            exact ih32 (i + 1) X2 (by omega) hf2 ht2 hn2 (by omega) H locs ls hP hS (lv_sub hl [2, 3, 4, 5, 0] rfl)
          · refine lv_iload_n hx hb dX0_changedByNew_97 rfl (lv_at hl 4 rfl) ?_
            refine lv_iconst (v := nI 1) hx hb dX0_changedByNew_98 rfl ?_
            refine lv_iload hx hb dX0_changedByNew_99 (lv_at hl 5 rfl) ?_
            refine lv_ishl hx hb dX0_changedByNew_101 ?_
            refine lv_ior hx hb dX0_changedByNew_102 ?_
            refine lv_istore_n (lv' := [(3, .int ((msk (fun h => ¬ nThen P w n (flB (P.1 4)) q tall h = sNum P w n (P.1 6) (P.1 5) (flB (P.1 4)) h) i) ||| ((nI 1) <<< ((nI i) &&& 31)))), (5, .int (nI (sNf P w n (P.1 6) (upd (sTop P (P.1 5) (flB (P.1 4))) q (P.2 0 q + tall)) (plN P i) + 1))), (0, .ref (a 39)), (1, .int (nI q)), (2, .int tall), (4, .int (nI i))]) hx hb dX0_changedByNew_103 rfl hl (by decide) rfl (fun ls hl => ?_)
            refine lv_iinc (v := nI (i + 1)) (lv' := [(4, .int (nI (i + 1))), (3, .int ((msk (fun h => ¬ nThen P w n (flB (P.1 4)) q tall h = sNum P w n (P.1 6) (P.1 5) (flB (P.1 4)) h) i) ||| ((nI 1) <<< ((nI i) &&& 31)))), (5, .int (nI (sNf P w n (P.1 6) (upd (sTop P (P.1 5) (flB (P.1 4))) q (P.2 0 q + tall)) (plN P i) + 1))), (0, .ref (a 39)), (1, .int (nI q)), (2, .int tall)]) hx hb dX0_changedByNew_104 hl (k := 5) rfl (xn_inc i 1) (by decide) rfl (fun ls hl => ?_)
            refine lv_goto (tgt := 32) hx hb dX0_changedByNew_107 (by decide) ?_
            rw [← msk_t (p := (fun h => ¬ nThen P w n (flB (P.1 4)) q tall h = sNum P w n (P.1 6) (P.1 5) (flB (P.1 4)) h)) (n := i) (by unfold nThen; first | rw [cif_t c76]; exact c94 | rw [cif_f c76]; exact c94)] at hl
            exact ih32 (i + 1) X2 (by omega) hf2 ht2 hn2 (by omega) H locs ls hP hS (lv_sub hl [3, 4, 5, 1, 0] rfl)
  exact L32 _ 0 (pa X1 3 q ((P.2 0 q) + tall)) (Nat.zero_le _) hf1 (upd_congr ht1 q _) hn1 (Nat.lt_succ_self _) H locs ls hP hS (lv_sub hl [2, 3, 4, 1, 0] rfl)

abbrev rmX0_cellsForNew : Room := { frames := 5, cells := 0, slots := 0, locals := 120 }
set_option maxRecDepth 100000 in
set_option maxHeartbeats 4000000 in
theorem c_X0_cellsForNew (l : Launch) (D : va_G) (y : Nat → ClassId) (a : Nat → Nat) (hA : CA a 44) (P X : PT) (row : Value) (w cN n t : Nat) (tall v : Int32) (hI : IP P w cN n t) (hc1 : P.1 1 = nI cN) : CtL l D y yX0_cellsForNew wsX0_cellsForNew rmX0_cellsForNew [.ref (a 39), .int tall, .int v] (wC y a P X row) (fun r (_ : PT) => r = aFree P w cN n (flB (P.1 4)) tall v) (fun X' => wC y a P X' row) (AC a) := by
  refine mkL (cc := cX0_cellsForNew) (maxL := 6) RX0 rfl (by decide) rfl (Nat.le_of_ble_eq_true rfl) ?_
  intro p e s m args below meth c Q FX hK hP ret ls hl
  obtain ⟨hx, hb, hml, hown, hts⟩ := id FX
  have hS : va_S (AC a) s.heap s.heap [] := va_S.rf
  have in0 : ∀ w ∈ wsX00, w ∈ wsX0_cellsForNew := fun _ h => List.mem_cons_of_mem _ (List.mem_append_left _ (List.mem_append_left _ (List.mem_append_left _ (List.mem_append_left _ (List.mem_append_right _ (h))))))
  have in1 : ∀ w ∈ wsX10, w ∈ wsX0_cellsForNew := fun _ h => List.mem_cons_of_mem _ (List.mem_append_left _ (List.mem_append_right _ (h)))
  have in2 : ∀ w ∈ wsX20, w ∈ wsX0_cellsForNew := fun _ h => List.mem_cons_of_mem _ (List.mem_append_left _ (List.mem_append_left _ (List.mem_append_left _ (List.mem_append_right _ (h)))))
  have in5 : ∀ w ∈ wsX50, w ∈ wsX0_cellsForNew := fun _ h => List.mem_cons_of_mem _ (List.mem_append_left _ (List.mem_append_left _ (List.mem_append_right _ (h))))
  have in7 : ∀ w ∈ wsX70, w ∈ wsX0_cellsForNew := fun _ h => List.mem_cons_of_mem _ (List.mem_append_right _ (h))
  have hl : lv_has ls 6 [(0, .ref (a 39)), (1, .int tall), (2, .int v)] := hl
  have hcl := hI.c30
  refine lv_aload_n hx hb dX0_cellsForNew_0 rfl (lv_at hl 0 rfl) ?_
  refine cg0_1 FX hK in0 hP (List.mem_of_getElem? (i := 1) rfl) dX0_cellsForNew_1 ?_
  refine cViV [] [] FX hK (c_X5_lookNow l D y a hA P X row w cN n t hI hc1) (cwV 0 hts gX0_cellsForNew_X5_lookNow rfl rfl rfl (by decide +kernel) ⟨Nat.le_of_ble_eq_true rfl, Nat.le_of_ble_eq_true rfl⟩) hP (pre_recv hK hP (ci := 5) (q0 := 36) rfl rfl) rfl rfl hl (Nat.le_of_ble_eq_true rfl) dX0_cellsForNew_4 ⟨Nat.zero_le _, Nat.zero_le _⟩ hS (fun _ h => h) (fun X1 H locs hp4 hP hS _ _ => ?_)
  obtain ⟨hf1, ht1⟩ := hp4
  refine lv_lconst (v := 0) hx hb dX0_cellsForNew_7 rfl ?_
  refine lv_lstore_n (lv' := [(3, .long 0), (0, .ref (a 39)), (1, .int tall), (2, .int v)]) hx hb dX0_cellsForNew_8 rfl hl (by decide) rfl (fun ls hl => ?_)
  refine lv_iconst (v := nI 0) hx hb dX0_cellsForNew_9 rfl ?_
  refine lv_istore (lv' := [(5, .int (nI 0)), (3, .long 0), (0, .ref (a 39)), (1, .int tall), (2, .int v)]) hx hb dX0_cellsForNew_10 hl (by decide) rfl (fun ls hl => ?_)
  have L12 : ∀ (N : Nat) (i : Nat), (i ≤ cN) → cN - i < N → ∀ (H : Heap) (locs : List Loc) (ls : Array Slot), va_P D vwCl (wC y a P X1 row) H → va_S (AC a) s.heap H locs → lv_has ls 6 [(0, .ref (a 39)), (1, .int tall), (2, .int v), (3, .long (mskL (fun q => (P.2 2 q = 0 ∧ P.2 1 q = 0) ∧ nI (aFresh P w n (flB (P.1 4)) q tall) = v) i)), (5, .int (nI i))] → W p l e rmX0_cellsForNew s m args below meth c H locs 0 0 Q (F0 m 12 ls []) := by
    intro N12
    induction N12 with
    | zero => intro i hi hmeas; exact absurd hmeas (Nat.not_lt_zero _)
    | succ N12 ih12 =>
      intro i hi hmeas H locs ls hP hS hl
      refine lv_iload hx hb dX0_cellsForNew_12 (lv_at hl 4 rfl) ?_
      refine lv_aload_n hx hb dX0_cellsForNew_14 rfl (lv_at hl 0 rfl) ?_
      refine cg0_0 FX hK in0 hP (List.mem_of_getElem? (i := 2) rfl) dX0_cellsForNew_15 ?_
      refine cg2_6 FX hK in2 hP (List.mem_of_getElem? (i := 3) rfl) dX0_cellsForNew_18 ?_
      refine xn_to hx (z := nI cN) hc1 ?_
      refine xn_icmp_ge (tgt := 76) hx hb (by omega) (by omega) dX0_cellsForNew_21 (by decide) (fun c21 => ?_) (fun c21 => ?_)
      · refine lv_lload_n hx hb dX0_cellsForNew_76 rfl (lv_at hl 3 rfl) ?_
        exact ret H locs 77 ls (mskL (fun q => (P.2 2 q = 0 ∧ P.2 1 q = 0) ∧ nI (aFresh P w n (flB (P.1 4)) q tall) = v) i) X1 dX0_cellsForNew_77 (by rw [show i = cN by omega]; rfl) hP hS
      · refine lv_aload_n hx hb dX0_cellsForNew_24 rfl (lv_at hl 0 rfl) ?_
        refine cg0_0 FX hK in0 hP (List.mem_of_getElem? (i := 2) rfl) dX0_cellsForNew_25 ?_
        refine lv_iload hx hb dX0_cellsForNew_28 (lv_at hl 4 rfl) ?_
        refine cViI [.int (nI i)] [] FX hK (c_X2_canTakeNew l D y a hA P X1 row i (by omega)) (cwV 1 hts gX0_cellsForNew_X2_canTakeNew rfl rfl rfl (by decide +kernel) ⟨Nat.le_of_ble_eq_true rfl, Nat.le_of_ble_eq_true rfl⟩) hP (pre_recv hK hP (ci := 2) (q0 := 14) rfl rfl) rfl rfl hl (Nat.le_of_ble_eq_true rfl) dX0_cellsForNew_30 ⟨Nat.zero_le _, Nat.zero_le _⟩ hS (fun _ h => h) (fun r30 u30 H locs hp30 hP hS _ _ => ?_)
        obtain rfl := hp30
        refine xb_eq (tgt := 70) hx hb dX0_cellsForNew_33 (by decide) (fun c33 => ?_) (fun c33 => ?_)
        · refine lv_iinc (v := nI (i + 1)) (lv' := [(5, .int (nI (i + 1))), (0, .ref (a 39)), (1, .int tall), (2, .int v), (3, .long (mskL (fun q => (P.2 2 q = 0 ∧ P.2 1 q = 0) ∧ nI (aFresh P w n (flB (P.1 4)) q tall) = v) i))]) hx hb dX0_cellsForNew_70 hl (k := 4) rfl (xn_inc i 1) (by decide) rfl (fun ls hl => ?_)
          refine lv_goto (tgt := 12) hx hb dX0_cellsForNew_73 (by decide) ?_
          rw [← mskL_f (p := (fun q => (P.2 2 q = 0 ∧ P.2 1 q = 0) ∧ nI (aFresh P w n (flB (P.1 4)) q tall) = v)) (n := i) (by first | exact (fun z => c33 z.1) | exact (fun z => c60 z.2))] at hl
          exact ih12 (i + 1) (by omega) (by omega) H locs ls hP hS (lv_sub hl [1, 2, 3, 4, 0] rfl)
        · refine lv_aload_n hx hb dX0_cellsForNew_36 rfl (lv_at hl 0 rfl) ?_
          refine cg0_1 FX hK in0 hP (List.mem_of_getElem? (i := 1) rfl) dX0_cellsForNew_37 ?_
          refine lv_iload hx hb dX0_cellsForNew_40 (lv_at hl 4 rfl) ?_
          refine lv_iload hx hb dX0_cellsForNew_42 (lv_at hl 4 rfl) ?_
          refine lv_aload_n hx hb dX0_cellsForNew_44 rfl (lv_at hl 0 rfl) ?_
          refine cg0_0 FX hK in0 hP (List.mem_of_getElem? (i := 2) rfl) dX0_cellsForNew_45 ?_
          refine cg2_0 FX hK in2 hP (List.mem_of_getElem? (i := 4) rfl) dX0_cellsForNew_48 ?_
          refine lv_iload hx hb dX0_cellsForNew_51 (lv_at hl 4 rfl) ?_
          refine ca15 (i := i) (by omega) FX hK hP dX0_cellsForNew_53 ?_
          refine lv_iload_n hx hb dX0_cellsForNew_54 rfl (lv_at hl 1 rfl) ?_
          refine lv_iadd hx hb dX0_cellsForNew_55 ?_
          refine cViI [.int (nI i), .int (nI i), .int ((P.2 0 i) + tall)] [] FX hK (c_X5_numberIf l D y a hA P X1 row w cN n t i i ((P.2 0 i) + tall) hI (by omega) (by omega)) (cwV 3 hts gX0_cellsForNew_X5_numberIf rfl rfl rfl (by decide +kernel) ⟨Nat.le_of_ble_eq_true rfl, Nat.le_of_ble_eq_true rfl⟩) hP (pre_recv hK hP (ci := 5) (q0 := 36) rfl rfl) rfl rfl hl (Nat.le_of_ble_eq_true rfl) dX0_cellsForNew_56 ⟨Nat.zero_le _, Nat.zero_le _⟩ hS (fun _ h => h) (fun r56 u56 H locs hp56 hP hS _ _ => ?_)
          obtain rfl := hp56
          refine xn_to hx (z := nI (sNf P w n (P.1 6) (upd (sTop P (P.1 5) (flB (P.1 4))) i ((P.2 0 i) + tall)) i)) (by rw [nIf_canon hI (by omega) hf1 ht1]) ?_
          refine lv_iload_n hx hb dX0_cellsForNew_59 rfl (lv_at hl 2 rfl) ?_
          refine lv_icmp_ne (tgt := 70) hx hb dX0_cellsForNew_60 (by decide) (fun c60 => ?_) (fun c60 => ?_)
          · refine lv_iinc (v := nI (i + 1)) (lv' := [(5, .int (nI (i + 1))), (0, .ref (a 39)), (1, .int tall), (2, .int v), (3, .long (mskL (fun q => (P.2 2 q = 0 ∧ P.2 1 q = 0) ∧ nI (aFresh P w n (flB (P.1 4)) q tall) = v) i))]) hx hb dX0_cellsForNew_70 hl (k := 4) rfl (xn_inc i 1) (by decide) rfl (fun ls hl => ?_)
            refine lv_goto (tgt := 12) hx hb dX0_cellsForNew_73 (by decide) ?_
            rw [← mskL_f (p := (fun q => (P.2 2 q = 0 ∧ P.2 1 q = 0) ∧ nI (aFresh P w n (flB (P.1 4)) q tall) = v)) (n := i) (by first | exact (fun z => c33 z.1) | exact (fun z => c60 z.2))] at hl
            exact ih12 (i + 1) (by omega) (by omega) H locs ls hP hS (lv_sub hl [1, 2, 3, 4, 0] rfl)
          · refine lv_lload_n hx hb dX0_cellsForNew_63 rfl (lv_at hl 3 rfl) ?_
            refine lv_lconst (v := 1) hx hb dX0_cellsForNew_64 rfl ?_
            refine lv_iload hx hb dX0_cellsForNew_65 (lv_at hl 4 rfl) ?_
            refine lv_lshl hx hb dX0_cellsForNew_67 rfl ?_
            refine lv_lor hx hb dX0_cellsForNew_68 ?_
            refine lv_lstore_n (lv' := [(3, .long ((mskL (fun q => (P.2 2 q = 0 ∧ P.2 1 q = 0) ∧ nI (aFresh P w n (flB (P.1 4)) q tall) = v) i) ||| (1 <<< ((nI i).toInt64 &&& 63)))), (0, .ref (a 39)), (1, .int tall), (2, .int v), (5, .int (nI i))]) hx hb dX0_cellsForNew_69 rfl hl (by decide) rfl (fun ls hl => ?_)
            refine lv_iinc (v := nI (i + 1)) (lv' := [(5, .int (nI (i + 1))), (3, .long ((mskL (fun q => (P.2 2 q = 0 ∧ P.2 1 q = 0) ∧ nI (aFresh P w n (flB (P.1 4)) q tall) = v) i) ||| (1 <<< ((nI i).toInt64 &&& 63)))), (0, .ref (a 39)), (1, .int tall), (2, .int v)]) hx hb dX0_cellsForNew_70 hl (k := 4) rfl (xn_inc i 1) (by decide) rfl (fun ls hl => ?_)
            refine lv_goto (tgt := 12) hx hb dX0_cellsForNew_73 (by decide) ?_
            rw [← mskL_t (p := (fun q => (P.2 2 q = 0 ∧ P.2 1 q = 0) ∧ nI (aFresh P w n (flB (P.1 4)) q tall) = v)) (n := i) ⟨c33, c60⟩] at hl
            exact ih12 (i + 1) (by omega) (by omega) H locs ls hP hS (lv_sub hl [2, 3, 4, 1, 0] rfl)
  exact L12 _ 0 (Nat.zero_le _) (Nat.lt_succ_self _) H locs ls hP hS (lv_sub hl [2, 3, 4, 1, 0] rfl)

abbrev rmX0_yearOfChange : Room := { frames := 5, cells := 0, slots := 0, locals := 116 }
set_option maxRecDepth 100000 in
set_option maxHeartbeats 4000000 in
theorem c_X0_yearOfChange (l : Launch) (D : va_G) (y : Nat → ClassId) (a : Nat → Nat) (hA : CA a 44) (P X : PT) (row : Value) (w cN n t : Nat) (h yr : Nat) (hI : IP P w cN n t) (hc1 : P.1 1 = nI cN) (hh : h < n) (hyr : P.1 5 = nI yr) (hyl : yr ≤ 30) : CtI l D y yX0_yearOfChange wsX0_yearOfChange rmX0_yearOfChange [.ref (a 39), .int (nI h)] (wC y a P X row) (fun r (_ : PT) => r = aChange P w n (flB (P.1 4)) h yr) (fun X' => wC y a P X' row) (AC a) := by
  refine mkI (cc := cX0_yearOfChange) (maxL := 4) (ret := some .int) RX0 rfl (by decide) rfl (Or.inl rfl) (Nat.le_of_ble_eq_true rfl) ?_
  intro p e s m args below meth c Q FX hK hP ret ls hl
  obtain ⟨hx, hb, hml, hown, hts⟩ := id FX
  have hS : va_S (AC a) s.heap s.heap [] := va_S.rf
  have in0 : ∀ w ∈ wsX00, w ∈ wsX0_yearOfChange := fun _ h => List.mem_cons_of_mem _ (List.mem_append_left _ (List.mem_append_left _ (List.mem_append_left _ (List.mem_append_left _ (List.mem_append_right _ (h))))))
  have in1 : ∀ w ∈ wsX10, w ∈ wsX0_yearOfChange := fun _ h => List.mem_cons_of_mem _ (List.mem_append_left _ (List.mem_append_right _ (h)))
  have in2 : ∀ w ∈ wsX20, w ∈ wsX0_yearOfChange := fun _ h => List.mem_cons_of_mem _ (List.mem_append_left _ (List.mem_append_left _ (List.mem_append_left _ (List.mem_append_right _ (h)))))
  have in5 : ∀ w ∈ wsX50, w ∈ wsX0_yearOfChange := fun _ h => List.mem_cons_of_mem _ (List.mem_append_left _ (List.mem_append_left _ (List.mem_append_right _ (h))))
  have in7 : ∀ w ∈ wsX70, w ∈ wsX0_yearOfChange := fun _ h => List.mem_cons_of_mem _ (List.mem_append_right _ (h))
  have hl : lv_has ls 4 [(0, .ref (a 39)), (1, .int (nI h))] := hl
  have hcl := hI.c30
  have hnl := hI.n8
  obtain ⟨hp1, hp2, hp3⟩ := hI.pl hh
  refine lv_aload_n hx hb dX0_yearOfChange_0 rfl (lv_at hl 0 rfl) ?_
  refine cg0_1 FX hK in0 hP (List.mem_of_getElem? (i := 1) rfl) dX0_yearOfChange_1 ?_
  refine cViV [] [] FX hK (c_X5_lookNow l D y a hA P X row w cN n t hI hc1) (cwV 0 hts gX0_yearOfChange_X5_lookNow rfl rfl rfl (by decide +kernel) ⟨Nat.le_of_ble_eq_true rfl, Nat.le_of_ble_eq_true rfl⟩) hP (pre_recv hK hP (ci := 5) (q0 := 36) rfl rfl) rfl rfl hl (Nat.le_of_ble_eq_true rfl) dX0_yearOfChange_4 ⟨Nat.zero_le _, Nat.zero_le _⟩ hS (fun _ h => h) (fun X1 H locs hp4 hP hS _ _ => ?_)
  obtain ⟨hf1, ht1⟩ := hp4
  refine lv_aload_n hx hb dX0_yearOfChange_7 rfl (lv_at hl 0 rfl) ?_
  refine cg0_1 FX hK in0 hP (List.mem_of_getElem? (i := 1) rfl) dX0_yearOfChange_8 ?_
  refine lv_iload_n hx hb dX0_yearOfChange_11 rfl (lv_at hl 1 rfl) ?_
  refine cViI [.int (nI h)] [] FX hK (c_X5_numberOf l D y a hA P X1 row w cN n t h hI hh) (cwV 1 hts gX0_yearOfChange_X5_numberOf rfl rfl rfl (by decide +kernel) ⟨Nat.le_of_ble_eq_true rfl, Nat.le_of_ble_eq_true rfl⟩) hP (pre_recv hK hP (ci := 5) (q0 := 36) rfl rfl) rfl rfl hl (Nat.le_of_ble_eq_true rfl) dX0_yearOfChange_12 ⟨Nat.zero_le _, Nat.zero_le _⟩ hS (fun _ h => h) (fun r12 u12 H locs hp12 hP hS _ _ => ?_)
  obtain rfl := hp12
  refine xn_to hx (z := nI (sNum P w n (P.1 6) (P.1 5) (flB (P.1 4)) h)) (by rw [nf_canon hI hp2 hf1 ht1]; rfl) ?_
  refine lv_istore_n (lv' := [(2, .int (nI (sNum P w n (P.1 6) (P.1 5) (flB (P.1 4)) h))), (0, .ref (a 39)), (1, .int (nI h))]) hx hb dX0_yearOfChange_15 rfl hl (by decide) rfl (fun ls hl => ?_)
  refine lv_aload_n hx hb dX0_yearOfChange_16 rfl (lv_at hl 1 rfl) ?_
  refine cg0_0 FX hK in0 hP (List.mem_of_getElem? (i := 2) rfl) dX0_yearOfChange_17 ?_
  refine cg2_10 FX hK in2 hP (List.mem_of_getElem? (i := 3) rfl) dX0_yearOfChange_20 ?_
  refine xn_to hx (z := nI yr) hyr ?_
  refine lv_iconst (v := nI 1) hx hb dX0_yearOfChange_23 rfl ?_
  refine xn_iadd (a := yr) (b := 1) hx hb dX0_yearOfChange_24 ?_
  refine lv_istore_n (lv' := [(3, .int (nI (yr + 1))), (2, .int (nI (sNum P w n (P.1 6) (P.1 5) (flB (P.1 4)) h))), (0, .ref (a 39)), (1, .int (nI h))]) hx hb dX0_yearOfChange_25 rfl hl (by decide) rfl (fun ls hl => ?_)
  have L26 : ∀ (N : Nat) (j : Nat) (X2 : PT), (j ≤ 30 - yr) → (fsI (fun j => fnd (¬ sNum P w n (P.1 6) (nI (yr + 1 + j)) (flB (P.1 4)) h = sNum P w n (P.1 6) (P.1 5) (flB (P.1 4)) h) (yr + 1 + j)) j = -9) → (X2.1 7 = P.1 6) → (∃ y0 f0, ∀ q, q < cN → X2.2 3 q = sTop P y0 f0 q) → 30 - yr - j < N → ∀ (H : Heap) (locs : List Loc) (ls : Array Slot), va_P D vwCl (wC y a P X2 row) H → va_S (AC a) s.heap H locs → lv_has ls 4 [(0, .ref (a 39)), (1, .int (nI h)), (2, .int (nI (sNum P w n (P.1 6) (P.1 5) (flB (P.1 4)) h))), (3, .int (nI (yr + 1 + j)))] → W p l e rmX0_yearOfChange s m args below meth c H locs 0 0 Q (F0 m 26 ls []) := by
    intro N26
    induction N26 with
    | zero => intro j X2 hj hno hf2 hex hmeas; exact absurd hmeas (Nat.not_lt_zero _)
    | succ N26 ih26 =>
      intro j X2 hj hno hf2 hex hmeas H locs ls hP hS hl
      obtain ⟨y0, f0, htx⟩ := hex
      refine lv_iload_n hx hb dX0_yearOfChange_26 rfl (lv_at hl 3 rfl) ?_
      refine lv_bipush (v := nI 30) hx hb dX0_yearOfChange_27 rfl ?_
      refine xn_icmp_gt (tgt := 67) hx hb (by omega) (by omega) dX0_yearOfChange_29 (by decide) (fun c29 => ?_) (fun c29 => ?_)
      · refine lv_bipush (v := (-9)) hx hb dX0_yearOfChange_67 rfl ?_
        exact ret H locs 69 ls (-9) X2 dX0_yearOfChange_69 (by rw [show j = 30 - yr by omega] at hno; exact hno.symm) hP hS
      · refine lv_aload_n hx hb dX0_yearOfChange_32 rfl (lv_at hl 0 rfl) ?_
        refine cg0_1 FX hK in0 hP (List.mem_of_getElem? (i := 1) rfl) dX0_yearOfChange_33 ?_
        refine lv_iload_n hx hb dX0_yearOfChange_36 rfl (lv_at hl 3 rfl) ?_
        refine lv_aload_n hx hb dX0_yearOfChange_37 rfl (lv_at hl 0 rfl) ?_
        refine cg0_0 FX hK in0 hP (List.mem_of_getElem? (i := 2) rfl) dX0_yearOfChange_38 ?_
        refine cg2_9 FX hK in2 hP (List.mem_of_getElem? (i := 4) rfl) dX0_yearOfChange_41 ?_
        refine cViV [.int (nI (yr + 1 + j)), .int (P.1 4)] [] FX hK (c_X5_lookWithTrees l D y a hA P X2 row w cN n t (nI (yr + 1 + j)) (P.1 4) y0 f0 hI htx) (cwV 2 hts gX0_yearOfChange_X5_lookWithTrees rfl rfl rfl (by decide +kernel) ⟨Nat.le_of_ble_eq_true rfl, Nat.le_of_ble_eq_true rfl⟩) hP (pre_recv hK hP (ci := 5) (q0 := 36) rfl rfl) rfl rfl hl (Nat.le_of_ble_eq_true rfl) dX0_yearOfChange_44 ⟨Nat.zero_le _, Nat.zero_le _⟩ hS (fun _ h => h) (fun X3 H locs hp44 hP hS _ _ => ?_)
        obtain ⟨hf3, hf4, ht3⟩ := hp44
        refine lv_aload_n hx hb dX0_yearOfChange_47 rfl (lv_at hl 0 rfl) ?_
        refine cg0_1 FX hK in0 hP (List.mem_of_getElem? (i := 1) rfl) dX0_yearOfChange_48 ?_
        refine lv_iload_n hx hb dX0_yearOfChange_51 rfl (lv_at hl 1 rfl) ?_
        refine cViI [.int (nI h)] [] FX hK (c_X5_numberOf l D y a hA P X3 row w cN n t h hI hh) (cwV 1 hts gX0_yearOfChange_X5_numberOf rfl rfl rfl (by decide +kernel) ⟨Nat.le_of_ble_eq_true rfl, Nat.le_of_ble_eq_true rfl⟩) hP (pre_recv hK hP (ci := 5) (q0 := 36) rfl rfl) rfl rfl hl (Nat.le_of_ble_eq_true rfl) dX0_yearOfChange_52 ⟨Nat.zero_le _, Nat.zero_le _⟩ hS (fun _ h => h) (fun r52 u52 H locs hp52 hP hS _ _ => ?_)
        obtain rfl := hp52
        refine xn_to hx (z := nI (sNum P w n (P.1 6) (nI (yr + 1 + j)) (flB (P.1 4)) h)) (by rw [nf_canon hI hp2 (hf3.trans hf2) ht3]; rfl) ?_
        refine lv_iload_n hx hb dX0_yearOfChange_55 rfl (lv_at hl 2 rfl) ?_
        refine xn_icmp_eq (tgt := 61) hx hb (Nat.lt_of_le_of_lt (sNf_le _ _ _ _ _ _) (by omega)) (Nat.lt_of_le_of_lt (sNf_le _ _ _ _ _ _) (by omega)) dX0_yearOfChange_56 (by decide) (fun c56 => ?_) (fun c56 => ?_)
        · refine lv_iinc (v := nI (yr + 1 + j + 1)) (lv' := [(3, .int (nI (yr + 1 + j + 1))), (0, .ref (a 39)), (1, .int (nI h)), (2, .int (nI (sNum P w n (P.1 6) (P.1 5) (flB (P.1 4)) h)))]) hx hb dX0_yearOfChange_61 hl (k := 3) rfl (xn_inc (yr + 1 + j) 1) (by decide) rfl (fun ls hl => ?_)
          refine lv_goto (tgt := 26) hx hb dX0_yearOfChange_64 (by decide) ?_
          exact ih26 (j + 1) X3 (by omega) (fnd_miss hno (fun z => z c56)) (hf3.trans hf2) ⟨_, _, ht3⟩ (by omega) H locs ls hP hS (lv_sub hl [1, 2, 3, 0] rfl)
        · refine lv_iload_n hx hb dX0_yearOfChange_59 rfl (lv_at hl 3 rfl) ?_
          exact ret H locs 60 ls (nI (yr + 1 + j)) X3 dX0_yearOfChange_60 (fnd_hit (v := fun j => yr + 1 + j) hno (by omega) c56 (by omega)) hP hS
  exact L26 _ 0 X1 (Nat.zero_le _) rfl hf1 ⟨_, _, ht1⟩ (Nat.lt_succ_self _) H locs ls hP hS (lv_sub hl [2, 3, 1, 0] rfl)
