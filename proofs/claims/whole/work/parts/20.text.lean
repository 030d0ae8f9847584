abbrev rmX6_take : Room := { frames := 0, cells := 0, slots := 0, locals := 0 }
set_option maxRecDepth 100000 in
set_option maxHeartbeats 4000000 in
theorem c_X6_take (l : Launch) (D : va_G) (y : Nat → ClassId) (a : Nat → Nat) (hA : CA a 44) (P X : PT) (row : Value) (k i n p0 cd : Nat) (hk : k < 4) (hin : i + n ≤ 100) (hx2 : X.1 2 = nI p0) (hx5 : X.1 5 = nI i) (hx6 : X.1 6 = nI n) (hpn : p0 ≤ n) (hcd : cd < 2 ^ 31) : CtI l D y yX6_take wsX6_take rmX6_take [.ref (a 10), .int (nI cd)] (wC y a P X (.ref (a (2 + k)))) (fun r (X' : PT) => r = b2 (chr (tf P k i) n p0 cd) ∧ X' = cif (chr (tf P k i) n p0 cd) (pg X 2 (nI (p0 + 1))) X) (fun X' => wC y a P X' (.ref (a (2 + k)))) (AC a) := by
  refine mkI (cc := cX6_take) (maxL := 2) (ret := some .boolean) RX6 rfl (by decide) rfl (Or.inr ⟨rfl, fun r u h => by rw [h.1]; exact b2_01 _⟩) (Nat.le_of_ble_eq_true rfl) ?_
  intro p e s m args below meth c Q FX hK hP ret ls hl
  obtain ⟨hx, hb, hml, hown, hts⟩ := id FX
  have hS : va_S (AC a) s.heap s.heap [] := va_S.rf
  have in4 : ∀ w ∈ wsX40, w ∈ wsX6_take := fun _ h => List.mem_cons_of_mem _ (List.mem_append_right _ (h))
  have in6 : ∀ w ∈ wsX60, w ∈ wsX6_take := fun _ h => List.mem_cons_of_mem _ (List.mem_append_left _ (List.mem_append_right _ (h)))
  have hl : lv_has ls 2 [(0, .ref (a 10)), (1, .int (nI cd))] := hl
  refine lv_aload_n hx hb dX6_take_0 rfl (lv_at hl 0 rfl) ?_
  refine cg6_5 FX hK in6 hP (List.mem_of_getElem? (i := 1) rfl) dX6_take_1 ?_
  refine xn_to hx (z := nI p0) hx2 ?_
  refine lv_aload_n hx hb dX6_take_4 rfl (lv_at hl 0 rfl) ?_
  refine cg6_10 FX hK in6 hP (List.mem_of_getElem? (i := 2) rfl) dX6_take_5 ?_
  refine xn_to hx (z := nI n) hx6 ?_
  refine xn_icmp_ge (tgt := 32) hx hb (by omega) (by omega) dX6_take_8 (by decide) (fun c8 => ?_) (fun c8 => ?_)
  · refine lv_iconst (v := nI 0) hx hb dX6_take_32 rfl ?_
    exact ret s.heap [] 33 ls (nI 0) X dX6_take_33 (by first | exact ⟨b2_0 (fun z => c29 z.2), (cif_f (fun z => c29 z.2)).symm⟩ | exact ⟨b2_0 (fun z => absurd z.1 (by omega)), (cif_f (fun z => absurd z.1 (by omega))).symm⟩) hP hS
  · refine lv_aload_n hx hb dX6_take_11 rfl (lv_at hl 0 rfl) ?_
    refine cg6_8 FX hK in6 hP (List.mem_of_getElem? (i := 3) rfl) dX6_take_12 ?_
    refine cg4_0 (h := k) (by omega) FX hK in4 hP (List.mem_of_getElem? (i := 4) rfl) dX6_take_15 ?_
    refine lv_aload_n hx hb dX6_take_18 rfl (lv_at hl 0 rfl) ?_
    refine cg6_9 FX hK in6 hP (List.mem_of_getElem? (i := 5) rfl) dX6_take_19 ?_
    refine xn_to hx (z := nI i) hx5 ?_
    refine lv_aload_n hx hb dX6_take_22 rfl (lv_at hl 0 rfl) ?_
    refine cg6_5 FX hK in6 hP (List.mem_of_getElem? (i := 1) rfl) dX6_take_23 ?_
    refine xn_to hx (z := nI p0) hx2 ?_
    refine xn_iadd (a := i) (b := p0) hx hb dX6_take_26 ?_
    refine ca6 (h := k) (by omega) (i := i + p0) (by omega) FX hK hP dX6_take_27 ?_
    refine lv_iload_n hx hb dX6_take_28 rfl (lv_at hl 1 rfl) ?_
    refine lv_icmp_eq (tgt := 34) hx hb dX6_take_29 (by decide) (fun c29 => ?_) (fun c29 => ?_)
    · refine lv_aload_n hx hb dX6_take_34 rfl (lv_at hl 0 rfl) ?_
      refine lv_dup hx hb dX6_take_35 rfl ?_
      refine cg6_5 FX hK in6 hP (List.mem_of_getElem? (i := 1) rfl) dX6_take_36 ?_
      refine xn_to hx (z := nI p0) hx2 ?_
      refine lv_iconst (v := nI 1) hx hb dX6_take_39 rfl ?_
      refine xn_iadd (a := p0) (b := 1) hx hb dX6_take_40 ?_
      refine cp6_5 FX hK in6 hP hA hS (List.mem_of_getElem? (i := 1) rfl) dX6_take_41 (fun H locs hP hS => ?_)
      refine lv_iconst (v := nI 1) hx hb dX6_take_44 rfl ?_
      exact ret H locs 45 ls (nI 1) (pg X 2 (nI (p0 + 1))) dX6_take_45 ⟨b2_1 ⟨c8, c29⟩, (cif_t ⟨c8, c29⟩).symm⟩ hP hS
    · refine lv_iconst (v := nI 0) hx hb dX6_take_32 rfl ?_
      exact ret s.heap [] 33 ls (nI 0) X dX6_take_33 (by first | exact ⟨b2_0 (fun z => c29 z.2), (cif_f (fun z => c29 z.2)).symm⟩ | exact ⟨b2_0 (fun z => absurd z.1 (by omega)), (cif_f (fun z => absurd z.1 (by omega))).symm⟩) hP hS

abbrev rmX6_takeDigit : Room := { frames := 1, cells := 0, slots := 0, locals := 22 }
set_option maxRecDepth 100000 in
set_option maxHeartbeats 4000000 in
theorem c_X6_takeDigit (l : Launch) (D : va_G) (y : Nat → ClassId) (a : Nat → Nat) (hA : CA a 44) (P X : PT) (row : Value) (k i n p0 lo hi : Nat) (hk : k < 4) (hin : i + n ≤ 100) (hx2 : X.1 2 = nI p0) (hx5 : X.1 5 = nI i) (hx6 : X.1 6 = nI n) (hpn : p0 ≤ n) (hlo : lo ≤ 9) (hhi : hi ≤ 9) : CtI l D y yX6_takeDigit wsX6_takeDigit rmX6_takeDigit [.ref (a 10), .int (nI lo), .int (nI hi)] (wC y a P X (.ref (a (2 + k)))) (fun r (X' : PT) => r = cif (dgt (tf P k i) n p0 lo hi) (nI (dvl (tf P k i) p0)) (-1) ∧ X' = cif (dgt (tf P k i) n p0 lo hi) (pg X 2 (nI (p0 + 1))) X) (fun X' => wC y a P X' (.ref (a (2 + k)))) (AC a) := by
  refine mkI (cc := cX6_takeDigit) (maxL := 4) (ret := some .int) RX6 rfl (by decide) rfl (Or.inl rfl) (Nat.le_of_ble_eq_true rfl) ?_
  intro p e s m args below meth c Q FX hK hP ret ls hl
  obtain ⟨hx, hb, hml, hown, hts⟩ := id FX
  have hS : va_S (AC a) s.heap s.heap [] := va_S.rf
  have in4 : ∀ w ∈ wsX40, w ∈ wsX6_takeDigit := fun _ h => List.mem_cons_of_mem _ (List.mem_append_right _ (h))
  have in6 : ∀ w ∈ wsX60, w ∈ wsX6_takeDigit := fun _ h => List.mem_cons_of_mem _ (List.mem_append_left _ (List.mem_append_right _ (h)))
  have hl : lv_has ls 4 [(0, .ref (a 10)), (1, .int (nI lo)), (2, .int (nI hi))] := hl
  refine lv_aload_n hx hb dX6_takeDigit_0 rfl (lv_at hl 0 rfl) ?_
  refine cg6_5 FX hK in6 hP (List.mem_of_getElem? (i := 1) rfl) dX6_takeDigit_1 ?_
  refine xn_to hx (z := nI p0) hx2 ?_
  refine lv_aload_n hx hb dX6_takeDigit_4 rfl (lv_at hl 0 rfl) ?_
  refine cg6_10 FX hK in6 hP (List.mem_of_getElem? (i := 2) rfl) dX6_takeDigit_5 ?_
  refine xn_to hx (z := nI n) hx6 ?_
  refine xn_icmp_lt (tgt := 13) hx hb (by omega) (by omega) dX6_takeDigit_8 (by decide) (fun c8 => ?_) (fun c8 => ?_)
  · refine lv_aload_n hx hb dX6_takeDigit_13 rfl (lv_at hl 0 rfl) ?_
    refine cg6_8 FX hK in6 hP (List.mem_of_getElem? (i := 3) rfl) dX6_takeDigit_14 ?_
    refine cg4_0 (h := k) (by omega) FX hK in4 hP (List.mem_of_getElem? (i := 4) rfl) dX6_takeDigit_17 ?_
    refine lv_aload_n hx hb dX6_takeDigit_20 rfl (lv_at hl 0 rfl) ?_
    refine cg6_9 FX hK in6 hP (List.mem_of_getElem? (i := 5) rfl) dX6_takeDigit_21 ?_
    refine xn_to hx (z := nI i) hx5 ?_
    refine lv_aload_n hx hb dX6_takeDigit_24 rfl (lv_at hl 0 rfl) ?_
    refine cg6_5 FX hK in6 hP (List.mem_of_getElem? (i := 1) rfl) dX6_takeDigit_25 ?_
    refine xn_to hx (z := nI p0) hx2 ?_
    refine xn_iadd (a := i) (b := p0) hx hb dX6_takeDigit_28 ?_
    refine ca6 (h := k) (by omega) (i := i + p0) (by omega) FX hK hP dX6_takeDigit_29 ?_
    refine lv_istore_n (lv' := [(3, .int (P.2 (14 + k) (i + p0))), (0, .ref (a 10)), (1, .int (nI lo)), (2, .int (nI hi))]) hx hb dX6_takeDigit_30 rfl hl (by decide) rfl (fun ls hl => ?_)
    refine lv_iload_n hx hb dX6_takeDigit_31 rfl (lv_at hl 0 rfl) ?_
    refine lv_bipush (v := nI 48) hx hb dX6_takeDigit_32 rfl ?_
    refine lv_iload_n hx hb dX6_takeDigit_34 rfl (lv_at hl 2 rfl) ?_
    refine xn_iadd (a := 48) (b := lo) hx hb dX6_takeDigit_35 ?_
    refine lv_bipush (v := nI 48) hx hb dX6_takeDigit_36 rfl ?_
    refine lv_iload_n hx hb dX6_takeDigit_38 rfl (lv_at hl 3 rfl) ?_
    refine xn_iadd (a := 48) (b := hi) hx hb dX6_takeDigit_39 ?_
    refine cSnI [.int (P.2 (14 + k) (i + p0)), .int (nI (48 + lo)), .int (nI (48 + hi))] [] FX hK (c_X8_isWithin l D y (P.2 (14 + k) (i + p0)) (nI (48 + lo)) (nI (48 + hi))) ⟨va_cnB 3 hts ggX6_takeDigit_X8_isWithin rfl rfl rfl (hK.2 _ (List.mem_of_getElem? (i := 4) rfl)) (hts _ (List.mem_of_getElem? (i := 7) rfl)) (by decide +kernel) ⟨Nat.le_of_ble_eq_true rfl, Nat.le_of_ble_eq_true rfl⟩, (hts _ (List.mem_of_getElem? (i := 6) rfl)), trivial⟩ rfl rfl hl (Nat.le_of_ble_eq_true rfl) dX6_takeDigit_40 ⟨Nat.zero_le _, Nat.zero_le _⟩ hP hS (fun r40 H locs hp40 hP hS => ?_)
    obtain rfl := hp40
    refine xn_to hx (z := b2 (inR (48 + lo) (48 + hi) (P.2 (14 + k) (i + p0)))) (b2_iff (wth_iff (by omega) (by omega))) ?_
    refine xb_ne (tgt := 48) hx hb dX6_takeDigit_43 (by decide) (fun c43 => ?_) (fun c43 => ?_)
    · refine lv_aload_n hx hb dX6_takeDigit_48 rfl (lv_at hl 1 rfl) ?_
      refine lv_dup hx hb dX6_takeDigit_49 rfl ?_
      refine cg6_5 FX hK in6 hP (List.mem_of_getElem? (i := 1) rfl) dX6_takeDigit_50 ?_
      refine xn_to hx (z := nI p0) hx2 ?_
      refine lv_iconst (v := nI 1) hx hb dX6_takeDigit_53 rfl ?_
      refine xn_iadd (a := p0) (b := 1) hx hb dX6_takeDigit_54 ?_
      refine cp6_5 FX hK in6 hP hA hS (List.mem_of_getElem? (i := 1) rfl) dX6_takeDigit_55 (fun H locs hP hS => ?_)
      refine lv_iload_n hx hb dX6_takeDigit_58 rfl (lv_at hl 0 rfl) ?_
      refine lv_bipush (v := nI 48) hx hb dX6_takeDigit_59 rfl ?_
      refine lv_isub hx hb dX6_takeDigit_61 ?_
      exact ret H locs 62 ls ((P.2 (14 + k) (i + p0)) - (nI 48)) (pg X 2 (nI (p0 + 1))) dX6_takeDigit_62 ⟨(dvl_sub (f := tf P k i) (p := p0) c43 hhi).trans (cif_t ⟨c8, c43⟩).symm, (cif_t ⟨c8, c43⟩).symm⟩ hP hS
    · refine lv_iconst (v := (-1)) hx hb dX6_takeDigit_46 rfl ?_
      exact ret H locs 47 ls (-1) X dX6_takeDigit_47 (by first | exact ⟨(cif_f (fun z => c43 z.2)).symm, (cif_f (fun z => c43 z.2)).symm⟩ | exact ⟨(cif_f (fun z => absurd z.1 (by omega))).symm, (cif_f (fun z => absurd z.1 (by omega))).symm⟩) hP hS
  · refine lv_iconst (v := (-1)) hx hb dX6_takeDigit_11 rfl ?_
    exact ret s.heap [] 12 ls (-1) X dX6_takeDigit_12 (by first | exact ⟨(cif_f (fun z => c43 z.2)).symm, (cif_f (fun z => c43 z.2)).symm⟩ | exact ⟨(cif_f (fun z => absurd z.1 (by omega))).symm, (cif_f (fun z => absurd z.1 (by omega))).symm⟩) hP hS

abbrev rmX6_takeKind : Room := { frames := 1, cells := 0, slots := 0, locals := 21 }
set_option maxRecDepth 100000 in
set_option maxHeartbeats 4000000 in
theorem c_X6_takeKind (l : Launch) (D : va_G) (y : Nat → ClassId) (a : Nat → Nat) (hA : CA a 44) (P X : PT) (row : Value) (k i n p0 : Nat) (hk : k < 4) (hin : i + n ≤ 100) (hx2 : X.1 2 = nI p0) (hx5 : X.1 5 = nI i) (hx6 : X.1 6 = nI n) (hpn : p0 ≤ n) : CtI l D y yX6_takeKind wsX6_takeKind rmX6_takeKind [.ref (a 10)] (wC y a P X (.ref (a (2 + k)))) (fun r (X' : PT) => r = cif (chr (tf P k i) n p0 104) (nI 0) (cif (chr (tf P k i) n p0 99) (nI 1) (cif (chr (tf P k i) n p0 114) (nI 2) (-1))) ∧ X' = cif (chr (tf P k i) n p0 104) (pg X 2 (nI (p0 + 1))) (cif (chr (tf P k i) n p0 99) (pg X 2 (nI (p0 + 1))) (cif (chr (tf P k i) n p0 114) (pg X 2 (nI (p0 + 1))) X))) (fun X' => wC y a P X' (.ref (a (2 + k)))) (AC a) := by
  refine mkI (cc := cX6_takeKind) (maxL := 1) (ret := some .int) RX6 rfl (by decide) rfl (Or.inl rfl) (Nat.le_of_ble_eq_true rfl) ?_
  intro p e s m args below meth c Q FX hK hP ret ls hl
  obtain ⟨hx, hb, hml, hown, hts⟩ := id FX
  have hS : va_S (AC a) s.heap s.heap [] := va_S.rf
  have in4 : ∀ w ∈ wsX40, w ∈ wsX6_takeKind := fun _ h => List.mem_cons_of_mem _ (List.mem_append_right _ (h))
  have in6 : ∀ w ∈ wsX60, w ∈ wsX6_takeKind := fun _ h => List.mem_cons_of_mem _ (List.mem_append_left _ (List.mem_append_right _ (h)))
  have hl : lv_has ls 1 [(0, .ref (a 10))] := hl
  refine lv_aload_n hx hb dX6_takeKind_0 rfl (lv_at hl 0 rfl) ?_
  refine lv_bipush (v := nI 104) hx hb dX6_takeKind_1 rfl ?_
  refine cViI [.int (nI 104)] [] FX hK (c_X6_take l D y a hA P X .null k i n p0 104 hk hin hx2 hx5 hx6 hpn (by decide)) (cwV 1 hts gX6_takeKind_X6_take rfl rfl rfl (by decide +kernel) ⟨Nat.le_of_ble_eq_true rfl, Nat.le_of_ble_eq_true rfl⟩) hP (pre_recv hK hP (ci := 6) (q0 := 10) rfl rfl) rfl rfl hl (Nat.le_of_ble_eq_true rfl) dX6_takeKind_3 ⟨Nat.zero_le _, Nat.zero_le _⟩ hS (fun _ h => h) (fun r3 u3 H locs hp3 hP hS _ _ => ?_)
  obtain ⟨rfl, rfl⟩ := hp3
  refine xb_eq (tgt := 11) hx hb dX6_takeKind_6 (by decide) (fun c6 => ?_) (fun c6 => ?_)
  · rw [cif_f c6] at hP
    refine lv_aload_n hx hb dX6_takeKind_11 rfl (lv_at hl 0 rfl) ?_
    refine lv_bipush (v := nI 99) hx hb dX6_takeKind_12 rfl ?_
    refine cViI [.int (nI 99)] [] FX hK (c_X6_take l D y a hA P X .null k i n p0 99 hk hin hx2 hx5 hx6 hpn (by decide)) (cwV 1 hts gX6_takeKind_X6_take rfl rfl rfl (by decide +kernel) ⟨Nat.le_of_ble_eq_true rfl, Nat.le_of_ble_eq_true rfl⟩) hP (pre_recv hK hP (ci := 6) (q0 := 10) rfl rfl) rfl rfl hl (Nat.le_of_ble_eq_true rfl) dX6_takeKind_14 ⟨Nat.zero_le _, Nat.zero_le _⟩ hS (fun _ h => h) (fun r14 u14 H locs hp14 hP hS _ _ => ?_)
    obtain ⟨rfl, rfl⟩ := hp14
    refine xb_eq (tgt := 22) hx hb dX6_takeKind_17 (by decide) (fun c17 => ?_) (fun c17 => ?_)
    · rw [cif_f c17] at hP
      refine lv_aload_n hx hb dX6_takeKind_22 rfl (lv_at hl 0 rfl) ?_
      refine lv_bipush (v := nI 114) hx hb dX6_takeKind_23 rfl ?_
      refine cViI [.int (nI 114)] [] FX hK (c_X6_take l D y a hA P X .null k i n p0 114 hk hin hx2 hx5 hx6 hpn (by decide)) (cwV 1 hts gX6_takeKind_X6_take rfl rfl rfl (by decide +kernel) ⟨Nat.le_of_ble_eq_true rfl, Nat.le_of_ble_eq_true rfl⟩) hP (pre_recv hK hP (ci := 6) (q0 := 10) rfl rfl) rfl rfl hl (Nat.le_of_ble_eq_true rfl) dX6_takeKind_25 ⟨Nat.zero_le _, Nat.zero_le _⟩ hS (fun _ h => h) (fun r25 u25 H locs hp25 hP hS _ _ => ?_)
      obtain ⟨rfl, rfl⟩ := hp25
      refine xb_eq (tgt := 35) hx hb dX6_takeKind_28 (by decide) (fun c28 => ?_) (fun c28 => ?_)
      · rw [cif_f c28] at hP
        refine lv_iconst (v := (-1)) hx hb dX6_takeKind_35 rfl ?_
        exact ret H locs 36 ls (-1) X dX6_takeKind_36 (by rw [cif_f c6, cif_f c6, cif_f c17, cif_f c17, cif_f c28, cif_f c28]; exact ⟨rfl, rfl⟩) hP hS
      · rw [cif_t c28] at hP
        refine lv_iconst (v := nI 2) hx hb dX6_takeKind_31 rfl ?_
        refine lv_goto (tgt := 36) hx hb dX6_takeKind_32 (by decide) ?_
        exact ret H locs 36 ls (nI 2) (pg X 2 (nI (p0 + 1))) dX6_takeKind_36 (by rw [cif_f c6, cif_f c6, cif_f c17, cif_f c17, cif_t c28, cif_t c28]; exact ⟨rfl, rfl⟩) hP hS
    · rw [cif_t c17] at hP
      refine lv_iconst (v := nI 1) hx hb dX6_takeKind_20 rfl ?_
      exact ret H locs 21 ls (nI 1) (pg X 2 (nI (p0 + 1))) dX6_takeKind_21 (by rw [cif_f c6, cif_f c6, cif_t c17, cif_t c17]; exact ⟨rfl, rfl⟩) hP hS
  · rw [cif_t c6] at hP
    refine lv_iconst (v := nI 0) hx hb dX6_takeKind_9 rfl ?_
    exact ret H locs 10 ls (nI 0) (pg X 2 (nI (p0 + 1))) dX6_takeKind_10 ⟨(cif_t c6).symm, (cif_t c6).symm⟩ hP hS

abbrev rmX6_takeLetter : Room := { frames := 2, cells := 0, slots := 0, locals := 41 }
set_option maxRecDepth 100000 in
set_option maxHeartbeats 4000000 in
theorem c_X6_takeLetter (l : Launch) (D : va_G) (y : Nat → ClassId) (a : Nat → Nat) (hA : CA a 44) (P X : PT) (row : Value) (k i n p0 hs ts : Nat) (hk : k < 4) (hin : i + n ≤ 100) (hx2 : X.1 2 = nI p0) (hx5 : X.1 5 = nI i) (hx6 : X.1 6 = nI n) (hpn : p0 ≤ n) (hx3 : X.1 3 = nI hs) (hx4 : X.1 4 = nI ts) (hs8 : hs ≤ 8) (ts8 : ts ≤ 8) : CtI l D y yX6_takeLetter wsX6_takeLetter rmX6_takeLetter [.ref (a 10)] (wC y a P X (.ref (a (2 + k)))) (fun r (X' : PT) => r = cif (kdc (tf P k i) n p0 hs ts < 4) (nI (kdc (tf P k i) n p0 hs ts)) (-1) ∧ X' = cif (kdc (tf P k i) n p0 hs ts = 3) (pg (pg X 2 (nI (p0 + 1))) 4 (nI (ts + 1))) (cif (kdc (tf P k i) n p0 hs ts < 4) (pg (pg X 2 (nI (p0 + 1))) 3 (nI (hs + 1))) X)) (fun X' => wC y a P X' (.ref (a (2 + k)))) (AC a) := by
  refine mkI (cc := cX6_takeLetter) (maxL := 2) (ret := some .int) RX6 rfl (by decide) rfl (Or.inl rfl) (Nat.le_of_ble_eq_true rfl) ?_
  intro p e s m args below meth c Q FX hK hP ret ls hl
  obtain ⟨hx, hb, hml, hown, hts⟩ := id FX
  have hS : va_S (AC a) s.heap s.heap [] := va_S.rf
  have in4 : ∀ w ∈ wsX40, w ∈ wsX6_takeLetter := fun _ h => List.mem_cons_of_mem _ (List.mem_append_right _ (h))
  have in6 : ∀ w ∈ wsX60, w ∈ wsX6_takeLetter := fun _ h => List.mem_cons_of_mem _ (List.mem_append_left _ (List.mem_append_right _ (h)))
  have hl : lv_has ls 2 [(0, .ref (a 10))] := hl
  refine lv_aload_n hx hb dX6_takeLetter_0 rfl (lv_at hl 0 rfl) ?_
  refine cg6_7 FX hK in6 hP (List.mem_of_getElem? (i := 1) rfl) dX6_takeLetter_1 ?_
  refine xn_to hx (z := nI ts) hx4 ?_
  refine lv_bipush (v := nI 8) hx hb dX6_takeLetter_4 rfl ?_
  refine xn_icmp_ge (tgt := 30) hx hb (by omega) (by omega) dX6_takeLetter_6 (by decide) (fun c6 => ?_) (fun c6 => ?_)
  · refine lv_aload_n hx hb dX6_takeLetter_30 rfl (lv_at hl 0 rfl) ?_
    refine cg6_6 FX hK in6 hP (List.mem_of_getElem? (i := 2) rfl) dX6_takeLetter_31 ?_
    refine xn_to hx (z := nI hs) hx3 ?_
    refine lv_bipush (v := nI 8) hx hb dX6_takeLetter_34 rfl ?_
    refine xn_icmp_ge (tgt := 46) hx hb (by omega) (by omega) dX6_takeLetter_36 (by decide) (fun c36 => ?_) (fun c36 => ?_)
    · refine lv_iconst (v := (-1)) hx hb dX6_takeLetter_46 rfl ?_
      refine lv_istore_n (lv' := [(1, .int (-1)), (0, .ref (a 10))]) hx hb dX6_takeLetter_47 rfl hl (by decide) rfl (fun ls hl => ?_)
      refine lv_iload_n hx hb dX6_takeLetter_48 rfl (lv_at hl 0 rfl) ?_
      refine lv_iconst (v := (-1)) hx hb dX6_takeLetter_49 rfl ?_
      refine lv_icmp_eq (tgt := 63) hx hb dX6_takeLetter_50 (by decide) (fun c50 => ?_) (fun c50 => ?_)
      · refine lv_iload_n hx hb dX6_takeLetter_63 rfl (lv_at hl 0 rfl) ?_
        exact ret s.heap [] 64 ls (-1) X dX6_takeLetter_64 (by rw [kdc_4 (by first | exact (fun z => c15 z.2) | exact (fun z => absurd z.1 (by omega))) (fun z => by first | exact e104 | exact absurd z (by omega)) (fun z => by first | exact e99 | exact absurd z (by omega)) (fun z => by first | exact e114 | exact absurd z (by omega)), cif_f (show ¬ (4 : Nat) < 4 by decide), cif_f (show ¬ (4 : Nat) = 3 by decide), cif_f (show ¬ (4 : Nat) < 4 by decide)]; exact ⟨rfl, rfl⟩) hP hS
      · exact absurd rfl c50
    · refine lv_aload_n hx hb dX6_takeLetter_39 rfl (lv_at hl 0 rfl) ?_
      refine cViI [] [] FX hK (c_X6_takeKind l D y a hA P X .null k i n p0 hk hin hx2 hx5 hx6 hpn) (cwV 0 hts gX6_takeLetter_X6_takeKind rfl rfl rfl (by decide +kernel) ⟨Nat.le_of_ble_eq_true rfl, Nat.le_of_ble_eq_true rfl⟩) hP (pre_recv hK hP (ci := 6) (q0 := 10) rfl rfl) rfl rfl hl (Nat.le_of_ble_eq_true rfl) dX6_takeLetter_40 ⟨Nat.zero_le _, Nat.zero_le _⟩ hS (fun _ h => h) (fun r40 u40 H locs hp40 hP hS _ _ => ?_)
      obtain ⟨rfl, rfl⟩ := hp40
      by_cases e104 : chr (tf P k i) n p0 104
      · rw [cif_t e104] at hP
        refine xn_to hx (z := nI 0) (by rw [cif_t e104]) ?_
        refine lv_goto (tgt := 47) hx hb dX6_takeLetter_43 (by decide) ?_
        refine lv_istore_n (lv' := [(1, .int (nI 0)), (0, .ref (a 10))]) hx hb dX6_takeLetter_47 rfl hl (by decide) rfl (fun ls hl => ?_)
        refine lv_iload_n hx hb dX6_takeLetter_48 rfl (lv_at hl 0 rfl) ?_
        refine lv_iconst (v := (-1)) hx hb dX6_takeLetter_49 rfl ?_
        refine lv_icmp_eq (tgt := 63) hx hb dX6_takeLetter_50 (by decide) (fun c50 => ?_) (fun c50 => ?_)
        · exact absurd c50 (by decide)
        · refine lv_aload_n hx hb dX6_takeLetter_53 rfl (lv_at hl 1 rfl) ?_
          refine lv_dup hx hb dX6_takeLetter_54 rfl ?_
          refine cg6_6 FX hK in6 hP (List.mem_of_getElem? (i := 2) rfl) dX6_takeLetter_55 ?_
          refine xn_to hx (z := nI hs) hx3 ?_
          refine lv_iconst (v := nI 1) hx hb dX6_takeLetter_58 rfl ?_
          refine xn_iadd (a := hs) (b := 1) hx hb dX6_takeLetter_59 ?_
          refine cp6_6 FX hK in6 hP hA hS (List.mem_of_getElem? (i := 2) rfl) dX6_takeLetter_60 (fun H locs hP hS => ?_)
          refine lv_iload_n hx hb dX6_takeLetter_63 rfl (lv_at hl 0 rfl) ?_
          exact ret H locs 64 ls (nI 0) (pg (pg X 2 (nI (p0 + 1))) 3 (nI (hs + 1))) dX6_takeLetter_64 (by rw [kdc_0 (by first | exact (fun z => c15 z.2) | exact (fun z => absurd z.1 (by omega))) c36 e104, cif_t (show (0 : Nat) < 4 by decide), cif_f (show ¬ (0 : Nat) = 3 by decide), cif_t (show (0 : Nat) < 4 by decide)]; exact ⟨rfl, rfl⟩) hP hS
      · by_cases e99 : chr (tf P k i) n p0 99
        · rw [cif_f e104, cif_t e99] at hP
          refine xn_to hx (z := nI 1) (by rw [cif_f e104, cif_t e99]) ?_
          refine lv_goto (tgt := 47) hx hb dX6_takeLetter_43 (by decide) ?_
          refine lv_istore_n (lv' := [(1, .int (nI 1)), (0, .ref (a 10))]) hx hb dX6_takeLetter_47 rfl hl (by decide) rfl (fun ls hl => ?_)
          refine lv_iload_n hx hb dX6_takeLetter_48 rfl (lv_at hl 0 rfl) ?_
          refine lv_iconst (v := (-1)) hx hb dX6_takeLetter_49 rfl ?_
          refine lv_icmp_eq (tgt := 63) hx hb dX6_takeLetter_50 (by decide) (fun c50 => ?_) (fun c50 => ?_)
          · exact absurd c50 (by decide)
          · refine lv_aload_n hx hb dX6_takeLetter_53 rfl (lv_at hl 1 rfl) ?_
            refine lv_dup hx hb dX6_takeLetter_54 rfl ?_
            refine cg6_6 FX hK in6 hP (List.mem_of_getElem? (i := 2) rfl) dX6_takeLetter_55 ?_
            refine xn_to hx (z := nI hs) hx3 ?_
            refine lv_iconst (v := nI 1) hx hb dX6_takeLetter_58 rfl ?_
            refine xn_iadd (a := hs) (b := 1) hx hb dX6_takeLetter_59 ?_
            refine cp6_6 FX hK in6 hP hA hS (List.mem_of_getElem? (i := 2) rfl) dX6_takeLetter_60 (fun H locs hP hS => ?_)
            refine lv_iload_n hx hb dX6_takeLetter_63 rfl (lv_at hl 0 rfl) ?_
            exact ret H locs 64 ls (nI 1) (pg (pg X 2 (nI (p0 + 1))) 3 (nI (hs + 1))) dX6_takeLetter_64 (by rw [kdc_1 (by first | exact (fun z => c15 z.2) | exact (fun z => absurd z.1 (by omega))) c36 e104 e99, cif_t (show (1 : Nat) < 4 by decide), cif_f (show ¬ (1 : Nat) = 3 by decide), cif_t (show (1 : Nat) < 4 by decide)]; exact ⟨rfl, rfl⟩) hP hS
        · by_cases e114 : chr (tf P k i) n p0 114
          · rw [cif_f e104, cif_f e99, cif_t e114] at hP
            refine xn_to hx (z := nI 2) (by rw [cif_f e104, cif_f e99, cif_t e114]) ?_
            refine lv_goto (tgt := 47) hx hb dX6_takeLetter_43 (by decide) ?_
            refine lv_istore_n (lv' := [(1, .int (nI 2)), (0, .ref (a 10))]) hx hb dX6_takeLetter_47 rfl hl (by decide) rfl (fun ls hl => ?_)
            refine lv_iload_n hx hb dX6_takeLetter_48 rfl (lv_at hl 0 rfl) ?_
            refine lv_iconst (v := (-1)) hx hb dX6_takeLetter_49 rfl ?_
            refine lv_icmp_eq (tgt := 63) hx hb dX6_takeLetter_50 (by decide) (fun c50 => ?_) (fun c50 => ?_)
            · exact absurd c50 (by decide)
            · refine lv_aload_n hx hb dX6_takeLetter_53 rfl (lv_at hl 1 rfl) ?_
              refine lv_dup hx hb dX6_takeLetter_54 rfl ?_
              refine cg6_6 FX hK in6 hP (List.mem_of_getElem? (i := 2) rfl) dX6_takeLetter_55 ?_
              refine xn_to hx (z := nI hs) hx3 ?_
              refine lv_iconst (v := nI 1) hx hb dX6_takeLetter_58 rfl ?_
              refine xn_iadd (a := hs) (b := 1) hx hb dX6_takeLetter_59 ?_
              refine cp6_6 FX hK in6 hP hA hS (List.mem_of_getElem? (i := 2) rfl) dX6_takeLetter_60 (fun H locs hP hS => ?_)
              refine lv_iload_n hx hb dX6_takeLetter_63 rfl (lv_at hl 0 rfl) ?_
              exact ret H locs 64 ls (nI 2) (pg (pg X 2 (nI (p0 + 1))) 3 (nI (hs + 1))) dX6_takeLetter_64 (by rw [kdc_2 (by first | exact (fun z => c15 z.2) | exact (fun z => absurd z.1 (by omega))) c36 e104 e99 e114, cif_t (show (2 : Nat) < 4 by decide), cif_f (show ¬ (2 : Nat) = 3 by decide), cif_t (show (2 : Nat) < 4 by decide)]; exact ⟨rfl, rfl⟩) hP hS
          · rw [cif_f e104, cif_f e99, cif_f e114] at hP
            refine xn_to hx (z := (-1)) (by rw [cif_f e104, cif_f e99, cif_f e114]) ?_
            refine lv_goto (tgt := 47) hx hb dX6_takeLetter_43 (by decide) ?_
            refine lv_istore_n (lv' := [(1, .int (-1)), (0, .ref (a 10))]) hx hb dX6_takeLetter_47 rfl hl (by decide) rfl (fun ls hl => ?_)
            refine lv_iload_n hx hb dX6_takeLetter_48 rfl (lv_at hl 0 rfl) ?_
            refine lv_iconst (v := (-1)) hx hb dX6_takeLetter_49 rfl ?_
            refine lv_icmp_eq (tgt := 63) hx hb dX6_takeLetter_50 (by decide) (fun c50 => ?_) (fun c50 => ?_)
            · refine lv_iload_n hx hb dX6_takeLetter_63 rfl (lv_at hl 0 rfl) ?_
              exact ret H locs 64 ls (-1) X dX6_takeLetter_64 (by rw [kdc_4 (by first | exact (fun z => c15 z.2) | exact (fun z => absurd z.1 (by omega))) (fun z => by first | exact e104 | exact absurd z (by omega)) (fun z => by first | exact e99 | exact absurd z (by omega)) (fun z => by first | exact e114 | exact absurd z (by omega)), cif_f (show ¬ (4 : Nat) < 4 by decide), cif_f (show ¬ (4 : Nat) = 3 by decide), cif_f (show ¬ (4 : Nat) < 4 by decide)]; exact ⟨rfl, rfl⟩) hP hS
            · exact absurd rfl c50
  · refine lv_aload_n hx hb dX6_takeLetter_9 rfl (lv_at hl 0 rfl) ?_
    refine lv_bipush (v := nI 116) hx hb dX6_takeLetter_10 rfl ?_
    refine cViI [.int (nI 116)] [] FX hK (c_X6_take l D y a hA P X .null k i n p0 116 hk hin hx2 hx5 hx6 hpn (by decide)) (cwV 1 hts gX6_takeLetter_X6_take rfl rfl rfl (by decide +kernel) ⟨Nat.le_of_ble_eq_true rfl, Nat.le_of_ble_eq_true rfl⟩) hP (pre_recv hK hP (ci := 6) (q0 := 10) rfl rfl) rfl rfl hl (Nat.le_of_ble_eq_true rfl) dX6_takeLetter_12 ⟨Nat.zero_le _, Nat.zero_le _⟩ hS (fun _ h => h) (fun r12 u12 H locs hp12 hP hS _ _ => ?_)
    obtain ⟨rfl, rfl⟩ := hp12
    refine xb_eq (tgt := 30) hx hb dX6_takeLetter_15 (by decide) (fun c15 => ?_) (fun c15 => ?_)
    · rw [cif_f c15] at hP
      refine lv_aload_n hx hb dX6_takeLetter_30 rfl (lv_at hl 0 rfl) ?_
      refine cg6_6 FX hK in6 hP (List.mem_of_getElem? (i := 2) rfl) dX6_takeLetter_31 ?_
      refine xn_to hx (z := nI hs) hx3 ?_
      refine lv_bipush (v := nI 8) hx hb dX6_takeLetter_34 rfl ?_
      refine xn_icmp_ge (tgt := 46) hx hb (by omega) (by omega) dX6_takeLetter_36 (by decide) (fun c36 => ?_) (fun c36 => ?_)
      · refine lv_iconst (v := (-1)) hx hb dX6_takeLetter_46 rfl ?_
        refine lv_istore_n (lv' := [(1, .int (-1)), (0, .ref (a 10))]) hx hb dX6_takeLetter_47 rfl hl (by decide) rfl (fun ls hl => ?_)
        refine lv_iload_n hx hb dX6_takeLetter_48 rfl (lv_at hl 0 rfl) ?_
        refine lv_iconst (v := (-1)) hx hb dX6_takeLetter_49 rfl ?_
        refine lv_icmp_eq (tgt := 63) hx hb dX6_takeLetter_50 (by decide) (fun c50 => ?_) (fun c50 => ?_)
        · refine lv_iload_n hx hb dX6_takeLetter_63 rfl (lv_at hl 0 rfl) ?_
          exact ret H locs 64 ls (-1) X dX6_takeLetter_64 (by rw [kdc_4 (by first | exact (fun z => c15 z.2) | exact (fun z => absurd z.1 (by omega))) (fun z => by first | exact e104 | exact absurd z (by omega)) (fun z => by first | exact e99 | exact absurd z (by omega)) (fun z => by first | exact e114 | exact absurd z (by omega)), cif_f (show ¬ (4 : Nat) < 4 by decide), cif_f (show ¬ (4 : Nat) = 3 by decide), cif_f (show ¬ (4 : Nat) < 4 by decide)]; exact ⟨rfl, rfl⟩) hP hS
        · exact absurd rfl c50
      · refine lv_aload_n hx hb dX6_takeLetter_39 rfl (lv_at hl 0 rfl) ?_
        refine cViI [] [] FX hK (c_X6_takeKind l D y a hA P X .null k i n p0 hk hin hx2 hx5 hx6 hpn) (cwV 0 hts gX6_takeLetter_X6_takeKind rfl rfl rfl (by decide +kernel) ⟨Nat.le_of_ble_eq_true rfl, Nat.le_of_ble_eq_true rfl⟩) hP (pre_recv hK hP (ci := 6) (q0 := 10) rfl rfl) rfl rfl hl (Nat.le_of_ble_eq_true rfl) dX6_takeLetter_40 ⟨Nat.zero_le _, Nat.zero_le _⟩ hS (fun _ h => h) (fun r40 u40 H locs hp40 hP hS _ _ => ?_)
        obtain ⟨rfl, rfl⟩ := hp40
        by_cases e104 : chr (tf P k i) n p0 104
        · rw [cif_t e104] at hP
          refine xn_to hx (z := nI 0) (by rw [cif_t e104]) ?_
          refine lv_goto (tgt := 47) hx hb dX6_takeLetter_43 (by decide) ?_
          refine lv_istore_n (lv' := [(1, .int (nI 0)), (0, .ref (a 10))]) hx hb dX6_takeLetter_47 rfl hl (by decide) rfl (fun ls hl => ?_)
          refine lv_iload_n hx hb dX6_takeLetter_48 rfl (lv_at hl 0 rfl) ?_
          refine lv_iconst (v := (-1)) hx hb dX6_takeLetter_49 rfl ?_
          refine lv_icmp_eq (tgt := 63) hx hb dX6_takeLetter_50 (by decide) (fun c50 => ?_) (fun c50 => ?_)
          · exact absurd c50 (by decide)
          · refine lv_aload_n hx hb dX6_takeLetter_53 rfl (lv_at hl 1 rfl) ?_
            refine lv_dup hx hb dX6_takeLetter_54 rfl ?_
            refine cg6_6 FX hK in6 hP (List.mem_of_getElem? (i := 2) rfl) dX6_takeLetter_55 ?_
            refine xn_to hx (z := nI hs) hx3 ?_
            refine lv_iconst (v := nI 1) hx hb dX6_takeLetter_58 rfl ?_
            refine xn_iadd (a := hs) (b := 1) hx hb dX6_takeLetter_59 ?_
            refine cp6_6 FX hK in6 hP hA hS (List.mem_of_getElem? (i := 2) rfl) dX6_takeLetter_60 (fun H locs hP hS => ?_)
            refine lv_iload_n hx hb dX6_takeLetter_63 rfl (lv_at hl 0 rfl) ?_
            exact ret H locs 64 ls (nI 0) (pg (pg X 2 (nI (p0 + 1))) 3 (nI (hs + 1))) dX6_takeLetter_64 (by rw [kdc_0 (by first | exact (fun z => c15 z.2) | exact (fun z => absurd z.1 (by omega))) c36 e104, cif_t (show (0 : Nat) < 4 by decide), cif_f (show ¬ (0 : Nat) = 3 by decide), cif_t (show (0 : Nat) < 4 by decide)]; exact ⟨rfl, rfl⟩) hP hS
        · by_cases e99 : chr (tf P k i) n p0 99
          · rw [cif_f e104, cif_t e99] at hP
            refine xn_to hx (z := nI 1) (by rw [cif_f e104, cif_t e99]) ?_
            refine lv_goto (tgt := 47) hx hb dX6_takeLetter_43 (by decide) ?_
            refine lv_istore_n (lv' := [(1, .int (nI 1)), (0, .ref (a 10))]) hx hb dX6_takeLetter_47 rfl hl (by decide) rfl (fun ls hl => ?_)
            refine lv_iload_n hx hb dX6_takeLetter_48 rfl (lv_at hl 0 rfl) ?_
            refine lv_iconst (v := (-1)) hx hb dX6_takeLetter_49 rfl ?_
            refine lv_icmp_eq (tgt := 63) hx hb dX6_takeLetter_50 (by decide) (fun c50 => ?_) (fun c50 => ?_)
            · exact absurd c50 (by decide)
            · refine lv_aload_n hx hb dX6_takeLetter_53 rfl (lv_at hl 1 rfl) ?_
              refine lv_dup hx hb dX6_takeLetter_54 rfl ?_
              refine cg6_6 FX hK in6 hP (List.mem_of_getElem? (i := 2) rfl) dX6_takeLetter_55 ?_
              refine xn_to hx (z := nI hs) hx3 ?_
              refine lv_iconst (v := nI 1) hx hb dX6_takeLetter_58 rfl ?_
              refine xn_iadd (a := hs) (b := 1) hx hb dX6_takeLetter_59 ?_
              refine cp6_6 FX hK in6 hP hA hS (List.mem_of_getElem? (i := 2) rfl) dX6_takeLetter_60 (fun H locs hP hS => ?_)
              refine lv_iload_n hx hb dX6_takeLetter_63 rfl (lv_at hl 0 rfl) ?_
              exact ret H locs 64 ls (nI 1) (pg (pg X 2 (nI (p0 + 1))) 3 (nI (hs + 1))) dX6_takeLetter_64 (by rw [kdc_1 (by first | exact (fun z => c15 z.2) | exact (fun z => absurd z.1 (by omega))) c36 e104 e99, cif_t (show (1 : Nat) < 4 by decide), cif_f (show ¬ (1 : Nat) = 3 by decide), cif_t (show (1 : Nat) < 4 by decide)]; exact ⟨rfl, rfl⟩) hP hS
          · by_cases e114 : chr (tf P k i) n p0 114
            · rw [cif_f e104, cif_f e99, cif_t e114] at hP
              refine xn_to hx (z := nI 2) (by rw [cif_f e104, cif_f e99, cif_t e114]) ?_
              refine lv_goto (tgt := 47) hx hb dX6_takeLetter_43 (by decide) ?_
              refine lv_istore_n (lv' := [(1, .int (nI 2)), (0, .ref (a 10))]) hx hb dX6_takeLetter_47 rfl hl (by decide) rfl (fun ls hl => ?_)
              refine lv_iload_n hx hb dX6_takeLetter_48 rfl (lv_at hl 0 rfl) ?_
              refine lv_iconst (v := (-1)) hx hb dX6_takeLetter_49 rfl ?_
              refine lv_icmp_eq (tgt := 63) hx hb dX6_takeLetter_50 (by decide) (fun c50 => ?_) (fun c50 => ?_)
              · exact absurd c50 (by decide)
              · refine lv_aload_n hx hb dX6_takeLetter_53 rfl (lv_at hl 1 rfl) ?_
                refine lv_dup hx hb dX6_takeLetter_54 rfl ?_
                refine cg6_6 FX hK in6 hP (List.mem_of_getElem? (i := 2) rfl) dX6_takeLetter_55 ?_
                refine xn_to hx (z := nI hs) hx3 ?_
                refine lv_iconst (v := nI 1) hx hb dX6_takeLetter_58 rfl ?_
                refine xn_iadd (a := hs) (b := 1) hx hb dX6_takeLetter_59 ?_
                refine cp6_6 FX hK in6 hP hA hS (List.mem_of_getElem? (i := 2) rfl) dX6_takeLetter_60 (fun H locs hP hS => ?_)
                refine lv_iload_n hx hb dX6_takeLetter_63 rfl (lv_at hl 0 rfl) ?_
                exact ret H locs 64 ls (nI 2) (pg (pg X 2 (nI (p0 + 1))) 3 (nI (hs + 1))) dX6_takeLetter_64 (by rw [kdc_2 (by first | exact (fun z => c15 z.2) | exact (fun z => absurd z.1 (by omega))) c36 e104 e99 e114, cif_t (show (2 : Nat) < 4 by decide), cif_f (show ¬ (2 : Nat) = 3 by decide), cif_t (show (2 : Nat) < 4 by decide)]; exact ⟨rfl, rfl⟩) hP hS
            · rw [cif_f e104, cif_f e99, cif_f e114] at hP
              refine xn_to hx (z := (-1)) (by rw [cif_f e104, cif_f e99, cif_f e114]) ?_
              refine lv_goto (tgt := 47) hx hb dX6_takeLetter_43 (by decide) ?_
              refine lv_istore_n (lv' := [(1, .int (-1)), (0, .ref (a 10))]) hx hb dX6_takeLetter_47 rfl hl (by decide) rfl (fun ls hl => ?_)
              refine lv_iload_n hx hb dX6_takeLetter_48 rfl (lv_at hl 0 rfl) ?_
              refine lv_iconst (v := (-1)) hx hb dX6_takeLetter_49 rfl ?_
              refine lv_icmp_eq (tgt := 63) hx hb dX6_takeLetter_50 (by decide) (fun c50 => ?_) (fun c50 => ?_)
              · refine lv_iload_n hx hb dX6_takeLetter_63 rfl (lv_at hl 0 rfl) ?_
                exact ret H locs 64 ls (-1) X dX6_takeLetter_64 (by rw [kdc_4 (by first | exact (fun z => c15 z.2) | exact (fun z => absurd z.1 (by omega))) (fun z => by first | exact e104 | exact absurd z (by omega)) (fun z => by first | exact e99 | exact absurd z (by omega)) (fun z => by first | exact e114 | exact absurd z (by omega)), cif_f (show ¬ (4 : Nat) < 4 by decide), cif_f (show ¬ (4 : Nat) = 3 by decide), cif_f (show ¬ (4 : Nat) < 4 by decide)]; exact ⟨rfl, rfl⟩) hP hS
              · exact absurd rfl c50
    · rw [cif_t c15] at hP
      refine lv_aload_n hx hb dX6_takeLetter_18 rfl (lv_at hl 0 rfl) ?_
      refine lv_dup hx hb dX6_takeLetter_19 rfl ?_
      refine cg6_7 FX hK in6 hP (List.mem_of_getElem? (i := 1) rfl) dX6_takeLetter_20 ?_
      refine xn_to hx (z := nI ts) hx4 ?_
      refine lv_iconst (v := nI 1) hx hb dX6_takeLetter_23 rfl ?_
      refine xn_iadd (a := ts) (b := 1) hx hb dX6_takeLetter_24 ?_
      refine cp6_7 FX hK in6 hP hA hS (List.mem_of_getElem? (i := 1) rfl) dX6_takeLetter_25 (fun H locs hP hS => ?_)
      refine lv_iconst (v := nI 3) hx hb dX6_takeLetter_28 rfl ?_
      exact ret H locs 29 ls (nI 3) (pg (pg X 2 (nI (p0 + 1))) 4 (nI (ts + 1))) dX6_takeLetter_29 (by rw [kdc_3 ⟨c6, c15⟩, cif_t (show (3 : Nat) < 4 by decide), cif_t (show (3 : Nat) = 3 from rfl)]; exact ⟨rfl, rfl⟩) hP hS

theorem pa_get (P : PT) (k i : Nat) (v : Int32) : (pa P k i v).2 k i = v := by rw [pa_val, if_pos ⟨rfl, rfl⟩]

abbrev rmX6_takeCell : Room := { frames := 3, cells := 0, slots := 0, locals := 62 }
set_option maxRecDepth 100000 in
set_option maxHeartbeats 4000000 in
theorem c_X6_takeCell (l : Launch) (D : va_G) (y : Nat → ClassId) (a : Nat → Nat) (hA : CA a 44) (P X : PT) (row : Value) (k i n p0 hs ts c0 : Nat) (hk : k < 4) (hin : i + n ≤ 100) (hx2 : X.1 2 = nI p0) (hx5 : X.1 5 = nI i) (hx6 : X.1 6 = nI n) (hpn : p0 ≤ n) (hx3 : X.1 3 = nI hs) (hx4 : X.1 4 = nI ts) (hs8 : hs ≤ 8) (ts8 : ts ≤ 8) (hc30 : c0 < 30) : CtI l D y yX6_takeCell wsX6_takeCell rmX6_takeCell [.ref (a 10), .int (nI c0)] (wC y a P X (.ref (a (2 + k)))) (fun r (X' : PT) => r = b2 (cOK (tf P k i) n p0 hs ts) ∧ (cOK (tf P k i) n p0 hs ts → TC X X' (tf P k i) n p0 hs ts c0) ∧ (¬ cOK (tf P k i) n p0 hs ts → X'.1 2 = nI (cFP (tf P k i) n p0 hs ts))) (fun X' => wC y a P X' (.ref (a (2 + k)))) (AC a) := by
  refine mkI (cc := cX6_takeCell) (maxL := 2) (ret := some .boolean) RX6 rfl (by decide) rfl (Or.inr ⟨rfl, fun r u h => by rw [h.1]; exact b2_01 _⟩) (Nat.le_of_ble_eq_true rfl) ?_
  intro p e s m args below meth c Q FX hK hP ret ls hl
  obtain ⟨hx, hb, hml, hown, hts⟩ := id FX
  have hS : va_S (AC a) s.heap s.heap [] := va_S.rf
  have in4 : ∀ w ∈ wsX40, w ∈ wsX6_takeCell := fun _ h => List.mem_cons_of_mem _ (List.mem_append_right _ (h))
  have in6 : ∀ w ∈ wsX60, w ∈ wsX6_takeCell := fun _ h => List.mem_cons_of_mem _ (List.mem_append_left _ (List.mem_append_right _ (h)))
  have hl : lv_has ls 2 [(0, .ref (a 10)), (1, .int (nI c0))] := hl
  refine lv_aload_n hx hb dX6_takeCell_0 rfl (lv_at hl 0 rfl) ?_
  refine cg6_0 FX hK in6 hP (List.mem_of_getElem? (i := 1) rfl) dX6_takeCell_1 ?_
  refine lv_iload_n hx hb dX6_takeCell_4 rfl (lv_at hl 1 rfl) ?_
  refine lv_aload_n hx hb dX6_takeCell_5 rfl (lv_at hl 0 rfl) ?_
  refine lv_iconst (v := nI 0) hx hb dX6_takeCell_6 rfl ?_
  refine lv_bipush (v := nI 9) hx hb dX6_takeCell_7 rfl ?_
  refine cViI [.int (nI 0), .int (nI 9)] [.int (nI c0), .ref (a 11)] FX hK (c_X6_takeDigit l D y a hA P X .null k i n p0 0 9 hk hin hx2 hx5 hx6 hpn (by decide) (by decide)) (cwV 2 hts gX6_takeCell_X6_takeDigit rfl rfl rfl (by decide +kernel) ⟨Nat.le_of_ble_eq_true rfl, Nat.le_of_ble_eq_true rfl⟩) hP (pre_recv hK hP (ci := 6) (q0 := 10) rfl rfl) rfl rfl hl (Nat.le_of_ble_eq_true rfl) dX6_takeCell_9 ⟨Nat.zero_le _, Nat.zero_le _⟩ hS (fun _ h => h) (fun r9 u9 H locs hp9 hP hS _ _ => ?_)
  obtain ⟨rfl, rfl⟩ := hp9
  by_cases d12 : dgt (tf P k i) n p0 0 9
  · rw [cif_t d12] at hP
    refine xn_to hx (z := nI (dvl (tf P k i) p0)) (cif_t d12) ?_
    have bd12 := (dgt_v d12 (by decide)).2.1
    refine cs11 (i := c0) (by omega) FX hK hP hA hS dX6_takeCell_12 (fun H locs hP hS => ?_)
    refine lv_aload_n hx hb dX6_takeCell_13 rfl (lv_at hl 0 rfl) ?_
    refine cg6_0 FX hK in6 hP (List.mem_of_getElem? (i := 1) rfl) dX6_takeCell_14 ?_
    refine lv_iload_n hx hb dX6_takeCell_17 rfl (lv_at hl 1 rfl) ?_
    refine ca11 (i := c0) (by omega) FX hK hP dX6_takeCell_18 ?_
    refine xn_to hx (z := nI (dvl (tf P k i) p0)) (pa_get _ _ _ _) ?_
    refine lv_iconst (v := (-1)) hx hb dX6_takeCell_19 rfl ?_
    refine lv_icmp_ne (tgt := 25) hx hb dX6_takeCell_20 (by decide) (fun c20 => ?_) (fun c20 => ?_)
    · refine lv_aload_n hx hb dX6_takeCell_25 rfl (lv_at hl 0 rfl) ?_
      refine cg6_1 FX hK in6 hP (List.mem_of_getElem? (i := 2) rfl) dX6_takeCell_26 ?_
      refine lv_iload_n hx hb dX6_takeCell_29 rfl (lv_at hl 1 rfl) ?_
      refine lv_iconst (v := (-1)) hx hb dX6_takeCell_30 rfl ?_
      refine cs12 (i := c0) (by omega) FX hK hP hA hS dX6_takeCell_31 (fun H locs hP hS => ?_)
      refine lv_aload_n hx hb dX6_takeCell_32 rfl (lv_at hl 0 rfl) ?_
      refine lv_bipush (v := nI 46) hx hb dX6_takeCell_33 rfl ?_
      refine cViI [.int (nI 46)] [] FX hK (c_X6_take l D y a hA P (pa (pa (pg X 2 (nI (p0 + 1))) 0 c0 (nI (dvl (tf P k i) p0))) 1 c0 (-1)) .null k i n (p0 + 1) 46 hk hin rfl hx5 hx6 (show p0 + 1 ≤ n from d12.1) (by decide)) (cwV 1 hts gX6_takeCell_X6_take rfl rfl rfl (by decide +kernel) ⟨Nat.le_of_ble_eq_true rfl, Nat.le_of_ble_eq_true rfl⟩) hP (pre_recv hK hP (ci := 6) (q0 := 10) rfl rfl) rfl rfl hl (Nat.le_of_ble_eq_true rfl) dX6_takeCell_35 ⟨Nat.zero_le _, Nat.zero_le _⟩ hS (fun _ h => h) (fun r35 u35 H locs hp35 hP hS _ _ => ?_)
      obtain ⟨rfl, rfl⟩ := hp35
      refine xb_eq (tgt := 43) hx hb dX6_takeCell_38 (by decide) (fun c38 => ?_) (fun c38 => ?_)
      · rw [cif_f c38] at hP
        refine lv_aload_n hx hb dX6_takeCell_43 rfl (lv_at hl 0 rfl) ?_
        refine cg6_1 FX hK in6 hP (List.mem_of_getElem? (i := 2) rfl) dX6_takeCell_44 ?_
        refine lv_iload_n hx hb dX6_takeCell_47 rfl (lv_at hl 1 rfl) ?_
        refine lv_aload_n hx hb dX6_takeCell_48 rfl (lv_at hl 0 rfl) ?_
        refine cViI [] [.int (nI c0), .ref (a 12)] FX hK (c_X6_takeLetter l D y a hA P (pa (pa (pg X 2 (nI (p0 + 1))) 0 c0 (nI (dvl (tf P k i) p0))) 1 c0 (-1)) .null k i n (p0 + 1) hs ts hk hin rfl hx5 hx6 (show p0 + 1 ≤ n from d12.1) hx3 hx4 hs8 ts8) (cwV 0 hts gX6_takeCell_X6_takeLetter rfl rfl rfl (by decide +kernel) ⟨Nat.le_of_ble_eq_true rfl, Nat.le_of_ble_eq_true rfl⟩) hP (pre_recv hK hP (ci := 6) (q0 := 10) rfl rfl) rfl rfl hl (Nat.le_of_ble_eq_true rfl) dX6_takeCell_49 ⟨Nat.zero_le _, Nat.zero_le _⟩ hS (fun _ h => h) (fun r49 u49 H locs hp49 hP hS _ _ => ?_)
        obtain ⟨rfl, rfl⟩ := hp49
        by_cases k4 : kdc (tf P k i) n (p0 + 1) hs ts < 4
        · refine xn_to hx (z := nI (kdc (tf P k i) n (p0 + 1) hs ts)) (cif_t k4) ?_
          by_cases k3 : kdc (tf P k i) n (p0 + 1) hs ts = 3
          · rw [cif_t k3] at hP
            refine cs12 (i := c0) (by omega) FX hK hP hA hS dX6_takeCell_52 (fun H locs hP hS => ?_)
            refine lv_aload_n hx hb dX6_takeCell_53 rfl (lv_at hl 0 rfl) ?_
            refine cg6_1 FX hK in6 hP (List.mem_of_getElem? (i := 2) rfl) dX6_takeCell_54 ?_
            refine lv_iload_n hx hb dX6_takeCell_57 rfl (lv_at hl 1 rfl) ?_
            refine ca12 (i := c0) (by omega) FX hK hP dX6_takeCell_58 ?_
            refine xn_to hx (z := nI (kdc (tf P k i) n (p0 + 1) hs ts)) (pa_get _ _ _ _) ?_
            refine lv_iconst (v := (-1)) hx hb dX6_takeCell_59 rfl ?_
            refine lv_icmp_ne (tgt := 65) hx hb dX6_takeCell_60 (by decide) (fun c60 => ?_) (fun c60 => ?_)
            · refine lv_aload_n hx hb dX6_takeCell_65 rfl (lv_at hl 0 rfl) ?_
              refine cg6_2 FX hK in6 hP (List.mem_of_getElem? (i := 3) rfl) dX6_takeCell_66 ?_
              refine lv_iload_n hx hb dX6_takeCell_69 rfl (lv_at hl 1 rfl) ?_
              refine lv_aload_n hx hb dX6_takeCell_70 rfl (lv_at hl 0 rfl) ?_
              refine lv_iconst (v := nI 1) hx hb dX6_takeCell_71 rfl ?_
              refine lv_bipush (v := nI 9) hx hb dX6_takeCell_72 rfl ?_
              refine cViI [.int (nI 1), .int (nI 9)] [.int (nI c0), .ref (a 13)] FX hK (c_X6_takeDigit l D y a hA P (pa (pg (pg (pa (pa (pg X 2 (nI (p0 + 1))) 0 c0 (nI (dvl (tf P k i) p0))) 1 c0 (-1)) 2 (nI (p0 + 1 + 1))) 4 (nI (ts + 1))) 1 c0 (nI (kdc (tf P k i) n (p0 + 1) hs ts))) .null k i n (p0 + 1 + 1) 1 9 hk hin rfl hx5 hx6 (kdc_p k4) (by decide) (by decide)) (cwV 2 hts gX6_takeCell_X6_takeDigit rfl rfl rfl (by decide +kernel) ⟨Nat.le_of_ble_eq_true rfl, Nat.le_of_ble_eq_true rfl⟩) hP (pre_recv hK hP (ci := 6) (q0 := 10) rfl rfl) rfl rfl hl (Nat.le_of_ble_eq_true rfl) dX6_takeCell_74 ⟨Nat.zero_le _, Nat.zero_le _⟩ hS (fun _ h => h) (fun r74 u74 H locs hp74 hP hS _ _ => ?_)
              obtain ⟨rfl, rfl⟩ := hp74
              by_cases d77 : dgt (tf P k i) n (p0 + 1 + 1) 1 9
              · rw [cif_t d77] at hP
                refine xn_to hx (z := nI (dvl (tf P k i) (p0 + 1 + 1))) (cif_t d77) ?_
                have bd77 := (dgt_v d77 (by decide)).2.1
                refine cs13 (i := c0) (by omega) FX hK hP hA hS dX6_takeCell_77 (fun H locs hP hS => ?_)
                refine lv_aload_n hx hb dX6_takeCell_78 rfl (lv_at hl 0 rfl) ?_
                refine cg6_2 FX hK in6 hP (List.mem_of_getElem? (i := 3) rfl) dX6_takeCell_79 ?_
                refine lv_iload_n hx hb dX6_takeCell_82 rfl (lv_at hl 1 rfl) ?_
                refine ca13 (i := c0) (by omega) FX hK hP dX6_takeCell_83 ?_
                refine xn_to hx (z := nI (dvl (tf P k i) (p0 + 1 + 1))) (pa_get _ _ _ _) ?_
                refine lv_iconst (v := (-1)) hx hb dX6_takeCell_84 rfl ?_
                refine lv_icmp_eq (tgt := 92) hx hb dX6_takeCell_85 (by decide) (fun c85 => ?_) (fun c85 => ?_)
                · exact absurd c85 (nI_m1 (by omega))
                · refine lv_iconst (v := nI 1) hx hb dX6_takeCell_88 rfl ?_
                  refine lv_goto (tgt := 93) hx hb dX6_takeCell_89 (by decide) ?_
                  exact ret H locs 93 ls (nI 1) (pa (pg (pa (pg (pg (pa (pa (pg X 2 (nI (p0 + 1))) 0 c0 (nI (dvl (tf P k i) p0))) 1 c0 (-1)) 2 (nI (p0 + 1 + 1))) 4 (nI (ts + 1))) 1 c0 (nI (kdc (tf P k i) n (p0 + 1) hs ts))) 2 (nI (p0 + 1 + 1 + 1))) 2 c0 (nI (dvl (tf P k i) (p0 + 1 + 1)))) dX6_takeCell_93 ⟨b2_1 ⟨d12, Or.inr ⟨k4, d77⟩⟩, fun _ => ⟨⟨by unfold cPl; rw [cif_f c38]; rfl, by unfold cHs; rw [cif_f c38, cif_t k3]; exact hx3, by unfold cTs; rw [cif_f c38, cif_t k3]; rfl⟩, (fun j g2 g3 g4 => by simp [pa_sc, pg_ar, pg_val, g2, g3, g4]), (fun j m g1 g2 => by simp [pa_sc, pg_ar, pa_val, g2]), (by simp [pa_sc, pg_ar, pa_val]), by rw [cif_f c38]; simp [pa_sc, pg_ar, pa_val], fun _ => by simp [pa_sc, pg_ar, pa_val]⟩, fun z => absurd ⟨d12, Or.inr ⟨k4, d77⟩⟩ z⟩ hP hS
              · rw [cif_f d77] at hP
                refine xn_to hx (z := (-1)) (cif_f d77) ?_
                refine cs13 (i := c0) (by omega) FX hK hP hA hS dX6_takeCell_77 (fun H locs hP hS => ?_)
                refine lv_aload_n hx hb dX6_takeCell_78 rfl (lv_at hl 0 rfl) ?_
                refine cg6_2 FX hK in6 hP (List.mem_of_getElem? (i := 3) rfl) dX6_takeCell_79 ?_
                refine lv_iload_n hx hb dX6_takeCell_82 rfl (lv_at hl 1 rfl) ?_
                refine ca13 (i := c0) (by omega) FX hK hP dX6_takeCell_83 ?_
                refine xn_to hx (z := (-1)) (pa_get _ _ _ _) ?_
                refine lv_iconst (v := (-1)) hx hb dX6_takeCell_84 rfl ?_
                refine lv_icmp_eq (tgt := 92) hx hb dX6_takeCell_85 (by decide) (fun c85 => ?_) (fun c85 => ?_)
                · refine lv_iconst (v := nI 0) hx hb dX6_takeCell_92 rfl ?_
                  exact ret H locs 93 ls (nI 0) (pa (pa (pg (pg (pa (pa (pg X 2 (nI (p0 + 1))) 0 c0 (nI (dvl (tf P k i) p0))) 1 c0 (-1)) 2 (nI (p0 + 1 + 1))) 4 (nI (ts + 1))) 1 c0 (nI (kdc (tf P k i) n (p0 + 1) hs ts))) 2 c0 (-1)) dX6_takeCell_93 ⟨b2_0 (fun z => z.2.elim c38 (fun y => d77 y.2)), fun z => absurd z (fun z => z.2.elim c38 (fun y => d77 y.2)), fun _ => (by unfold cFP; rw [cif_t d12, cif_t k4]; rfl)⟩ hP hS
                · exact absurd rfl c85
            · exact absurd c60 (nI_m1 (by omega))
          · rw [cif_f k3, cif_t k4] at hP
            refine cs12 (i := c0) (by omega) FX hK hP hA hS dX6_takeCell_52 (fun H locs hP hS => ?_)
            refine lv_aload_n hx hb dX6_takeCell_53 rfl (lv_at hl 0 rfl) ?_
            refine cg6_1 FX hK in6 hP (List.mem_of_getElem? (i := 2) rfl) dX6_takeCell_54 ?_
            refine lv_iload_n hx hb dX6_takeCell_57 rfl (lv_at hl 1 rfl) ?_
            refine ca12 (i := c0) (by omega) FX hK hP dX6_takeCell_58 ?_
            refine xn_to hx (z := nI (kdc (tf P k i) n (p0 + 1) hs ts)) (pa_get _ _ _ _) ?_
            refine lv_iconst (v := (-1)) hx hb dX6_takeCell_59 rfl ?_
            refine lv_icmp_ne (tgt := 65) hx hb dX6_takeCell_60 (by decide) (fun c60 => ?_) (fun c60 => ?_)
            · refine lv_aload_n hx hb dX6_takeCell_65 rfl (lv_at hl 0 rfl) ?_
              refine cg6_2 FX hK in6 hP (List.mem_of_getElem? (i := 3) rfl) dX6_takeCell_66 ?_
              refine lv_iload_n hx hb dX6_takeCell_69 rfl (lv_at hl 1 rfl) ?_
              refine lv_aload_n hx hb dX6_takeCell_70 rfl (lv_at hl 0 rfl) ?_
              refine lv_iconst (v := nI 1) hx hb dX6_takeCell_71 rfl ?_
              refine lv_bipush (v := nI 9) hx hb dX6_takeCell_72 rfl ?_
              refine cViI [.int (nI 1), .int (nI 9)] [.int (nI c0), .ref (a 13)] FX hK (c_X6_takeDigit l D y a hA P (pa (pg (pg (pa (pa (pg X 2 (nI (p0 + 1))) 0 c0 (nI (dvl (tf P k i) p0))) 1 c0 (-1)) 2 (nI (p0 + 1 + 1))) 3 (nI (hs + 1))) 1 c0 (nI (kdc (tf P k i) n (p0 + 1) hs ts))) .null k i n (p0 + 1 + 1) 1 9 hk hin rfl hx5 hx6 (kdc_p k4) (by decide) (by decide)) (cwV 2 hts gX6_takeCell_X6_takeDigit rfl rfl rfl (by decide +kernel) ⟨Nat.le_of_ble_eq_true rfl, Nat.le_of_ble_eq_true rfl⟩) hP (pre_recv hK hP (ci := 6) (q0 := 10) rfl rfl) rfl rfl hl (Nat.le_of_ble_eq_true rfl) dX6_takeCell_74 ⟨Nat.zero_le _, Nat.zero_le _⟩ hS (fun _ h => h) (fun r74 u74 H locs hp74 hP hS _ _ => ?_)
              obtain ⟨rfl, rfl⟩ := hp74
              by_cases d77 : dgt (tf P k i) n (p0 + 1 + 1) 1 9
              · rw [cif_t d77] at hP
                refine xn_to hx (z := nI (dvl (tf P k i) (p0 + 1 + 1))) (cif_t d77) ?_
                have bd77 := (dgt_v d77 (by decide)).2.1
                refine cs13 (i := c0) (by omega) FX hK hP hA hS dX6_takeCell_77 (fun H locs hP hS => ?_)
                refine lv_aload_n hx hb dX6_takeCell_78 rfl (lv_at hl 0 rfl) ?_
                refine cg6_2 FX hK in6 hP (List.mem_of_getElem? (i := 3) rfl) dX6_takeCell_79 ?_
                refine lv_iload_n hx hb dX6_takeCell_82 rfl (lv_at hl 1 rfl) ?_
                refine ca13 (i := c0) (by omega) FX hK hP dX6_takeCell_83 ?_
                refine xn_to hx (z := nI (dvl (tf P k i) (p0 + 1 + 1))) (pa_get _ _ _ _) ?_
                refine lv_iconst (v := (-1)) hx hb dX6_takeCell_84 rfl ?_
                refine lv_icmp_eq (tgt := 92) hx hb dX6_takeCell_85 (by decide) (fun c85 => ?_) (fun c85 => ?_)
                · exact absurd c85 (nI_m1 (by omega))
                · refine lv_iconst (v := nI 1) hx hb dX6_takeCell_88 rfl ?_
                  refine lv_goto (tgt := 93) hx hb dX6_takeCell_89 (by decide) ?_
                  exact ret H locs 93 ls (nI 1) (pa (pg (pa (pg (pg (pa (pa (pg X 2 (nI (p0 + 1))) 0 c0 (nI (dvl (tf P k i) p0))) 1 c0 (-1)) 2 (nI (p0 + 1 + 1))) 3 (nI (hs + 1))) 1 c0 (nI (kdc (tf P k i) n (p0 + 1) hs ts))) 2 (nI (p0 + 1 + 1 + 1))) 2 c0 (nI (dvl (tf P k i) (p0 + 1 + 1)))) dX6_takeCell_93 ⟨b2_1 ⟨d12, Or.inr ⟨k4, d77⟩⟩, fun _ => ⟨⟨by unfold cPl; rw [cif_f c38]; rfl, by unfold cHs; rw [cif_f c38, cif_f k3]; rfl, by unfold cTs; rw [cif_f c38, cif_f k3]; exact hx4⟩, (fun j g2 g3 g4 => by simp [pa_sc, pg_ar, pg_val, g2, g3, g4]), (fun j m g1 g2 => by simp [pa_sc, pg_ar, pa_val, g2]), (by simp [pa_sc, pg_ar, pa_val]), by rw [cif_f c38]; simp [pa_sc, pg_ar, pa_val], fun _ => by simp [pa_sc, pg_ar, pa_val]⟩, fun z => absurd ⟨d12, Or.inr ⟨k4, d77⟩⟩ z⟩ hP hS
              · rw [cif_f d77] at hP
                refine xn_to hx (z := (-1)) (cif_f d77) ?_
                refine cs13 (i := c0) (by omega) FX hK hP hA hS dX6_takeCell_77 (fun H locs hP hS => ?_)
                refine lv_aload_n hx hb dX6_takeCell_78 rfl (lv_at hl 0 rfl) ?_
                refine cg6_2 FX hK in6 hP (List.mem_of_getElem? (i := 3) rfl) dX6_takeCell_79 ?_
                refine lv_iload_n hx hb dX6_takeCell_82 rfl (lv_at hl 1 rfl) ?_
                refine ca13 (i := c0) (by omega) FX hK hP dX6_takeCell_83 ?_
                refine xn_to hx (z := (-1)) (pa_get _ _ _ _) ?_
                refine lv_iconst (v := (-1)) hx hb dX6_takeCell_84 rfl ?_
                refine lv_icmp_eq (tgt := 92) hx hb dX6_takeCell_85 (by decide) (fun c85 => ?_) (fun c85 => ?_)
                · refine lv_iconst (v := nI 0) hx hb dX6_takeCell_92 rfl ?_
                  exact ret H locs 93 ls (nI 0) (pa (pa (pg (pg (pa (pa (pg X 2 (nI (p0 + 1))) 0 c0 (nI (dvl (tf P k i) p0))) 1 c0 (-1)) 2 (nI (p0 + 1 + 1))) 3 (nI (hs + 1))) 1 c0 (nI (kdc (tf P k i) n (p0 + 1) hs ts))) 2 c0 (-1)) dX6_takeCell_93 ⟨b2_0 (fun z => z.2.elim c38 (fun y => d77 y.2)), fun z => absurd z (fun z => z.2.elim c38 (fun y => d77 y.2)), fun _ => (by unfold cFP; rw [cif_t d12, cif_t k4]; rfl)⟩ hP hS
                · exact absurd rfl c85
            · exact absurd c60 (nI_m1 (by omega))
        · rw [cif_f (fun z => k4 (by rw [z]; decide)), cif_f k4] at hP
          refine xn_to hx (z := (-1)) (cif_f k4) ?_
          refine cs12 (i := c0) (by omega) FX hK hP hA hS dX6_takeCell_52 (fun H locs hP hS => ?_)
          refine lv_aload_n hx hb dX6_takeCell_53 rfl (lv_at hl 0 rfl) ?_
          refine cg6_1 FX hK in6 hP (List.mem_of_getElem? (i := 2) rfl) dX6_takeCell_54 ?_
          refine lv_iload_n hx hb dX6_takeCell_57 rfl (lv_at hl 1 rfl) ?_
          refine ca12 (i := c0) (by omega) FX hK hP dX6_takeCell_58 ?_
          refine xn_to hx (z := (-1)) (pa_get _ _ _ _) ?_
          refine lv_iconst (v := (-1)) hx hb dX6_takeCell_59 rfl ?_
          refine lv_icmp_ne (tgt := 65) hx hb dX6_takeCell_60 (by decide) (fun c60 => ?_) (fun c60 => ?_)
          · exact absurd rfl c60
          · refine lv_iconst (v := nI 0) hx hb dX6_takeCell_63 rfl ?_
            exact ret H locs 64 ls (nI 0) (pa (pa (pa (pg X 2 (nI (p0 + 1))) 0 c0 (nI (dvl (tf P k i) p0))) 1 c0 (-1)) 1 c0 (-1)) dX6_takeCell_64 ⟨b2_0 (fun z => z.2.elim c38 (fun y => k4 y.1)), fun z => absurd z (fun z => z.2.elim c38 (fun y => k4 y.1)), fun _ => (by unfold cFP; rw [cif_t d12, cif_f k4]; rfl)⟩ hP hS
      · rw [cif_t c38] at hP
        refine lv_iconst (v := nI 1) hx hb dX6_takeCell_41 rfl ?_
        exact ret H locs 42 ls (nI 1) (pg (pa (pa (pg X 2 (nI (p0 + 1))) 0 c0 (nI (dvl (tf P k i) p0))) 1 c0 (-1)) 2 (nI (p0 + 1 + 1))) dX6_takeCell_42 ⟨b2_1 ⟨d12, Or.inl c38⟩, fun _ => ⟨⟨by unfold cPl; rw [cif_t c38]; rfl, by unfold cHs; rw [cif_t c38]; exact hx3, by unfold cTs; rw [cif_t c38]; exact hx4⟩, (fun j g2 g3 g4 => by simp [pa_sc, pg_ar, pg_val, g2, g3, g4]), (fun j m g1 g2 => by simp [pa_sc, pg_ar, pa_val, g2]), (by simp [pa_sc, pg_ar, pa_val]), by rw [cif_t c38]; simp [pa_sc, pg_ar, pa_val], fun z => absurd c38 z⟩, fun z => absurd ⟨d12, Or.inl c38⟩ z⟩ hP hS
    · exact absurd c20 (nI_m1 (by omega))
  · rw [cif_f d12] at hP
    refine xn_to hx (z := (-1)) (cif_f d12) ?_
    refine cs11 (i := c0) (by omega) FX hK hP hA hS dX6_takeCell_12 (fun H locs hP hS => ?_)
    refine lv_aload_n hx hb dX6_takeCell_13 rfl (lv_at hl 0 rfl) ?_
    refine cg6_0 FX hK in6 hP (List.mem_of_getElem? (i := 1) rfl) dX6_takeCell_14 ?_
    refine lv_iload_n hx hb dX6_takeCell_17 rfl (lv_at hl 1 rfl) ?_
    refine ca11 (i := c0) (by omega) FX hK hP dX6_takeCell_18 ?_
    refine xn_to hx (z := (-1)) (pa_get _ _ _ _) ?_
    refine lv_iconst (v := (-1)) hx hb dX6_takeCell_19 rfl ?_
    refine lv_icmp_ne (tgt := 25) hx hb dX6_takeCell_20 (by decide) (fun c20 => ?_) (fun c20 => ?_)
    · exact absurd rfl c20
    · refine lv_iconst (v := nI 0) hx hb dX6_takeCell_23 rfl ?_
      exact ret H locs 24 ls (nI 0) (pa X 0 c0 (-1)) dX6_takeCell_24 ⟨b2_0 (fun z => d12 z.1), fun z => absurd z (fun z => d12 z.1), fun _ => (by unfold cFP; rw [cif_f d12]; exact hx2)⟩ hP hS
