abbrev rmX8_isWithin : Room := { frames := 0, cells := 0, slots := 0, locals := 0 }
-- isWithin
set_option maxRecDepth 100000 in
set_option maxHeartbeats 4000000 in
theorem c_X8_isWithin (l : Launch) (D : va_G) (y : Nat → ClassId) (v lo hi : Int32)  : CtI l D y yX8_isWithin wsX8_isWithin rmX8_isWithin [.int v, .int lo, .int hi] ([]) (fun r (_ : Unit) => r = b2 (¬ v < lo ∧ ¬ hi < v)) (fun _ => []) ((fun _ => False)) := by
  refine mkI (cc := cX8_isWithin) (maxL := 3) (ret := some .boolean) RX8 rfl (by decide) rfl (Or.inr ⟨rfl, fun r u h => by rw [h]; exact b2_01 _⟩) (Nat.le_of_ble_eq_true rfl) ?_
  intro p e s m args below meth c Q FX hK hP ret ls hl
  obtain ⟨hx, hb, hml, hown, hts⟩ := id FX
  have hS : va_S (fun _ => False) s.heap s.heap [] := va_S.rf
  have hl : lv_has ls 3 [(0, .int v), (1, .int lo), (2, .int hi)] := hl
  refine lv_iload_n hx hb dX8_isWithin_0 rfl (lv_at hl 1 rfl) ?_
  refine lv_iload_n hx hb dX8_isWithin_1 rfl (lv_at hl 0 rfl) ?_
  refine lv_icmp_gt (tgt := 14) hx hb dX8_isWithin_2 (by decide) (fun c2 => ?_) (fun c2 => ?_)
  · refine lv_iconst (v := nI 0) hx hb dX8_isWithin_14 rfl ?_
    exact ret s.heap [] 15 ls (nI 0) () dX8_isWithin_15 (by first | exact b2_0 (fun q => q.2 c7) | exact b2_0 (fun q => q.1 c2)) hP hS
  · refine lv_iload_n hx hb dX8_isWithin_5 rfl (lv_at hl 0 rfl) ?_
    refine lv_iload_n hx hb dX8_isWithin_6 rfl (lv_at hl 2 rfl) ?_
    refine lv_icmp_gt (tgt := 14) hx hb dX8_isWithin_7 (by decide) (fun c7 => ?_) (fun c7 => ?_)
    · refine lv_iconst (v := nI 0) hx hb dX8_isWithin_14 rfl ?_
      exact ret s.heap [] 15 ls (nI 0) () dX8_isWithin_15 (by first | exact b2_0 (fun q => q.2 c7) | exact b2_0 (fun q => q.1 c2)) hP hS
    · refine lv_iconst (v := nI 1) hx hb dX8_isWithin_10 rfl ?_
      refine lv_goto (tgt := 15) hx hb dX8_isWithin_11 (by decide) ?_
      exact ret s.heap [] 15 ls (nI 1) () dX8_isWithin_15 (b2_1 ⟨c2, c7⟩) hP hS

abbrev rmX8_isSheet : Room := { frames := 1, cells := 0, slots := 0, locals := 22 }
-- isSheet
set_option maxRecDepth 100000 in
set_option maxHeartbeats 4000000 in
theorem c_X8_isSheet (l : Launch) (D : va_G) (y : Nat → ClassId) (k : Int32)  : CtI l D y yX8_isSheet wsX8_isSheet rmX8_isSheet [.int k] ([]) (fun r (_ : Unit) => r = b2 (∃ j, j < 4 ∧ k = nI j)) (fun _ => []) ((fun _ => False)) := by
  refine mkI (cc := cX8_isSheet) (maxL := 1) (ret := some .boolean) RX8 rfl (by decide) rfl (Or.inr ⟨rfl, fun r u h => by rw [h]; exact b2_01 _⟩) (Nat.le_of_ble_eq_true rfl) ?_
  intro p e s m args below meth c Q FX hK hP ret ls hl
  obtain ⟨hx, hb, hml, hown, hts⟩ := id FX
  have hS : va_S (fun _ => False) s.heap s.heap [] := va_S.rf
  have hl : lv_has ls 1 [(0, .int k)] := hl
  refine lv_iload_n hx hb dX8_isSheet_0 rfl (lv_at hl 0 rfl) ?_
  refine lv_iconst (v := nI 0) hx hb dX8_isSheet_1 rfl ?_
  refine lv_iconst (v := nI 3) hx hb dX8_isSheet_2 rfl ?_
  refine cStI [.int k, .int (nI 0), .int (nI 3)] [] FX hK (c_X8_isWithin l D y k (nI 0) (nI 3)) (va_cwS 3 hts gX8_isSheet_X8_isWithin rfl rfl rfl (by decide +kernel) ⟨Nat.le_of_ble_eq_true rfl, Nat.le_of_ble_eq_true rfl⟩) rfl rfl hl (Nat.le_of_ble_eq_true rfl) dX8_isSheet_3 ⟨Nat.zero_le _, Nat.zero_le _⟩ hP hS (fun r3 H locs hp3 hP hS => ?_)
  obtain rfl := hp3
  exact ret H locs 6 ls (b2 (¬ k < (nI 0) ∧ ¬ (nI 3) < k)) () dX8_isSheet_6 (b2_iff (wi_iff (n := 3) (by decide))) hP hS

abbrev rmX8_isIn : Room := { frames := 0, cells := 0, slots := 0, locals := 0 }
-- isIn
set_option maxRecDepth 100000 in
set_option maxHeartbeats 4000000 in
theorem c_X8_isIn (l : Launch) (D : va_G) (y : Nat → ClassId) (k set : Int32)  : CtI l D y yX8_isIn wsX8_isIn rmX8_isIn [.int k, .int set] ([]) (fun r (_ : Unit) => r = b2 (tbI set k)) (fun _ => []) ((fun _ => False)) := by
  refine mkI (cc := cX8_isIn) (maxL := 2) (ret := some .boolean) RX8 rfl (by decide) rfl (Or.inr ⟨rfl, fun r u h => by rw [h]; exact b2_01 _⟩) (Nat.le_of_ble_eq_true rfl) ?_
  intro p e s m args below meth c Q FX hK hP ret ls hl
  obtain ⟨hx, hb, hml, hown, hts⟩ := id FX
  have hS : va_S (fun _ => False) s.heap s.heap [] := va_S.rf
  have hl : lv_has ls 2 [(0, .int k), (1, .int set)] := hl
  refine lv_iload_n hx hb dX8_isIn_0 rfl (lv_at hl 1 rfl) ?_
  refine lv_iload_n hx hb dX8_isIn_1 rfl (lv_at hl 0 rfl) ?_
  refine lv_ishr hx hb dX8_isIn_2 ?_
  refine lv_iconst (v := nI 1) hx hb dX8_isIn_3 rfl ?_
  refine lv_iand hx hb dX8_isIn_4 ?_
  refine lv_iconst (v := nI 1) hx hb dX8_isIn_5 rfl ?_
  refine lv_icmp_ne (tgt := 13) hx hb dX8_isIn_6 (by decide) (fun c6 => ?_) (fun c6 => ?_)
  · refine lv_iconst (v := nI 0) hx hb dX8_isIn_13 rfl ?_
    exact ret s.heap [] 14 ls (nI 0) () dX8_isIn_14 (b2_0 c6) hP hS
  · refine lv_iconst (v := nI 1) hx hb dX8_isIn_9 rfl ?_
    refine lv_goto (tgt := 14) hx hb dX8_isIn_10 (by decide) ?_
    exact ret s.heap [] 14 ls (nI 1) () dX8_isIn_14 (b2_1 c6) hP hS

abbrev rmX8_greatestCommon : Room := { frames := 1, cells := 0, slots := 0, locals := 21 }
-- greatestCommon
set_option maxRecDepth 100000 in
set_option maxHeartbeats 4000000 in
theorem c_X8_greatestCommon (l : Launch) (D : va_G) (y : Nat → ClassId) (n1 n2 : Nat) (h1 : n1 < 2 ^ 31) (h2 : n2 < 2 ^ 31) (h0 : ¬ (n1 = 0 ∧ n2 = 0)) : CtI l D y yX8_greatestCommon wsX8_greatestCommon rmX8_greatestCommon [.int (nI n1), .int (nI n2)] ([]) (fun r (_ : Unit) => r = nI (gcS n1 n2)) (fun _ => []) ((fun _ => False)) := by
  refine mkI (cc := cX8_greatestCommon) (maxL := 3) (ret := some .int) RX8 rfl (by decide) rfl (Or.inl rfl) (Nat.le_of_ble_eq_true rfl) ?_
  intro p e s m args below meth c Q FX hK hP ret ls hl
  obtain ⟨hx, hb, hml, hown, hts⟩ := id FX
  have hS : va_S (fun _ => False) s.heap s.heap [] := va_S.rf
  have hl : lv_has ls 3 [(0, .int (nI n1)), (1, .int (nI n2))] := hl
  refine lv_iload_n hx hb dX8_greatestCommon_0 rfl (lv_at hl 0 rfl) ?_
  refine lv_iload_n hx hb dX8_greatestCommon_1 rfl (lv_at hl 1 rfl) ?_
  refine va_mmax hx hb (hml.trans hl.1.symm) hown (hts _ (List.mem_of_getElem? (i := 1) rfl)) (hts _ (List.mem_of_getElem? (i := 2) rfl)) (hts _ (List.mem_of_getElem? (i := 3) rfl)) (hts _ (List.mem_of_getElem? (i := 4) rfl)) (Nat.le_of_ble_eq_true rfl) (Nat.le_of_ble_eq_true rfl) (Nat.zero_le _) (Nat.zero_le _) dX8_greatestCommon_2 ?_
  refine xn_to hx (z := nI (max n1 n2)) (max_nI h1 h2) ?_
  refine lv_istore_n (lv' := [(2, .int (nI (max n1 n2))), (0, .int (nI n1)), (1, .int (nI n2))]) hx hb dX8_greatestCommon_5 rfl hl (by decide) rfl (fun ls hl => ?_)
  have L6 : ∀ (N : Nat) (d : Nat), (d ≤ max n1 n2) → (∀ k, d < k → ¬ (k ∣ n1 ∧ k ∣ n2)) → d < N → ∀ (H : Heap) (locs : List Loc) (ls : Array Slot), va_P D vwCl ([]) H → va_S (fun _ => False) s.heap H locs → lv_has ls 3 [(0, .int (nI n1)), (1, .int (nI n2)), (2, .int (nI d))] → W p l e rmX8_greatestCommon s m args below meth c H locs 0 0 Q (F0 m 6 ls []) := by
    intro N6
    induction N6 with
    | zero => intro d hd hk hmeas; exact absurd hmeas (Nat.not_lt_zero _)
    | succ N6 ih6 =>
      intro d hd hk hmeas H locs ls hP hS hl
      refine lv_iload_n hx hb dX8_greatestCommon_6 rfl (lv_at hl 2 rfl) ?_
      refine lv_iconst (v := nI 1) hx hb dX8_greatestCommon_7 rfl ?_
      refine xn_icmp_le (tgt := 31) hx hb (by omega) (by omega) dX8_greatestCommon_8 (by decide) (fun c8 => ?_) (fun c8 => ?_)
      · refine lv_iconst (v := nI 1) hx hb dX8_greatestCommon_31 rfl ?_
        exact ret H locs 32 ls (nI 1) () dX8_greatestCommon_32 (gc_1 c8 hk) hP hS
      · refine lv_iload_n hx hb dX8_greatestCommon_11 rfl (lv_at hl 0 rfl) ?_
        refine lv_iload_n hx hb dX8_greatestCommon_12 rfl (lv_at hl 2 rfl) ?_
        refine xn_irem (a := n1) (b := d) hx hb (by omega) (by omega) (by omega) dX8_greatestCommon_13 ?_
        refine xn_if_ne (tgt := 25) hx hb (Nat.lt_of_le_of_lt (Nat.mod_le _ _) h1) dX8_greatestCommon_14 (by decide) (fun c14 => ?_) (fun c14 => ?_)
        · obtain ⟨d', rfl⟩ : ∃ d', d = d' + 1 := ⟨d - 1, by omega⟩
          refine lv_iinc (v := nI d') (lv' := [(2, .int (nI d')), (0, .int (nI n1)), (1, .int (nI n2))]) hx hb dX8_greatestCommon_25 hl (k := 2) rfl (xn_dec d') (by decide) rfl (fun ls hl => ?_)
          refine lv_goto (tgt := 6) hx hb dX8_greatestCommon_28 (by decide) ?_
          exact ih6 d' (by omega) (by first | exact gc_s (Or.inl c14) hk | exact gc_s (Or.inr c20) hk) (by omega) H locs ls hP hS (lv_sub hl [1, 2, 0] rfl)
        · refine lv_iload_n hx hb dX8_greatestCommon_17 rfl (lv_at hl 1 rfl) ?_
          refine lv_iload_n hx hb dX8_greatestCommon_18 rfl (lv_at hl 2 rfl) ?_
          refine xn_irem (a := n2) (b := d) hx hb (by omega) (by omega) (by omega) dX8_greatestCommon_19 ?_
          refine xn_if_ne (tgt := 25) hx hb (Nat.lt_of_le_of_lt (Nat.mod_le _ _) h2) dX8_greatestCommon_20 (by decide) (fun c20 => ?_) (fun c20 => ?_)
          · obtain ⟨d', rfl⟩ : ∃ d', d = d' + 1 := ⟨d - 1, by omega⟩
            refine lv_iinc (v := nI d') (lv' := [(2, .int (nI d')), (0, .int (nI n1)), (1, .int (nI n2))]) hx hb dX8_greatestCommon_25 hl (k := 2) rfl (xn_dec d') (by decide) rfl (fun ls hl => ?_)
            refine lv_goto (tgt := 6) hx hb dX8_greatestCommon_28 (by decide) ?_
            exact ih6 d' (by omega) (by first | exact gc_s (Or.inl c14) hk | exact gc_s (Or.inr c20) hk) (by omega) H locs ls hP hS (lv_sub hl [1, 2, 0] rfl)
          · refine lv_iload_n hx hb dX8_greatestCommon_23 rfl (lv_at hl 2 rfl) ?_
            exact ret H locs 24 ls (nI d) () dX8_greatestCommon_24 (gc_2 c8 hd c14 c20 hk) hP hS
  exact L6 _ (max n1 n2) (Nat.le_refl _) (gc_0 h0) (Nat.lt_succ_self _) s.heap [] ls hP hS (lv_sub hl [1, 2, 0] rfl)

abbrev rmX1_isA : Room := { frames := 0, cells := 0, slots := 0, locals := 0 }
-- House.isA
set_option maxRecDepth 100000 in
set_option maxHeartbeats 4000000 in
theorem c_X1_isA (l : Launch) (D : va_G) (y : Nat → ClassId) (a : Nat → Nat) (hA : CA a 44) (P X : PT) (row : Value) (h : Nat) (o : Int32) (hh : h < 8) : CtI l D y yX1_isA wsX1_isA rmX1_isA [.ref (a (20 + h)), .int o] (wC y a P X row) (fun r (_ : Unit) => r = b2 (¬ P.2 3 h < o)) (fun _ => wC y a P X row) (AC a) := by
  refine mkI (cc := cX1_isA) (maxL := 2) (ret := some .boolean) RX1 rfl (by decide) rfl (Or.inr ⟨rfl, fun r u h => by rw [h]; exact b2_01 _⟩) (Nat.le_of_ble_eq_true rfl) ?_
  intro p e s m args below meth c Q FX hK hP ret ls hl
  obtain ⟨hx, hb, hml, hown, hts⟩ := id FX
  have hS : va_S (AC a) s.heap s.heap [] := va_S.rf
  have in1 : ∀ w ∈ wsX10, w ∈ wsX1_isA := fun _ h => List.mem_cons_of_mem _ (List.mem_append_right _ (h))
  have hl : lv_has ls 2 [(0, .ref (a (20 + h))), (1, .int o)] := hl
  refine lv_aload_n hx hb dX1_isA_0 rfl (lv_at hl 0 rfl) ?_
  refine cg1_0 (h := h) (by omega) FX hK in1 hP (List.mem_of_getElem? (i := 1) rfl) dX1_isA_1 ?_
  refine lv_iload_n hx hb dX1_isA_4 rfl (lv_at hl 1 rfl) ?_
  refine lv_icmp_lt (tgt := 12) hx hb dX1_isA_5 (by decide) (fun c5 => ?_) (fun c5 => ?_)
  · refine lv_iconst (v := nI 0) hx hb dX1_isA_12 rfl ?_
    exact ret s.heap [] 13 ls (nI 0) () dX1_isA_13 (b2_0 (fun q => q c5)) hP hS
  · refine lv_iconst (v := nI 1) hx hb dX1_isA_8 rfl ?_
    refine lv_goto (tgt := 13) hx hb dX1_isA_9 (by decide) ?_
    exact ret s.heap [] 13 ls (nI 1) () dX1_isA_13 (b2_1 c5) hP hS

abbrev rmX1_tallWith : Room := { frames := 1, cells := 0, slots := 0, locals := 21 }
-- House.tallWith
set_option maxRecDepth 100000 in
set_option maxHeartbeats 4000000 in
theorem c_X1_tallWith (l : Launch) (D : va_G) (y : Nat → ClassId) (a : Nat → Nat) (hA : CA a 44) (P X : PT) (row : Value) (h : Nat) (fl : Int32) (hh : h < 8) : CtI l D y yX1_tallWith wsX1_tallWith rmX1_tallWith [.ref (a (20 + h)), .int fl, .int (P.1 7)] (wC y a P X row) (fun r (_ : Unit) => r = sHt P h fl) (fun _ => wC y a P X row) (AC a) := by
  refine mkI (cc := cX1_tallWith) (maxL := 4) (ret := some .int) RX1 rfl (by decide) rfl (Or.inl rfl) (Nat.le_of_ble_eq_true rfl) ?_
  intro p e s m args below meth c Q FX hK hP ret ls hl
  obtain ⟨hx, hb, hml, hown, hts⟩ := id FX
  have hS : va_S (AC a) s.heap s.heap [] := va_S.rf
  have in1 : ∀ w ∈ wsX10, w ∈ wsX1_tallWith := fun _ h => List.mem_cons_of_mem _ (List.mem_append_right _ (h))
  have hl : lv_has ls 4 [(0, .ref (a (20 + h))), (1, .int fl), (2, .int (P.1 7))] := hl
  refine lv_aload_n hx hb dX1_tallWith_0 rfl (lv_at hl 0 rfl) ?_
  refine cg1_2 (h := h) (by omega) FX hK in1 hP (List.mem_of_getElem? (i := 1) rfl) dX1_tallWith_1 ?_
  refine lv_iload_n hx hb dX1_tallWith_4 rfl (lv_at hl 1 rfl) ?_
  refine lv_iadd hx hb dX1_tallWith_5 ?_
  refine lv_istore_n (lv' := [(3, .int ((P.2 5 h) + fl)), (0, .ref (a (20 + h))), (1, .int fl), (2, .int (P.1 7))]) hx hb dX1_tallWith_6 rfl hl (by decide) rfl (fun ls hl => ?_)
  refine lv_aload_n hx hb dX1_tallWith_7 rfl (lv_at hl 1 rfl) ?_
  refine lv_iconst (v := nI 1) hx hb dX1_tallWith_8 rfl ?_
  refine cViI [.int (nI 1)] [] FX hK (c_X1_isA l D y a hA P X row h (nI 1) (by omega)) (cwV 1 hts gX1_tallWith_X1_isA rfl rfl rfl (by decide +kernel) ⟨Nat.le_of_ble_eq_true rfl, Nat.le_of_ble_eq_true rfl⟩) hP (pre_recv hK hP (ci := 1) (q0 := 20 + h) rfl (wC_house y a _ _ _ h (by omega))) rfl rfl hl (Nat.le_of_ble_eq_true rfl) dX1_tallWith_9 ⟨Nat.zero_le _, Nat.zero_le _⟩ hS (fun _ h => h) (fun r9 u9 H locs hp9 hP hS _ _ => ?_)
  obtain rfl := hp9
  refine xb_eq (tgt := 19) hx hb dX1_tallWith_12 (by decide) (fun c12 => ?_) (fun c12 => ?_)
  · have e1 : ¬ nI 0 < P.2 3 h := fun q => c12 (ge1_iff.mpr q)
    refine lv_aload_n hx hb dX1_tallWith_19 rfl (lv_at hl 1 rfl) ?_
    refine lv_iconst (v := nI 2) hx hb dX1_tallWith_20 rfl ?_
    refine cViI [.int (nI 2)] [] FX hK (c_X1_isA l D y a hA P X row h (nI 2) (by omega)) (cwV 1 hts gX1_tallWith_X1_isA rfl rfl rfl (by decide +kernel) ⟨Nat.le_of_ble_eq_true rfl, Nat.le_of_ble_eq_true rfl⟩) hP (pre_recv hK hP (ci := 1) (q0 := 20 + h) rfl (wC_house y a _ _ _ h (by omega))) rfl rfl hl (Nat.le_of_ble_eq_true rfl) dX1_tallWith_21 ⟨Nat.zero_le _, Nat.zero_le _⟩ hS (fun _ h => h) (fun r21 u21 H locs hp21 hP hS _ _ => ?_)
    obtain rfl := hp21
    refine xb_eq (tgt := 33) hx hb dX1_tallWith_24 (by decide) (fun c24 => ?_) (fun c24 => ?_)
    · have e2 : ¬ nI 1 < P.2 3 h := fun q => c24 (ge2_iff.mpr q)
      refine lv_iload_n hx hb dX1_tallWith_33 rfl (lv_at hl 0 rfl) ?_
      exact ret H locs 34 ls ((P.2 5 h) + fl) () dX1_tallWith_34 (by simp only [sHt, e1, e2, cif_true, cif_false]) hP hS
    · have e2 : nI 1 < P.2 3 h := ge2_iff.mp c24
      refine lv_iload_n hx hb dX1_tallWith_27 rfl (lv_at hl 0 rfl) ?_
      refine lv_iconst (v := nI 3) hx hb dX1_tallWith_28 rfl ?_
      refine lv_iadd hx hb dX1_tallWith_29 ?_
      refine lv_goto (tgt := 34) hx hb dX1_tallWith_30 (by decide) ?_
      exact ret H locs 34 ls (((P.2 5 h) + fl) + (nI 3)) () dX1_tallWith_34 (by simp only [sHt, e1, e2, cif_true, cif_false]) hP hS
  · have e1 : nI 0 < P.2 3 h := ge1_iff.mp c12
    refine lv_iload_n hx hb dX1_tallWith_15 rfl (lv_at hl 0 rfl) ?_
    refine lv_iload_n hx hb dX1_tallWith_16 rfl (lv_at hl 3 rfl) ?_
    refine lv_iadd hx hb dX1_tallWith_17 ?_
    refine lv_istore_n (lv' := [(3, .int (((P.2 5 h) + fl) + (P.1 7))), (0, .ref (a (20 + h))), (1, .int fl), (2, .int (P.1 7))]) hx hb dX1_tallWith_18 rfl hl (by decide) rfl (fun ls hl => ?_)
    refine lv_aload_n hx hb dX1_tallWith_19 rfl (lv_at hl 1 rfl) ?_
    refine lv_iconst (v := nI 2) hx hb dX1_tallWith_20 rfl ?_
    refine cViI [.int (nI 2)] [] FX hK (c_X1_isA l D y a hA P X row h (nI 2) (by omega)) (cwV 1 hts gX1_tallWith_X1_isA rfl rfl rfl (by decide +kernel) ⟨Nat.le_of_ble_eq_true rfl, Nat.le_of_ble_eq_true rfl⟩) hP (pre_recv hK hP (ci := 1) (q0 := 20 + h) rfl (wC_house y a _ _ _ h (by omega))) rfl rfl hl (Nat.le_of_ble_eq_true rfl) dX1_tallWith_21 ⟨Nat.zero_le _, Nat.zero_le _⟩ hS (fun _ h => h) (fun r21 u21 H locs hp21 hP hS _ _ => ?_)
    obtain rfl := hp21
    refine xb_eq (tgt := 33) hx hb dX1_tallWith_24 (by decide) (fun c24 => ?_) (fun c24 => ?_)
    · have e2 : ¬ nI 1 < P.2 3 h := fun q => c24 (ge2_iff.mpr q)
      refine lv_iload_n hx hb dX1_tallWith_33 rfl (lv_at hl 0 rfl) ?_
      exact ret H locs 34 ls (((P.2 5 h) + fl) + (P.1 7)) () dX1_tallWith_34 (by simp only [sHt, e1, e2, cif_true, cif_false]) hP hS
    · have e2 : nI 1 < P.2 3 h := ge2_iff.mp c24
      refine lv_iload_n hx hb dX1_tallWith_27 rfl (lv_at hl 0 rfl) ?_
      refine lv_iconst (v := nI 3) hx hb dX1_tallWith_28 rfl ?_
      refine lv_iadd hx hb dX1_tallWith_29 ?_
      refine lv_goto (tgt := 34) hx hb dX1_tallWith_30 (by decide) ?_
      exact ret H locs 34 ls ((((P.2 5 h) + fl) + (P.1 7)) + (nI 3)) () dX1_tallWith_34 (by simp only [sHt, e1, e2, cif_true, cif_false]) hP hS

abbrev rmX2_isThere : Room := { frames := 0, cells := 0, slots := 0, locals := 0 }
-- Land.isThere
set_option maxRecDepth 100000 in
set_option maxHeartbeats 4000000 in
theorem c_X2_isThere (l : Launch) (D : va_G) (y : Nat → ClassId) (a : Nat → Nat) (hA : CA a 44) (P X : PT) (row : Value) (cN : Nat) (hc : P.1 1 = nI cN) (hcl : cN ≤ 30) : CtI l D y yX2_isThere wsX2_isThere rmX2_isThere [.ref (a 14)] (wC y a P X row) (fun r (_ : Unit) => r = b2 (0 < cN)) (fun _ => wC y a P X row) (AC a) := by
  refine mkI (cc := cX2_isThere) (maxL := 1) (ret := some .boolean) RX2 rfl (by decide) rfl (Or.inr ⟨rfl, fun r u h => by rw [h]; exact b2_01 _⟩) (Nat.le_of_ble_eq_true rfl) ?_
  intro p e s m args below meth c Q FX hK hP ret ls hl
  obtain ⟨hx, hb, hml, hown, hts⟩ := id FX
  have hS : va_S (AC a) s.heap s.heap [] := va_S.rf
  have in2 : ∀ w ∈ wsX20, w ∈ wsX2_isThere := fun _ h => List.mem_cons_of_mem _ (List.mem_append_right _ (h))
  have hl : lv_has ls 1 [(0, .ref (a 14))] := hl
  refine lv_aload_n hx hb dX2_isThere_0 rfl (lv_at hl 0 rfl) ?_
  refine cg2_6 FX hK in2 hP (List.mem_of_getElem? (i := 1) rfl) dX2_isThere_1 ?_
  refine xn_to hx (z := nI cN) hc ?_
  refine xn_if_le (tgt := 11) hx hb (by omega) dX2_isThere_4 (by decide) (fun c4 => ?_) (fun c4 => ?_)
  · refine lv_iconst (v := nI 0) hx hb dX2_isThere_11 rfl ?_
    exact ret s.heap [] 12 ls (nI 0) () dX2_isThere_12 (b2_0 (by omega)) hP hS
  · refine lv_iconst (v := nI 1) hx hb dX2_isThere_7 rfl ?_
    refine lv_goto (tgt := 12) hx hb dX2_isThere_8 (by decide) ?_
    exact ret s.heap [] 12 ls (nI 1) () dX2_isThere_12 (b2_1 c4) hP hS

abbrev rmX2_hasCell : Room := { frames := 1, cells := 0, slots := 0, locals := 22 }
-- X2_hasCell
set_option maxRecDepth 100000 in
set_option maxHeartbeats 4000000 in
theorem c_X2_hasCell (l : Launch) (D : va_G) (y : Nat → ClassId) (a : Nat → Nat) (hA : CA a 44) (P X : PT) (row : Value) (v : Int32) (k : Nat) (hk : P.1 1 = nI k) (hk2 : k ≤ 30) : CtI l D y yX2_hasCell wsX2_hasCell rmX2_hasCell [.ref (a 14), .int v] (wC y a P X row) (fun r (_ : Unit) => r = b2 (∃ j, j < k ∧ v = nI j)) (fun _ => wC y a P X row) (AC a) := by
  refine mkI (cc := cX2_hasCell) (maxL := 2) (ret := some .boolean) RX2 rfl (by decide) rfl (Or.inr ⟨rfl, fun r u h => by rw [h]; exact b2_01 _⟩) (Nat.le_of_ble_eq_true rfl) ?_
  intro p e s m args below meth c Q FX hK hP ret ls hl
  obtain ⟨hx, hb, hml, hown, hts⟩ := id FX
  have hS : va_S (AC a) s.heap s.heap [] := va_S.rf
  have in2 : ∀ w ∈ wsX20, w ∈ wsX2_hasCell := fun _ h => List.mem_cons_of_mem _ (List.mem_append_right _ (h))
  have hl : lv_has ls 2 [(0, .ref (a 14)), (1, .int v)] := hl
  refine lv_iload_n hx hb dX2_hasCell_0 rfl (lv_at hl 1 rfl) ?_
  refine lv_iconst (v := nI 0) hx hb dX2_hasCell_1 rfl ?_
  refine lv_aload_n hx hb dX2_hasCell_2 rfl (lv_at hl 0 rfl) ?_
  refine cg2_6 FX hK in2 hP (List.mem_of_getElem? (i := 1) rfl) dX2_hasCell_3 ?_
  refine xn_to hx (z := nI k) hk ?_
  refine lv_iconst (v := nI 1) hx hb dX2_hasCell_6 rfl ?_
  refine lv_isub hx hb dX2_hasCell_7 ?_
  refine cSnI [.int v, .int (nI 0), .int ((nI k) - (nI 1))] [] FX hK (c_X8_isWithin l D y v (nI 0) ((nI k) - (nI 1))) ⟨va_cnB 3 hts ggX2_hasCell_X8_isWithin rfl rfl rfl (hK.2 _ (List.mem_of_getElem? (i := 5) rfl)) (hts _ (List.mem_of_getElem? (i := 3) rfl)) (by decide +kernel) ⟨Nat.le_of_ble_eq_true rfl, Nat.le_of_ble_eq_true rfl⟩, (hts _ (List.mem_of_getElem? (i := 2) rfl)), trivial⟩ rfl rfl hl (Nat.le_of_ble_eq_true rfl) dX2_hasCell_8 ⟨Nat.zero_le _, Nat.zero_le _⟩ hP hS (fun r8 H locs hp8 hP hS => ?_)
  obtain rfl := hp8
  exact ret H locs 11 ls (b2 (¬ v < (nI 0) ∧ ¬ ((nI k) - (nI 1)) < v)) () dX2_hasCell_11 (b2_iff (rng_iff (by omega))) hP hS

abbrev rmX2_hasHouse : Room := { frames := 1, cells := 0, slots := 0, locals := 22 }
-- X2_hasHouse
set_option maxRecDepth 100000 in
set_option maxHeartbeats 4000000 in
theorem c_X2_hasHouse (l : Launch) (D : va_G) (y : Nat → ClassId) (a : Nat → Nat) (hA : CA a 44) (P X : PT) (row : Value) (v : Int32) (k : Nat) (hk : P.1 2 = nI k) (hk2 : k ≤ 30) : CtI l D y yX2_hasHouse wsX2_hasHouse rmX2_hasHouse [.ref (a 14), .int v] (wC y a P X row) (fun r (_ : Unit) => r = b2 (∃ j, j < k ∧ v = nI j)) (fun _ => wC y a P X row) (AC a) := by
  refine mkI (cc := cX2_hasHouse) (maxL := 2) (ret := some .boolean) RX2 rfl (by decide) rfl (Or.inr ⟨rfl, fun r u h => by rw [h]; exact b2_01 _⟩) (Nat.le_of_ble_eq_true rfl) ?_
  intro p e s m args below meth c Q FX hK hP ret ls hl
  obtain ⟨hx, hb, hml, hown, hts⟩ := id FX
  have hS : va_S (AC a) s.heap s.heap [] := va_S.rf
  have in2 : ∀ w ∈ wsX20, w ∈ wsX2_hasHouse := fun _ h => List.mem_cons_of_mem _ (List.mem_append_right _ (h))
  have hl : lv_has ls 2 [(0, .ref (a 14)), (1, .int v)] := hl
  refine lv_iload_n hx hb dX2_hasHouse_0 rfl (lv_at hl 1 rfl) ?_
  refine lv_iconst (v := nI 0) hx hb dX2_hasHouse_1 rfl ?_
  refine lv_aload_n hx hb dX2_hasHouse_2 rfl (lv_at hl 0 rfl) ?_
  refine cg2_7 FX hK in2 hP (List.mem_of_getElem? (i := 1) rfl) dX2_hasHouse_3 ?_
  refine xn_to hx (z := nI k) hk ?_
  refine lv_iconst (v := nI 1) hx hb dX2_hasHouse_6 rfl ?_
  refine lv_isub hx hb dX2_hasHouse_7 ?_
  refine cSnI [.int v, .int (nI 0), .int ((nI k) - (nI 1))] [] FX hK (c_X8_isWithin l D y v (nI 0) ((nI k) - (nI 1))) ⟨va_cnB 3 hts ggX2_hasHouse_X8_isWithin rfl rfl rfl (hK.2 _ (List.mem_of_getElem? (i := 5) rfl)) (hts _ (List.mem_of_getElem? (i := 3) rfl)) (by decide +kernel) ⟨Nat.le_of_ble_eq_true rfl, Nat.le_of_ble_eq_true rfl⟩, (hts _ (List.mem_of_getElem? (i := 2) rfl)), trivial⟩ rfl rfl hl (Nat.le_of_ble_eq_true rfl) dX2_hasHouse_8 ⟨Nat.zero_le _, Nat.zero_le _⟩ hP hS (fun r8 H locs hp8 hP hS => ?_)
  obtain rfl := hp8
  exact ret H locs 11 ls (b2 (¬ v < (nI 0) ∧ ¬ ((nI k) - (nI 1)) < v)) () dX2_hasHouse_11 (b2_iff (rng_iff (by omega))) hP hS

abbrev rmX2_hasTree : Room := { frames := 1, cells := 0, slots := 0, locals := 22 }
-- X2_hasTree
set_option maxRecDepth 100000 in
set_option maxHeartbeats 4000000 in
theorem c_X2_hasTree (l : Launch) (D : va_G) (y : Nat → ClassId) (a : Nat → Nat) (hA : CA a 44) (P X : PT) (row : Value) (v : Int32) (k : Nat) (hk : P.1 3 = nI k) (hk2 : k ≤ 30) : CtI l D y yX2_hasTree wsX2_hasTree rmX2_hasTree [.ref (a 14), .int v] (wC y a P X row) (fun r (_ : Unit) => r = b2 (∃ j, j < k ∧ v = nI j)) (fun _ => wC y a P X row) (AC a) := by
  refine mkI (cc := cX2_hasTree) (maxL := 2) (ret := some .boolean) RX2 rfl (by decide) rfl (Or.inr ⟨rfl, fun r u h => by rw [h]; exact b2_01 _⟩) (Nat.le_of_ble_eq_true rfl) ?_
  intro p e s m args below meth c Q FX hK hP ret ls hl
  obtain ⟨hx, hb, hml, hown, hts⟩ := id FX
  have hS : va_S (AC a) s.heap s.heap [] := va_S.rf
  have in2 : ∀ w ∈ wsX20, w ∈ wsX2_hasTree := fun _ h => List.mem_cons_of_mem _ (List.mem_append_right _ (h))
  have hl : lv_has ls 2 [(0, .ref (a 14)), (1, .int v)] := hl
  refine lv_iload_n hx hb dX2_hasTree_0 rfl (lv_at hl 1 rfl) ?_
  refine lv_iconst (v := nI 0) hx hb dX2_hasTree_1 rfl ?_
  refine lv_aload_n hx hb dX2_hasTree_2 rfl (lv_at hl 0 rfl) ?_
  refine cg2_8 FX hK in2 hP (List.mem_of_getElem? (i := 1) rfl) dX2_hasTree_3 ?_
  refine xn_to hx (z := nI k) hk ?_
  refine lv_iconst (v := nI 1) hx hb dX2_hasTree_6 rfl ?_
  refine lv_isub hx hb dX2_hasTree_7 ?_
  refine cSnI [.int v, .int (nI 0), .int ((nI k) - (nI 1))] [] FX hK (c_X8_isWithin l D y v (nI 0) ((nI k) - (nI 1))) ⟨va_cnB 3 hts ggX2_hasTree_X8_isWithin rfl rfl rfl (hK.2 _ (List.mem_of_getElem? (i := 5) rfl)) (hts _ (List.mem_of_getElem? (i := 3) rfl)) (by decide +kernel) ⟨Nat.le_of_ble_eq_true rfl, Nat.le_of_ble_eq_true rfl⟩, (hts _ (List.mem_of_getElem? (i := 2) rfl)), trivial⟩ rfl rfl hl (Nat.le_of_ble_eq_true rfl) dX2_hasTree_8 ⟨Nat.zero_le _, Nat.zero_le _⟩ hP hS (fun r8 H locs hp8 hP hS => ?_)
  obtain rfl := hp8
  exact ret H locs 11 ls (b2 (¬ v < (nI 0) ∧ ¬ ((nI k) - (nI 1)) < v)) () dX2_hasTree_11 (b2_iff (rng_iff (by omega))) hP hS

abbrev rmX2_hasNothing : Room := { frames := 0, cells := 0, slots := 0, locals := 0 }
-- Land.hasNothing
set_option maxRecDepth 100000 in
set_option maxHeartbeats 4000000 in
theorem c_X2_hasNothing (l : Launch) (D : va_G) (y : Nat → ClassId) (a : Nat → Nat) (hA : CA a 44) (P X : PT) (row : Value) (q : Nat) (hq : q < 30) : CtI l D y yX2_hasNothing wsX2_hasNothing rmX2_hasNothing [.ref (a 14), .int (nI q)] (wC y a P X row) (fun r (_ : Unit) => r = b2 (P.2 2 q = 0)) (fun _ => wC y a P X row) (AC a) := by
  refine mkI (cc := cX2_hasNothing) (maxL := 2) (ret := some .boolean) RX2 rfl (by decide) rfl (Or.inr ⟨rfl, fun r u h => by rw [h]; exact b2_01 _⟩) (Nat.le_of_ble_eq_true rfl) ?_
  intro p e s m args below meth c Q FX hK hP ret ls hl
  obtain ⟨hx, hb, hml, hown, hts⟩ := id FX
  have hS : va_S (AC a) s.heap s.heap [] := va_S.rf
  have in2 : ∀ w ∈ wsX20, w ∈ wsX2_hasNothing := fun _ h => List.mem_cons_of_mem _ (List.mem_append_right _ (h))
  have hl : lv_has ls 2 [(0, .ref (a 14)), (1, .int (nI q))] := hl
  refine lv_aload_n hx hb dX2_hasNothing_0 rfl (lv_at hl 0 rfl) ?_
  refine cg2_2 FX hK in2 hP (List.mem_of_getElem? (i := 1) rfl) dX2_hasNothing_1 ?_
  refine lv_iload_n hx hb dX2_hasNothing_4 rfl (lv_at hl 1 rfl) ?_
  refine ca17 (i := q) (by omega) FX hK hP dX2_hasNothing_5 ?_
  refine lv_if_ne (tgt := 13) hx hb dX2_hasNothing_6 (by decide) (fun c6 => ?_) (fun c6 => ?_)
  · refine lv_iconst (v := nI 0) hx hb dX2_hasNothing_13 rfl ?_
    exact ret s.heap [] 14 ls (nI 0) () dX2_hasNothing_14 (b2_0 c6) hP hS
  · refine lv_iconst (v := nI 1) hx hb dX2_hasNothing_9 rfl ?_
    refine lv_goto (tgt := 14) hx hb dX2_hasNothing_10 (by decide) ?_
    exact ret s.heap [] 14 ls (nI 1) () dX2_hasNothing_14 (b2_1 c6) hP hS

abbrev rmX2_canTakeNew : Room := { frames := 1, cells := 0, slots := 0, locals := 21 }
-- Land.canTakeNew
set_option maxRecDepth 100000 in
set_option maxHeartbeats 4000000 in
theorem c_X2_canTakeNew (l : Launch) (D : va_G) (y : Nat → ClassId) (a : Nat → Nat) (hA : CA a 44) (P X : PT) (row : Value) (q : Nat) (hq : q < 30) : CtI l D y yX2_canTakeNew wsX2_canTakeNew rmX2_canTakeNew [.ref (a 14), .int (nI q)] (wC y a P X row) (fun r (_ : Unit) => r = b2 (P.2 2 q = 0 ∧ P.2 1 q = 0)) (fun _ => wC y a P X row) (AC a) := by
  refine mkI (cc := cX2_canTakeNew) (maxL := 2) (ret := some .boolean) RX2 rfl (by decide) rfl (Or.inr ⟨rfl, fun r u h => by rw [h]; exact b2_01 _⟩) (Nat.le_of_ble_eq_true rfl) ?_
  intro p e s m args below meth c Q FX hK hP ret ls hl
  obtain ⟨hx, hb, hml, hown, hts⟩ := id FX
  have hS : va_S (AC a) s.heap s.heap [] := va_S.rf
  have in2 : ∀ w ∈ wsX20, w ∈ wsX2_canTakeNew := fun _ h => List.mem_cons_of_mem _ (List.mem_append_right _ (h))
  have hl : lv_has ls 2 [(0, .ref (a 14)), (1, .int (nI q))] := hl
  refine lv_aload_n hx hb dX2_canTakeNew_0 rfl (lv_at hl 0 rfl) ?_
  refine lv_iload_n hx hb dX2_canTakeNew_1 rfl (lv_at hl 1 rfl) ?_
  refine cViI [.int (nI q)] [] FX hK (c_X2_hasNothing l D y a hA P X row q (by omega)) (cwV 1 hts gX2_canTakeNew_X2_hasNothing rfl rfl rfl (by decide +kernel) ⟨Nat.le_of_ble_eq_true rfl, Nat.le_of_ble_eq_true rfl⟩) hP (pre_recv hK hP (ci := 2) (q0 := 14) rfl rfl) rfl rfl hl (Nat.le_of_ble_eq_true rfl) dX2_canTakeNew_2 ⟨Nat.zero_le _, Nat.zero_le _⟩ hS (fun _ h => h) (fun r2 u2 H locs hp2 hP hS _ _ => ?_)
  obtain rfl := hp2
  refine xb_eq (tgt := 21) hx hb dX2_canTakeNew_5 (by decide) (fun c5 => ?_) (fun c5 => ?_)
  · refine lv_iconst (v := nI 0) hx hb dX2_canTakeNew_21 rfl ?_
    exact ret H locs 22 ls (nI 0) () dX2_canTakeNew_22 (by first | exact b2_0 (fun q => c14 q.2) | exact b2_0 (fun q => c5 q.1)) hP hS
  · refine lv_aload_n hx hb dX2_canTakeNew_8 rfl (lv_at hl 0 rfl) ?_
    refine cg2_1 FX hK in2 hP (List.mem_of_getElem? (i := 1) rfl) dX2_canTakeNew_9 ?_
    refine lv_iload_n hx hb dX2_canTakeNew_12 rfl (lv_at hl 1 rfl) ?_
    refine ca16 (i := q) (by omega) FX hK hP dX2_canTakeNew_13 ?_
    refine lv_if_ne (tgt := 21) hx hb dX2_canTakeNew_14 (by decide) (fun c14 => ?_) (fun c14 => ?_)
    · refine lv_iconst (v := nI 0) hx hb dX2_canTakeNew_21 rfl ?_
      exact ret H locs 22 ls (nI 0) () dX2_canTakeNew_22 (by first | exact b2_0 (fun q => c14 q.2) | exact b2_0 (fun q => c5 q.1)) hP hS
    · refine lv_iconst (v := nI 1) hx hb dX2_canTakeNew_17 rfl ?_
      refine lv_goto (tgt := 22) hx hb dX2_canTakeNew_18 (by decide) ?_
      exact ret H locs 22 ls (nI 1) () dX2_canTakeNew_22 (b2_1 ⟨c5, c14⟩) hP hS

abbrev rmX2_treeTall : Room := { frames := 1, cells := 0, slots := 0, locals := 21 }
-- Land.treeTall
set_option maxRecDepth 100000 in
set_option maxHeartbeats 4000000 in
theorem c_X2_treeTall (l : Launch) (D : va_G) (y : Nat → ClassId) (a : Nat → Nat) (hA : CA a 44) (P X : PT) (row : Value) (k : Nat) (yr fl : Int32) (hk : k < 8) : CtI l D y yX2_treeTall wsX2_treeTall rmX2_treeTall [.ref (a 14), .int (nI k), .int yr, .int fl] (wC y a P X row) (fun r (_ : Unit) => r = sTr P k yr (tbI fl (nI k))) (fun _ => wC y a P X row) (AC a) := by
  refine mkI (cc := cX2_treeTall) (maxL := 4) (ret := some .int) RX2 rfl (by decide) rfl (Or.inl rfl) (Nat.le_of_ble_eq_true rfl) ?_
  intro p e s m args below meth c Q FX hK hP ret ls hl
  obtain ⟨hx, hb, hml, hown, hts⟩ := id FX
  have hS : va_S (AC a) s.heap s.heap [] := va_S.rf
  have in2 : ∀ w ∈ wsX20, w ∈ wsX2_treeTall := fun _ h => List.mem_cons_of_mem _ (List.mem_append_left _ (List.mem_append_right _ (h)))
  have in7 : ∀ w ∈ wsX70, w ∈ wsX2_treeTall := fun _ h => List.mem_cons_of_mem _ (List.mem_append_right _ (h))
  have hl : lv_has ls 4 [(0, .ref (a 14)), (1, .int (nI k)), (2, .int yr), (3, .int fl)] := hl
  refine lv_iload_n hx hb dX2_treeTall_0 rfl (lv_at hl 1 rfl) ?_
  refine lv_iload_n hx hb dX2_treeTall_1 rfl (lv_at hl 3 rfl) ?_
  refine cSnI [.int (nI k), .int fl] [] FX hK (c_X8_isIn l D y (nI k) fl) ⟨va_cnB 2 hts ggX2_treeTall_X8_isIn rfl rfl rfl (hK.2 _ (List.mem_of_getElem? (i := 6) rfl)) (hts _ (List.mem_of_getElem? (i := 4) rfl)) (by decide +kernel) ⟨Nat.le_of_ble_eq_true rfl, Nat.le_of_ble_eq_true rfl⟩, (hts _ (List.mem_of_getElem? (i := 3) rfl)), trivial⟩ rfl rfl hl (Nat.le_of_ble_eq_true rfl) dX2_treeTall_2 ⟨Nat.zero_le _, Nat.zero_le _⟩ hP hS (fun r2 H locs hp2 hP hS => ?_)
  obtain rfl := hp2
  refine xb_eq (tgt := 12) hx hb dX2_treeTall_5 (by decide) (fun c5 => ?_) (fun c5 => ?_)
  · refine lv_aload_n hx hb dX2_treeTall_12 rfl (lv_at hl 0 rfl) ?_
    refine cg2_4 FX hK in2 hP (List.mem_of_getElem? (i := 1) rfl) dX2_treeTall_13 ?_
    refine lv_iload_n hx hb dX2_treeTall_16 rfl (lv_at hl 1 rfl) ?_
    refine ca19 (i := k) (by omega) FX hK hP dX2_treeTall_17 ?_
    refine cg7_1 (h := k) (by omega) FX hK in7 hP (List.mem_of_getElem? (i := 2) rfl) dX2_treeTall_18 ?_
    refine lv_iload_n hx hb dX2_treeTall_21 rfl (lv_at hl 2 rfl) ?_
    refine lv_iconst (v := nI 2) hx hb dX2_treeTall_22 rfl ?_
    refine lv_idiv hx hb dX2_treeTall_23 (by decide) ?_
    refine lv_iadd hx hb dX2_treeTall_24 ?_
    exact ret H locs 25 ls ((P.2 8 k) + (yr / (nI 2))) () dX2_treeTall_25 (by simp only [sTr, c5, cif_true, cif_false]) hP hS
  · refine lv_iconst (v := nI 0) hx hb dX2_treeTall_8 rfl ?_
    refine lv_goto (tgt := 25) hx hb dX2_treeTall_9 (by decide) ?_
    exact ret H locs 25 ls (nI 0) () dX2_treeTall_25 (by simp only [sTr, c5, cif_true, cif_false]) hP hS

abbrev rmX2_tallOn : Room := { frames := 2, cells := 0, slots := 0, locals := 44 }
-- Land.tallOn
set_option maxRecDepth 100000 in
set_option maxHeartbeats 4000000 in
theorem c_X2_tallOn (l : Launch) (D : va_G) (y : Nat → ClassId) (a : Nat → Nat) (hA : CA a 44) (P X : PT) (row : Value) (q cN : Nat) (hq : q < cN) (hcl : cN ≤ 30) (hv : VT P cN 8) : CtI l D y yX2_tallOn wsX2_tallOn rmX2_tallOn [.ref (a 14), .int (nI q)] (wC y a P X row) (fun r (_ : Unit) => r = sOn P (P.1 5) (fun k => tbI (P.1 4) (nI k)) q) (fun _ => wC y a P X row) (AC a) := by
  refine mkI (cc := cX2_tallOn) (maxL := 4) (ret := some .int) RX2 rfl (by decide) rfl (Or.inl rfl) (Nat.le_of_ble_eq_true rfl) ?_
  intro p e s m args below meth c Q FX hK hP ret ls hl
  obtain ⟨hx, hb, hml, hown, hts⟩ := id FX
  have hS : va_S (AC a) s.heap s.heap [] := va_S.rf
  have in1 : ∀ w ∈ wsX10, w ∈ wsX2_tallOn := fun _ h => List.mem_cons_of_mem _ (List.mem_append_left _ (List.mem_append_right _ (h)))
  have in2 : ∀ w ∈ wsX20, w ∈ wsX2_tallOn := fun _ h => List.mem_cons_of_mem _ (List.mem_append_left _ (List.mem_append_left _ (List.mem_append_right _ (h))))
  have in7 : ∀ w ∈ wsX70, w ∈ wsX2_tallOn := fun _ h => List.mem_cons_of_mem _ (List.mem_append_right _ (h))
  have hl : lv_has ls 4 [(0, .ref (a 14)), (1, .int (nI q))] := hl
  obtain ⟨tn, htn, htv⟩ : ∃ tn, P.2 2 q = nI tn ∧ (tn = 0 ∨ (10 ≤ tn ∧ tn < 18) ∨ (20 ≤ tn ∧ tn < 28)) := by
    rcases hv q hq with h | ⟨h, h1, h2⟩ | ⟨h, h1, h2⟩
    · exact ⟨0, h, Or.inl rfl⟩
    · exact ⟨_, h2, by omega⟩
    · exact ⟨_, h2, by omega⟩
  have hth : thN P q = tn := thN_of htn (by omega)
  refine lv_aload_n hx hb dX2_tallOn_0 rfl (lv_at hl 0 rfl) ?_
  refine cg2_2 FX hK in2 hP (List.mem_of_getElem? (i := 1) rfl) dX2_tallOn_1 ?_
  refine lv_iload_n hx hb dX2_tallOn_4 rfl (lv_at hl 1 rfl) ?_
  refine ca17 (i := q) (by omega) FX hK hP dX2_tallOn_5 ?_
  refine xn_to hx (z := nI tn) htn ?_
  refine lv_istore_n (lv' := [(2, .int (nI tn)), (0, .ref (a 14)), (1, .int (nI q))]) hx hb dX2_tallOn_6 rfl hl (by decide) rfl (fun ls hl => ?_)
  refine lv_iload_n hx hb dX2_tallOn_7 rfl (lv_at hl 0 rfl) ?_
  refine lv_bipush (v := nI 20) hx hb dX2_tallOn_8 rfl ?_
  refine xn_icmp_lt (tgt := 30) hx hb (by omega) (by omega) dX2_tallOn_10 (by decide) (fun c10 => ?_) (fun c10 => ?_)
  · refine lv_iload_n hx hb dX2_tallOn_30 rfl (lv_at hl 0 rfl) ?_
    refine lv_bipush (v := nI 10) hx hb dX2_tallOn_31 rfl ?_
    refine xn_icmp_lt (tgt := 59) hx hb (by omega) (by omega) dX2_tallOn_33 (by decide) (fun c33 => ?_) (fun c33 => ?_)
    · refine lv_aload_n hx hb dX2_tallOn_59 rfl (lv_at hl 1 rfl) ?_
      refine cg2_1 FX hK in2 hP (List.mem_of_getElem? (i := 7) rfl) dX2_tallOn_60 ?_
      refine lv_iload_n hx hb dX2_tallOn_63 rfl (lv_at hl 2 rfl) ?_
      refine ca16 (i := q) (by omega) FX hK hP dX2_tallOn_64 ?_
      exact ret s.heap [] 65 ls (P.2 1 q) () dX2_tallOn_65 (by simp only [sOn, hth, cif_t (show tn = 0 by omega)]) hP hS
    · refine lv_aload_n hx hb dX2_tallOn_36 rfl (lv_at hl 1 rfl) ?_
      refine cg2_3 FX hK in2 hP (List.mem_of_getElem? (i := 4) rfl) dX2_tallOn_37 ?_
      refine lv_iload_n hx hb dX2_tallOn_40 rfl (lv_at hl 0 rfl) ?_
      refine lv_bipush (v := nI 10) hx hb dX2_tallOn_41 rfl ?_
      refine xn_isub (a := tn) (b := 10) hx hb (by omega) dX2_tallOn_43 ?_
      refine ca18 (i := tn - 10) (by omega) FX hK hP dX2_tallOn_44 ?_
      refine lv_astore_n (lv' := [(3, .ref (a (20 + (tn - 10)))), (2, .int (nI tn)), (0, .ref (a 14)), (1, .int (nI q))]) hx hb dX2_tallOn_45 rfl hl (by decide) rfl (fun ls hl => ?_)
      refine lv_aload_n hx hb dX2_tallOn_46 rfl (lv_at hl 0 rfl) ?_
      refine lv_aload_n hx hb dX2_tallOn_47 rfl (lv_at hl 0 rfl) ?_
      refine cg1_3 (h := (tn - 10)) (by omega) FX hK in1 hP (List.mem_of_getElem? (i := 5) rfl) dX2_tallOn_48 ?_
      refine lv_aload_n hx hb dX2_tallOn_51 rfl (lv_at hl 2 rfl) ?_
      refine cg2_12 FX hK in2 hP (List.mem_of_getElem? (i := 6) rfl) dX2_tallOn_52 ?_
      refine cViI [.int (P.2 6 (tn - 10)), .int (P.1 7)] [] FX hK (c_X1_tallWith l D y a hA P X row (tn - 10) (P.2 6 (tn - 10)) (by omega)) (cwV 2 hts gX2_tallOn_X1_tallWith rfl rfl rfl (by decide +kernel) ⟨Nat.le_of_ble_eq_true rfl, Nat.le_of_ble_eq_true rfl⟩) hP (pre_recv hK hP (ci := 1) (q0 := 20 + (tn - 10)) rfl (wC_house y a _ _ _ (tn - 10) (by omega))) rfl rfl hl (Nat.le_of_ble_eq_true rfl) dX2_tallOn_55 ⟨Nat.zero_le _, Nat.zero_le _⟩ hS (fun _ h => h) (fun r55 u55 H locs hp55 hP hS _ _ => ?_)
      obtain rfl := hp55
      exact ret H locs 58 ls (sHt P (tn - 10) (P.2 6 (tn - 10))) () dX2_tallOn_58 (by simp only [sOn, hth, cif_f (show ¬ tn = 0 by omega), cif_t (show tn < 20 by omega)]) hP hS
  · refine lv_aload_n hx hb dX2_tallOn_13 rfl (lv_at hl 1 rfl) ?_
    refine lv_iload_n hx hb dX2_tallOn_14 rfl (lv_at hl 0 rfl) ?_
    refine lv_bipush (v := nI 20) hx hb dX2_tallOn_15 rfl ?_
    refine xn_isub (a := tn) (b := 20) hx hb (by omega) dX2_tallOn_17 ?_
    refine lv_aload_n hx hb dX2_tallOn_18 rfl (lv_at hl 1 rfl) ?_
    refine cg2_10 FX hK in2 hP (List.mem_of_getElem? (i := 2) rfl) dX2_tallOn_19 ?_
    refine lv_aload_n hx hb dX2_tallOn_22 rfl (lv_at hl 1 rfl) ?_
    refine cg2_9 FX hK in2 hP (List.mem_of_getElem? (i := 3) rfl) dX2_tallOn_23 ?_
    refine cViI [.int (nI (tn - 20)), .int (P.1 5), .int (P.1 4)] [] FX hK (c_X2_treeTall l D y a hA P X row (tn - 20) (P.1 5) (P.1 4) (by omega)) (cwV 3 hts gX2_tallOn_X2_treeTall rfl rfl rfl (by decide +kernel) ⟨Nat.le_of_ble_eq_true rfl, Nat.le_of_ble_eq_true rfl⟩) hP (pre_recv hK hP (ci := 2) (q0 := 14) rfl rfl) rfl rfl hl (Nat.le_of_ble_eq_true rfl) dX2_tallOn_26 ⟨Nat.zero_le _, Nat.zero_le _⟩ hS (fun _ h => h) (fun r26 u26 H locs hp26 hP hS _ _ => ?_)
    obtain rfl := hp26
    exact ret H locs 29 ls (sTr P (tn - 20) (P.1 5) (tbI (P.1 4) (nI (tn - 20)))) () dX2_tallOn_29 (by simp only [sOn, hth, cif_f (show ¬ tn = 0 by omega), cif_f (show ¬ tn < 20 by omega)]) hP hS

abbrev rmX2_topOf : Room := { frames := 3, cells := 0, slots := 0, locals := 67 }
-- Land.topOf
set_option maxRecDepth 100000 in
set_option maxHeartbeats 4000000 in
theorem c_X2_topOf (l : Launch) (D : va_G) (y : Nat → ClassId) (a : Nat → Nat) (hA : CA a 44) (P X : PT) (row : Value) (q cN : Nat) (hq : q < cN) (hcl : cN ≤ 30) (hv : VT P cN 8) : CtI l D y yX2_topOf wsX2_topOf rmX2_topOf [.ref (a 14), .int (nI q)] (wC y a P X row) (fun r (_ : Unit) => r = sTop P (P.1 5) (fun k => tbI (P.1 4) (nI k)) q) (fun _ => wC y a P X row) (AC a) := by
  refine mkI (cc := cX2_topOf) (maxL := 2) (ret := some .int) RX2 rfl (by decide) rfl (Or.inl rfl) (Nat.le_of_ble_eq_true rfl) ?_
  intro p e s m args below meth c Q FX hK hP ret ls hl
  obtain ⟨hx, hb, hml, hown, hts⟩ := id FX
  have hS : va_S (AC a) s.heap s.heap [] := va_S.rf
  have in1 : ∀ w ∈ wsX10, w ∈ wsX2_topOf := fun _ h => List.mem_cons_of_mem _ (List.mem_append_left _ (List.mem_append_right _ (h)))
  have in2 : ∀ w ∈ wsX20, w ∈ wsX2_topOf := fun _ h => List.mem_cons_of_mem _ (List.mem_append_left _ (List.mem_append_left _ (List.mem_append_right _ (h))))
  have in7 : ∀ w ∈ wsX70, w ∈ wsX2_topOf := fun _ h => List.mem_cons_of_mem _ (List.mem_append_right _ (h))
  have hl : lv_has ls 2 [(0, .ref (a 14)), (1, .int (nI q))] := hl
  refine lv_aload_n hx hb dX2_topOf_0 rfl (lv_at hl 0 rfl) ?_
  refine cg2_0 FX hK in2 hP (List.mem_of_getElem? (i := 1) rfl) dX2_topOf_1 ?_
  refine lv_iload_n hx hb dX2_topOf_4 rfl (lv_at hl 1 rfl) ?_
  refine ca15 (i := q) (by omega) FX hK hP dX2_topOf_5 ?_
  refine lv_aload_n hx hb dX2_topOf_6 rfl (lv_at hl 0 rfl) ?_
  refine lv_iload_n hx hb dX2_topOf_7 rfl (lv_at hl 1 rfl) ?_
  refine cViI [.int (nI q)] [.int (P.2 0 q)] FX hK (c_X2_tallOn l D y a hA P X row q cN (by omega) hcl hv) (cwV 1 hts gX2_topOf_X2_tallOn rfl rfl rfl (by decide +kernel) ⟨Nat.le_of_ble_eq_true rfl, Nat.le_of_ble_eq_true rfl⟩) hP (pre_recv hK hP (ci := 2) (q0 := 14) rfl rfl) rfl rfl hl (Nat.le_of_ble_eq_true rfl) dX2_topOf_8 ⟨Nat.zero_le _, Nat.zero_le _⟩ hS (fun _ h => h) (fun r8 u8 H locs hp8 hP hS _ _ => ?_)
  obtain rfl := hp8
  refine lv_iadd hx hb dX2_topOf_11 ?_
  exact ret H locs 12 ls ((P.2 0 q) + (sOn P (P.1 5) (fun k => tbI (P.1 4) (nI k)) q)) () dX2_topOf_12 rfl hP hS
