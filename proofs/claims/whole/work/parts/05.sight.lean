abbrev rmX5_lookNow : Room := { frames := 4, cells := 0, slots := 0, locals := 88 }
set_option maxRecDepth 100000 in
set_option maxHeartbeats 4000000 in
theorem c_X5_lookNow (l : Launch) (D : va_G) (y : Nat → ClassId) (a : Nat → Nat) (hA : CA a 44) (P X : PT) (row : Value) (w cN n t : Nat) (hI : IP P w cN n t) (hc1 : P.1 1 = nI cN) : CtV l D y yX5_lookNow wsX5_lookNow rmX5_lookNow [.ref (a 36)] (wC y a P X row) (fun (X' : PT) => X'.1 7 = P.1 6 ∧ ∀ q, q < cN → X'.2 3 q = sTop P (P.1 5) (fun k => tbI (P.1 4) (nI k)) q) (fun X' => wC y a P X' row) (AC a) := by
  refine mkV (cc := cX5_lookNow) (maxL := 2) RX5 rfl (by decide) rfl (Nat.le_of_ble_eq_true rfl) ?_
  intro p e s m args below meth c Q FX hK hP ret ls hl
  obtain ⟨hx, hb, hml, hown, hts⟩ := id FX
  have hS : va_S (AC a) s.heap s.heap [] := va_S.rf
  have in1 : ∀ w ∈ wsX10, w ∈ wsX5_lookNow := fun _ h => List.mem_cons_of_mem _ (List.mem_append_left _ (List.mem_append_right _ (h)))
  have in2 : ∀ w ∈ wsX20, w ∈ wsX5_lookNow := fun _ h => List.mem_cons_of_mem _ (List.mem_append_left _ (List.mem_append_left _ (List.mem_append_right _ (h))))
  have in5 : ∀ w ∈ wsX50, w ∈ wsX5_lookNow := fun _ h => List.mem_cons_of_mem _ (List.mem_append_left _ (List.mem_append_left _ (List.mem_append_left _ (List.mem_append_right _ (h)))))
  have in7 : ∀ w ∈ wsX70, w ∈ wsX5_lookNow := fun _ h => List.mem_cons_of_mem _ (List.mem_append_right _ (h))
  have hl : lv_has ls 2 [(0, .ref (a 36))] := hl
  have hcl := hI.c30
  refine lv_aload_n hx hb dX5_lookNow_0 rfl (lv_at hl 0 rfl) ?_
  refine lv_aload_n hx hb dX5_lookNow_1 rfl (lv_at hl 0 rfl) ?_
  refine cg5_3 FX hK in5 hP (List.mem_of_getElem? (i := 1) rfl) dX5_lookNow_2 ?_
  refine cg2_11 FX hK in2 hP (List.mem_of_getElem? (i := 2) rfl) dX5_lookNow_5 ?_
  refine cp5_2 FX hK in5 hP hA hS (List.mem_of_getElem? (i := 3) rfl) dX5_lookNow_8 (fun H locs hP hS => ?_)
  refine lv_iconst (v := nI 0) hx hb dX5_lookNow_11 rfl ?_
  refine lv_istore_n (lv' := [(1, .int (nI 0)), (0, .ref (a 36))]) hx hb dX5_lookNow_12 rfl hl (by decide) rfl (fun ls hl => ?_)
  have L13 : ∀ (N : Nat) (i : Nat) (X' : PT), (i ≤ cN) → (X'.1 7 = P.1 6) → (∀ q, q < i → X'.2 3 q = sTop P (P.1 5) (fun k => tbI (P.1 4) (nI k)) q) → cN - i < N → ∀ (H : Heap) (locs : List Loc) (ls : Array Slot), va_P D vwCl (wC y a P X' row) H → va_S (AC a) s.heap H locs → lv_has ls 2 [(0, .ref (a 36)), (1, .int (nI i))] → W p l e rmX5_lookNow s m args below meth c H locs 0 0 Q (F0 m 13 ls []) := by
    intro N13
    induction N13 with
    | zero => intro i X' hi hf ht hmeas; exact absurd hmeas (Nat.not_lt_zero _)
    | succ N13 ih13 =>
      intro i X' hi hf ht hmeas H locs ls hP hS hl
      refine lv_iload_n hx hb dX5_lookNow_13 rfl (lv_at hl 1 rfl) ?_
      refine lv_aload_n hx hb dX5_lookNow_14 rfl (lv_at hl 0 rfl) ?_
      refine cg5_3 FX hK in5 hP (List.mem_of_getElem? (i := 1) rfl) dX5_lookNow_15 ?_
      refine cg2_6 FX hK in2 hP (List.mem_of_getElem? (i := 4) rfl) dX5_lookNow_18 ?_
      refine xn_to hx (z := nI cN) hc1 ?_
      refine xn_icmp_ge (tgt := 44) hx hb (by omega) (by omega) dX5_lookNow_21 (by decide) (fun c21 => ?_) (fun c21 => ?_)
      · exact ret H locs 44 ls X' dX5_lookNow_44 ⟨hf, fun q hq => ht q (by omega)⟩ hP hS
      · refine lv_aload_n hx hb dX5_lookNow_24 rfl (lv_at hl 0 rfl) ?_
        refine cg5_0 FX hK in5 hP (List.mem_of_getElem? (i := 5) rfl) dX5_lookNow_25 ?_
        refine lv_iload_n hx hb dX5_lookNow_28 rfl (lv_at hl 1 rfl) ?_
        refine lv_aload_n hx hb dX5_lookNow_29 rfl (lv_at hl 0 rfl) ?_
        refine cg5_3 FX hK in5 hP (List.mem_of_getElem? (i := 1) rfl) dX5_lookNow_30 ?_
        refine lv_iload_n hx hb dX5_lookNow_33 rfl (lv_at hl 1 rfl) ?_
        refine cViI [.int (nI i)] [.int (nI i), .ref (a 37)] FX hK (c_X2_topOf l D y a hA P X' row i cN (by omega) hI.c30 hI.vt) (cwV 1 hts gX5_lookNow_X2_topOf rfl rfl rfl (by decide +kernel) ⟨Nat.le_of_ble_eq_true rfl, Nat.le_of_ble_eq_true rfl⟩) hP (pre_recv hK hP (ci := 2) (q0 := 14) rfl rfl) rfl rfl hl (Nat.le_of_ble_eq_true rfl) dX5_lookNow_34 ⟨Nat.zero_le _, Nat.zero_le _⟩ hS (fun _ h => h) (fun r34 u34 H locs hp34 hP hS _ _ => ?_)
        obtain rfl := hp34
        refine cs37 (i := i) (by omega) FX hK hP hA hS dX5_lookNow_37 (fun H locs hP hS => ?_)
        refine lv_iinc (v := nI (i + 1)) (lv' := [(1, .int (nI (i + 1))), (0, .ref (a 36))]) hx hb dX5_lookNow_38 hl (k := 1) rfl (xn_inc i 1) (by decide) rfl (fun ls hl => ?_)
        refine lv_goto (tgt := 13) hx hb dX5_lookNow_41 (by decide) ?_
        exact ih13 (i + 1) (pa X' 3 i (sTop P (P.1 5) (fun k => tbI (P.1 4) (nI k)) i)) (by omega) hf (pa_step (f := sTop P (P.1 5) (fun k => tbI (P.1 4) (nI k))) ht) (by omega) H locs ls hP hS (lv_sub hl [1, 0] rfl)
  exact L13 _ 0 (pg X 7 (P.1 6)) (Nat.zero_le _) rfl (fun q h => absurd h (Nat.not_lt_zero _)) (Nat.lt_succ_self _) H locs ls hP hS (lv_sub hl [1, 0] rfl)

abbrev rmX5_lookWithTrees : Room := { frames := 2, cells := 0, slots := 0, locals := 44 }
set_option maxRecDepth 100000 in
set_option maxHeartbeats 4000000 in
theorem c_X5_lookWithTrees (l : Launch) (D : va_G) (y : Nat → ClassId) (a : Nat → Nat) (hA : CA a 44) (P X : PT) (row : Value) (w cN n t : Nat) (yr fl y0 : Int32) (f0 : Nat → Prop) (hI : IP P w cN n t) (h0 : ∀ q, q < cN → X.2 3 q = sTop P y0 f0 q) : CtV l D y yX5_lookWithTrees wsX5_lookWithTrees rmX5_lookWithTrees [.ref (a 36), .int yr, .int fl] (wC y a P X row) (fun (X' : PT) => X'.1 7 = X.1 7 ∧ X'.2 4 = X.2 4 ∧ ∀ q, q < cN → X'.2 3 q = sTop P yr (fun k => tbI fl (nI k)) q) (fun X' => wC y a P X' row) (AC a) := by
  refine mkV (cc := cX5_lookWithTrees) (maxL := 5) RX5 rfl (by decide) rfl (Nat.le_of_ble_eq_true rfl) ?_
  intro p e s m args below meth c Q FX hK hP ret ls hl
  obtain ⟨hx, hb, hml, hown, hts⟩ := id FX
  have hS : va_S (AC a) s.heap s.heap [] := va_S.rf
  have in2 : ∀ w ∈ wsX20, w ∈ wsX5_lookWithTrees := fun _ h => List.mem_cons_of_mem _ (List.mem_append_left _ (List.mem_append_right _ (h)))
  have in5 : ∀ w ∈ wsX50, w ∈ wsX5_lookWithTrees := fun _ h => List.mem_cons_of_mem _ (List.mem_append_left _ (List.mem_append_left _ (List.mem_append_right _ (h))))
  have in7 : ∀ w ∈ wsX70, w ∈ wsX5_lookWithTrees := fun _ h => List.mem_cons_of_mem _ (List.mem_append_right _ (h))
  have hl : lv_has ls 5 [(0, .ref (a 36)), (1, .int yr), (2, .int fl)] := hl
  have hcl := hI.c30
  have htl := hI.t8
  refine lv_iconst (v := nI 0) hx hb dX5_lookWithTrees_0 rfl ?_
  refine lv_istore_n (lv' := [(3, .int (nI 0)), (0, .ref (a 36)), (1, .int yr), (2, .int fl)]) hx hb dX5_lookWithTrees_1 rfl hl (by decide) rfl (fun ls hl => ?_)
  have L2 : ∀ (N : Nat) (i : Nat) (X' : PT), (i ≤ t) → (X'.1 7 = X.1 7 ∧ X'.2 4 = X.2 4) → (∀ q, q < cN → X'.2 3 q = cif (∃ k, k < i ∧ tpN P k = q) (sTop P yr (fun k => tbI fl (nI k)) q) (sTop P y0 f0 q)) → t - i < N → ∀ (H : Heap) (locs : List Loc) (ls : Array Slot), va_P D vwCl (wC y a P X' row) H → va_S (AC a) s.heap H locs → lv_has ls 5 [(0, .ref (a 36)), (1, .int yr), (2, .int fl), (3, .int (nI i))] → W p l e rmX5_lookWithTrees s m args below meth c H locs 0 0 Q (F0 m 2 ls []) := by
    intro N2
    induction N2 with
    | zero => intro i X' hi hf ht hmeas; exact absurd hmeas (Nat.not_lt_zero _)
    | succ N2 ih2 =>
      intro i X' hi hf ht hmeas H locs ls hP hS hl
      refine lv_iload_n hx hb dX5_lookWithTrees_2 rfl (lv_at hl 3 rfl) ?_
      refine lv_aload_n hx hb dX5_lookWithTrees_3 rfl (lv_at hl 0 rfl) ?_
      refine cg5_3 FX hK in5 hP (List.mem_of_getElem? (i := 1) rfl) dX5_lookWithTrees_4 ?_
      refine cg2_8 FX hK in2 hP (List.mem_of_getElem? (i := 2) rfl) dX5_lookWithTrees_7 ?_
      refine xn_to hx (z := nI t) hI.tt ?_
      refine xn_icmp_ge (tgt := 61) hx hb (by omega) (by omega) dX5_lookWithTrees_10 (by decide) (fun c10 => ?_) (fun c10 => ?_)
      · exact ret H locs 61 ls X' dX5_lookWithTrees_61 ⟨hf.1, hf.2, look_end hI (by rw [show t = i by omega]; exact ht)⟩ hP hS
      · obtain ⟨hp1, hp2, hp3⟩ := hI.tp c10
        refine lv_aload_n hx hb dX5_lookWithTrees_13 rfl (lv_at hl 0 rfl) ?_
        refine cg5_3 FX hK in5 hP (List.mem_of_getElem? (i := 1) rfl) dX5_lookWithTrees_14 ?_
        refine cg2_4 FX hK in2 hP (List.mem_of_getElem? (i := 3) rfl) dX5_lookWithTrees_17 ?_
        refine lv_iload_n hx hb dX5_lookWithTrees_20 rfl (lv_at hl 3 rfl) ?_
        refine ca19 (i := i) (by omega) FX hK hP dX5_lookWithTrees_21 ?_
        refine cg7_0 (h := i) (by omega) FX hK in7 hP (List.mem_of_getElem? (i := 4) rfl) dX5_lookWithTrees_22 ?_
        refine xn_to hx (z := nI (tpN P i)) hp1 ?_
        refine lv_istore (lv' := [(4, .int (nI (tpN P i))), (0, .ref (a 36)), (1, .int yr), (2, .int fl), (3, .int (nI i))]) hx hb dX5_lookWithTrees_25 hl (by decide) rfl (fun ls hl => ?_)
        refine lv_aload_n hx hb dX5_lookWithTrees_27 rfl (lv_at hl 1 rfl) ?_
        refine cg5_0 FX hK in5 hP (List.mem_of_getElem? (i := 5) rfl) dX5_lookWithTrees_28 ?_
        refine lv_iload hx hb dX5_lookWithTrees_31 (lv_at hl 0 rfl) ?_
        refine lv_aload_n hx hb dX5_lookWithTrees_33 rfl (lv_at hl 1 rfl) ?_
        refine cg5_3 FX hK in5 hP (List.mem_of_getElem? (i := 1) rfl) dX5_lookWithTrees_34 ?_
        refine cg2_0 FX hK in2 hP (List.mem_of_getElem? (i := 6) rfl) dX5_lookWithTrees_37 ?_
        refine lv_iload hx hb dX5_lookWithTrees_40 (lv_at hl 0 rfl) ?_
        refine ca15 (i := tpN P i) (by omega) FX hK hP dX5_lookWithTrees_42 ?_
        refine lv_aload_n hx hb dX5_lookWithTrees_43 rfl (lv_at hl 1 rfl) ?_
        refine cg5_3 FX hK in5 hP (List.mem_of_getElem? (i := 1) rfl) dX5_lookWithTrees_44 ?_
        refine lv_iload_n hx hb dX5_lookWithTrees_47 rfl (lv_at hl 4 rfl) ?_
        refine lv_iload_n hx hb dX5_lookWithTrees_48 rfl (lv_at hl 2 rfl) ?_
        refine lv_iload_n hx hb dX5_lookWithTrees_49 rfl (lv_at hl 3 rfl) ?_
        refine cViI [.int (nI i), .int yr, .int fl] [.int (P.2 0 (tpN P i)), .int (nI (tpN P i)), .ref (a 37)] FX hK (c_X2_treeTall l D y a hA P X' row i yr fl (by omega)) (cwV 3 hts gX5_lookWithTrees_X2_treeTall rfl rfl rfl (by decide +kernel) ⟨Nat.le_of_ble_eq_true rfl, Nat.le_of_ble_eq_true rfl⟩) hP (pre_recv hK hP (ci := 2) (q0 := 14) rfl rfl) rfl rfl hl (Nat.le_of_ble_eq_true rfl) dX5_lookWithTrees_50 ⟨Nat.zero_le _, Nat.zero_le _⟩ hS (fun _ h => h) (fun r50 u50 H locs hp50 hP hS _ _ => ?_)
        obtain rfl := hp50
        refine lv_iadd hx hb dX5_lookWithTrees_53 ?_
        refine cs37 (i := tpN P i) (by omega) FX hK hP hA hS dX5_lookWithTrees_54 (fun H locs hP hS => ?_)
        refine lv_iinc (v := nI (i + 1)) (lv' := [(3, .int (nI (i + 1))), (4, .int (nI (tpN P i))), (0, .ref (a 36)), (1, .int yr), (2, .int fl)]) hx hb dX5_lookWithTrees_55 hl (k := 4) rfl (xn_inc i 1) (by decide) rfl (fun ls hl => ?_)
        refine lv_goto (tgt := 2) hx hb dX5_lookWithTrees_58 (by decide) ?_
        exact ih2 (i + 1) (pa X' 3 (tpN P i) ((P.2 0 (tpN P i)) + (sTr P i yr (tbI fl (nI i))))) (by omega) ⟨hf.1, (pa_ne _ _ _ (by decide)).trans hf.2⟩ (look_step hI c10 rfl ht) (by omega) H locs ls hP hS (lv_sub hl [2, 3, 4, 0] rfl)
  exact L2 _ 0 X (Nat.zero_le _) ⟨rfl, rfl⟩ (look_0 h0) (Nat.lt_succ_self _) s.heap [] ls hP hS (lv_sub hl [1, 2, 3, 0] rfl)

abbrev rmX5_isClear : Room := { frames := 2, cells := 0, slots := 0, locals := 43 }
set_option maxRecDepth 100000 in
set_option maxHeartbeats 4000000 in
theorem c_X5_isClear (l : Launch) (D : va_G) (y : Nat → ClassId) (a : Nat → Nat) (hA : CA a 44) (P X : PT) (row : Value) (w cN a0 b0 : Nat) (hw : P.1 0 = nI w) (hvw : VW w cN) (ha0 : a0 < cN) (hb0 : b0 < cN) (hab : a0 ≠ b0) : CtI l D y yX5_isClear wsX5_isClear rmX5_isClear [.ref (a 36), .int (nI a0), .int (nI b0)] (wC y a P X row) (fun r (_ : Unit) => r = b2 (sClr w (X.1 7) (X.2 3) a0 b0)) (fun _ => wC y a P X row) (AC a) := by
  refine mkI (cc := cX5_isClear) (maxL := 9) (ret := some .boolean) RX5 rfl (by decide) rfl (Or.inr ⟨rfl, fun r u h => by rw [h]; exact b2_01 _⟩) (Nat.le_of_ble_eq_true rfl) ?_
  intro p e s m args below meth c Q FX hK hP ret ls hl
  obtain ⟨hx, hb, hml, hown, hts⟩ := id FX
  have hS : va_S (AC a) s.heap s.heap [] := va_S.rf
  have in2 : ∀ w ∈ wsX20, w ∈ wsX5_isClear := fun _ h => List.mem_cons_of_mem _ (List.mem_append_right _ (h))
  have in5 : ∀ w ∈ wsX50, w ∈ wsX5_isClear := fun _ h => List.mem_cons_of_mem _ (List.mem_append_left _ (List.mem_append_right _ (h)))
  have hl : lv_has ls 9 [(0, .ref (a 36)), (1, .int (nI a0)), (2, .int (nI b0))] := hl
  have hcl := hvw.le
  have hw2 := hvw.1
  have hw6 := hvw.2.1
  have q1 : a0 / w ≤ a0 := Nat.div_le_self _ _
  have q2 : b0 / w ≤ b0 := Nat.div_le_self _ _
  have q3 : a0 % w < w := Nat.mod_lt _ (by omega)
  have q4 : b0 % w < w := Nat.mod_lt _ (by omega)
  have q5 : a0 / w < 5 := by obtain ⟨hi, g1, g2, g3⟩ := hvw.2.2; exact Nat.lt_of_lt_of_le ((Nat.div_lt_iff_lt_mul (by omega)).mpr (by rw [← g3]; exact ha0)) g2
  have q6 : b0 / w < 5 := by obtain ⟨hi, g1, g2, g3⟩ := hvw.2.2; exact Nat.lt_of_lt_of_le ((Nat.div_lt_iff_lt_mul (by omega)).mpr (by rw [← g3]; exact hb0)) g2
  have e1 : (dst (b0 / w) (a0 / w)) < 6 := dst_lt (by omega) (by omega)
  have e2 : (dst (b0 % w) (a0 % w)) < 6 := dst_lt (by omega) (by omega)
  have e3 : (gcS (dst (b0 / w) (a0 / w)) (dst (b0 % w) (a0 % w))) < 6 := gcS_le e1 e2 (by decide)
  have e4 : 0 < (gcS (dst (b0 / w) (a0 / w)) (dst (b0 % w) (a0 % w))) := gcS_pos _ _
  have e5 := dst_dm (w := w) hab
  have e6 := gcS_dvd e5
  refine lv_aload_n hx hb dX5_isClear_0 rfl (lv_at hl 0 rfl) ?_
  refine cg5_3 FX hK in5 hP (List.mem_of_getElem? (i := 1) rfl) dX5_isClear_1 ?_
  refine cg2_5 FX hK in2 hP (List.mem_of_getElem? (i := 2) rfl) dX5_isClear_4 ?_
  refine xn_to hx (z := nI w) hw ?_
  refine lv_istore_n (lv' := [(3, .int (nI w)), (0, .ref (a 36)), (1, .int (nI a0)), (2, .int (nI b0))]) hx hb dX5_isClear_7 rfl hl (by decide) rfl (fun ls hl => ?_)
  refine lv_iload_n hx hb dX5_isClear_8 rfl (lv_at hl 0 rfl) ?_
  refine lv_iconst (v := nI 1) hx hb dX5_isClear_9 rfl ?_
  refine xn_icmp_ge (tgt := 15) hx hb (by omega) (by omega) dX5_isClear_10 (by decide) (fun c10 => ?_) (fun c10 => ?_)
  · refine lv_iload_n hx hb dX5_isClear_15 rfl (lv_at hl 3 rfl) ?_
    refine lv_iload_n hx hb dX5_isClear_16 rfl (lv_at hl 0 rfl) ?_
    refine xn_idiv (a := b0) (b := w) hx hb (by omega) (by omega) (by omega) dX5_isClear_17 ?_
    refine lv_iload_n hx hb dX5_isClear_18 rfl (lv_at hl 2 rfl) ?_
    refine lv_iload_n hx hb dX5_isClear_19 rfl (lv_at hl 0 rfl) ?_
    refine xn_idiv (a := a0) (b := w) hx hb (by omega) (by omega) (by omega) dX5_isClear_20 ?_
    refine lv_isub hx hb dX5_isClear_21 ?_
    refine va_mabs hx hb (hml.trans hl.1.symm) hown (hts _ (List.mem_of_getElem? (i := 3) rfl)) (hts _ (List.mem_of_getElem? (i := 4) rfl)) (hts _ (List.mem_of_getElem? (i := 5) rfl)) (hts _ (List.mem_of_getElem? (i := 6) rfl)) (Nat.le_of_ble_eq_true rfl) (Nat.le_of_ble_eq_true rfl) (Nat.zero_le _) (Nat.zero_le _) dX5_isClear_22 ?_
    refine xn_to hx (z := nI (dst (b0 / w) (a0 / w))) (abs_nI (by omega) (by omega)) ?_
    refine lv_istore (lv' := [(4, .int (nI (dst (b0 / w) (a0 / w)))), (3, .int (nI w)), (0, .ref (a 36)), (1, .int (nI a0)), (2, .int (nI b0))]) hx hb dX5_isClear_25 hl (by decide) rfl (fun ls hl => ?_)
    refine lv_iload_n hx hb dX5_isClear_27 rfl (lv_at hl 4 rfl) ?_
    refine lv_iload_n hx hb dX5_isClear_28 rfl (lv_at hl 1 rfl) ?_
    refine xn_irem (a := b0) (b := w) hx hb (by omega) (by omega) (by omega) dX5_isClear_29 ?_
    refine lv_iload_n hx hb dX5_isClear_30 rfl (lv_at hl 3 rfl) ?_
    refine lv_iload_n hx hb dX5_isClear_31 rfl (lv_at hl 1 rfl) ?_
    refine xn_irem (a := a0) (b := w) hx hb (by omega) (by omega) (by omega) dX5_isClear_32 ?_
    refine lv_isub hx hb dX5_isClear_33 ?_
    refine va_mabs hx hb (hml.trans hl.1.symm) hown (hts _ (List.mem_of_getElem? (i := 3) rfl)) (hts _ (List.mem_of_getElem? (i := 4) rfl)) (hts _ (List.mem_of_getElem? (i := 5) rfl)) (hts _ (List.mem_of_getElem? (i := 6) rfl)) (Nat.le_of_ble_eq_true rfl) (Nat.le_of_ble_eq_true rfl) (Nat.zero_le _) (Nat.zero_le _) dX5_isClear_34 ?_
    refine xn_to hx (z := nI (dst (b0 % w) (a0 % w))) (abs_nI (by omega) (by omega)) ?_
    refine lv_istore (lv' := [(5, .int (nI (dst (b0 % w) (a0 % w)))), (4, .int (nI (dst (b0 / w) (a0 / w)))), (3, .int (nI w)), (0, .ref (a 36)), (1, .int (nI a0)), (2, .int (nI b0))]) hx hb dX5_isClear_37 hl (by decide) rfl (fun ls hl => ?_)
    refine lv_iload hx hb dX5_isClear_39 (lv_at hl 1 rfl) ?_
    refine lv_iload hx hb dX5_isClear_41 (lv_at hl 0 rfl) ?_
    refine va_mmax hx hb (hml.trans hl.1.symm) hown (hts _ (List.mem_of_getElem? (i := 7) rfl)) (hts _ (List.mem_of_getElem? (i := 8) rfl)) (hts _ (List.mem_of_getElem? (i := 5) rfl)) (hts _ (List.mem_of_getElem? (i := 9) rfl)) (Nat.le_of_ble_eq_true rfl) (Nat.le_of_ble_eq_true rfl) (Nat.zero_le _) (Nat.zero_le _) dX5_isClear_43 ?_
    refine xn_to hx (z := nI (max (dst (b0 / w) (a0 / w)) (dst (b0 % w) (a0 % w)))) (max_nI (by omega) (by omega)) ?_
    refine lv_aload_n hx hb dX5_isClear_46 rfl (lv_at hl 3 rfl) ?_
    refine cg5_2 FX hK in5 hP (List.mem_of_getElem? (i := 10) rfl) dX5_isClear_47 ?_
    refine lv_icmp_le (tgt := 55) hx hb dX5_isClear_50 (by decide) (fun c50 => ?_) (fun c50 => ?_)
    · refine lv_iload hx hb dX5_isClear_55 (lv_at hl 1 rfl) ?_
      refine lv_iload hx hb dX5_isClear_57 (lv_at hl 0 rfl) ?_
      refine cSnI [.int (nI (dst (b0 / w) (a0 / w))), .int (nI (dst (b0 % w) (a0 % w)))] [] FX hK (c_X8_greatestCommon l D y (dst (b0 / w) (a0 / w)) (dst (b0 % w) (a0 % w)) (by omega) (by omega) (by omega)) ⟨va_cnB 2 hts ggX5_isClear_X8_greatestCommon rfl rfl rfl (hK.2 _ (List.mem_of_getElem? (i := 7) rfl)) (hts _ (List.mem_of_getElem? (i := 13) rfl)) (by decide +kernel) ⟨Nat.le_of_ble_eq_true rfl, Nat.le_of_ble_eq_true rfl⟩, (hts _ (List.mem_of_getElem? (i := 12) rfl)), trivial⟩ rfl rfl hl (Nat.le_of_ble_eq_true rfl) dX5_isClear_59 ⟨Nat.zero_le _, Nat.zero_le _⟩ hP hS (fun r59 H locs hp59 hP hS => ?_)
      obtain rfl := hp59
      refine lv_istore (lv' := [(6, .int (nI (gcS (dst (b0 / w) (a0 / w)) (dst (b0 % w) (a0 % w))))), (5, .int (nI (dst (b0 % w) (a0 % w)))), (4, .int (nI (dst (b0 / w) (a0 / w)))), (3, .int (nI w)), (0, .ref (a 36)), (1, .int (nI a0)), (2, .int (nI b0))]) hx hb dX5_isClear_62 hl (by decide) rfl (fun ls hl => ?_)
      refine lv_iload_n hx hb dX5_isClear_64 rfl (lv_at hl 6 rfl) ?_
      refine lv_iload_n hx hb dX5_isClear_65 rfl (lv_at hl 5 rfl) ?_
      refine lv_isub hx hb dX5_isClear_66 ?_
      refine lv_iload hx hb dX5_isClear_67 (lv_at hl 0 rfl) ?_
      refine lv_idiv hx hb dX5_isClear_69 (nI_ne0 e4 (by omega)) ?_
      refine lv_istore (lv' := [(7, .int (((nI b0) - (nI a0)) / (nI (gcS (dst (b0 / w) (a0 / w)) (dst (b0 % w) (a0 % w)))))), (6, .int (nI (gcS (dst (b0 / w) (a0 / w)) (dst (b0 % w) (a0 % w))))), (5, .int (nI (dst (b0 % w) (a0 % w)))), (4, .int (nI (dst (b0 / w) (a0 / w)))), (3, .int (nI w)), (0, .ref (a 36)), (1, .int (nI a0)), (2, .int (nI b0))]) hx hb dX5_isClear_70 hl (by decide) rfl (fun ls hl => ?_)
      refine lv_iconst (v := nI 1) hx hb dX5_isClear_72 rfl ?_
      refine lv_istore (lv' := [(8, .int (nI 1)), (7, .int (((nI b0) - (nI a0)) / (nI (gcS (dst (b0 / w) (a0 / w)) (dst (b0 % w) (a0 % w)))))), (6, .int (nI (gcS (dst (b0 / w) (a0 / w)) (dst (b0 % w) (a0 % w))))), (5, .int (nI (dst (b0 % w) (a0 % w)))), (4, .int (nI (dst (b0 / w) (a0 / w)))), (3, .int (nI w)), (0, .ref (a 36)), (1, .int (nI a0)), (2, .int (nI b0))]) hx hb dX5_isClear_73 hl (by decide) rfl (fun ls hl => ?_)
      have L75 : ∀ (N : Nat) (m' : Nat), (0 < m') → (m' ≤ (gcS (dst (b0 / w) (a0 / w)) (dst (b0 % w) (a0 % w)))) → (∀ k, 0 < k → k < m' → X.2 3 (pos a0 b0 (gcS (dst (b0 / w) (a0 / w)) (dst (b0 % w) (a0 % w))) k) * nI (gcS (dst (b0 / w) (a0 / w)) (dst (b0 % w) (a0 % w))) < X.2 3 a0 * nI (gcS (dst (b0 / w) (a0 / w)) (dst (b0 % w) (a0 % w))) + nI k * (X.2 3 b0 - X.2 3 a0)) → (gcS (dst (b0 / w) (a0 / w)) (dst (b0 % w) (a0 % w))) - m' < N → ∀ (H : Heap) (locs : List Loc) (ls : Array Slot), va_P D vwCl (wC y a P X row) H → va_S (AC a) s.heap H locs → lv_has ls 9 [(0, .ref (a 36)), (1, .int (nI a0)), (2, .int (nI b0)), (6, .int (nI (gcS (dst (b0 / w) (a0 / w)) (dst (b0 % w) (a0 % w))))), (7, .int ((nI b0 - nI a0) / nI (gcS (dst (b0 / w) (a0 / w)) (dst (b0 % w) (a0 % w))))), (8, .int (nI m'))] → W p l e rmX5_isClear s m args below meth c H locs 0 0 Q (F0 m 75 ls []) := by
        intro N75
        induction N75 with
        | zero => intro m' hm hm2 hin hmeas; exact absurd hmeas (Nat.not_lt_zero _)
        | succ N75 ih75 =>
          intro m' hm hm2 hin hmeas H locs ls hP hS hl
          refine lv_iload hx hb dX5_isClear_75 (lv_at hl 5 rfl) ?_
          refine lv_iload hx hb dX5_isClear_77 (lv_at hl 3 rfl) ?_
          refine xn_icmp_ge (tgt := 134) hx hb (by omega) (by omega) dX5_isClear_79 (by decide) (fun c79 => ?_) (fun c79 => ?_)
          · refine lv_iconst (v := nI 1) hx hb dX5_isClear_134 rfl ?_
            exact ret H locs 135 ls (nI 1) () dX5_isClear_135 (b2_1 ⟨c50, fun k h1 h2 => hin k h1 (by omega)⟩) hP hS
          · refine lv_aload_n hx hb dX5_isClear_82 rfl (lv_at hl 0 rfl) ?_
            refine cg5_0 FX hK in5 hP (List.mem_of_getElem? (i := 11) rfl) dX5_isClear_83 ?_
            refine lv_iload_n hx hb dX5_isClear_86 rfl (lv_at hl 1 rfl) ?_
            refine lv_iload hx hb dX5_isClear_87 (lv_at hl 5 rfl) ?_
            refine lv_iload hx hb dX5_isClear_89 (lv_at hl 4 rfl) ?_
            refine lv_imul hx hb dX5_isClear_91 ?_
            refine lv_iadd hx hb dX5_isClear_92 ?_
            refine xn_to hx (z := nI (pos a0 b0 (gcS (dst (b0 / w) (a0 / w)) (dst (b0 % w) (a0 % w))) m')) (pos_eq (w := w) (by omega) (by omega) e3 c79 e6.1 e6.2) ?_
            refine ca37 (i := pos a0 b0 (gcS (dst (b0 / w) (a0 / w)) (dst (b0 % w) (a0 % w))) m') (Nat.lt_of_lt_of_le (pos_lt ha0 hb0 c79) hcl) FX hK hP dX5_isClear_93 ?_
            refine lv_iload hx hb dX5_isClear_94 (lv_at hl 3 rfl) ?_
            refine lv_imul hx hb dX5_isClear_96 ?_
            refine lv_aload_n hx hb dX5_isClear_97 rfl (lv_at hl 0 rfl) ?_
            refine cg5_0 FX hK in5 hP (List.mem_of_getElem? (i := 11) rfl) dX5_isClear_98 ?_
            refine lv_iload_n hx hb dX5_isClear_101 rfl (lv_at hl 1 rfl) ?_
            refine ca37 (i := a0) (by omega) FX hK hP dX5_isClear_102 ?_
            refine lv_iload hx hb dX5_isClear_103 (lv_at hl 3 rfl) ?_
            refine lv_imul hx hb dX5_isClear_105 ?_
            refine lv_iload hx hb dX5_isClear_106 (lv_at hl 5 rfl) ?_
            refine lv_aload_n hx hb dX5_isClear_108 rfl (lv_at hl 0 rfl) ?_
            refine cg5_0 FX hK in5 hP (List.mem_of_getElem? (i := 11) rfl) dX5_isClear_109 ?_
            refine lv_iload_n hx hb dX5_isClear_112 rfl (lv_at hl 2 rfl) ?_
            refine ca37 (i := b0) (by omega) FX hK hP dX5_isClear_113 ?_
            refine lv_aload_n hx hb dX5_isClear_114 rfl (lv_at hl 0 rfl) ?_
            refine cg5_0 FX hK in5 hP (List.mem_of_getElem? (i := 11) rfl) dX5_isClear_115 ?_
            refine lv_iload_n hx hb dX5_isClear_118 rfl (lv_at hl 1 rfl) ?_
            refine ca37 (i := a0) (by omega) FX hK hP dX5_isClear_119 ?_
            refine lv_isub hx hb dX5_isClear_120 ?_
            refine lv_imul hx hb dX5_isClear_121 ?_
            refine lv_iadd hx hb dX5_isClear_122 ?_
            refine lv_icmp_lt (tgt := 128) hx hb dX5_isClear_123 (by decide) (fun c123 => ?_) (fun c123 => ?_)
            · refine lv_iinc (v := nI (m' + 1)) (lv' := [(8, .int (nI (m' + 1))), (0, .ref (a 36)), (1, .int (nI a0)), (2, .int (nI b0)), (6, .int (nI (gcS (dst (b0 / w) (a0 / w)) (dst (b0 % w) (a0 % w))))), (7, .int ((nI b0 - nI a0) / nI (gcS (dst (b0 / w) (a0 / w)) (dst (b0 % w) (a0 % w)))))]) hx hb dX5_isClear_128 hl (k := 5) rfl (xn_inc m' 1) (by decide) rfl (fun ls hl => ?_)
              refine lv_goto (tgt := 75) hx hb dX5_isClear_131 (by decide) ?_
              exact ih75 (m' + 1) (by omega) (by omega) (fun k h1 h2 => by rcases Nat.lt_or_ge k m' with h3 | h3; exact hin k h1 h3; rw [show k = m' by omega]; exact c123) (by omega) H locs ls hP hS (lv_sub hl [1, 2, 3, 4, 5, 0] rfl)
            · refine lv_iconst (v := nI 0) hx hb dX5_isClear_126 rfl ?_
              exact ret H locs 127 ls (nI 0) () dX5_isClear_127 (by first | exact b2_0 (fun q => c50 q.1) | exact b2_0 (fun q => c123 (q.2 m' hm c79))) hP hS
      exact L75 _ 1 (by omega) (by omega) (fun k h1 h2 => by omega) (Nat.lt_succ_self _) H locs ls hP hS (lv_sub hl [6, 7, 8, 2, 1, 0] rfl)
    · refine lv_iconst (v := nI 0) hx hb dX5_isClear_53 rfl ?_
      exact ret s.heap [] 54 ls (nI 0) () dX5_isClear_54 (by first | exact b2_0 (fun q => c50 q.1) | exact b2_0 (fun q => c123 (q.2 m' hm c79))) hP hS
  · exact absurd c10 (by omega)

abbrev rmX5_numberFrom : Room := { frames := 3, cells := 0, slots := 0, locals := 71 }
set_option maxRecDepth 100000 in
set_option maxHeartbeats 4000000 in
theorem c_X5_numberFrom (l : Launch) (D : va_G) (y : Nat → ClassId) (a : Nat → Nat) (hA : CA a 44) (P X : PT) (row : Value) (w cN n t : Nat) (q0 : Nat) (hI : IP P w cN n t) (hq0 : q0 < cN) : CtI l D y yX5_numberFrom wsX5_numberFrom rmX5_numberFrom [.ref (a 36), .int (nI q0)] (wC y a P X row) (fun r (_ : Unit) => r = nI (sNf P w n (X.1 7) (X.2 3) q0)) (fun _ => wC y a P X row) (AC a) := by
  refine mkI (cc := cX5_numberFrom) (maxL := 5) (ret := some .int) RX5 rfl (by decide) rfl (Or.inl rfl) (Nat.le_of_ble_eq_true rfl) ?_
  intro p e s m args below meth c Q FX hK hP ret ls hl
  obtain ⟨hx, hb, hml, hown, hts⟩ := id FX
  have hS : va_S (AC a) s.heap s.heap [] := va_S.rf
  have in1 : ∀ w ∈ wsX10, w ∈ wsX5_numberFrom := fun _ h => List.mem_cons_of_mem _ (List.mem_append_right _ (h))
  have in2 : ∀ w ∈ wsX20, w ∈ wsX5_numberFrom := fun _ h => List.mem_cons_of_mem _ (List.mem_append_left _ (List.mem_append_right _ (h)))
  have in5 : ∀ w ∈ wsX50, w ∈ wsX5_numberFrom := fun _ h => List.mem_cons_of_mem _ (List.mem_append_left _ (List.mem_append_left _ (List.mem_append_right _ (h))))
  have hl : lv_has ls 5 [(0, .ref (a 36)), (1, .int (nI q0))] := hl
  have hcl := hI.c30
  have hnl := hI.n8
  have hvw := hI.vw (by omega)
  have hcn := cn_le (nfp P w (X.1 7) (X.2 3) q0)
  refine lv_iconst (v := nI 0) hx hb dX5_numberFrom_0 rfl ?_
  refine lv_istore_n (lv' := [(2, .int (nI 0)), (0, .ref (a 36)), (1, .int (nI q0))]) hx hb dX5_numberFrom_1 rfl hl (by decide) rfl (fun ls hl => ?_)
  refine lv_iconst (v := nI 0) hx hb dX5_numberFrom_2 rfl ?_
  refine lv_istore_n (lv' := [(3, .int (nI 0)), (2, .int (nI 0)), (0, .ref (a 36)), (1, .int (nI q0))]) hx hb dX5_numberFrom_3 rfl hl (by decide) rfl (fun ls hl => ?_)
  have L4 : ∀ (N : Nat) (i : Nat), (i ≤ n) → n - i < N → ∀ (H : Heap) (locs : List Loc) (ls : Array Slot), va_P D vwCl (wC y a P X row) H → va_S (AC a) s.heap H locs → lv_has ls 5 [(0, .ref (a 36)), (1, .int (nI q0)), (2, .int (nI (cn (nfp P w (X.1 7) (X.2 3) q0) i))), (3, .int (nI i))] → W p l e rmX5_numberFrom s m args below meth c H locs 0 0 Q (F0 m 4 ls []) := by
    intro N4
    induction N4 with
    | zero => intro i hi hmeas; exact absurd hmeas (Nat.not_lt_zero _)
    | succ N4 ih4 =>
      intro i hi hmeas H locs ls hP hS hl
      refine lv_iload_n hx hb dX5_numberFrom_4 rfl (lv_at hl 3 rfl) ?_
      refine lv_aload_n hx hb dX5_numberFrom_5 rfl (lv_at hl 0 rfl) ?_
      refine cg5_3 FX hK in5 hP (List.mem_of_getElem? (i := 1) rfl) dX5_numberFrom_6 ?_
      refine cg2_7 FX hK in2 hP (List.mem_of_getElem? (i := 2) rfl) dX5_numberFrom_9 ?_
      refine xn_to hx (z := nI n) hI.nn ?_
      refine xn_icmp_ge (tgt := 54) hx hb (by omega) (by omega) dX5_numberFrom_12 (by decide) (fun c12 => ?_) (fun c12 => ?_)
      · refine lv_iload_n hx hb dX5_numberFrom_54 rfl (lv_at hl 2 rfl) ?_
        exact ret H locs 55 ls (nI (cn (nfp P w (X.1 7) (X.2 3) q0) i)) () dX5_numberFrom_55 (by rw [show n = i by omega]; rfl) hP hS
      · obtain ⟨hp1, hp2, hp3⟩ := hI.pl c12
        refine lv_aload_n hx hb dX5_numberFrom_15 rfl (lv_at hl 0 rfl) ?_
        refine cg5_3 FX hK in5 hP (List.mem_of_getElem? (i := 1) rfl) dX5_numberFrom_16 ?_
        refine cg2_3 FX hK in2 hP (List.mem_of_getElem? (i := 3) rfl) dX5_numberFrom_19 ?_
        refine lv_iload_n hx hb dX5_numberFrom_22 rfl (lv_at hl 3 rfl) ?_
        refine ca18 (i := i) (by omega) FX hK hP dX5_numberFrom_23 ?_
        refine cg1_1 (h := i) (by omega) FX hK in1 hP (List.mem_of_getElem? (i := 4) rfl) dX5_numberFrom_24 ?_
        refine xn_to hx (z := nI (plN P i)) hp1 ?_
        refine lv_istore (lv' := [(4, .int (nI (plN P i))), (0, .ref (a 36)), (1, .int (nI q0)), (2, .int (nI (cn (nfp P w (X.1 7) (X.2 3) q0) i))), (3, .int (nI i))]) hx hb dX5_numberFrom_27 hl (by decide) rfl (fun ls hl => ?_)
        refine lv_iload hx hb dX5_numberFrom_29 (lv_at hl 0 rfl) ?_
        refine lv_iload_n hx hb dX5_numberFrom_31 rfl (lv_at hl 2 rfl) ?_
        refine xn_icmp_eq (tgt := 48) hx hb (by omega) (by omega) dX5_numberFrom_32 (by decide) (fun c32 => ?_) (fun c32 => ?_)
        · refine lv_iinc (v := nI (i + 1)) (lv' := [(3, .int (nI (i + 1))), (4, .int (nI (plN P i))), (0, .ref (a 36)), (1, .int (nI q0)), (2, .int (nI (cn (nfp P w (X.1 7) (X.2 3) q0) i)))]) hx hb dX5_numberFrom_48 hl (k := 4) rfl (xn_inc i 1) (by decide) rfl (fun ls hl => ?_)
          refine lv_goto (tgt := 4) hx hb dX5_numberFrom_51 (by decide) ?_
          rw [← cn_f (p := nfp P w (X.1 7) (X.2 3) q0) (n := i) (by first | exact (fun z => z.1 c32) | exact (fun z => c42 z.2))] at hl
          exact ih4 (i + 1) (by omega) (by omega) H locs ls hP hS (lv_sub hl [2, 3, 4, 0] rfl)
        · refine lv_aload_n hx hb dX5_numberFrom_35 rfl (lv_at hl 1 rfl) ?_
          refine lv_iload_n hx hb dX5_numberFrom_36 rfl (lv_at hl 2 rfl) ?_
          refine lv_iload hx hb dX5_numberFrom_37 (lv_at hl 0 rfl) ?_
          refine cViI [.int (nI q0), .int (nI (plN P i))] [] FX hK (c_X5_isClear l D y a hA P X row w cN q0 (plN P i) hI.ww hvw (by omega) (by omega) (fun z => c32 z.symm)) (cwV 2 hts gX5_numberFrom_X5_isClear rfl rfl rfl (by decide +kernel) ⟨Nat.le_of_ble_eq_true rfl, Nat.le_of_ble_eq_true rfl⟩) hP (pre_recv hK hP (ci := 5) (q0 := 36) rfl rfl) rfl rfl hl (Nat.le_of_ble_eq_true rfl) dX5_numberFrom_39 ⟨Nat.zero_le _, Nat.zero_le _⟩ hS (fun _ h => h) (fun r39 u39 H locs hp39 hP hS _ _ => ?_)
          obtain rfl := hp39
          refine xb_eq (tgt := 48) hx hb dX5_numberFrom_42 (by decide) (fun c42 => ?_) (fun c42 => ?_)
          · refine lv_iinc (v := nI (i + 1)) (lv' := [(3, .int (nI (i + 1))), (4, .int (nI (plN P i))), (0, .ref (a 36)), (1, .int (nI q0)), (2, .int (nI (cn (nfp P w (X.1 7) (X.2 3) q0) i)))]) hx hb dX5_numberFrom_48 hl (k := 4) rfl (xn_inc i 1) (by decide) rfl (fun ls hl => ?_)
            refine lv_goto (tgt := 4) hx hb dX5_numberFrom_51 (by decide) ?_
            rw [← cn_f (p := nfp P w (X.1 7) (X.2 3) q0) (n := i) (by first | exact (fun z => z.1 c32) | exact (fun z => c42 z.2))] at hl
            exact ih4 (i + 1) (by omega) (by omega) H locs ls hP hS (lv_sub hl [2, 3, 4, 0] rfl)
          · refine lv_iinc (v := nI (cn (nfp P w (X.1 7) (X.2 3) q0) i + 1)) (lv' := [(2, .int (nI (cn (nfp P w (X.1 7) (X.2 3) q0) i + 1))), (4, .int (nI (plN P i))), (0, .ref (a 36)), (1, .int (nI q0)), (3, .int (nI i))]) hx hb dX5_numberFrom_45 hl (k := 3) rfl (xn_inc (cn (nfp P w (X.1 7) (X.2 3) q0) i) 1) (by decide) rfl (fun ls hl => ?_)
            refine lv_iinc (v := nI (i + 1)) (lv' := [(3, .int (nI (i + 1))), (2, .int (nI (cn (nfp P w (X.1 7) (X.2 3) q0) i + 1))), (4, .int (nI (plN P i))), (0, .ref (a 36)), (1, .int (nI q0))]) hx hb dX5_numberFrom_48 hl (k := 4) rfl (xn_inc i 1) (by decide) rfl (fun ls hl => ?_)
            refine lv_goto (tgt := 4) hx hb dX5_numberFrom_51 (by decide) ?_
            rw [← cn_t (p := nfp P w (X.1 7) (X.2 3) q0) (n := i) ⟨c32, c42⟩] at hl
            exact ih4 (i + 1) (by omega) (by omega) H locs ls hP hS (lv_sub hl [3, 4, 1, 0] rfl)
  exact L4 _ 0 (Nat.zero_le _) (Nat.lt_succ_self _) s.heap [] ls hP hS (lv_sub hl [2, 3, 1, 0] rfl)

abbrev rmX5_numberOf : Room := { frames := 4, cells := 0, slots := 0, locals := 95 }
set_option maxRecDepth 100000 in
set_option maxHeartbeats 4000000 in
theorem c_X5_numberOf (l : Launch) (D : va_G) (y : Nat → ClassId) (a : Nat → Nat) (hA : CA a 44) (P X : PT) (row : Value) (w cN n t : Nat) (h : Nat) (hI : IP P w cN n t) (hh : h < n) : CtI l D y yX5_numberOf wsX5_numberOf rmX5_numberOf [.ref (a 36), .int (nI h)] (wC y a P X row) (fun r (_ : Unit) => r = nI (sNf P w n (X.1 7) (X.2 3) (plN P h))) (fun _ => wC y a P X row) (AC a) := by
  refine mkI (cc := cX5_numberOf) (maxL := 2) (ret := some .int) RX5 rfl (by decide) rfl (Or.inl rfl) (Nat.le_of_ble_eq_true rfl) ?_
  intro p e s m args below meth c Q FX hK hP ret ls hl
  obtain ⟨hx, hb, hml, hown, hts⟩ := id FX
  have hS : va_S (AC a) s.heap s.heap [] := va_S.rf
  have in1 : ∀ w ∈ wsX10, w ∈ wsX5_numberOf := fun _ h => List.mem_cons_of_mem _ (List.mem_append_right _ (h))
  have in2 : ∀ w ∈ wsX20, w ∈ wsX5_numberOf := fun _ h => List.mem_cons_of_mem _ (List.mem_append_left _ (List.mem_append_right _ (h)))
  have in5 : ∀ w ∈ wsX50, w ∈ wsX5_numberOf := fun _ h => List.mem_cons_of_mem _ (List.mem_append_left _ (List.mem_append_left _ (List.mem_append_right _ (h))))
  have hl : lv_has ls 2 [(0, .ref (a 36)), (1, .int (nI h))] := hl
  have hcl := hI.c30
  have hnl := hI.n8
  obtain ⟨hp1, hp2, hp3⟩ := hI.pl hh
  refine lv_aload_n hx hb dX5_numberOf_0 rfl (lv_at hl 0 rfl) ?_
  refine lv_aload_n hx hb dX5_numberOf_1 rfl (lv_at hl 0 rfl) ?_
  refine cg5_3 FX hK in5 hP (List.mem_of_getElem? (i := 1) rfl) dX5_numberOf_2 ?_
  refine cg2_3 FX hK in2 hP (List.mem_of_getElem? (i := 2) rfl) dX5_numberOf_5 ?_
  refine lv_iload_n hx hb dX5_numberOf_8 rfl (lv_at hl 1 rfl) ?_
  refine ca18 (i := h) (by omega) FX hK hP dX5_numberOf_9 ?_
  refine cg1_1 (h := h) (by omega) FX hK in1 hP (List.mem_of_getElem? (i := 3) rfl) dX5_numberOf_10 ?_
  refine xn_to hx (z := nI (plN P h)) hp1 ?_
  refine cViI [.int (nI (plN P h))] [] FX hK (c_X5_numberFrom l D y a hA P X row w cN n t (plN P h) hI (by omega)) (cwV 1 hts gX5_numberOf_X5_numberFrom rfl rfl rfl (by decide +kernel) ⟨Nat.le_of_ble_eq_true rfl, Nat.le_of_ble_eq_true rfl⟩) hP (pre_recv hK hP (ci := 5) (q0 := 36) rfl rfl) rfl rfl hl (Nat.le_of_ble_eq_true rfl) dX5_numberOf_13 ⟨Nat.zero_le _, Nat.zero_le _⟩ hS (fun _ h => h) (fun r13 u13 H locs hp13 hP hS _ _ => ?_)
  obtain rfl := hp13
  exact ret H locs 16 ls (nI (sNf P w n (X.1 7) (X.2 3) (plN P h))) () dX5_numberOf_16 rfl hP hS

abbrev rmX5_numberIf : Room := { frames := 4, cells := 0, slots := 0, locals := 95 }
set_option maxRecDepth 100000 in
set_option maxHeartbeats 4000000 in
theorem c_X5_numberIf (l : Launch) (D : va_G) (y : Nat → ClassId) (a : Nat → Nat) (hA : CA a 44) (P X : PT) (row : Value) (w cN n t : Nat) (q0 q1 : Nat) (tv : Int32) (hI : IP P w cN n t) (hq0 : q0 < cN) (hq1 : q1 < cN) : CtI l D y yX5_numberIf wsX5_numberIf rmX5_numberIf [.ref (a 36), .int (nI q0), .int (nI q1), .int tv] (wC y a P X row) (fun r (_ : Unit) => r = nI (sNf P w n (X.1 7) (upd (X.2 3) q1 tv) q0)) (fun _ => wC y a P X row) (AC a) := by
  refine mkI (cc := cX5_numberIf) (maxL := 6) (ret := some .int) RX5 rfl (by decide) rfl (Or.inl rfl) (Nat.le_of_ble_eq_true rfl) ?_
  intro p e s m args below meth c Q FX hK hP ret ls hl
  obtain ⟨hx, hb, hml, hown, hts⟩ := id FX
  have hS : va_S (AC a) s.heap s.heap [] := va_S.rf
  have in1 : ∀ w ∈ wsX10, w ∈ wsX5_numberIf := fun _ h => List.mem_cons_of_mem _ (List.mem_append_right _ (h))
  have in2 : ∀ w ∈ wsX20, w ∈ wsX5_numberIf := fun _ h => List.mem_cons_of_mem _ (List.mem_append_left _ (List.mem_append_right _ (h)))
  have in5 : ∀ w ∈ wsX50, w ∈ wsX5_numberIf := fun _ h => List.mem_cons_of_mem _ (List.mem_append_left _ (List.mem_append_left _ (List.mem_append_right _ (h))))
  have hl : lv_has ls 6 [(0, .ref (a 36)), (1, .int (nI q0)), (2, .int (nI q1)), (3, .int tv)] := hl
  have hcl := hI.c30
  refine lv_aload_n hx hb dX5_numberIf_0 rfl (lv_at hl 0 rfl) ?_
  refine cg5_0 FX hK in5 hP (List.mem_of_getElem? (i := 1) rfl) dX5_numberIf_1 ?_
  refine lv_iload_n hx hb dX5_numberIf_4 rfl (lv_at hl 2 rfl) ?_
  refine ca37 (i := q1) (by omega) FX hK hP dX5_numberIf_5 ?_
  refine lv_istore (lv' := [(4, .int (X.2 3 q1)), (0, .ref (a 36)), (1, .int (nI q0)), (2, .int (nI q1)), (3, .int tv)]) hx hb dX5_numberIf_6 hl (by decide) rfl (fun ls hl => ?_)
  refine lv_aload_n hx hb dX5_numberIf_8 rfl (lv_at hl 1 rfl) ?_
  refine cg5_0 FX hK in5 hP (List.mem_of_getElem? (i := 1) rfl) dX5_numberIf_9 ?_
  refine lv_iload_n hx hb dX5_numberIf_12 rfl (lv_at hl 3 rfl) ?_
  refine lv_iload_n hx hb dX5_numberIf_13 rfl (lv_at hl 4 rfl) ?_
  refine cs37 (i := q1) (by omega) FX hK hP hA hS dX5_numberIf_14 (fun H locs hP hS => ?_)
  refine lv_aload_n hx hb dX5_numberIf_15 rfl (lv_at hl 1 rfl) ?_
  refine lv_iload_n hx hb dX5_numberIf_16 rfl (lv_at hl 2 rfl) ?_
  refine cViI [.int (nI q0)] [] FX hK (c_X5_numberFrom l D y a hA P (pa X 3 q1 tv) row w cN n t q0 hI (by omega)) (cwV 1 hts gX5_numberIf_X5_numberFrom rfl rfl rfl (by decide +kernel) ⟨Nat.le_of_ble_eq_true rfl, Nat.le_of_ble_eq_true rfl⟩) hP (pre_recv hK hP (ci := 5) (q0 := 36) rfl rfl) rfl rfl hl (Nat.le_of_ble_eq_true rfl) dX5_numberIf_17 ⟨Nat.zero_le _, Nat.zero_le _⟩ hS (fun _ h => h) (fun r17 u17 H locs hp17 hP hS _ _ => ?_)
  obtain rfl := hp17
  refine lv_istore (lv' := [(5, .int (nI (sNf P w n ((pa X 3 q1 tv).1 7) ((pa X 3 q1 tv).2 3) q0))), (4, .int (X.2 3 q1)), (0, .ref (a 36)), (1, .int (nI q0)), (2, .int (nI q1)), (3, .int tv)]) hx hb dX5_numberIf_20 hl (by decide) rfl (fun ls hl => ?_)
  refine lv_aload_n hx hb dX5_numberIf_22 rfl (lv_at hl 2 rfl) ?_
  refine cg5_0 FX hK in5 hP (List.mem_of_getElem? (i := 1) rfl) dX5_numberIf_23 ?_
  refine lv_iload_n hx hb dX5_numberIf_26 rfl (lv_at hl 4 rfl) ?_
  refine lv_iload hx hb dX5_numberIf_27 (lv_at hl 1 rfl) ?_
  refine cs37 (i := q1) (by omega) FX hK hP hA hS dX5_numberIf_29 (fun H locs hP hS => ?_)
  rw [pa_back] at hP
  refine lv_iload hx hb dX5_numberIf_30 (lv_at hl 0 rfl) ?_
  exact ret H locs 32 ls (nI (sNf P w n ((pa X 3 q1 tv).1 7) ((pa X 3 q1 tv).2 3) q0)) () dX5_numberIf_32 rfl hP hS

abbrev rmX5_countAll : Room := { frames := 5, cells := 0, slots := 0, locals := 116 }
set_option maxRecDepth 100000 in
set_option maxHeartbeats 4000000 in
theorem c_X5_countAll (l : Launch) (D : va_G) (y : Nat → ClassId) (a : Nat → Nat) (hA : CA a 44) (P X : PT) (row : Value) (w cN n t : Nat) (hI : IP P w cN n t) (hc1 : P.1 1 = nI cN) : CtV l D y yX5_countAll wsX5_countAll rmX5_countAll [.ref (a 36)] (wC y a P X row) (fun (X' : PT) => X'.1 7 = P.1 6 ∧ (∀ q, q < cN → X'.2 3 q = sTop P (P.1 5) (fun k => tbI (P.1 4) (nI k)) q) ∧ ∀ h, h < n → X'.2 4 h = nI (sNf P w n (X'.1 7) (X'.2 3) (plN P h))) (fun X' => wC y a P X' row) (AC a) := by
  refine mkV (cc := cX5_countAll) (maxL := 2) RX5 rfl (by decide) rfl (Nat.le_of_ble_eq_true rfl) ?_
  intro p e s m args below meth c Q FX hK hP ret ls hl
  obtain ⟨hx, hb, hml, hown, hts⟩ := id FX
  have hS : va_S (AC a) s.heap s.heap [] := va_S.rf
  have in1 : ∀ w ∈ wsX10, w ∈ wsX5_countAll := fun _ h => List.mem_cons_of_mem _ (List.mem_append_left _ (List.mem_append_right _ (h)))
  have in2 : ∀ w ∈ wsX20, w ∈ wsX5_countAll := fun _ h => List.mem_cons_of_mem _ (List.mem_append_left _ (List.mem_append_left _ (List.mem_append_right _ (h))))
  have in5 : ∀ w ∈ wsX50, w ∈ wsX5_countAll := fun _ h => List.mem_cons_of_mem _ (List.mem_append_left _ (List.mem_append_left _ (List.mem_append_left _ (List.mem_append_right _ (h)))))
  have in7 : ∀ w ∈ wsX70, w ∈ wsX5_countAll := fun _ h => List.mem_cons_of_mem _ (List.mem_append_right _ (h))
  have hl : lv_has ls 2 [(0, .ref (a 36))] := hl
  have hcl := hI.c30
  have hnl := hI.n8
  refine lv_aload_n hx hb dX5_countAll_0 rfl (lv_at hl 0 rfl) ?_
  refine cViV [] [] FX hK (c_X5_lookNow l D y a hA P X row w cN n t hI hc1) (cwV 0 hts gX5_countAll_X5_lookNow rfl rfl rfl (by decide +kernel) ⟨Nat.le_of_ble_eq_true rfl, Nat.le_of_ble_eq_true rfl⟩) hP (pre_recv hK hP (ci := 5) (q0 := 36) rfl rfl) rfl rfl hl (Nat.le_of_ble_eq_true rfl) dX5_countAll_1 ⟨Nat.zero_le _, Nat.zero_le _⟩ hS (fun _ h => h) (fun X1 H locs hp1 hP hS _ _ => ?_)
  obtain ⟨hf1, ht1⟩ := hp1
  refine lv_iconst (v := nI 0) hx hb dX5_countAll_4 rfl ?_
  refine lv_istore_n (lv' := [(1, .int (nI 0)), (0, .ref (a 36))]) hx hb dX5_countAll_5 rfl hl (by decide) rfl (fun ls hl => ?_)
  have L6 : ∀ (N : Nat) (i : Nat) (X' : PT), (i ≤ n) → (X'.1 7 = P.1 6) → (∀ q, q < cN → X'.2 3 q = sTop P (P.1 5) (fun k => tbI (P.1 4) (nI k)) q) → (∀ h, h < i → X'.2 4 h = nI (sNf P w n (X'.1 7) (X'.2 3) (plN P h))) → n - i < N → ∀ (H : Heap) (locs : List Loc) (ls : Array Slot), va_P D vwCl (wC y a P X' row) H → va_S (AC a) s.heap H locs → lv_has ls 2 [(0, .ref (a 36)), (1, .int (nI i))] → W p l e rmX5_countAll s m args below meth c H locs 0 0 Q (F0 m 6 ls []) := by
    intro N6
    induction N6 with
    | zero => intro i X' hi hf ht hn hmeas; exact absurd hmeas (Nat.not_lt_zero _)
    | succ N6 ih6 =>
      intro i X' hi hf ht hn hmeas H locs ls hP hS hl
      refine lv_iload_n hx hb dX5_countAll_6 rfl (lv_at hl 1 rfl) ?_
      refine lv_aload_n hx hb dX5_countAll_7 rfl (lv_at hl 0 rfl) ?_
      refine cg5_3 FX hK in5 hP (List.mem_of_getElem? (i := 1) rfl) dX5_countAll_8 ?_
      refine cg2_7 FX hK in2 hP (List.mem_of_getElem? (i := 2) rfl) dX5_countAll_11 ?_
      refine xn_to hx (z := nI n) hI.nn ?_
      refine xn_icmp_ge (tgt := 34) hx hb (by omega) (by omega) dX5_countAll_14 (by decide) (fun c14 => ?_) (fun c14 => ?_)
      · exact ret H locs 34 ls X' dX5_countAll_34 ⟨hf, ht, fun h hh => hn h (by omega)⟩ hP hS
      · refine lv_aload_n hx hb dX5_countAll_17 rfl (lv_at hl 0 rfl) ?_
        refine cg5_1 FX hK in5 hP (List.mem_of_getElem? (i := 3) rfl) dX5_countAll_18 ?_
        refine lv_iload_n hx hb dX5_countAll_21 rfl (lv_at hl 1 rfl) ?_
        refine lv_aload_n hx hb dX5_countAll_22 rfl (lv_at hl 0 rfl) ?_
        refine lv_iload_n hx hb dX5_countAll_23 rfl (lv_at hl 1 rfl) ?_
        refine cViI [.int (nI i)] [.int (nI i), .ref (a 38)] FX hK (c_X5_numberOf l D y a hA P X' row w cN n t i hI (by omega)) (cwV 1 hts gX5_countAll_X5_numberOf rfl rfl rfl (by decide +kernel) ⟨Nat.le_of_ble_eq_true rfl, Nat.le_of_ble_eq_true rfl⟩) hP (pre_recv hK hP (ci := 5) (q0 := 36) rfl rfl) rfl rfl hl (Nat.le_of_ble_eq_true rfl) dX5_countAll_24 ⟨Nat.zero_le _, Nat.zero_le _⟩ hS (fun _ h => h) (fun r24 u24 H locs hp24 hP hS _ _ => ?_)
        obtain rfl := hp24
        refine cs38 (i := i) (by omega) FX hK hP hA hS dX5_countAll_27 (fun H locs hP hS => ?_)
        refine lv_iinc (v := nI (i + 1)) (lv' := [(1, .int (nI (i + 1))), (0, .ref (a 36))]) hx hb dX5_countAll_28 hl (k := 1) rfl (xn_inc i 1) (by decide) rfl (fun ls hl => ?_)
        refine lv_goto (tgt := 6) hx hb dX5_countAll_31 (by decide) ?_
        exact ih6 (i + 1) (pa X' 4 i (nI (sNf P w n (X'.1 7) (X'.2 3) (plN P i)))) (by omega) hf ht (pa_step (f := fun h => nI (sNf P w n (X'.1 7) (X'.2 3) (plN P h))) hn) (by omega) H locs ls hP hS (lv_sub hl [1, 0] rfl)
  exact L6 _ 0 X1 (Nat.zero_le _) hf1 ht1 (fun q h => absurd h (Nat.not_lt_zero _)) (Nat.lt_succ_self _) H locs ls hP hS (lv_sub hl [1, 0] rfl)

abbrev rmX5_sumOfNumbers : Room := { frames := 0, cells := 0, slots := 0, locals := 0 }
set_option maxRecDepth 100000 in
set_option maxHeartbeats 4000000 in
theorem c_X5_sumOfNumbers (l : Launch) (D : va_G) (y : Nat → ClassId) (a : Nat → Nat) (hA : CA a 44) (P X : PT) (row : Value) (n : Nat) (f : Nat → Nat) (hn : P.1 2 = nI n) (hn8 : n ≤ 8) (hf : ∀ h, h < n → X.2 4 h = nI (f h)) : CtI l D y yX5_sumOfNumbers wsX5_sumOfNumbers rmX5_sumOfNumbers [.ref (a 36)] (wC y a P X row) (fun r (_ : Unit) => r = nI (sm f n)) (fun _ => wC y a P X row) (AC a) := by
  refine mkI (cc := cX5_sumOfNumbers) (maxL := 3) (ret := some .int) RX5 rfl (by decide) rfl (Or.inl rfl) (Nat.le_of_ble_eq_true rfl) ?_
  intro p e s m args below meth c Q FX hK hP ret ls hl
  obtain ⟨hx, hb, hml, hown, hts⟩ := id FX
  have hS : va_S (AC a) s.heap s.heap [] := va_S.rf
  have in2 : ∀ w ∈ wsX20, w ∈ wsX5_sumOfNumbers := fun _ h => List.mem_cons_of_mem _ (List.mem_append_right _ (h))
  have in5 : ∀ w ∈ wsX50, w ∈ wsX5_sumOfNumbers := fun _ h => List.mem_cons_of_mem _ (List.mem_append_left _ (List.mem_append_right _ (h)))
  have hl : lv_has ls 3 [(0, .ref (a 36))] := hl
  refine lv_iconst (v := nI 0) hx hb dX5_sumOfNumbers_0 rfl ?_
  refine lv_istore_n (lv' := [(1, .int (nI 0)), (0, .ref (a 36))]) hx hb dX5_sumOfNumbers_1 rfl hl (by decide) rfl (fun ls hl => ?_)
  refine lv_iconst (v := nI 0) hx hb dX5_sumOfNumbers_2 rfl ?_
  refine lv_istore_n (lv' := [(2, .int (nI 0)), (1, .int (nI 0)), (0, .ref (a 36))]) hx hb dX5_sumOfNumbers_3 rfl hl (by decide) rfl (fun ls hl => ?_)
  have L4 : ∀ (N : Nat) (i : Nat), (i ≤ n) → n - i < N → ∀ (H : Heap) (locs : List Loc) (ls : Array Slot), va_P D vwCl (wC y a P X row) H → va_S (AC a) s.heap H locs → lv_has ls 3 [(0, .ref (a 36)), (1, .int (nI (sm f i))), (2, .int (nI i))] → W p l e rmX5_sumOfNumbers s m args below meth c H locs 0 0 Q (F0 m 4 ls []) := by
    intro N4
    induction N4 with
    | zero => intro i hi hmeas; exact absurd hmeas (Nat.not_lt_zero _)
    | succ N4 ih4 =>
      intro i hi hmeas H locs ls hP hS hl
      refine lv_iload_n hx hb dX5_sumOfNumbers_4 rfl (lv_at hl 2 rfl) ?_
      refine lv_aload_n hx hb dX5_sumOfNumbers_5 rfl (lv_at hl 0 rfl) ?_
      refine cg5_3 FX hK in5 hP (List.mem_of_getElem? (i := 1) rfl) dX5_sumOfNumbers_6 ?_
      refine cg2_7 FX hK in2 hP (List.mem_of_getElem? (i := 2) rfl) dX5_sumOfNumbers_9 ?_
      refine xn_to hx (z := nI n) hn ?_
      refine xn_icmp_ge (tgt := 30) hx hb (by omega) (by omega) dX5_sumOfNumbers_12 (by decide) (fun c12 => ?_) (fun c12 => ?_)
      · refine lv_iload_n hx hb dX5_sumOfNumbers_30 rfl (lv_at hl 1 rfl) ?_
        exact ret H locs 31 ls (nI (sm f i)) () dX5_sumOfNumbers_31 (by rw [show n = i by omega]) hP hS
      · refine lv_iload_n hx hb dX5_sumOfNumbers_15 rfl (lv_at hl 1 rfl) ?_
        refine lv_aload_n hx hb dX5_sumOfNumbers_16 rfl (lv_at hl 0 rfl) ?_
        refine cg5_1 FX hK in5 hP (List.mem_of_getElem? (i := 3) rfl) dX5_sumOfNumbers_17 ?_
        refine lv_iload_n hx hb dX5_sumOfNumbers_20 rfl (lv_at hl 2 rfl) ?_
        refine ca38 (i := i) (by omega) FX hK hP dX5_sumOfNumbers_21 ?_
        refine xn_to hx (z := nI (f i)) (hf i c12) ?_
        refine xn_iadd (a := sm f i) (b := f i) hx hb dX5_sumOfNumbers_22 ?_
        refine lv_istore_n (lv' := [(1, .int (nI ((sm f i) + (f i)))), (0, .ref (a 36)), (2, .int (nI i))]) hx hb dX5_sumOfNumbers_23 rfl hl (by decide) rfl (fun ls hl => ?_)
        refine lv_iinc (v := nI (i + 1)) (lv' := [(2, .int (nI (i + 1))), (1, .int (nI ((sm f i) + (f i)))), (0, .ref (a 36))]) hx hb dX5_sumOfNumbers_24 hl (k := 2) rfl (xn_inc i 1) (by decide) rfl (fun ls hl => ?_)
        refine lv_goto (tgt := 4) hx hb dX5_sumOfNumbers_27 (by decide) ?_
        exact ih4 (i + 1) (by omega) (by omega) H locs ls hP hS (lv_sub hl [2, 1, 0] rfl)
  exact L4 _ 0 (Nat.zero_le _) (Nat.lt_succ_self _) s.heap [] ls hP hS (lv_sub hl [2, 1, 0] rfl)

abbrev rmX5_housesWith : Room := { frames := 0, cells := 0, slots := 0, locals := 0 }
set_option maxRecDepth 100000 in
set_option maxHeartbeats 4000000 in
theorem c_X5_housesWith (l : Launch) (D : va_G) (y : Nat → ClassId) (a : Nat → Nat) (hA : CA a 44) (P X : PT) (row : Value) (n : Nat) (v : Int32) (hn : P.1 2 = nI n) (hn8 : n ≤ 8) : CtI l D y yX5_housesWith wsX5_housesWith rmX5_housesWith [.ref (a 36), .int v] (wC y a P X row) (fun r (_ : Unit) => r = msk (fun h => X.2 4 h = v) n) (fun _ => wC y a P X row) (AC a) := by
  refine mkI (cc := cX5_housesWith) (maxL := 4) (ret := some .int) RX5 rfl (by decide) rfl (Or.inl rfl) (Nat.le_of_ble_eq_true rfl) ?_
  intro p e s m args below meth c Q FX hK hP ret ls hl
  obtain ⟨hx, hb, hml, hown, hts⟩ := id FX
  have hS : va_S (AC a) s.heap s.heap [] := va_S.rf
  have in2 : ∀ w ∈ wsX20, w ∈ wsX5_housesWith := fun _ h => List.mem_cons_of_mem _ (List.mem_append_right _ (h))
  have in5 : ∀ w ∈ wsX50, w ∈ wsX5_housesWith := fun _ h => List.mem_cons_of_mem _ (List.mem_append_left _ (List.mem_append_right _ (h)))
  have hl : lv_has ls 4 [(0, .ref (a 36)), (1, .int v)] := hl
  refine lv_iconst (v := nI 0) hx hb dX5_housesWith_0 rfl ?_
  refine lv_istore_n (lv' := [(2, .int (nI 0)), (0, .ref (a 36)), (1, .int v)]) hx hb dX5_housesWith_1 rfl hl (by decide) rfl (fun ls hl => ?_)
  refine lv_iconst (v := nI 0) hx hb dX5_housesWith_2 rfl ?_
  refine lv_istore_n (lv' := [(3, .int (nI 0)), (2, .int (nI 0)), (0, .ref (a 36)), (1, .int v)]) hx hb dX5_housesWith_3 rfl hl (by decide) rfl (fun ls hl => ?_)
  have L4 : ∀ (N : Nat) (i : Nat), (i ≤ n) → n - i < N → ∀ (H : Heap) (locs : List Loc) (ls : Array Slot), va_P D vwCl (wC y a P X row) H → va_S (AC a) s.heap H locs → lv_has ls 4 [(0, .ref (a 36)), (1, .int v), (2, .int (msk (fun h => X.2 4 h = v) i)), (3, .int (nI i))] → W p l e rmX5_housesWith s m args below meth c H locs 0 0 Q (F0 m 4 ls []) := by
    intro N4
    induction N4 with
    | zero => intro i hi hmeas; exact absurd hmeas (Nat.not_lt_zero _)
    | succ N4 ih4 =>
      intro i hi hmeas H locs ls hP hS hl
      refine lv_iload_n hx hb dX5_housesWith_4 rfl (lv_at hl 3 rfl) ?_
      refine lv_aload_n hx hb dX5_housesWith_5 rfl (lv_at hl 0 rfl) ?_
      refine cg5_3 FX hK in5 hP (List.mem_of_getElem? (i := 1) rfl) dX5_housesWith_6 ?_
      refine cg2_7 FX hK in2 hP (List.mem_of_getElem? (i := 2) rfl) dX5_housesWith_9 ?_
      refine xn_to hx (z := nI n) hn ?_
      refine xn_icmp_ge (tgt := 37) hx hb (by omega) (by omega) dX5_housesWith_12 (by decide) (fun c12 => ?_) (fun c12 => ?_)
      · refine lv_iload_n hx hb dX5_housesWith_37 rfl (lv_at hl 2 rfl) ?_
        exact ret H locs 38 ls (msk (fun h => X.2 4 h = v) i) () dX5_housesWith_38 (by rw [show n = i by omega]) hP hS
      · refine lv_aload_n hx hb dX5_housesWith_15 rfl (lv_at hl 0 rfl) ?_
        refine cg5_1 FX hK in5 hP (List.mem_of_getElem? (i := 3) rfl) dX5_housesWith_16 ?_
        refine lv_iload_n hx hb dX5_housesWith_19 rfl (lv_at hl 3 rfl) ?_
        refine ca38 (i := i) (by omega) FX hK hP dX5_housesWith_20 ?_
        refine lv_iload_n hx hb dX5_housesWith_21 rfl (lv_at hl 1 rfl) ?_
        refine lv_icmp_ne (tgt := 31) hx hb dX5_housesWith_22 (by decide) (fun c22 => ?_) (fun c22 => ?_)
        · refine lv_iinc (v := nI (i + 1)) (lv' := [(3, .int (nI (i + 1))), (0, .ref (a 36)), (1, .int v), (2, .int (msk (fun h => X.2 4 h = v) i))]) hx hb dX5_housesWith_31 hl (k := 3) rfl (xn_inc i 1) (by decide) rfl (fun ls hl => ?_)
          refine lv_goto (tgt := 4) hx hb dX5_housesWith_34 (by decide) ?_
          rw [← msk_f (p := (fun h => X.2 4 h = v)) (n := i) c22] at hl
          exact ih4 (i + 1) (by omega) (by omega) H locs ls hP hS (lv_sub hl [1, 2, 3, 0] rfl)
        · refine lv_iload_n hx hb dX5_housesWith_25 rfl (lv_at hl 2 rfl) ?_
          refine lv_iconst (v := nI 1) hx hb dX5_housesWith_26 rfl ?_
          refine lv_iload_n hx hb dX5_housesWith_27 rfl (lv_at hl 3 rfl) ?_
          refine lv_ishl hx hb dX5_housesWith_28 ?_
          refine lv_ior hx hb dX5_housesWith_29 ?_
          refine lv_istore_n (lv' := [(2, .int ((msk (fun h => X.2 4 h = v) i) ||| ((nI 1) <<< ((nI i) &&& 31)))), (0, .ref (a 36)), (1, .int v), (3, .int (nI i))]) hx hb dX5_housesWith_30 rfl hl (by decide) rfl (fun ls hl => ?_)
          refine lv_iinc (v := nI (i + 1)) (lv' := [(3, .int (nI (i + 1))), (2, .int ((msk (fun h => X.2 4 h = v) i) ||| ((nI 1) <<< ((nI i) &&& 31)))), (0, .ref (a 36)), (1, .int v)]) hx hb dX5_housesWith_31 hl (k := 3) rfl (xn_inc i 1) (by decide) rfl (fun ls hl => ?_)
          refine lv_goto (tgt := 4) hx hb dX5_housesWith_34 (by decide) ?_
          rw [← msk_t (p := (fun h => X.2 4 h = v)) (n := i) c22] at hl
          exact ih4 (i + 1) (by omega) (by omega) H locs ls hP hS (lv_sub hl [2, 3, 1, 0] rfl)
  exact L4 _ 0 (Nat.zero_le _) (Nat.lt_succ_self _) s.heap [] ls hP hS (lv_sub hl [2, 3, 1, 0] rfl)

abbrev rmX5_isSeenByOne : Room := { frames := 3, cells := 0, slots := 0, locals := 71 }
set_option maxRecDepth 100000 in
set_option maxHeartbeats 4000000 in
theorem c_X5_isSeenByOne (l : Launch) (D : va_G) (y : Nat → ClassId) (a : Nat → Nat) (hA : CA a 44) (P X : PT) (row : Value) (w cN n t : Nat) (h : Nat) (lk : Int32) (hI : IP P w cN n t) (hh : h < n) : CtI l D y yX5_isSeenByOne wsX5_isSeenByOne rmX5_isSeenByOne [.ref (a 36), .int (nI h), .int lk] (wC y a P X row) (fun r (_ : Unit) => r = b2 (∃ o, o < n ∧ o ≠ h ∧ tbI lk (nI o) ∧ sClr w (X.1 7) (X.2 3) (plN P o) (plN P h))) (fun _ => wC y a P X row) (AC a) := by
  refine mkI (cc := cX5_isSeenByOne) (maxL := 4) (ret := some .boolean) RX5 rfl (by decide) rfl (Or.inr ⟨rfl, fun r u h => by rw [h]; exact b2_01 _⟩) (Nat.le_of_ble_eq_true rfl) ?_
  intro p e s m args below meth c Q FX hK hP ret ls hl
  obtain ⟨hx, hb, hml, hown, hts⟩ := id FX
  have hS : va_S (AC a) s.heap s.heap [] := va_S.rf
  have in1 : ∀ w ∈ wsX10, w ∈ wsX5_isSeenByOne := fun _ h => List.mem_cons_of_mem _ (List.mem_append_right _ (h))
  have in2 : ∀ w ∈ wsX20, w ∈ wsX5_isSeenByOne := fun _ h => List.mem_cons_of_mem _ (List.mem_append_left _ (List.mem_append_right _ (h)))
  have in5 : ∀ w ∈ wsX50, w ∈ wsX5_isSeenByOne := fun _ h => List.mem_cons_of_mem _ (List.mem_append_left _ (List.mem_append_left _ (List.mem_append_right _ (h))))
  have hl : lv_has ls 4 [(0, .ref (a 36)), (1, .int (nI h)), (2, .int lk)] := hl
  have hcl := hI.c30
  have hnl := hI.n8
  obtain ⟨hq1, hq2, hq3⟩ := hI.pl hh
  have hvw := hI.vw (by omega)
  refine lv_iconst (v := nI 0) hx hb dX5_isSeenByOne_0 rfl ?_
  refine lv_istore_n (lv' := [(3, .int (nI 0)), (0, .ref (a 36)), (1, .int (nI h)), (2, .int lk)]) hx hb dX5_isSeenByOne_1 rfl hl (by decide) rfl (fun ls hl => ?_)
  have L2 : ∀ (N : Nat) (i : Nat), (i ≤ n) → (¬ (∃ o, o < i ∧ o ≠ h ∧ tbI lk (nI o) ∧ sClr w (X.1 7) (X.2 3) (plN P o) (plN P h))) → n - i < N → ∀ (H : Heap) (locs : List Loc) (ls : Array Slot), va_P D vwCl (wC y a P X row) H → va_S (AC a) s.heap H locs → lv_has ls 4 [(0, .ref (a 36)), (1, .int (nI h)), (2, .int lk), (3, .int (nI i))] → W p l e rmX5_isSeenByOne s m args below meth c H locs 0 0 Q (F0 m 2 ls []) := by
    intro N2
    induction N2 with
    | zero => intro i hi hno hmeas; exact absurd hmeas (Nat.not_lt_zero _)
    | succ N2 ih2 =>
      intro i hi hno hmeas H locs ls hP hS hl
      refine lv_iload_n hx hb dX5_isSeenByOne_2 rfl (lv_at hl 3 rfl) ?_
      refine lv_aload_n hx hb dX5_isSeenByOne_3 rfl (lv_at hl 0 rfl) ?_
      refine cg5_3 FX hK in5 hP (List.mem_of_getElem? (i := 1) rfl) dX5_isSeenByOne_4 ?_
      refine cg2_7 FX hK in2 hP (List.mem_of_getElem? (i := 2) rfl) dX5_isSeenByOne_7 ?_
      refine xn_to hx (z := nI n) hI.nn ?_
      refine xn_icmp_ge (tgt := 65) hx hb (by omega) (by omega) dX5_isSeenByOne_10 (by decide) (fun c10 => ?_) (fun c10 => ?_)
      · refine lv_iconst (v := nI 0) hx hb dX5_isSeenByOne_65 rfl ?_
        exact ret H locs 66 ls (nI 0) () dX5_isSeenByOne_66 (by rw [show n = i by omega]; exact b2_0 hno) hP hS
      · refine lv_iload_n hx hb dX5_isSeenByOne_13 rfl (lv_at hl 3 rfl) ?_
        refine lv_iload_n hx hb dX5_isSeenByOne_14 rfl (lv_at hl 1 rfl) ?_
        refine xn_icmp_eq (tgt := 59) hx hb (by omega) (by omega) dX5_isSeenByOne_15 (by decide) (fun c15 => ?_) (fun c15 => ?_)
        · refine lv_iinc (v := nI (i + 1)) (lv' := [(3, .int (nI (i + 1))), (0, .ref (a 36)), (1, .int (nI h)), (2, .int lk)]) hx hb dX5_isSeenByOne_59 hl (k := 3) rfl (xn_inc i 1) (by decide) rfl (fun ls hl => ?_)
          refine lv_goto (tgt := 2) hx hb dX5_isSeenByOne_62 (by decide) ?_
          exact ih2 (i + 1) (by omega) (no_step hno (by first | exact (fun z => z.1 c15) | exact (fun z => c23 z.2.1) | exact (fun z => c54 z.2.2))) (by omega) H locs ls hP hS (lv_sub hl [1, 2, 3, 0] rfl)
        · refine lv_iload_n hx hb dX5_isSeenByOne_18 rfl (lv_at hl 3 rfl) ?_
          refine lv_iload_n hx hb dX5_isSeenByOne_19 rfl (lv_at hl 2 rfl) ?_
          refine cSnI [.int (nI i), .int lk] [] FX hK (c_X8_isIn l D y (nI i) lk) ⟨va_cnB 2 hts ggX5_isSeenByOne_X8_isIn rfl rfl rfl (hK.2 _ (List.mem_of_getElem? (i := 8) rfl)) (hts _ (List.mem_of_getElem? (i := 6) rfl)) (by decide +kernel) ⟨Nat.le_of_ble_eq_true rfl, Nat.le_of_ble_eq_true rfl⟩, (hts _ (List.mem_of_getElem? (i := 5) rfl)), trivial⟩ rfl rfl hl (Nat.le_of_ble_eq_true rfl) dX5_isSeenByOne_20 ⟨Nat.zero_le _, Nat.zero_le _⟩ hP hS (fun r20 H locs hp20 hP hS => ?_)
          obtain rfl := hp20
          refine xb_eq (tgt := 59) hx hb dX5_isSeenByOne_23 (by decide) (fun c23 => ?_) (fun c23 => ?_)
          · refine lv_iinc (v := nI (i + 1)) (lv' := [(3, .int (nI (i + 1))), (0, .ref (a 36)), (1, .int (nI h)), (2, .int lk)]) hx hb dX5_isSeenByOne_59 hl (k := 3) rfl (xn_inc i 1) (by decide) rfl (fun ls hl => ?_)
            refine lv_goto (tgt := 2) hx hb dX5_isSeenByOne_62 (by decide) ?_
            exact ih2 (i + 1) (by omega) (no_step hno (by first | exact (fun z => z.1 c15) | exact (fun z => c23 z.2.1) | exact (fun z => c54 z.2.2))) (by omega) H locs ls hP hS (lv_sub hl [1, 2, 3, 0] rfl)
          · obtain ⟨hp1, hp2, hp3⟩ := hI.pl c10
            refine lv_aload_n hx hb dX5_isSeenByOne_26 rfl (lv_at hl 0 rfl) ?_
            refine lv_aload_n hx hb dX5_isSeenByOne_27 rfl (lv_at hl 0 rfl) ?_
            refine cg5_3 FX hK in5 hP (List.mem_of_getElem? (i := 1) rfl) dX5_isSeenByOne_28 ?_
            refine cg2_3 FX hK in2 hP (List.mem_of_getElem? (i := 3) rfl) dX5_isSeenByOne_31 ?_
            refine lv_iload_n hx hb dX5_isSeenByOne_34 rfl (lv_at hl 3 rfl) ?_
            refine ca18 (i := i) (by omega) FX hK hP dX5_isSeenByOne_35 ?_
            refine cg1_1 (h := i) (by omega) FX hK in1 hP (List.mem_of_getElem? (i := 4) rfl) dX5_isSeenByOne_36 ?_
            refine xn_to hx (z := nI (plN P i)) hp1 ?_
            refine lv_aload_n hx hb dX5_isSeenByOne_39 rfl (lv_at hl 0 rfl) ?_
            refine cg5_3 FX hK in5 hP (List.mem_of_getElem? (i := 1) rfl) dX5_isSeenByOne_40 ?_
            refine cg2_3 FX hK in2 hP (List.mem_of_getElem? (i := 3) rfl) dX5_isSeenByOne_43 ?_
            refine lv_iload_n hx hb dX5_isSeenByOne_46 rfl (lv_at hl 1 rfl) ?_
            refine ca18 (i := h) (by omega) FX hK hP dX5_isSeenByOne_47 ?_
            refine cg1_1 (h := h) (by omega) FX hK in1 hP (List.mem_of_getElem? (i := 4) rfl) dX5_isSeenByOne_48 ?_
            refine xn_to hx (z := nI (plN P h)) hq1 ?_
            refine cViI [.int (nI (plN P i)), .int (nI (plN P h))] [] FX hK (c_X5_isClear l D y a hA P X row w cN (plN P i) (plN P h) hI.ww hvw (by omega) (by omega) (fun z => c15 (hI.pl_inj c10 hh z))) (cwV 2 hts gX5_isSeenByOne_X5_isClear rfl rfl rfl (by decide +kernel) ⟨Nat.le_of_ble_eq_true rfl, Nat.le_of_ble_eq_true rfl⟩) hP (pre_recv hK hP (ci := 5) (q0 := 36) rfl rfl) rfl rfl hl (Nat.le_of_ble_eq_true rfl) dX5_isSeenByOne_51 ⟨Nat.zero_le _, Nat.zero_le _⟩ hS (fun _ h => h) (fun r51 u51 H locs hp51 hP hS _ _ => ?_)
            obtain rfl := hp51
            refine xb_eq (tgt := 59) hx hb dX5_isSeenByOne_54 (by decide) (fun c54 => ?_) (fun c54 => ?_)
            · refine lv_iinc (v := nI (i + 1)) (lv' := [(3, .int (nI (i + 1))), (0, .ref (a 36)), (1, .int (nI h)), (2, .int lk)]) hx hb dX5_isSeenByOne_59 hl (k := 3) rfl (xn_inc i 1) (by decide) rfl (fun ls hl => ?_)
              refine lv_goto (tgt := 2) hx hb dX5_isSeenByOne_62 (by decide) ?_
              exact ih2 (i + 1) (by omega) (no_step hno (by first | exact (fun z => z.1 c15) | exact (fun z => c23 z.2.1) | exact (fun z => c54 z.2.2))) (by omega) H locs ls hP hS (lv_sub hl [1, 2, 3, 0] rfl)
            · refine lv_iconst (v := nI 1) hx hb dX5_isSeenByOne_57 rfl ?_
              exact ret H locs 58 ls (nI 1) () dX5_isSeenByOne_58 (b2_1 ⟨i, c10, c15, c23, c54⟩) hP hS
  exact L2 _ 0 (Nat.zero_le _) (by rintro ⟨o, h1, -⟩; omega) (Nat.lt_succ_self _) s.heap [] ls hP hS (lv_sub hl [1, 2, 3, 0] rfl)

abbrev rmX5_seenAmong : Room := { frames := 4, cells := 0, slots := 0, locals := 94 }
set_option maxRecDepth 100000 in
set_option maxHeartbeats 4000000 in
theorem c_X5_seenAmong (l : Launch) (D : va_G) (y : Nat → ClassId) (a : Nat → Nat) (hA : CA a 44) (P X : PT) (row : Value) (w cN n t : Nat) (set lk : Int32) (hI : IP P w cN n t) : CtI l D y yX5_seenAmong wsX5_seenAmong rmX5_seenAmong [.ref (a 36), .int set, .int lk] (wC y a P X row) (fun r (_ : Unit) => r = msk (fun h => tbI set (nI h) ∧ (∃ o, o < n ∧ o ≠ h ∧ tbI lk (nI o) ∧ sClr w (X.1 7) (X.2 3) (plN P o) (plN P h))) n) (fun _ => wC y a P X row) (AC a) := by
  refine mkI (cc := cX5_seenAmong) (maxL := 5) (ret := some .int) RX5 rfl (by decide) rfl (Or.inl rfl) (Nat.le_of_ble_eq_true rfl) ?_
  intro p e s m args below meth c Q FX hK hP ret ls hl
  obtain ⟨hx, hb, hml, hown, hts⟩ := id FX
  have hS : va_S (AC a) s.heap s.heap [] := va_S.rf
  have in1 : ∀ w ∈ wsX10, w ∈ wsX5_seenAmong := fun _ h => List.mem_cons_of_mem _ (List.mem_append_right _ (h))
  have in2 : ∀ w ∈ wsX20, w ∈ wsX5_seenAmong := fun _ h => List.mem_cons_of_mem _ (List.mem_append_left _ (List.mem_append_right _ (h)))
  have in5 : ∀ w ∈ wsX50, w ∈ wsX5_seenAmong := fun _ h => List.mem_cons_of_mem _ (List.mem_append_left _ (List.mem_append_left _ (List.mem_append_right _ (h))))
  have hl : lv_has ls 5 [(0, .ref (a 36)), (1, .int set), (2, .int lk)] := hl
  have hnl := hI.n8
  refine lv_iconst (v := nI 0) hx hb dX5_seenAmong_0 rfl ?_
  refine lv_istore_n (lv' := [(3, .int (nI 0)), (0, .ref (a 36)), (1, .int set), (2, .int lk)]) hx hb dX5_seenAmong_1 rfl hl (by decide) rfl (fun ls hl => ?_)
  refine lv_iconst (v := nI 0) hx hb dX5_seenAmong_2 rfl ?_
  refine lv_istore (lv' := [(4, .int (nI 0)), (3, .int (nI 0)), (0, .ref (a 36)), (1, .int set), (2, .int lk)]) hx hb dX5_seenAmong_3 hl (by decide) rfl (fun ls hl => ?_)
  have L5 : ∀ (N : Nat) (i : Nat), (i ≤ n) → n - i < N → ∀ (H : Heap) (locs : List Loc) (ls : Array Slot), va_P D vwCl (wC y a P X row) H → va_S (AC a) s.heap H locs → lv_has ls 5 [(0, .ref (a 36)), (1, .int set), (2, .int lk), (3, .int (msk (fun h => tbI set (nI h) ∧ (∃ o, o < n ∧ o ≠ h ∧ tbI lk (nI o) ∧ sClr w (X.1 7) (X.2 3) (plN P o) (plN P h))) i)), (4, .int (nI i))] → W p l e rmX5_seenAmong s m args below meth c H locs 0 0 Q (F0 m 5 ls []) := by
    intro N5
    induction N5 with
    | zero => intro i hi hmeas; exact absurd hmeas (Nat.not_lt_zero _)
    | succ N5 ih5 =>
      intro i hi hmeas H locs ls hP hS hl
      refine lv_iload hx hb dX5_seenAmong_5 (lv_at hl 4 rfl) ?_
      refine lv_aload_n hx hb dX5_seenAmong_7 rfl (lv_at hl 0 rfl) ?_
      refine cg5_3 FX hK in5 hP (List.mem_of_getElem? (i := 1) rfl) dX5_seenAmong_8 ?_
      refine cg2_7 FX hK in2 hP (List.mem_of_getElem? (i := 2) rfl) dX5_seenAmong_11 ?_
      refine xn_to hx (z := nI n) hI.nn ?_
      refine xn_icmp_ge (tgt := 49) hx hb (by omega) (by omega) dX5_seenAmong_14 (by decide) (fun c14 => ?_) (fun c14 => ?_)
      · refine lv_iload_n hx hb dX5_seenAmong_49 rfl (lv_at hl 3 rfl) ?_
        exact ret H locs 50 ls (msk (fun h => tbI set (nI h) ∧ (∃ o, o < n ∧ o ≠ h ∧ tbI lk (nI o) ∧ sClr w (X.1 7) (X.2 3) (plN P o) (plN P h))) i) () dX5_seenAmong_50 (by rw [show n = i by omega]) hP hS
      · refine lv_iload hx hb dX5_seenAmong_17 (lv_at hl 4 rfl) ?_
        refine lv_iload_n hx hb dX5_seenAmong_19 rfl (lv_at hl 1 rfl) ?_
        refine cSnI [.int (nI i), .int set] [] FX hK (c_X8_isIn l D y (nI i) set) ⟨va_cnB 2 hts ggX5_seenAmong_X8_isIn rfl rfl rfl (hK.2 _ (List.mem_of_getElem? (i := 8) rfl)) (hts _ (List.mem_of_getElem? (i := 4) rfl)) (by decide +kernel) ⟨Nat.le_of_ble_eq_true rfl, Nat.le_of_ble_eq_true rfl⟩, (hts _ (List.mem_of_getElem? (i := 3) rfl)), trivial⟩ rfl rfl hl (Nat.le_of_ble_eq_true rfl) dX5_seenAmong_20 ⟨Nat.zero_le _, Nat.zero_le _⟩ hP hS (fun r20 H locs hp20 hP hS => ?_)
        obtain rfl := hp20
        refine xb_eq (tgt := 43) hx hb dX5_seenAmong_23 (by decide) (fun c23 => ?_) (fun c23 => ?_)
        · refine lv_iinc (v := nI (i + 1)) (lv' := [(4, .int (nI (i + 1))), (0, .ref (a 36)), (1, .int set), (2, .int lk), (3, .int (msk (fun h => tbI set (nI h) ∧ (∃ o, o < n ∧ o ≠ h ∧ tbI lk (nI o) ∧ sClr w (X.1 7) (X.2 3) (plN P o) (plN P h))) i))]) hx hb dX5_seenAmong_43 hl (k := 4) rfl (xn_inc i 1) (by decide) rfl (fun ls hl => ?_)
          refine lv_goto (tgt := 5) hx hb dX5_seenAmong_46 (by decide) ?_
          rw [← msk_f (p := (fun h => tbI set (nI h) ∧ (∃ o, o < n ∧ o ≠ h ∧ tbI lk (nI o) ∧ sClr w (X.1 7) (X.2 3) (plN P o) (plN P h)))) (n := i) (by first | exact (fun z => c23 z.1) | exact (fun z => c33 z.2))] at hl
          exact ih5 (i + 1) (by omega) (by omega) H locs ls hP hS (lv_sub hl [1, 2, 3, 4, 0] rfl)
        · refine lv_aload_n hx hb dX5_seenAmong_26 rfl (lv_at hl 0 rfl) ?_
          refine lv_iload hx hb dX5_seenAmong_27 (lv_at hl 4 rfl) ?_
          refine lv_iload_n hx hb dX5_seenAmong_29 rfl (lv_at hl 2 rfl) ?_
          refine cViI [.int (nI i), .int lk] [] FX hK (c_X5_isSeenByOne l D y a hA P X row w cN n t i lk hI (by omega)) (cwV 2 hts gX5_seenAmong_X5_isSeenByOne rfl rfl rfl (by decide +kernel) ⟨Nat.le_of_ble_eq_true rfl, Nat.le_of_ble_eq_true rfl⟩) hP (pre_recv hK hP (ci := 5) (q0 := 36) rfl rfl) rfl rfl hl (Nat.le_of_ble_eq_true rfl) dX5_seenAmong_30 ⟨Nat.zero_le _, Nat.zero_le _⟩ hS (fun _ h => h) (fun r30 u30 H locs hp30 hP hS _ _ => ?_)
          obtain rfl := hp30
          refine xb_eq (tgt := 43) hx hb dX5_seenAmong_33 (by decide) (fun c33 => ?_) (fun c33 => ?_)
          · refine lv_iinc (v := nI (i + 1)) (lv' := [(4, .int (nI (i + 1))), (0, .ref (a 36)), (1, .int set), (2, .int lk), (3, .int (msk (fun h => tbI set (nI h) ∧ (∃ o, o < n ∧ o ≠ h ∧ tbI lk (nI o) ∧ sClr w (X.1 7) (X.2 3) (plN P o) (plN P h))) i))]) hx hb dX5_seenAmong_43 hl (k := 4) rfl (xn_inc i 1) (by decide) rfl (fun ls hl => ?_)
            refine lv_goto (tgt := 5) hx hb dX5_seenAmong_46 (by decide) ?_
            rw [← msk_f (p := (fun h => tbI set (nI h) ∧ (∃ o, o < n ∧ o ≠ h ∧ tbI lk (nI o) ∧ sClr w (X.1 7) (X.2 3) (plN P o) (plN P h)))) (n := i) (by first | exact (fun z => c23 z.1) | exact (fun z => c33 z.2))] at hl
            exact ih5 (i + 1) (by omega) (by omega) H locs ls hP hS (lv_sub hl [1, 2, 3, 4, 0] rfl)
          · refine lv_iload_n hx hb dX5_seenAmong_36 rfl (lv_at hl 3 rfl) ?_
            refine lv_iconst (v := nI 1) hx hb dX5_seenAmong_37 rfl ?_
            refine lv_iload hx hb dX5_seenAmong_38 (lv_at hl 4 rfl) ?_
            refine lv_ishl hx hb dX5_seenAmong_40 ?_
            refine lv_ior hx hb dX5_seenAmong_41 ?_
            refine lv_istore_n (lv' := [(3, .int ((msk (fun h => tbI set (nI h) ∧ (∃ o, o < n ∧ o ≠ h ∧ tbI lk (nI o) ∧ sClr w (X.1 7) (X.2 3) (plN P o) (plN P h))) i) ||| ((nI 1) <<< ((nI i) &&& 31)))), (0, .ref (a 36)), (1, .int set), (2, .int lk), (4, .int (nI i))]) hx hb dX5_seenAmong_42 rfl hl (by decide) rfl (fun ls hl => ?_)
            refine lv_iinc (v := nI (i + 1)) (lv' := [(4, .int (nI (i + 1))), (3, .int ((msk (fun h => tbI set (nI h) ∧ (∃ o, o < n ∧ o ≠ h ∧ tbI lk (nI o) ∧ sClr w (X.1 7) (X.2 3) (plN P o) (plN P h))) i) ||| ((nI 1) <<< ((nI i) &&& 31)))), (0, .ref (a 36)), (1, .int set), (2, .int lk)]) hx hb dX5_seenAmong_43 hl (k := 4) rfl (xn_inc i 1) (by decide) rfl (fun ls hl => ?_)
            refine lv_goto (tgt := 5) hx hb dX5_seenAmong_46 (by decide) ?_
            rw [← msk_t (p := (fun h => tbI set (nI h) ∧ (∃ o, o < n ∧ o ≠ h ∧ tbI lk (nI o) ∧ sClr w (X.1 7) (X.2 3) (plN P o) (plN P h)))) (n := i) ⟨c23, c33⟩] at hl
            exact ih5 (i + 1) (by omega) (by omega) H locs ls hP hS (lv_sub hl [2, 3, 4, 1, 0] rfl)
  exact L5 _ 0 (Nat.zero_le _) (Nat.lt_succ_self _) s.heap [] ls hP hS (lv_sub hl [2, 3, 4, 1, 0] rfl)
