abbrev rmX3_isFull : Room := { frames := 0, cells := 0, slots := 0, locals := 0 }
set_option maxRecDepth 100000 in
set_option maxHeartbeats 4000000 in
theorem c_X3_isFull (l : Launch) (D : va_G) (y : Nat → ClassId) (a : Nat → Nat) (hA : CA a 44) (P X : PT) (row : Value) (rd : Nat) (hr : P.1 8 = nI rd) (hr8 : rd ≤ 8) : CtI l D y yX3_isFull wsX3_isFull rmX3_isFull [.ref (a 40)] (wC y a P X row) (fun r (_ : Unit) => r = b2 (8 ≤ rd)) (fun _ => wC y a P X row) (AC a) := by
  refine mkI (cc := cX3_isFull) (maxL := 1) (ret := some .boolean) RX3 rfl (by decide) rfl (Or.inr ⟨rfl, fun r u h => by rw [h]; exact b2_01 _⟩) (Nat.le_of_ble_eq_true rfl) ?_
  intro p e s m args below meth c Q FX hK hP ret ls hl
  obtain ⟨hx, hb, hml, hown, hts⟩ := id FX
  have hS : va_S (AC a) s.heap s.heap [] := va_S.rf
  have in3 : ∀ w ∈ wsX30, w ∈ wsX3_isFull := fun _ h => List.mem_cons_of_mem _ (List.mem_append_right _ (h))
  have hl : lv_has ls 1 [(0, .ref (a 40))] := hl
  refine lv_aload_n hx hb dX3_isFull_0 rfl (lv_at hl 0 rfl) ?_
  refine cg3_0 FX hK in3 hP (List.mem_of_getElem? (i := 1) rfl) dX3_isFull_1 ?_
  refine xn_to hx (z := nI rd) hr ?_
  refine lv_bipush (v := nI 8) hx hb dX3_isFull_4 rfl ?_
  refine xn_icmp_lt (tgt := 13) hx hb (by omega) (by omega) dX3_isFull_6 (by decide) (fun c6 => ?_) (fun c6 => ?_)
  · refine lv_iconst (v := nI 0) hx hb dX3_isFull_13 rfl ?_
    exact ret s.heap [] 14 ls (nI 0) () dX3_isFull_14 (b2_0 (by omega)) hP hS
  · refine lv_iconst (v := nI 1) hx hb dX3_isFull_9 rfl ?_
    refine lv_goto (tgt := 14) hx hb dX3_isFull_10 (by decide) ?_
    exact ret s.heap [] 14 ls (nI 1) () dX3_isFull_14 (b2_1 c6) hP hS

abbrev rmX3_keep : Room := { frames := 0, cells := 0, slots := 0, locals := 0 }
set_option maxRecDepth 100000 in
set_option maxHeartbeats 4000000 in
theorem c_X3_keep (l : Launch) (D : va_G) (y : Nat → ClassId) (a : Nat → Nat) (hA : CA a 44) (P X : PT) (row : Value) (h rd : Nat) (yr v : Int32) (hr : P.1 8 = nI rd) (hr8 : rd < 8) : CtI l D y yX3_keep wsX3_keep rmX3_keep [.ref (a 40), .int (nI h), .int yr, .int v] (wC y a P X row) (fun r (_ : Unit) => r = nI rd) (fun _ => wC y a (pg (pa (pa (pa P 9 rd (nI h)) 10 rd yr) 11 rd v) 8 (nI (rd + 1))) X row) (AC a) := by
  refine mkI (cc := cX3_keep) (maxL := 4) (ret := some .int) RX3 rfl (by decide) rfl (Or.inl rfl) (Nat.le_of_ble_eq_true rfl) ?_
  intro p e s m args below meth c Q FX hK hP ret ls hl
  obtain ⟨hx, hb, hml, hown, hts⟩ := id FX
  have hS : va_S (AC a) s.heap s.heap [] := va_S.rf
  have in3 : ∀ w ∈ wsX30, w ∈ wsX3_keep := fun _ h => List.mem_cons_of_mem _ (List.mem_append_right _ (h))
  have hl : lv_has ls 4 [(0, .ref (a 40)), (1, .int (nI h)), (2, .int yr), (3, .int v)] := hl
  refine lv_aload_n hx hb dX3_keep_0 rfl (lv_at hl 0 rfl) ?_
  refine cg3_1 FX hK in3 hP (List.mem_of_getElem? (i := 1) rfl) dX3_keep_1 ?_
  refine lv_aload_n hx hb dX3_keep_4 rfl (lv_at hl 0 rfl) ?_
  refine cg3_0 FX hK in3 hP (List.mem_of_getElem? (i := 2) rfl) dX3_keep_5 ?_
  refine xn_to hx (z := nI rd) hr ?_
  refine lv_iload_n hx hb dX3_keep_8 rfl (lv_at hl 1 rfl) ?_
  refine cs41 (i := rd) (by omega) FX hK hP hA hS dX3_keep_9 (fun H locs hP hS => ?_)
  refine lv_aload_n hx hb dX3_keep_10 rfl (lv_at hl 0 rfl) ?_
  refine cg3_2 FX hK in3 hP (List.mem_of_getElem? (i := 3) rfl) dX3_keep_11 ?_
  refine lv_aload_n hx hb dX3_keep_14 rfl (lv_at hl 0 rfl) ?_
  refine cg3_0 FX hK in3 hP (List.mem_of_getElem? (i := 2) rfl) dX3_keep_15 ?_
  refine xn_to hx (z := nI rd) hr ?_
  refine lv_iload_n hx hb dX3_keep_18 rfl (lv_at hl 2 rfl) ?_
  refine cs42 (i := rd) (by omega) FX hK hP hA hS dX3_keep_19 (fun H locs hP hS => ?_)
  refine lv_aload_n hx hb dX3_keep_20 rfl (lv_at hl 0 rfl) ?_
  refine cg3_3 FX hK in3 hP (List.mem_of_getElem? (i := 4) rfl) dX3_keep_21 ?_
  refine lv_aload_n hx hb dX3_keep_24 rfl (lv_at hl 0 rfl) ?_
  refine cg3_0 FX hK in3 hP (List.mem_of_getElem? (i := 2) rfl) dX3_keep_25 ?_
  refine xn_to hx (z := nI rd) hr ?_
  refine lv_iload_n hx hb dX3_keep_28 rfl (lv_at hl 3 rfl) ?_
  refine cs43 (i := rd) (by omega) FX hK hP hA hS dX3_keep_29 (fun H locs hP hS => ?_)
  refine lv_aload_n hx hb dX3_keep_30 rfl (lv_at hl 0 rfl) ?_
  refine lv_dup hx hb dX3_keep_31 rfl ?_
  refine cg3_0 FX hK in3 hP (List.mem_of_getElem? (i := 2) rfl) dX3_keep_32 ?_
  refine xn_to hx (z := nI rd) hr ?_
  refine lv_dup_x1 hx hb dX3_keep_35 rfl rfl ?_
  refine lv_iconst (v := nI 1) hx hb dX3_keep_36 rfl ?_
  refine xn_iadd (a := rd) (b := 1) hx hb dX3_keep_37 ?_
  refine cp3_0 FX hK in3 hP hA hS (List.mem_of_getElem? (i := 2) rfl) dX3_keep_38 (fun H locs hP hS => ?_)
  exact ret H locs 41 ls (nI rd) () dX3_keep_41 rfl hP hS

abbrev rmX3_allAreSo : Room := { frames := 5, cells := 0, slots := 0, locals := 116 }
set_option maxRecDepth 100000 in
set_option maxHeartbeats 4000000 in
theorem c_X3_allAreSo (l : Launch) (D : va_G) (y : Nat → ClassId) (a : Nat → Nat) (hA : CA a 44) (P X : PT) (row : Value) (w cN n t : Nat) (rd : Nat) (fl y0 : Int32) (f0 : Nat → Prop) (hI : IP P w cN n t) (hr : RD P n rd) (h0 : ∀ q, q < cN → X.2 3 q = sTop P y0 f0 q) : CtI l D y yX3_allAreSo wsX3_allAreSo rmX3_allAreSo [.ref (a 40), .int fl] (wC y a P X row) (fun r (X' : PT) => r = b2 (soS P w n rd (X.1 7) (flB fl)) ∧ X'.1 7 = X.1 7 ∧ ∃ y0 f0, ∀ q, q < cN → X'.2 3 q = sTop P y0 f0 q) (fun X' => wC y a P X' row) (AC a) := by
  refine mkI (cc := cX3_allAreSo) (maxL := 3) (ret := some .boolean) RX3 rfl (by decide) rfl (Or.inr ⟨rfl, fun r u h => by rw [h.1]; exact b2_01 _⟩) (Nat.le_of_ble_eq_true rfl) ?_
  intro p e s m args below meth c Q FX hK hP ret ls hl
  obtain ⟨hx, hb, hml, hown, hts⟩ := id FX
  have hS : va_S (AC a) s.heap s.heap [] := va_S.rf
  have in1 : ∀ w ∈ wsX10, w ∈ wsX3_allAreSo := fun _ h => List.mem_cons_of_mem _ (List.mem_append_right _ (h))
  have in2 : ∀ w ∈ wsX20, w ∈ wsX3_allAreSo := fun _ h => List.mem_cons_of_mem _ (List.mem_append_left _ (List.mem_append_left _ (List.mem_append_right _ (h))))
  have in3 : ∀ w ∈ wsX30, w ∈ wsX3_allAreSo := fun _ h => List.mem_cons_of_mem _ (List.mem_append_left _ (List.mem_append_left _ (List.mem_append_left _ (List.mem_append_left _ (List.mem_append_right _ (h))))))
  have in5 : ∀ w ∈ wsX50, w ∈ wsX3_allAreSo := fun _ h => List.mem_cons_of_mem _ (List.mem_append_left _ (List.mem_append_left _ (List.mem_append_left _ (List.mem_append_right _ (h)))))
  have in7 : ∀ w ∈ wsX70, w ∈ wsX3_allAreSo := fun _ h => List.mem_cons_of_mem _ (List.mem_append_left _ (List.mem_append_right _ (h)))
  have hl : lv_has ls 3 [(0, .ref (a 40)), (1, .int fl)] := hl
  have hcl := hI.c30
  have hnl := hI.n8
  have hrl := hr.2.1
  refine lv_iconst (v := nI 0) hx hb dX3_allAreSo_0 rfl ?_
  refine lv_istore_n (lv' := [(2, .int (nI 0)), (0, .ref (a 40)), (1, .int fl)]) hx hb dX3_allAreSo_1 rfl hl (by decide) rfl (fun ls hl => ?_)
  have L2 : ∀ (N : Nat) (i : Nat) (X' : PT), (i ≤ rd) → (∀ k, k < i → soK P w n (X.1 7) (flB fl) k) → (X'.1 7 = X.1 7) → (∃ y0 f0, ∀ q, q < cN → X'.2 3 q = sTop P y0 f0 q) → rd - i < N → ∀ (H : Heap) (locs : List Loc) (ls : Array Slot), va_P D vwCl (wC y a P X' row) H → va_S (AC a) s.heap H locs → lv_has ls 3 [(0, .ref (a 40)), (1, .int fl), (2, .int (nI i))] → W p l e rmX3_allAreSo s m args below meth c H locs 0 0 Q (F0 m 2 ls []) := by
    intro N2
    induction N2 with
    | zero => intro i X' hi hso hf2 hex hmeas; exact absurd hmeas (Nat.not_lt_zero _)
    | succ N2 ih2 =>
      intro i X' hi hso hf2 hex hmeas H locs ls hP hS hl
      obtain ⟨y1, f1, htx⟩ := hex
      refine lv_iload_n hx hb dX3_allAreSo_2 rfl (lv_at hl 2 rfl) ?_
      refine lv_aload_n hx hb dX3_allAreSo_3 rfl (lv_at hl 0 rfl) ?_
      refine cg3_0 FX hK in3 hP (List.mem_of_getElem? (i := 1) rfl) dX3_allAreSo_4 ?_
      refine xn_to hx (z := nI rd) hr.1 ?_
      refine xn_icmp_ge (tgt := 54) hx hb (by omega) (by omega) dX3_allAreSo_7 (by decide) (fun c7 => ?_) (fun c7 => ?_)
      · refine lv_iconst (v := nI 1) hx hb dX3_allAreSo_54 rfl ?_
        exact ret H locs 55 ls (nI 1) X' dX3_allAreSo_55 ⟨b2_1 (fun k hk => hso k (by omega)), hf2, y1, f1, htx⟩ hP hS
      · refine lv_aload_n hx hb dX3_allAreSo_10 rfl (lv_at hl 0 rfl) ?_
        refine cg3_5 FX hK in3 hP (List.mem_of_getElem? (i := 2) rfl) dX3_allAreSo_11 ?_
        refine lv_aload_n hx hb dX3_allAreSo_14 rfl (lv_at hl 0 rfl) ?_
        refine cg3_2 FX hK in3 hP (List.mem_of_getElem? (i := 3) rfl) dX3_allAreSo_15 ?_
        refine lv_iload_n hx hb dX3_allAreSo_18 rfl (lv_at hl 2 rfl) ?_
        refine ca42 (i := i) (by omega) FX hK hP dX3_allAreSo_19 ?_
        refine lv_iload_n hx hb dX3_allAreSo_20 rfl (lv_at hl 1 rfl) ?_
        refine cViV [.int (P.2 10 i), .int fl] [] FX hK (c_X5_lookWithTrees l D y a hA P X' row w cN n t (P.2 10 i) fl y1 f1 hI htx) (cwV 2 hts gX3_allAreSo_X5_lookWithTrees rfl rfl rfl (by decide +kernel) ⟨Nat.le_of_ble_eq_true rfl, Nat.le_of_ble_eq_true rfl⟩) hP (pre_recv hK hP (ci := 5) (q0 := 36) rfl rfl) rfl rfl hl (Nat.le_of_ble_eq_true rfl) dX3_allAreSo_21 ⟨Nat.zero_le _, Nat.zero_le _⟩ hS (fun _ h => h) (fun X2 H locs hp21 hP hS _ _ => ?_)
        obtain ⟨hf3, hf4, ht3⟩ := hp21
        refine lv_aload_n hx hb dX3_allAreSo_24 rfl (lv_at hl 0 rfl) ?_
        refine cg3_5 FX hK in3 hP (List.mem_of_getElem? (i := 2) rfl) dX3_allAreSo_25 ?_
        refine lv_aload_n hx hb dX3_allAreSo_28 rfl (lv_at hl 0 rfl) ?_
        refine cg3_1 FX hK in3 hP (List.mem_of_getElem? (i := 4) rfl) dX3_allAreSo_29 ?_
        refine lv_iload_n hx hb dX3_allAreSo_32 rfl (lv_at hl 2 rfl) ?_
        refine ca41 (i := i) (by omega) FX hK hP dX3_allAreSo_33 ?_
        refine xn_to hx (z := nI (rhN P i)) (hr.2.2 i c7).1 ?_
        refine cViI [.int (nI (rhN P i))] [] FX hK (c_X5_numberOf l D y a hA P X2 row w cN n t (rhN P i) hI (hr.2.2 i c7).2) (cwV 1 hts gX3_allAreSo_X5_numberOf rfl rfl rfl (by decide +kernel) ⟨Nat.le_of_ble_eq_true rfl, Nat.le_of_ble_eq_true rfl⟩) hP (pre_recv hK hP (ci := 5) (q0 := 36) rfl rfl) rfl rfl hl (Nat.le_of_ble_eq_true rfl) dX3_allAreSo_34 ⟨Nat.zero_le _, Nat.zero_le _⟩ hS (fun _ h => h) (fun r34 u34 H locs hp34 hP hS _ _ => ?_)
        obtain rfl := hp34
        refine xn_to hx (z := nI (sNum P w n (X.1 7) (P.2 10 i) (flB fl) (rhN P i))) (by rw [nf_canon hI (hI.pl (hr.2.2 i c7).2).2.1 (hf3.trans hf2) ht3]; rfl) ?_
        refine lv_aload_n hx hb dX3_allAreSo_37 rfl (lv_at hl 0 rfl) ?_
        refine cg3_3 FX hK in3 hP (List.mem_of_getElem? (i := 5) rfl) dX3_allAreSo_38 ?_
        refine lv_iload_n hx hb dX3_allAreSo_41 rfl (lv_at hl 2 rfl) ?_
        refine ca43 (i := i) (by omega) FX hK hP dX3_allAreSo_42 ?_
        refine lv_icmp_eq (tgt := 48) hx hb dX3_allAreSo_43 (by decide) (fun c43 => ?_) (fun c43 => ?_)
        · refine lv_iinc (v := nI (i + 1)) (lv' := [(2, .int (nI (i + 1))), (0, .ref (a 40)), (1, .int fl)]) hx hb dX3_allAreSo_48 hl (k := 2) rfl (xn_inc i 1) (by decide) rfl (fun ls hl => ?_)
          refine lv_goto (tgt := 2) hx hb dX3_allAreSo_51 (by decide) ?_
          exact ih2 (i + 1) X2 (by omega) (fun k hk => by rcases Nat.lt_or_ge k i with h3 | h3; exact hso k h3; rw [show k = i by omega]; exact c43) (hf3.trans hf2) ⟨_, _, ht3⟩ (by omega) H locs ls hP hS (lv_sub hl [1, 2, 0] rfl)
        · refine lv_iconst (v := nI 0) hx hb dX3_allAreSo_46 rfl ?_
          exact ret H locs 47 ls (nI 0) X2 dX3_allAreSo_47 ⟨b2_0 (fun z => c43 (z i c7)), hf3.trans hf2, _, _, ht3⟩ hP hS
  exact L2 _ 0 X (Nat.zero_le _) (fun k h => absurd h (Nat.not_lt_zero _)) rfl ⟨_, _, h0⟩ (Nat.lt_succ_self _) s.heap [] ls hP hS (lv_sub hl [1, 2, 0] rfl)

abbrev rmX3_possibleFogs : Room := { frames := 6, cells := 0, slots := 0, locals := 138 }
set_option maxRecDepth 100000 in
set_option maxHeartbeats 4000000 in
theorem c_X3_possibleFogs (l : Launch) (D : va_G) (y : Nat → ClassId) (a : Nat → Nat) (hA : CA a 44) (P X : PT) (row : Value) (w cN n t : Nat) (rd : Nat) (hI : IP P w cN n t) (hr : RD P n rd) (hc1 : P.1 1 = nI cN) : CtI l D y yX3_possibleFogs wsX3_possibleFogs rmX3_possibleFogs [.ref (a 40)] (wC y a P X row) (fun r (_ : PT) => r = aFogs P w n rd (flB (P.1 4))) (fun X' => wC y a P X' row) (AC a) := by
  refine mkI (cc := cX3_possibleFogs) (maxL := 3) (ret := some .int) RX3 rfl (by decide) rfl (Or.inl rfl) (Nat.le_of_ble_eq_true rfl) ?_
  intro p e s m args below meth c Q FX hK hP ret ls hl
  obtain ⟨hx, hb, hml, hown, hts⟩ := id FX
  have hS : va_S (AC a) s.heap s.heap [] := va_S.rf
  have in1 : ∀ w ∈ wsX10, w ∈ wsX3_possibleFogs := fun _ h => List.mem_cons_of_mem _ (List.mem_append_left _ (List.mem_append_right _ (h)))
  have in2 : ∀ w ∈ wsX20, w ∈ wsX3_possibleFogs := fun _ h => List.mem_cons_of_mem _ (List.mem_append_left _ (List.mem_append_left _ (List.mem_append_right _ (h))))
  have in3 : ∀ w ∈ wsX30, w ∈ wsX3_possibleFogs := fun _ h => List.mem_cons_of_mem _ (List.mem_append_left _ (List.mem_append_left _ (List.mem_append_left _ (List.mem_append_left _ (List.mem_append_right _ (h))))))
  have in5 : ∀ w ∈ wsX50, w ∈ wsX3_possibleFogs := fun _ h => List.mem_cons_of_mem _ (List.mem_append_left _ (List.mem_append_left _ (List.mem_append_left _ (List.mem_append_right _ (h)))))
  have in7 : ∀ w ∈ wsX70, w ∈ wsX3_possibleFogs := fun _ h => List.mem_cons_of_mem _ (List.mem_append_right _ (h))
  have hl : lv_has ls 3 [(0, .ref (a 40))] := hl
  refine lv_aload_n hx hb dX3_possibleFogs_0 rfl (lv_at hl 0 rfl) ?_
  refine cg3_5 FX hK in3 hP (List.mem_of_getElem? (i := 1) rfl) dX3_possibleFogs_1 ?_
  refine cViV [] [] FX hK (c_X5_lookNow l D y a hA P X row w cN n t hI hc1) (cwV 0 hts gX3_possibleFogs_X5_lookNow rfl rfl rfl (by decide +kernel) ⟨Nat.le_of_ble_eq_true rfl, Nat.le_of_ble_eq_true rfl⟩) hP (pre_recv hK hP (ci := 5) (q0 := 36) rfl rfl) rfl rfl hl (Nat.le_of_ble_eq_true rfl) dX3_possibleFogs_4 ⟨Nat.zero_le _, Nat.zero_le _⟩ hS (fun _ h => h) (fun X1 H locs hp4 hP hS _ _ => ?_)
  obtain ⟨hf1, ht1⟩ := hp4
  refine lv_iconst (v := nI 0) hx hb dX3_possibleFogs_7 rfl ?_
  refine lv_istore_n (lv' := [(1, .int (nI 0)), (0, .ref (a 40))]) hx hb dX3_possibleFogs_8 rfl hl (by decide) rfl (fun ls hl => ?_)
  refine lv_iconst (v := nI 1) hx hb dX3_possibleFogs_9 rfl ?_
  refine lv_istore_n (lv' := [(2, .int (nI 1)), (1, .int (nI 0)), (0, .ref (a 40))]) hx hb dX3_possibleFogs_10 rfl hl (by decide) rfl (fun ls hl => ?_)
  have L11 : ∀ (N : Nat) (f : Nat) (X' : PT), (0 < f ∧ f ≤ 10) → (∃ y0 f0, ∀ q, q < cN → X'.2 3 q = sTop P y0 f0 q) → 10 - f < N → ∀ (H : Heap) (locs : List Loc) (ls : Array Slot), va_P D vwCl (wC y a P X' row) H → va_S (AC a) s.heap H locs → lv_has ls 3 [(0, .ref (a 40)), (1, .int (msk (fun f => 0 < f ∧ soS P w n rd (nI f) (flB (P.1 4))) f)), (2, .int (nI f))] → W p l e rmX3_possibleFogs s m args below meth c H locs 0 0 Q (F0 m 11 ls []) := by
    intro N11
    induction N11 with
    | zero => intro f X' hf hex hmeas; exact absurd hmeas (Nat.not_lt_zero _)
    | succ N11 ih11 =>
      intro f X' hf hex hmeas H locs ls hP hS hl
      obtain ⟨y1, f1, htx⟩ := hex
      refine lv_iload_n hx hb dX3_possibleFogs_11 rfl (lv_at hl 2 rfl) ?_
      refine lv_bipush (v := nI 9) hx hb dX3_possibleFogs_12 rfl ?_
      refine xn_icmp_gt (tgt := 51) hx hb (by omega) (by omega) dX3_possibleFogs_14 (by decide) (fun c14 => ?_) (fun c14 => ?_)
      · refine lv_iload_n hx hb dX3_possibleFogs_51 rfl (lv_at hl 1 rfl) ?_
        exact ret H locs 52 ls (msk (fun f => 0 < f ∧ soS P w n rd (nI f) (flB (P.1 4))) f) X' dX3_possibleFogs_52 (by rw [show f = 10 by omega]; rfl) hP hS
      · refine lv_aload_n hx hb dX3_possibleFogs_17 rfl (lv_at hl 0 rfl) ?_
        refine cg3_5 FX hK in3 hP (List.mem_of_getElem? (i := 1) rfl) dX3_possibleFogs_18 ?_
        refine lv_iload_n hx hb dX3_possibleFogs_21 rfl (lv_at hl 2 rfl) ?_
        refine cp5_2 FX hK in5 hP hA hS (List.mem_of_getElem? (i := 2) rfl) dX3_possibleFogs_22 (fun H locs hP hS => ?_)
        refine lv_aload_n hx hb dX3_possibleFogs_25 rfl (lv_at hl 0 rfl) ?_
        refine lv_aload_n hx hb dX3_possibleFogs_26 rfl (lv_at hl 0 rfl) ?_
        refine cg3_4 FX hK in3 hP (List.mem_of_getElem? (i := 3) rfl) dX3_possibleFogs_27 ?_
        refine cg2_9 FX hK in2 hP (List.mem_of_getElem? (i := 4) rfl) dX3_possibleFogs_30 ?_
        refine cViI [.int (P.1 4)] [] FX hK (c_X3_allAreSo l D y a hA P (pg X' 7 (nI f)) row w cN n t rd (P.1 4) y1 f1 hI hr htx) (cwV 1 hts gX3_possibleFogs_X3_allAreSo rfl rfl rfl (by decide +kernel) ⟨Nat.le_of_ble_eq_true rfl, Nat.le_of_ble_eq_true rfl⟩) hP (pre_recv hK hP (ci := 3) (q0 := 40) rfl rfl) rfl rfl hl (Nat.le_of_ble_eq_true rfl) dX3_possibleFogs_33 ⟨Nat.zero_le _, Nat.zero_le _⟩ hS (fun _ h => h) (fun r33 X2 H locs hp33 hP hS _ _ => ?_)
        obtain ⟨rfl, hf3, hex3⟩ := hp33
        refine xb_eq (tgt := 45) hx hb dX3_possibleFogs_36 (by decide) (fun c36 => ?_) (fun c36 => ?_)
        · refine lv_iinc (v := nI (f + 1)) (lv' := [(2, .int (nI (f + 1))), (0, .ref (a 40)), (1, .int (msk (fun f => 0 < f ∧ soS P w n rd (nI f) (flB (P.1 4))) f))]) hx hb dX3_possibleFogs_45 hl (k := 2) rfl (xn_inc f 1) (by decide) rfl (fun ls hl => ?_)
          refine lv_goto (tgt := 11) hx hb dX3_possibleFogs_48 (by decide) ?_
          rw [← msk_f (p := (fun f => 0 < f ∧ soS P w n rd (nI f) (flB (P.1 4)))) (n := f) (fun z => c36 z.2)] at hl
          exact ih11 (f + 1) X2 (by omega) hex3 (by omega) H locs ls hP hS (lv_sub hl [1, 2, 0] rfl)
        · refine lv_iload_n hx hb dX3_possibleFogs_39 rfl (lv_at hl 1 rfl) ?_
          refine lv_iconst (v := nI 1) hx hb dX3_possibleFogs_40 rfl ?_
          refine lv_iload_n hx hb dX3_possibleFogs_41 rfl (lv_at hl 2 rfl) ?_
          refine lv_ishl hx hb dX3_possibleFogs_42 ?_
          refine lv_ior hx hb dX3_possibleFogs_43 ?_
          refine lv_istore_n (lv' := [(1, .int ((msk (fun f => 0 < f ∧ soS P w n rd (nI f) (flB (P.1 4))) f) ||| ((nI 1) <<< ((nI f) &&& 31)))), (0, .ref (a 40)), (2, .int (nI f))]) hx hb dX3_possibleFogs_44 rfl hl (by decide) rfl (fun ls hl => ?_)
          refine lv_iinc (v := nI (f + 1)) (lv' := [(2, .int (nI (f + 1))), (1, .int ((msk (fun f => 0 < f ∧ soS P w n rd (nI f) (flB (P.1 4))) f) ||| ((nI 1) <<< ((nI f) &&& 31)))), (0, .ref (a 40))]) hx hb dX3_possibleFogs_45 hl (k := 2) rfl (xn_inc f 1) (by decide) rfl (fun ls hl => ?_)
          refine lv_goto (tgt := 11) hx hb dX3_possibleFogs_48 (by decide) ?_
          rw [← msk_t (p := (fun f => 0 < f ∧ soS P w n rd (nI f) (flB (P.1 4)))) (n := f) ⟨hf.1, c36⟩] at hl
          exact ih11 (f + 1) X2 (by omega) hex3 (by omega) H locs ls hP hS (lv_sub hl [2, 1, 0] rfl)
  rw [show nI 0 = msk (fun f => 0 < f ∧ soS P w n rd (nI f) (flB (P.1 4))) 1 from (msk_f (p := (fun f => 0 < f ∧ soS P w n rd (nI f) (flB (P.1 4)))) (n := 0) (fun z => absurd z.1 (by decide))).symm] at hl
  exact L11 _ 1 X1 (by omega) ⟨_, _, ht1⟩ (Nat.lt_succ_self _) H locs ls hP hS (lv_sub hl [2, 1, 0] rfl)

abbrev rmX3_howManyStood : Room := { frames := 6, cells := 0, slots := 0, locals := 138 }
set_option maxRecDepth 100000 in
set_option maxHeartbeats 4000000 in
theorem c_X3_howManyStood (l : Launch) (D : va_G) (y : Nat → ClassId) (a : Nat → Nat) (hA : CA a 44) (P X : PT) (row : Value) (w cN n t : Nat) (rd : Nat) (hI : IP P w cN n t) (hr : RD P n rd) (hc1 : P.1 1 = nI cN) : CtI l D y yX3_howManyStood wsX3_howManyStood rmX3_howManyStood [.ref (a 40)] (wC y a P X row) (fun r (_ : PT) => r = nI (aStood P w n rd t (fun s => flB (nI (2 ^ t - 1 - s))))) (fun X' => wC y a P X' row) (AC a) := by
  refine mkI (cc := cX3_howManyStood) (maxL := 4) (ret := some .int) RX3 rfl (by decide) rfl (Or.inl rfl) (Nat.le_of_ble_eq_true rfl) ?_
  intro p e s m args below meth c Q FX hK hP ret ls hl
  obtain ⟨hx, hb, hml, hown, hts⟩ := id FX
  have hS : va_S (AC a) s.heap s.heap [] := va_S.rf
  have in1 : ∀ w ∈ wsX10, w ∈ wsX3_howManyStood := fun _ h => List.mem_cons_of_mem _ (List.mem_append_left _ (List.mem_append_right _ (h)))
  have in2 : ∀ w ∈ wsX20, w ∈ wsX3_howManyStood := fun _ h => List.mem_cons_of_mem _ (List.mem_append_left _ (List.mem_append_left _ (List.mem_append_left _ (List.mem_append_right _ (h)))))
  have in3 : ∀ w ∈ wsX30, w ∈ wsX3_howManyStood := fun _ h => List.mem_cons_of_mem _ (List.mem_append_left _ (List.mem_append_left _ (List.mem_append_left _ (List.mem_append_left _ (List.mem_append_right _ (h))))))
  have in5 : ∀ w ∈ wsX50, w ∈ wsX3_howManyStood := fun _ h => List.mem_cons_of_mem _ (List.mem_append_left _ (List.mem_append_left _ (List.mem_append_right _ (h))))
  have in7 : ∀ w ∈ wsX70, w ∈ wsX3_howManyStood := fun _ h => List.mem_cons_of_mem _ (List.mem_append_right _ (h))
  have hl : lv_has ls 4 [(0, .ref (a 40))] := hl
  have htl := hI.t8
  have hpw := pow8 htl
  have hp0 : 0 < 2 ^ t := Nat.two_pow_pos t
  refine lv_aload_n hx hb dX3_howManyStood_0 rfl (lv_at hl 0 rfl) ?_
  refine cg3_5 FX hK in3 hP (List.mem_of_getElem? (i := 1) rfl) dX3_howManyStood_1 ?_
  refine cViV [] [] FX hK (c_X5_lookNow l D y a hA P X row w cN n t hI hc1) (cwV 0 hts gX3_howManyStood_X5_lookNow rfl rfl rfl (by decide +kernel) ⟨Nat.le_of_ble_eq_true rfl, Nat.le_of_ble_eq_true rfl⟩) hP (pre_recv hK hP (ci := 5) (q0 := 36) rfl rfl) rfl rfl hl (Nat.le_of_ble_eq_true rfl) dX3_howManyStood_4 ⟨Nat.zero_le _, Nat.zero_le _⟩ hS (fun _ h => h) (fun X1 H locs hp4 hP hS _ _ => ?_)
  obtain ⟨hf1, ht1⟩ := hp4
  refine lv_iconst (v := nI 1) hx hb dX3_howManyStood_7 rfl ?_
  refine lv_aload_n hx hb dX3_howManyStood_8 rfl (lv_at hl 0 rfl) ?_
  refine cg3_4 FX hK in3 hP (List.mem_of_getElem? (i := 2) rfl) dX3_howManyStood_9 ?_
  refine cg2_8 FX hK in2 hP (List.mem_of_getElem? (i := 3) rfl) dX3_howManyStood_12 ?_
  refine xn_to hx (z := nI t) hI.tt ?_
  refine lv_ishl hx hb dX3_howManyStood_15 ?_
  refine xn_to hx (z := nI (2 ^ t)) (shl1 t (by omega)) ?_
  refine lv_istore_n (lv' := [(1, .int (nI (2 ^ t))), (0, .ref (a 40))]) hx hb dX3_howManyStood_16 rfl hl (by decide) rfl (fun ls hl => ?_)
  refine lv_iconst (v := nI 0) hx hb dX3_howManyStood_17 rfl ?_
  refine lv_istore_n (lv' := [(2, .int (nI 0)), (1, .int (nI (2 ^ t))), (0, .ref (a 40))]) hx hb dX3_howManyStood_18 rfl hl (by decide) rfl (fun ls hl => ?_)
  refine lv_iconst (v := nI 0) hx hb dX3_howManyStood_19 rfl ?_
  refine lv_istore_n (lv' := [(3, .int (nI 0)), (2, .int (nI 0)), (1, .int (nI (2 ^ t))), (0, .ref (a 40))]) hx hb dX3_howManyStood_20 rfl hl (by decide) rfl (fun ls hl => ?_)
  have L21 : ∀ (N : Nat) (i : Nat) (X' : PT), (i ≤ 2 ^ t) → (X'.1 7 = P.1 6) → (∃ y0 f0, ∀ q, q < cN → X'.2 3 q = sTop P y0 f0 q) → 2 ^ t - i < N → ∀ (H : Heap) (locs : List Loc) (ls : Array Slot), va_P D vwCl (wC y a P X' row) H → va_S (AC a) s.heap H locs → lv_has ls 4 [(0, .ref (a 40)), (1, .int (nI (2 ^ t))), (2, .int (nI (cn (fun s => soS P w n rd (P.1 6) (flB (nI (2 ^ t - 1 - s)))) i))), (3, .int (nI i))] → W p l e rmX3_howManyStood s m args below meth c H locs 0 0 Q (F0 m 21 ls []) := by
    intro N21
    induction N21 with
    | zero => intro i X' hi hfx hex hmeas; exact absurd hmeas (Nat.not_lt_zero _)
    | succ N21 ih21 =>
      intro i X' hi hfx hex hmeas H locs ls hP hS hl
      obtain ⟨y1, f1, htx⟩ := hex
      have hcn := cn_le (fun s => soS P w n rd (P.1 6) (flB (nI (2 ^ t - 1 - s)))) i
      refine lv_iload_n hx hb dX3_howManyStood_21 rfl (lv_at hl 3 rfl) ?_
      refine lv_iload_n hx hb dX3_howManyStood_22 rfl (lv_at hl 1 rfl) ?_
      refine xn_icmp_ge (tgt := 47) hx hb (by omega) (by omega) dX3_howManyStood_23 (by decide) (fun c23 => ?_) (fun c23 => ?_)
      · refine lv_iload_n hx hb dX3_howManyStood_47 rfl (lv_at hl 2 rfl) ?_
        exact ret H locs 48 ls (nI (cn (fun s => soS P w n rd (P.1 6) (flB (nI (2 ^ t - 1 - s)))) i)) X' dX3_howManyStood_48 (by rw [show i = 2 ^ t by omega]; rfl) hP hS
      · refine lv_aload_n hx hb dX3_howManyStood_26 rfl (lv_at hl 0 rfl) ?_
        refine lv_iload_n hx hb dX3_howManyStood_27 rfl (lv_at hl 1 rfl) ?_
        refine lv_iconst (v := nI 1) hx hb dX3_howManyStood_28 rfl ?_
        refine xn_isub (a := 2 ^ t) (b := 1) hx hb (by omega) dX3_howManyStood_29 ?_
        refine lv_iload_n hx hb dX3_howManyStood_30 rfl (lv_at hl 3 rfl) ?_
        refine xn_isub (a := (2 ^ t) - 1) (b := i) hx hb (by omega) dX3_howManyStood_31 ?_
        refine cViI [.int (nI (((2 ^ t) - 1) - i))] [] FX hK (c_X3_allAreSo l D y a hA P X' row w cN n t rd (nI (2 ^ t - 1 - i)) y1 f1 hI hr htx) (cwV 1 hts gX3_howManyStood_X3_allAreSo rfl rfl rfl (by decide +kernel) ⟨Nat.le_of_ble_eq_true rfl, Nat.le_of_ble_eq_true rfl⟩) hP (pre_recv hK hP (ci := 3) (q0 := 40) rfl rfl) rfl rfl hl (Nat.le_of_ble_eq_true rfl) dX3_howManyStood_32 ⟨Nat.zero_le _, Nat.zero_le _⟩ hS (fun _ h => h) (fun r32 X2 H locs hp32 hP hS _ _ => ?_)
        obtain ⟨rfl, hf3, hex3⟩ := hp32
        refine xn_to hx (z := b2 (soS P w n rd (P.1 6) (flB (nI (2 ^ t - 1 - i))))) (b2_iff (by rw [hfx])) ?_
        refine xb_eq (tgt := 41) hx hb dX3_howManyStood_35 (by decide) (fun c35 => ?_) (fun c35 => ?_)
        · refine lv_iinc (v := nI (i + 1)) (lv' := [(3, .int (nI (i + 1))), (0, .ref (a 40)), (1, .int (nI (2 ^ t))), (2, .int (nI (cn (fun s => soS P w n rd (P.1 6) (flB (nI (2 ^ t - 1 - s)))) i)))]) hx hb dX3_howManyStood_41 hl (k := 3) rfl (xn_inc i 1) (by decide) rfl (fun ls hl => ?_)
          refine lv_goto (tgt := 21) hx hb dX3_howManyStood_44 (by decide) ?_
          rw [← cn_f (p := (fun s => soS P w n rd (P.1 6) (flB (nI (2 ^ t - 1 - s))))) (n := i) c35] at hl
          exact ih21 (i + 1) X2 (by omega) (hf3.trans hfx) hex3 (by omega) H locs ls hP hS (lv_sub hl [1, 2, 3, 0] rfl)
        · refine lv_iinc (v := nI (cn (fun s => soS P w n rd (P.1 6) (flB (nI (2 ^ t - 1 - s)))) i + 1)) (lv' := [(2, .int (nI (cn (fun s => soS P w n rd (P.1 6) (flB (nI (2 ^ t - 1 - s)))) i + 1))), (0, .ref (a 40)), (1, .int (nI (2 ^ t))), (3, .int (nI i))]) hx hb dX3_howManyStood_38 hl (k := 2) rfl (xn_inc (cn (fun s => soS P w n rd (P.1 6) (flB (nI (2 ^ t - 1 - s)))) i) 1) (by decide) rfl (fun ls hl => ?_)
          refine lv_iinc (v := nI (i + 1)) (lv' := [(3, .int (nI (i + 1))), (2, .int (nI (cn (fun s => soS P w n rd (P.1 6) (flB (nI (2 ^ t - 1 - s)))) i + 1))), (0, .ref (a 40)), (1, .int (nI (2 ^ t)))]) hx hb dX3_howManyStood_41 hl (k := 3) rfl (xn_inc i 1) (by decide) rfl (fun ls hl => ?_)
          refine lv_goto (tgt := 21) hx hb dX3_howManyStood_44 (by decide) ?_
          rw [← cn_t (p := (fun s => soS P w n rd (P.1 6) (flB (nI (2 ^ t - 1 - s))))) (n := i) c35] at hl
          exact ih21 (i + 1) X2 (by omega) (hf3.trans hfx) hex3 (by omega) H locs ls hP hS (lv_sub hl [2, 3, 1, 0] rfl)
  exact L21 _ 0 X1 (Nat.zero_le _) hf1 ⟨_, _, ht1⟩ (Nat.lt_succ_self _) H locs ls hP hS (lv_sub hl [3, 2, 1, 0] rfl)

abbrev rmX3_firstThatStood : Room := { frames := 6, cells := 0, slots := 0, locals := 138 }
set_option maxRecDepth 100000 in
set_option maxHeartbeats 4000000 in
theorem c_X3_firstThatStood (l : Launch) (D : va_G) (y : Nat → ClassId) (a : Nat → Nat) (hA : CA a 44) (P X : PT) (row : Value) (w cN n t : Nat) (rd : Nat) (hI : IP P w cN n t) (hr : RD P n rd) (hc1 : P.1 1 = nI cN) : CtI l D y yX3_firstThatStood wsX3_firstThatStood rmX3_firstThatStood [.ref (a 40)] (wC y a P X row) (fun r (_ : PT) => r = aFirst P w n rd t (fun s => flB (nI (2 ^ t - 1 - s)))) (fun X' => wC y a P X' row) (AC a) := by
  refine mkI (cc := cX3_firstThatStood) (maxL := 3) (ret := some .int) RX3 rfl (by decide) rfl (Or.inl rfl) (Nat.le_of_ble_eq_true rfl) ?_
  intro p e s m args below meth c Q FX hK hP ret ls hl
  obtain ⟨hx, hb, hml, hown, hts⟩ := id FX
  have hS : va_S (AC a) s.heap s.heap [] := va_S.rf
  have in1 : ∀ w ∈ wsX10, w ∈ wsX3_firstThatStood := fun _ h => List.mem_cons_of_mem _ (List.mem_append_left _ (List.mem_append_right _ (h)))
  have in2 : ∀ w ∈ wsX20, w ∈ wsX3_firstThatStood := fun _ h => List.mem_cons_of_mem _ (List.mem_append_left _ (List.mem_append_left _ (List.mem_append_left _ (List.mem_append_right _ (h)))))
  have in3 : ∀ w ∈ wsX30, w ∈ wsX3_firstThatStood := fun _ h => List.mem_cons_of_mem _ (List.mem_append_left _ (List.mem_append_left _ (List.mem_append_left _ (List.mem_append_left _ (List.mem_append_right _ (h))))))
  have in5 : ∀ w ∈ wsX50, w ∈ wsX3_firstThatStood := fun _ h => List.mem_cons_of_mem _ (List.mem_append_left _ (List.mem_append_left _ (List.mem_append_right _ (h))))
  have in7 : ∀ w ∈ wsX70, w ∈ wsX3_firstThatStood := fun _ h => List.mem_cons_of_mem _ (List.mem_append_right _ (h))
  have hl : lv_has ls 3 [(0, .ref (a 40))] := hl
  have htl := hI.t8
  have hpw := pow8 htl
  have hp0 : 0 < 2 ^ t := Nat.two_pow_pos t
  refine lv_aload_n hx hb dX3_firstThatStood_0 rfl (lv_at hl 0 rfl) ?_
  refine cg3_5 FX hK in3 hP (List.mem_of_getElem? (i := 1) rfl) dX3_firstThatStood_1 ?_
  refine cViV [] [] FX hK (c_X5_lookNow l D y a hA P X row w cN n t hI hc1) (cwV 0 hts gX3_firstThatStood_X5_lookNow rfl rfl rfl (by decide +kernel) ⟨Nat.le_of_ble_eq_true rfl, Nat.le_of_ble_eq_true rfl⟩) hP (pre_recv hK hP (ci := 5) (q0 := 36) rfl rfl) rfl rfl hl (Nat.le_of_ble_eq_true rfl) dX3_firstThatStood_4 ⟨Nat.zero_le _, Nat.zero_le _⟩ hS (fun _ h => h) (fun X1 H locs hp4 hP hS _ _ => ?_)
  obtain ⟨hf1, ht1⟩ := hp4
  refine lv_iconst (v := nI 1) hx hb dX3_firstThatStood_7 rfl ?_
  refine lv_aload_n hx hb dX3_firstThatStood_8 rfl (lv_at hl 0 rfl) ?_
  refine cg3_4 FX hK in3 hP (List.mem_of_getElem? (i := 2) rfl) dX3_firstThatStood_9 ?_
  refine cg2_8 FX hK in2 hP (List.mem_of_getElem? (i := 3) rfl) dX3_firstThatStood_12 ?_
  refine xn_to hx (z := nI t) hI.tt ?_
  refine lv_ishl hx hb dX3_firstThatStood_15 ?_
  refine xn_to hx (z := nI (2 ^ t)) (shl1 t (by omega)) ?_
  refine lv_istore_n (lv' := [(1, .int (nI (2 ^ t))), (0, .ref (a 40))]) hx hb dX3_firstThatStood_16 rfl hl (by decide) rfl (fun ls hl => ?_)
  refine lv_iconst (v := nI 0) hx hb dX3_firstThatStood_17 rfl ?_
  refine lv_istore_n (lv' := [(2, .int (nI 0)), (1, .int (nI (2 ^ t))), (0, .ref (a 40))]) hx hb dX3_firstThatStood_18 rfl hl (by decide) rfl (fun ls hl => ?_)
  have L19 : ∀ (N : Nat) (i : Nat) (X' : PT), (i ≤ 2 ^ t) → (fsI (fun s => fnd ((fun s => soS P w n rd (P.1 6) (flB (nI (2 ^ t - 1 - s)))) s) s) i = -9) → (X'.1 7 = P.1 6) → (∃ y0 f0, ∀ q, q < cN → X'.2 3 q = sTop P y0 f0 q) → 2 ^ t - i < N → ∀ (H : Heap) (locs : List Loc) (ls : Array Slot), va_P D vwCl (wC y a P X' row) H → va_S (AC a) s.heap H locs → lv_has ls 3 [(0, .ref (a 40)), (1, .int (nI (2 ^ t))), (2, .int (nI i))] → W p l e rmX3_firstThatStood s m args below meth c H locs 0 0 Q (F0 m 19 ls []) := by
    intro N19
    induction N19 with
    | zero => intro i X' hi hno hfx hex hmeas; exact absurd hmeas (Nat.not_lt_zero _)
    | succ N19 ih19 =>
      intro i X' hi hno hfx hex hmeas H locs ls hP hS hl
      obtain ⟨y1, f1, htx⟩ := hex
      refine lv_iload_n hx hb dX3_firstThatStood_19 rfl (lv_at hl 2 rfl) ?_
      refine lv_iload_n hx hb dX3_firstThatStood_20 rfl (lv_at hl 1 rfl) ?_
      refine xn_icmp_ge (tgt := 44) hx hb (by omega) (by omega) dX3_firstThatStood_21 (by decide) (fun c21 => ?_) (fun c21 => ?_)
      · refine lv_bipush (v := (-9)) hx hb dX3_firstThatStood_44 rfl ?_
        exact ret H locs 46 ls (-9) X' dX3_firstThatStood_46 (by rw [show i = 2 ^ t by omega] at hno; exact hno.symm) hP hS
      · refine lv_aload_n hx hb dX3_firstThatStood_24 rfl (lv_at hl 0 rfl) ?_
        refine lv_iload_n hx hb dX3_firstThatStood_25 rfl (lv_at hl 1 rfl) ?_
        refine lv_iconst (v := nI 1) hx hb dX3_firstThatStood_26 rfl ?_
        refine xn_isub (a := 2 ^ t) (b := 1) hx hb (by omega) dX3_firstThatStood_27 ?_
        refine lv_iload_n hx hb dX3_firstThatStood_28 rfl (lv_at hl 2 rfl) ?_
        refine xn_isub (a := (2 ^ t) - 1) (b := i) hx hb (by omega) dX3_firstThatStood_29 ?_
        refine cViI [.int (nI (((2 ^ t) - 1) - i))] [] FX hK (c_X3_allAreSo l D y a hA P X' row w cN n t rd (nI (2 ^ t - 1 - i)) y1 f1 hI hr htx) (cwV 1 hts gX3_firstThatStood_X3_allAreSo rfl rfl rfl (by decide +kernel) ⟨Nat.le_of_ble_eq_true rfl, Nat.le_of_ble_eq_true rfl⟩) hP (pre_recv hK hP (ci := 3) (q0 := 40) rfl rfl) rfl rfl hl (Nat.le_of_ble_eq_true rfl) dX3_firstThatStood_30 ⟨Nat.zero_le _, Nat.zero_le _⟩ hS (fun _ h => h) (fun r30 X2 H locs hp30 hP hS _ _ => ?_)
        obtain ⟨rfl, hf3, hex3⟩ := hp30
        refine xn_to hx (z := b2 (soS P w n rd (P.1 6) (flB (nI (2 ^ t - 1 - i))))) (b2_iff (by rw [hfx])) ?_
        refine xb_eq (tgt := 38) hx hb dX3_firstThatStood_33 (by decide) (fun c33 => ?_) (fun c33 => ?_)
        · refine lv_iinc (v := nI (i + 1)) (lv' := [(2, .int (nI (i + 1))), (0, .ref (a 40)), (1, .int (nI (2 ^ t)))]) hx hb dX3_firstThatStood_38 hl (k := 2) rfl (xn_inc i 1) (by decide) rfl (fun ls hl => ?_)
          refine lv_goto (tgt := 19) hx hb dX3_firstThatStood_41 (by decide) ?_
          exact ih19 (i + 1) X2 (by omega) (fnd_miss hno c33) (hf3.trans hfx) hex3 (by omega) H locs ls hP hS (lv_sub hl [1, 2, 0] rfl)
        · refine lv_iload_n hx hb dX3_firstThatStood_36 rfl (lv_at hl 2 rfl) ?_
          exact ret H locs 37 ls (nI i) X2 dX3_firstThatStood_37 (fnd_hit (v := fun s => s) hno c21 c33 (by omega)) hP hS
  exact L19 _ 0 X1 (Nat.zero_le _) rfl hf1 ⟨_, _, ht1⟩ (Nat.lt_succ_self _) H locs ls hP hS (lv_sub hl [2, 1, 0] rfl)
