theorem chr_ne {f : Nat → Int32} {n p a b : Nat} (h : chr f n p a) (ha : a < 2 ^ 31) (hb : b < 2 ^ 31) (hab : ¬ a = b) : ¬ chr f n p b := fun z => hab (nI_inj ha hb (h.2.symm.trans z.2))

abbrev rmX9_codeAt : Room := { frames := 0, cells := 0, slots := 0, locals := 0 }
set_option maxRecDepth 100000 in
set_option maxHeartbeats 4000000 in
theorem c_X9_codeAt (l : Launch) (D : va_G) (y : Nat → ClassId) (a : Nat → Nat) (hA : CA a 26) (P : PT) (f : Nat → Int32) (b0 n p0 : Nat)  (hx12 : P.1 12 = nI p0) (hf : ∀ q, q < n → P.2 18 (b0 + q) = f q) (hb0 : b0 + n ≤ 400) (hpn : p0 ≤ n) : CtI l D y yX9_codeAt wsX9_codeAt rmX9_codeAt [.ref (a 0), .int (nI b0), .int (nI n)] (wM y a P) (fun r (_ : Unit) => r = cdv f n p0) (fun _ => wM y a P) (AM a) := by
  refine mkI (cc := cX9_codeAt) (maxL := 3) (ret := some .int) RX9 rfl (by decide) rfl (Or.inl rfl) (Nat.le_of_ble_eq_true rfl) ?_
  intro p e s m args below meth c Q FX hK hP ret ls hl
  obtain ⟨hx, hb, hml, hown, hts⟩ := id FX
  have hS : va_S (AM a) s.heap s.heap [] := va_S.rf
  have in9 : ∀ w ∈ wsX90, w ∈ wsX9_codeAt := fun _ h => List.mem_cons_of_mem _ (List.mem_append_right _ (h))
  have hl : lv_has ls 3 [(0, .ref (a 0)), (1, .int (nI b0)), (2, .int (nI n))] := hl
  refine lv_aload_n hx hb dX9_codeAt_0 rfl (lv_at hl 0 rfl) ?_
  refine mg_18 FX hK in9 hP (List.mem_of_getElem? (i := 1) rfl) dX9_codeAt_1 ?_
  refine xn_to hx (z := nI p0) hx12 ?_
  refine lv_iload_n hx hb dX9_codeAt_4 rfl (lv_at hl 2 rfl) ?_
  refine xn_icmp_ge (tgt := 22) hx hb (by omega) (by omega) dX9_codeAt_5 (by decide) (fun c5 => ?_) (fun c5 => ?_)
  · refine lv_bipush (v := (-9)) hx hb dX9_codeAt_22 rfl ?_
    exact ret s.heap [] 24 ls (-9) () dX9_codeAt_24 (cif_f (by omega)).symm hP hS
  · refine lv_aload_n hx hb dX9_codeAt_8 rfl (lv_at hl 0 rfl) ?_
    refine mg_38 FX hK in9 hP (List.mem_of_getElem? (i := 2) rfl) dX9_codeAt_9 ?_
    refine lv_iload_n hx hb dX9_codeAt_12 rfl (lv_at hl 1 rfl) ?_
    refine lv_aload_n hx hb dX9_codeAt_13 rfl (lv_at hl 0 rfl) ?_
    refine mg_18 FX hK in9 hP (List.mem_of_getElem? (i := 1) rfl) dX9_codeAt_14 ?_
    refine xn_to hx (z := nI p0) hx12 ?_
    refine xn_iadd (a := b0) (b := p0) hx hb dX9_codeAt_17 ?_
    refine ma24 (i := b0 + p0) (by omega) FX hK hP dX9_codeAt_18 ?_
    refine xn_to hx (z := f p0) (hf p0 c5) ?_
    refine lv_goto (tgt := 24) hx hb dX9_codeAt_19 (by decide) ?_
    exact ret s.heap [] 24 ls (f p0) () dX9_codeAt_24 (cif_t c5).symm hP hS

abbrev rmX9_figure : Room := { frames := 1, cells := 0, slots := 0, locals := 25 }
set_option maxRecDepth 100000 in
set_option maxHeartbeats 4000000 in
theorem c_X9_figure (l : Launch) (D : va_G) (y : Nat → ClassId) (a : Nat → Nat) (hA : CA a 26) (P : PT) (f : Nat → Int32) (b0 n p0 : Nat) (lo hi : Nat)  (hx12 : P.1 12 = nI p0) (hf : ∀ q, q < n → P.2 18 (b0 + q) = f q) (hb0 : b0 + n ≤ 400) (hpn : p0 ≤ n) (hlo : lo ≤ 9) (hhi : hi ≤ 9) : CtI l D y yX9_figure wsX9_figure rmX9_figure [.ref (a 0), .int (nI b0), .int (nI n), .int (nI lo), .int (nI hi)] (wM y a P) (fun (r : Int32) (P' : PT) => r = cif (dgt f n p0 lo hi) (nI (dvl f p0)) (-9) ∧ P' = cif (dgt f n p0 lo hi) (pg P 12 (nI (p0 + 1))) P) (fun P' => wM y a P') (AM a) := by
  refine mkI (cc := cX9_figure) (maxL := 7) (ret := some .int) RX9 rfl (by decide) rfl (Or.inl rfl) (Nat.le_of_ble_eq_true rfl) ?_
  intro p e s m args below meth c Q FX hK hP ret ls hl
  obtain ⟨hx, hb, hml, hown, hts⟩ := id FX
  have hS : va_S (AM a) s.heap s.heap [] := va_S.rf
  have in9 : ∀ w ∈ wsX90, w ∈ wsX9_figure := fun _ h => List.mem_cons_of_mem _ (List.mem_append_right _ (h))
  have hl : lv_has ls 7 [(0, .ref (a 0)), (1, .int (nI b0)), (2, .int (nI n)), (3, .int (nI lo)), (4, .int (nI hi))] := hl
  refine lv_aload_n hx hb dX9_figure_0 rfl (lv_at hl 0 rfl) ?_
  refine lv_iload_n hx hb dX9_figure_1 rfl (lv_at hl 1 rfl) ?_
  refine lv_iload_n hx hb dX9_figure_2 rfl (lv_at hl 2 rfl) ?_
  refine cViI [.int (nI b0), .int (nI n)] [] FX hK (c_X9_codeAt l D y a hA P f b0 n p0 hx12 hf hb0 hpn) (cwV 2 hts gX9_figure_X9_codeAt rfl rfl rfl (by decide +kernel) ⟨Nat.le_of_ble_eq_true rfl, Nat.le_of_ble_eq_true rfl⟩) hP (pre_recv hK hP (ci := 9) (q0 := 0) rfl rfl) rfl rfl hl (Nat.le_of_ble_eq_true rfl) dX9_figure_3 ⟨Nat.zero_le _, Nat.zero_le _⟩ hS (fun _ h => h) (fun r3 u3 H locs hp3 hP hS _ _ => ?_)
  obtain rfl := hp3
  refine lv_bipush (v := nI 48) hx hb dX9_figure_6 rfl ?_
  refine lv_isub hx hb dX9_figure_8 ?_
  refine lv_istore (lv' := [(5, .int ((cdv f n p0) - (nI 48))), (0, .ref (a 0)), (1, .int (nI b0)), (2, .int (nI n)), (3, .int (nI lo)), (4, .int (nI hi))]) hx hb dX9_figure_9 hl (by decide) rfl (fun ls hl => ?_)
  refine lv_iload hx hb dX9_figure_11 (lv_at hl 0 rfl) ?_
  refine lv_i2l hx hb dX9_figure_13 rfl ?_
  refine lv_iload_n hx hb dX9_figure_14 rfl (lv_at hl 4 rfl) ?_
  refine lv_i2l hx hb dX9_figure_15 rfl ?_
  refine lv_iload hx hb dX9_figure_16 (lv_at hl 5 rfl) ?_
  refine lv_i2l hx hb dX9_figure_18 rfl ?_
  refine cStI [.long (((cdv f n p0) - (nI 48)).toInt64), .long ((nI lo).toInt64), .long ((nI hi).toInt64)] [] FX hK (c_X9_in l D y (((cdv f n p0) - (nI 48)).toInt64) ((nI lo).toInt64) ((nI hi).toInt64)) (va_cwS 3 hts gX9_figure_X9_in rfl rfl rfl (by decide +kernel) ⟨Nat.le_of_ble_eq_true rfl, Nat.le_of_ble_eq_true rfl⟩) rfl rfl hl (Nat.le_of_ble_eq_true rfl) dX9_figure_19 ⟨Nat.zero_le _, Nat.zero_le _⟩ hP hS (fun r19 H locs hp19 hP hS => ?_)
  obtain rfl := hp19
  refine xn_to hx (z := b2 (dgt f n p0 lo hi)) (b2_iff (fig_iff hlo hhi)) ?_
  refine lv_istore (lv' := [(6, .int (b2 (dgt f n p0 lo hi))), (5, .int ((cdv f n p0) - (nI 48))), (0, .ref (a 0)), (1, .int (nI b0)), (2, .int (nI n)), (3, .int (nI lo)), (4, .int (nI hi))]) hx hb dX9_figure_22 hl (by decide) rfl (fun ls hl => ?_)
  refine lv_aload_n hx hb dX9_figure_24 rfl (lv_at hl 2 rfl) ?_
  refine lv_dup hx hb dX9_figure_25 rfl ?_
  refine mg_18 FX hK in9 hP (List.mem_of_getElem? (i := 1) rfl) dX9_figure_26 ?_
  refine xn_to hx (z := nI p0) hx12 ?_
  refine lv_iload hx hb dX9_figure_29 (lv_at hl 0 rfl) ?_
  refine xb_eq (tgt := 38) hx hb dX9_figure_31 (by decide) (fun c31 => ?_) (fun c31 => ?_)
  · refine lv_iconst (v := nI 0) hx hb dX9_figure_38 rfl ?_
    refine xn_iadd (a := p0) (b := 0) hx hb dX9_figure_39 ?_
    refine mp_18 FX hK in9 hP hA hS (List.mem_of_getElem? (i := 1) rfl) dX9_figure_40 (fun H locs hP hS => ?_)
    rw [show nI (p0 + 0) = nI p0 from rfl, pg_same hx12] at hP
    refine lv_iload hx hb dX9_figure_43 (lv_at hl 0 rfl) ?_
    refine xb_eq (tgt := 53) hx hb dX9_figure_45 (by decide) (fun c45 => ?_) (fun c45 => ?_)
    · refine lv_bipush (v := (-9)) hx hb dX9_figure_53 rfl ?_
      exact ret H locs 55 ls (-9) P dX9_figure_55 ⟨(cif_f c31).symm, (cif_f c31).symm⟩ hP hS
    · exact absurd c45 c31
  · refine lv_iconst (v := nI 1) hx hb dX9_figure_34 rfl ?_
    refine lv_goto (tgt := 39) hx hb dX9_figure_35 (by decide) ?_
    refine xn_iadd (a := p0) (b := 1) hx hb dX9_figure_39 ?_
    refine mp_18 FX hK in9 hP hA hS (List.mem_of_getElem? (i := 1) rfl) dX9_figure_40 (fun H locs hP hS => ?_)
    refine lv_iload hx hb dX9_figure_43 (lv_at hl 0 rfl) ?_
    refine xb_eq (tgt := 53) hx hb dX9_figure_45 (by decide) (fun c45 => ?_) (fun c45 => ?_)
    · exact absurd c31 c45
    · refine lv_iload hx hb dX9_figure_48 (lv_at hl 1 rfl) ?_
      refine lv_goto (tgt := 55) hx hb dX9_figure_50 (by decide) ?_
      exact ret H locs 55 ls ((cdv f n p0) - (nI 48)) (pg P 12 (nI (p0 + 1))) dX9_figure_55 ⟨(cdv_dvl c31 hhi).trans (cif_t c31).symm, (cif_t c31).symm⟩ hP hS

abbrev rmX9_readsCell : Room := { frames := 2, cells := 0, slots := 0, locals := 51 }
set_option maxRecDepth 100000 in
set_option maxHeartbeats 4000000 in
theorem c_X9_readsCell (l : Launch) (D : va_G) (y : Nat → ClassId) (a : Nat → Nat) (hA : CA a 26) (P : PT) (f : Nat → Int32) (b0 n p0 : Nat) (hs ts c0 : Nat)  (hx12 : P.1 12 = nI p0) (hf : ∀ q, q < n → P.2 18 (b0 + q) = f q) (hb0 : b0 + n ≤ 400) (hpn : p0 ≤ n) (hx15 : P.1 15 = nI hs) (hx16 : P.1 16 = nI ts) (hs8 : hs ≤ 8) (ts8 : ts ≤ 8) (hc30 : c0 < 30) : CtI l D y yX9_readsCell wsX9_readsCell rmX9_readsCell [.ref (a 0), .int (nI b0), .int (nI n), .int (nI c0)] (wM y a P) (fun (r : Int32) (P' : PT) => FR P P' ∧ r = b2 (cOK f n p0 hs ts) ∧ (cOK f n p0 hs ts → MC P P' f n p0 hs ts c0) ∧ (¬ cOK f n p0 hs ts → P'.1 12 = nI (cFP f n p0 hs ts))) (fun P' => wM y a P') (AM a) := by
  refine mkI (cc := cX9_readsCell) (maxL := 7) (ret := some .boolean) RX9 rfl (by decide) rfl (Or.inr ⟨rfl, fun r u h => by rw [h.2.1]; exact b2_01 _⟩) (Nat.le_of_ble_eq_true rfl) ?_
  intro p e s m args below meth c Q FX hK hP ret ls hl
  obtain ⟨hx, hb, hml, hown, hts⟩ := id FX
  have hS : va_S (AM a) s.heap s.heap [] := va_S.rf
  have in9 : ∀ w ∈ wsX90, w ∈ wsX9_readsCell := fun _ h => List.mem_cons_of_mem _ (List.mem_append_right _ (h))
  have hl : lv_has ls 7 [(0, .ref (a 0)), (1, .int (nI b0)), (2, .int (nI n)), (3, .int (nI c0))] := hl
  refine lv_aload_n hx hb dX9_readsCell_0 rfl (lv_at hl 0 rfl) ?_
  refine mg_23 FX hK in9 hP (List.mem_of_getElem? (i := 1) rfl) dX9_readsCell_1 ?_
  refine lv_iload_n hx hb dX9_readsCell_4 rfl (lv_at hl 3 rfl) ?_
  refine lv_aload_n hx hb dX9_readsCell_5 rfl (lv_at hl 0 rfl) ?_
  refine lv_iload_n hx hb dX9_readsCell_6 rfl (lv_at hl 1 rfl) ?_
  refine lv_iload_n hx hb dX9_readsCell_7 rfl (lv_at hl 2 rfl) ?_
  refine lv_iconst (v := nI 0) hx hb dX9_readsCell_8 rfl ?_
  refine lv_bipush (v := nI 9) hx hb dX9_readsCell_9 rfl ?_
  refine cViI [.int (nI b0), .int (nI n), .int (nI 0), .int (nI 9)] [.int (nI c0), .ref (a 11)] FX hK (c_X9_figure l D y a hA P f b0 n p0 0 9 hx12 hf hb0 hpn (by decide) (by decide)) (cwV 4 hts gX9_readsCell_X9_figure rfl rfl rfl (by decide +kernel) ⟨Nat.le_of_ble_eq_true rfl, Nat.le_of_ble_eq_true rfl⟩) hP (pre_recv hK hP (ci := 9) (q0 := 0) rfl rfl) rfl rfl hl (Nat.le_of_ble_eq_true rfl) dX9_readsCell_11 ⟨Nat.zero_le _, Nat.zero_le _⟩ hS (fun _ h => h) (fun r11 u11 H locs hp11 hP hS _ _ => ?_)
  obtain ⟨rfl, rfl⟩ := hp11
  by_cases d14 : dgt f n p0 0 9
  · rw [cif_t d14] at hP
    refine xn_to hx (z := nI (dvl f p0)) (cif_t d14) ?_
    have bd14 := (dgt_v d14 (by decide)).2.1
    refine ms11 (i := c0) (by omega) FX hK hP hA hS dX9_readsCell_14 (fun H locs hP hS => ?_)
    refine lv_aload_n hx hb dX9_readsCell_15 rfl (lv_at hl 0 rfl) ?_
    refine mg_23 FX hK in9 hP (List.mem_of_getElem? (i := 1) rfl) dX9_readsCell_16 ?_
    refine lv_iload_n hx hb dX9_readsCell_19 rfl (lv_at hl 3 rfl) ?_
    refine ma11 (i := c0) (by omega) FX hK hP dX9_readsCell_20 ?_
    refine xn_to hx (z := nI (dvl f p0)) (pa_get _ _ _ _) ?_
    refine xn_if_ge (tgt := 26) hx hb (by omega) dX9_readsCell_21 (by decide) (fun c21 => ?_) (fun c21 => ?_)
    · refine lv_aload_n hx hb dX9_readsCell_26 rfl (lv_at hl 0 rfl) ?_
      refine lv_iload_n hx hb dX9_readsCell_27 rfl (lv_at hl 1 rfl) ?_
      refine lv_iload_n hx hb dX9_readsCell_28 rfl (lv_at hl 2 rfl) ?_
      refine cViI [.int (nI b0), .int (nI n)] [] FX hK (c_X9_codeAt l D y a hA (pa (pg P 12 (nI (p0 + 1))) 20 c0 (nI (dvl f p0))) f b0 n (p0 + 1) rfl hf hb0 (show p0 + 1 ≤ n from d14.1)) (cwV 2 hts gX9_readsCell_X9_codeAt rfl rfl rfl (by decide +kernel) ⟨Nat.le_of_ble_eq_true rfl, Nat.le_of_ble_eq_true rfl⟩) hP (pre_recv hK hP (ci := 9) (q0 := 0) rfl rfl) rfl rfl hl (Nat.le_of_ble_eq_true rfl) dX9_readsCell_29 ⟨Nat.zero_le _, Nat.zero_le _⟩ hS (fun _ h => h) (fun r29 u29 H locs hp29 hP hS _ _ => ?_)
      obtain rfl := hp29
      refine lv_istore (lv' := [(4, .int (cdv f n (p0 + 1))), (0, .ref (a 0)), (1, .int (nI b0)), (2, .int (nI n)), (3, .int (nI c0))]) hx hb dX9_readsCell_32 hl (by decide) rfl (fun ls hl => ?_)
      refine lv_iload hx hb dX9_readsCell_34 (lv_at hl 0 rfl) ?_
      refine lv_bipush (v := nI 46) hx hb dX9_readsCell_36 rfl ?_
      refine lv_icmp_ne (tgt := 60) hx hb dX9_readsCell_38 (by decide) (fun c38 => ?_) (fun c38 => ?_)
      · refine lv_iload hx hb dX9_readsCell_60 (lv_at hl 0 rfl) ?_
        refine lv_bipush (v := nI 104) hx hb dX9_readsCell_62 rfl ?_
        refine lv_icmp_eq (tgt := 81) hx hb dX9_readsCell_64 (by decide) (fun c64 => ?_) (fun c64 => ?_)
        · refine lv_iconst (v := nI 1) hx hb dX9_readsCell_81 rfl ?_
          refine lv_goto (tgt := 86) hx hb dX9_readsCell_82 (by decide) ?_
          refine lv_istore (lv' := [(5, .int (nI 1)), (4, .int (cdv f n (p0 + 1))), (0, .ref (a 0)), (1, .int (nI b0)), (2, .int (nI n)), (3, .int (nI c0))]) hx hb dX9_readsCell_86 hl (by decide) rfl (fun ls hl => ?_)
          refine lv_iload hx hb dX9_readsCell_88 (lv_at hl 0 rfl) ?_
          refine xn_if_ne (tgt := 100) hx hb (by omega) dX9_readsCell_90 (by decide) (fun c90 => ?_) (fun c90 => ?_)
          · refine lv_iload hx hb dX9_readsCell_100 (lv_at hl 0 rfl) ?_
            refine xn_if_eq (tgt := 114) hx hb (by omega) dX9_readsCell_102 (by decide) (fun c102 => ?_) (fun c102 => ?_)
            · exact absurd c102 (by decide)
            · refine lv_aload_n hx hb dX9_readsCell_105 rfl (lv_at hl 2 rfl) ?_
              refine mg_21 FX hK in9 hP (List.mem_of_getElem? (i := 4) rfl) dX9_readsCell_106 ?_
              refine xn_to hx (z := nI hs) hx15 ?_
              refine lv_bipush (v := nI 8) hx hb dX9_readsCell_109 rfl ?_
              refine xn_icmp_eq (tgt := 128) hx hb (by omega) (by omega) dX9_readsCell_111 (by decide) (fun c111 => ?_) (fun c111 => ?_)
              · refine lv_iconst (v := nI 0) hx hb dX9_readsCell_128 rfl ?_
                exact ret H locs 129 ls (nI 0) (pa (pg P 12 (nI (p0 + 1))) 20 c0 (nI (dvl f p0))) dX9_readsCell_129 ⟨(by repeat (first | exact FR.rf _ | refine FR.g ?_ (by decide) _ | refine FR.a ?_ (by decide) _ _)), b2_0 (fun z => z.2.elim (fun z => c38 ((cdv_ch (by decide)).mpr z)) (fun y => by rw [show kdc f n (p0 + 1) hs ts = 4 from kdc_4 (fun z => chr_ne ((cdv_ch (v := 104) (by decide)).mp c64) (by decide) (by decide) (by decide) z.2) (fun z => absurd z (by omega)) (fun z => absurd z (by omega)) (fun z => absurd z (by omega))] at y; exact absurd y.1 (by decide))), fun z => absurd z (fun z => z.2.elim (fun z => c38 ((cdv_ch (by decide)).mpr z)) (fun y => by rw [show kdc f n (p0 + 1) hs ts = 4 from kdc_4 (fun z => chr_ne ((cdv_ch (v := 104) (by decide)).mp c64) (by decide) (by decide) (by decide) z.2) (fun z => absurd z (by omega)) (fun z => absurd z (by omega)) (fun z => absurd z (by omega))] at y; exact absurd y.1 (by decide))), fun _ => (by unfold cFP; rw [cif_t d14, show kdc f n (p0 + 1) hs ts = 4 from kdc_4 (fun z => chr_ne ((cdv_ch (v := 104) (by decide)).mp c64) (by decide) (by decide) (by decide) z.2) (fun z => absurd z (by omega)) (fun z => absurd z (by omega)) (fun z => absurd z (by omega)), cif_f (show ¬ (4 : Nat) < 4 by decide)]; rfl)⟩ hP hS
              · refine lv_iload hx hb dX9_readsCell_114 (lv_at hl 0 rfl) ?_
                refine xn_if_ne (tgt := 130) hx hb (by omega) dX9_readsCell_116 (by decide) (fun c116 => ?_) (fun c116 => ?_)
                · have k9 : kdc f n (p0 + 1) hs ts = 0 := kdc_0 (fun z => chr_ne ((cdv_ch (v := 104) (by decide)).mp c64) (by decide) (by decide) (by decide) z.2) (by omega) ((cdv_ch (by decide)).mp c64)
                  have k4 : kdc f n (p0 + 1) hs ts < 4 := by rw [k9]; decide
                  have hp2 := kdc_p k4
                  refine lv_aload_n hx hb dX9_readsCell_130 rfl (lv_at hl 2 rfl) ?_
                  refine lv_dup hx hb dX9_readsCell_131 rfl ?_
                  refine mg_18 FX hK in9 hP (List.mem_of_getElem? (i := 3) rfl) dX9_readsCell_132 ?_
                  refine xn_to hx (z := nI (p0 + 1)) rfl ?_
                  refine lv_iconst (v := nI 1) hx hb dX9_readsCell_135 rfl ?_
                  refine xn_iadd (a := p0 + 1) (b := 1) hx hb dX9_readsCell_136 ?_
                  refine mp_18 FX hK in9 hP hA hS (List.mem_of_getElem? (i := 3) rfl) dX9_readsCell_137 (fun H locs hP hS => ?_)
                  refine lv_aload_n hx hb dX9_readsCell_140 rfl (lv_at hl 2 rfl) ?_
                  refine lv_iload_n hx hb dX9_readsCell_141 rfl (lv_at hl 3 rfl) ?_
                  refine lv_iload_n hx hb dX9_readsCell_142 rfl (lv_at hl 4 rfl) ?_
                  refine lv_iconst (v := nI 1) hx hb dX9_readsCell_143 rfl ?_
                  refine lv_bipush (v := nI 9) hx hb dX9_readsCell_144 rfl ?_
                  refine cViI [.int (nI b0), .int (nI n), .int (nI 1), .int (nI 9)] [] FX hK (c_X9_figure l D y a hA (pg (pa (pg P 12 (nI (p0 + 1))) 20 c0 (nI (dvl f p0))) 12 (nI ((p0 + 1) + 1))) f b0 n (p0 + 1 + 1) 1 9 rfl hf hb0 (show p0 + 1 + 1 ≤ n from hp2) (by decide) (by decide)) (cwV 4 hts gX9_readsCell_X9_figure rfl rfl rfl (by decide +kernel) ⟨Nat.le_of_ble_eq_true rfl, Nat.le_of_ble_eq_true rfl⟩) hP (pre_recv hK hP (ci := 9) (q0 := 0) rfl rfl) rfl rfl hl (Nat.le_of_ble_eq_true rfl) dX9_readsCell_146 ⟨Nat.zero_le _, Nat.zero_le _⟩ hS (fun _ h => h) (fun r146 u146 H locs hp146 hP hS _ _ => ?_)
                  obtain ⟨rfl, rfl⟩ := hp146
                  by_cases d149 : dgt f n (p0 + 1 + 1) 1 9
                  · rw [cif_t d149] at hP
                    refine xn_to hx (z := nI (dvl f (p0 + 1 + 1))) (cif_t d149) ?_
                    have bd149 := (dgt_v d149 (by decide)).2.1
                    refine lv_istore (lv' := [(6, .int (nI (dvl f (p0 + 1 + 1)))), (5, .int (nI 1)), (4, .int (cdv f n (p0 + 1))), (0, .ref (a 0)), (1, .int (nI b0)), (2, .int (nI n)), (3, .int (nI c0))]) hx hb dX9_readsCell_149 hl (by decide) rfl (fun ls hl => ?_)
                    refine lv_iload hx hb dX9_readsCell_151 (lv_at hl 0 rfl) ?_
                    refine xn_if_ge (tgt := 158) hx hb (by omega) dX9_readsCell_153 (by decide) (fun c153 => ?_) (fun c153 => ?_)
                    · refine lv_iload hx hb dX9_readsCell_158 (lv_at hl 1 rfl) ?_
                      refine xn_if_eq (tgt := 242) hx hb (by omega) dX9_readsCell_160 (by decide) (fun c160 => ?_) (fun c160 => ?_)
                      · exact absurd c160 (by decide)
                      · refine lv_aload_n hx hb dX9_readsCell_163 rfl (lv_at hl 3 rfl) ?_
                        refine mg_24 FX hK in9 hP (List.mem_of_getElem? (i := 2) rfl) dX9_readsCell_164 ?_
                        refine lv_iload_n hx hb dX9_readsCell_167 rfl (lv_at hl 6 rfl) ?_
                        refine lv_bipush (v := nI 10) hx hb dX9_readsCell_168 rfl ?_
                        refine lv_aload_n hx hb dX9_readsCell_170 rfl (lv_at hl 3 rfl) ?_
                        refine mg_21 FX hK in9 hP (List.mem_of_getElem? (i := 4) rfl) dX9_readsCell_171 ?_
                        refine xn_to hx (z := nI hs) hx15 ?_
                        refine xn_iadd (a := 10) (b := hs) hx hb dX9_readsCell_174 ?_
                        refine ms12 (i := c0) (by omega) FX hK hP hA hS dX9_readsCell_175 (fun H locs hP hS => ?_)
                        refine lv_aload_n hx hb dX9_readsCell_176 rfl (lv_at hl 3 rfl) ?_
                        refine mg_25 FX hK in9 hP (List.mem_of_getElem? (i := 6) rfl) dX9_readsCell_177 ?_
                        refine lv_aload_n hx hb dX9_readsCell_180 rfl (lv_at hl 3 rfl) ?_
                        refine mg_21 FX hK in9 hP (List.mem_of_getElem? (i := 4) rfl) dX9_readsCell_181 ?_
                        refine xn_to hx (z := nI hs) hx15 ?_
                        refine lv_iload hx hb dX9_readsCell_184 (lv_at hl 2 rfl) ?_
                        refine lv_bipush (v := nI 104) hx hb dX9_readsCell_186 rfl ?_
                        refine lv_icmp_ne (tgt := 195) hx hb dX9_readsCell_188 (by decide) (fun c188 => ?_) (fun c188 => ?_)
                        · exact absurd c64 c188
                        · refine lv_iconst (v := nI 0) hx hb dX9_readsCell_191 rfl ?_
                          refine lv_goto (tgt := 207) hx hb dX9_readsCell_192 (by decide) ?_
                          refine ms13 (i := hs) (by omega) FX hK hP hA hS dX9_readsCell_207 (fun H locs hP hS => ?_)
                          refine lv_aload_n hx hb dX9_readsCell_208 rfl (lv_at hl 3 rfl) ?_
                          refine mg_26 FX hK in9 hP (List.mem_of_getElem? (i := 7) rfl) dX9_readsCell_209 ?_
                          refine lv_aload_n hx hb dX9_readsCell_212 rfl (lv_at hl 3 rfl) ?_
                          refine mg_21 FX hK in9 hP (List.mem_of_getElem? (i := 4) rfl) dX9_readsCell_213 ?_
                          refine xn_to hx (z := nI hs) hx15 ?_
                          refine lv_iload_n hx hb dX9_readsCell_216 rfl (lv_at hl 6 rfl) ?_
                          refine ms14 (i := hs) (by omega) FX hK hP hA hS dX9_readsCell_217 (fun H locs hP hS => ?_)
                          refine lv_aload_n hx hb dX9_readsCell_218 rfl (lv_at hl 3 rfl) ?_
                          refine mg_27 FX hK in9 hP (List.mem_of_getElem? (i := 8) rfl) dX9_readsCell_219 ?_
                          refine lv_aload_n hx hb dX9_readsCell_222 rfl (lv_at hl 3 rfl) ?_
                          refine mg_21 FX hK in9 hP (List.mem_of_getElem? (i := 4) rfl) dX9_readsCell_223 ?_
                          refine xn_to hx (z := nI hs) hx15 ?_
                          refine lv_iload hx hb dX9_readsCell_226 (lv_at hl 0 rfl) ?_
                          refine ms15 (i := hs) (by omega) FX hK hP hA hS dX9_readsCell_228 (fun H locs hP hS => ?_)
                          refine lv_aload_n hx hb dX9_readsCell_229 rfl (lv_at hl 3 rfl) ?_
                          refine lv_dup hx hb dX9_readsCell_230 rfl ?_
                          refine mg_21 FX hK in9 hP (List.mem_of_getElem? (i := 4) rfl) dX9_readsCell_231 ?_
                          refine xn_to hx (z := nI hs) hx15 ?_
                          refine lv_iconst (v := nI 1) hx hb dX9_readsCell_234 rfl ?_
                          refine xn_iadd (a := hs) (b := 1) hx hb dX9_readsCell_235 ?_
                          refine mp_21 FX hK in9 hP hA hS (List.mem_of_getElem? (i := 4) rfl) dX9_readsCell_236 (fun H locs hP hS => ?_)
                          refine lv_goto (tgt := 286) hx hb dX9_readsCell_239 (by decide) ?_
                          refine lv_iconst (v := nI 1) hx hb dX9_readsCell_286 rfl ?_
                          exact ret H locs 287 ls (nI 1) (pg (pa (pa (pa (pa (pg (pg (pa (pg P 12 (nI (p0 + 1))) 20 c0 (nI (dvl f p0))) 12 (nI ((p0 + 1) + 1))) 12 (nI (p0 + 1 + 1 + 1))) 21 c0 (nI (10 + hs))) 22 hs (nI 0)) 23 hs (nI c0)) 24 hs (nI (dvl f (p0 + 1 + 1)))) 15 (nI (hs + 1))) dX9_readsCell_287 ⟨(by repeat (first | exact FR.rf _ | refine FR.g ?_ (by decide) _ | refine FR.a ?_ (by decide) _ _)), b2_1 ⟨d14, Or.inr ⟨k4, d149⟩⟩, fun _ => ⟨by unfold cPl; rw [cif_f (fun z => c38 ((cdv_ch (by decide)).mpr z))]; rfl, by unfold stl thv; rw [k9, cif_f (fun z => c38 ((cdv_ch (by decide)).mpr z)), cif_f (fun z => c38 ((cdv_ch (by decide)).mpr z)), cif_f (show ¬ (0 : Nat) = 3 by decide), cif_f (show ¬ (0 : Nat) = 3 by decide)]; exact Vw_house (pg P 12 (nI (p0 + 1))) c0 hs _ _ _ _ _ _⟩, fun z => absurd ⟨d14, Or.inr ⟨k4, d149⟩⟩ z⟩ hP hS
                    · exact c153.elim
                  · rw [cif_f d149] at hP
                    refine xn_to hx (z := (-9)) (cif_f d149) ?_
                    refine lv_istore (lv' := [(6, .int (-9)), (5, .int (nI 1)), (4, .int (cdv f n (p0 + 1))), (0, .ref (a 0)), (1, .int (nI b0)), (2, .int (nI n)), (3, .int (nI c0))]) hx hb dX9_readsCell_149 hl (by decide) rfl (fun ls hl => ?_)
                    refine lv_iload hx hb dX9_readsCell_151 (lv_at hl 0 rfl) ?_
                    refine lv_if_ge (tgt := 158) hx hb dX9_readsCell_153 (by decide) (fun c153 => ?_) (fun c153 => ?_)
                    · exact absurd c153 (by decide)
                    · refine lv_iconst (v := nI 0) hx hb dX9_readsCell_156 rfl ?_
                      exact ret H locs 157 ls (nI 0) (pg (pa (pg P 12 (nI (p0 + 1))) 20 c0 (nI (dvl f p0))) 12 (nI ((p0 + 1) + 1))) dX9_readsCell_157 ⟨(by repeat (first | exact FR.rf _ | refine FR.g ?_ (by decide) _ | refine FR.a ?_ (by decide) _ _)), b2_0 (fun z => z.2.elim (fun z => c38 ((cdv_ch (by decide)).mpr z)) (fun y => d149 y.2)), fun z => absurd z (fun z => z.2.elim (fun z => c38 ((cdv_ch (by decide)).mpr z)) (fun y => d149 y.2)), fun _ => (by unfold cFP; rw [cif_t d14, cif_t k4]; rfl)⟩ hP hS
                · exact absurd c116 (by decide)
          · exact absurd c90 (by decide)
        · refine lv_iload hx hb dX9_readsCell_67 (lv_at hl 0 rfl) ?_
          refine lv_bipush (v := nI 99) hx hb dX9_readsCell_69 rfl ?_
          refine lv_icmp_eq (tgt := 81) hx hb dX9_readsCell_71 (by decide) (fun c71 => ?_) (fun c71 => ?_)
          · refine lv_iconst (v := nI 1) hx hb dX9_readsCell_81 rfl ?_
            refine lv_goto (tgt := 86) hx hb dX9_readsCell_82 (by decide) ?_
            refine lv_istore (lv' := [(5, .int (nI 1)), (4, .int (cdv f n (p0 + 1))), (0, .ref (a 0)), (1, .int (nI b0)), (2, .int (nI n)), (3, .int (nI c0))]) hx hb dX9_readsCell_86 hl (by decide) rfl (fun ls hl => ?_)
            refine lv_iload hx hb dX9_readsCell_88 (lv_at hl 0 rfl) ?_
            refine xn_if_ne (tgt := 100) hx hb (by omega) dX9_readsCell_90 (by decide) (fun c90 => ?_) (fun c90 => ?_)
            · refine lv_iload hx hb dX9_readsCell_100 (lv_at hl 0 rfl) ?_
              refine xn_if_eq (tgt := 114) hx hb (by omega) dX9_readsCell_102 (by decide) (fun c102 => ?_) (fun c102 => ?_)
              · exact absurd c102 (by decide)
              · refine lv_aload_n hx hb dX9_readsCell_105 rfl (lv_at hl 2 rfl) ?_
                refine mg_21 FX hK in9 hP (List.mem_of_getElem? (i := 4) rfl) dX9_readsCell_106 ?_
                refine xn_to hx (z := nI hs) hx15 ?_
                refine lv_bipush (v := nI 8) hx hb dX9_readsCell_109 rfl ?_
                refine xn_icmp_eq (tgt := 128) hx hb (by omega) (by omega) dX9_readsCell_111 (by decide) (fun c111 => ?_) (fun c111 => ?_)
                · refine lv_iconst (v := nI 0) hx hb dX9_readsCell_128 rfl ?_
                  exact ret H locs 129 ls (nI 0) (pa (pg P 12 (nI (p0 + 1))) 20 c0 (nI (dvl f p0))) dX9_readsCell_129 ⟨(by repeat (first | exact FR.rf _ | refine FR.g ?_ (by decide) _ | refine FR.a ?_ (by decide) _ _)), b2_0 (fun z => z.2.elim (fun z => c38 ((cdv_ch (by decide)).mpr z)) (fun y => by rw [show kdc f n (p0 + 1) hs ts = 4 from kdc_4 (fun z => chr_ne ((cdv_ch (v := 99) (by decide)).mp c71) (by decide) (by decide) (by decide) z.2) (fun z => absurd z (by omega)) (fun z => absurd z (by omega)) (fun z => absurd z (by omega))] at y; exact absurd y.1 (by decide))), fun z => absurd z (fun z => z.2.elim (fun z => c38 ((cdv_ch (by decide)).mpr z)) (fun y => by rw [show kdc f n (p0 + 1) hs ts = 4 from kdc_4 (fun z => chr_ne ((cdv_ch (v := 99) (by decide)).mp c71) (by decide) (by decide) (by decide) z.2) (fun z => absurd z (by omega)) (fun z => absurd z (by omega)) (fun z => absurd z (by omega))] at y; exact absurd y.1 (by decide))), fun _ => (by unfold cFP; rw [cif_t d14, show kdc f n (p0 + 1) hs ts = 4 from kdc_4 (fun z => chr_ne ((cdv_ch (v := 99) (by decide)).mp c71) (by decide) (by decide) (by decide) z.2) (fun z => absurd z (by omega)) (fun z => absurd z (by omega)) (fun z => absurd z (by omega)), cif_f (show ¬ (4 : Nat) < 4 by decide)]; rfl)⟩ hP hS
                · refine lv_iload hx hb dX9_readsCell_114 (lv_at hl 0 rfl) ?_
                  refine xn_if_ne (tgt := 130) hx hb (by omega) dX9_readsCell_116 (by decide) (fun c116 => ?_) (fun c116 => ?_)
                  · have k9 : kdc f n (p0 + 1) hs ts = 1 := kdc_1 (fun z => chr_ne ((cdv_ch (v := 99) (by decide)).mp c71) (by decide) (by decide) (by decide) z.2) (by omega) (fun z => c64 ((cdv_ch (v := 104) (by decide)).mpr z)) ((cdv_ch (by decide)).mp c71)
                    have k4 : kdc f n (p0 + 1) hs ts < 4 := by rw [k9]; decide
                    have hp2 := kdc_p k4
                    refine lv_aload_n hx hb dX9_readsCell_130 rfl (lv_at hl 2 rfl) ?_
                    refine lv_dup hx hb dX9_readsCell_131 rfl ?_
                    refine mg_18 FX hK in9 hP (List.mem_of_getElem? (i := 3) rfl) dX9_readsCell_132 ?_
                    refine xn_to hx (z := nI (p0 + 1)) rfl ?_
                    refine lv_iconst (v := nI 1) hx hb dX9_readsCell_135 rfl ?_
                    refine xn_iadd (a := p0 + 1) (b := 1) hx hb dX9_readsCell_136 ?_
                    refine mp_18 FX hK in9 hP hA hS (List.mem_of_getElem? (i := 3) rfl) dX9_readsCell_137 (fun H locs hP hS => ?_)
                    refine lv_aload_n hx hb dX9_readsCell_140 rfl (lv_at hl 2 rfl) ?_
                    refine lv_iload_n hx hb dX9_readsCell_141 rfl (lv_at hl 3 rfl) ?_
                    refine lv_iload_n hx hb dX9_readsCell_142 rfl (lv_at hl 4 rfl) ?_
                    refine lv_iconst (v := nI 1) hx hb dX9_readsCell_143 rfl ?_
                    refine lv_bipush (v := nI 9) hx hb dX9_readsCell_144 rfl ?_
                    refine cViI [.int (nI b0), .int (nI n), .int (nI 1), .int (nI 9)] [] FX hK (c_X9_figure l D y a hA (pg (pa (pg P 12 (nI (p0 + 1))) 20 c0 (nI (dvl f p0))) 12 (nI ((p0 + 1) + 1))) f b0 n (p0 + 1 + 1) 1 9 rfl hf hb0 (show p0 + 1 + 1 ≤ n from hp2) (by decide) (by decide)) (cwV 4 hts gX9_readsCell_X9_figure rfl rfl rfl (by decide +kernel) ⟨Nat.le_of_ble_eq_true rfl, Nat.le_of_ble_eq_true rfl⟩) hP (pre_recv hK hP (ci := 9) (q0 := 0) rfl rfl) rfl rfl hl (Nat.le_of_ble_eq_true rfl) dX9_readsCell_146 ⟨Nat.zero_le _, Nat.zero_le _⟩ hS (fun _ h => h) (fun r146 u146 H locs hp146 hP hS _ _ => ?_)
                    obtain ⟨rfl, rfl⟩ := hp146
                    by_cases d149 : dgt f n (p0 + 1 + 1) 1 9
                    · rw [cif_t d149] at hP
                      refine xn_to hx (z := nI (dvl f (p0 + 1 + 1))) (cif_t d149) ?_
                      have bd149 := (dgt_v d149 (by decide)).2.1
                      refine lv_istore (lv' := [(6, .int (nI (dvl f (p0 + 1 + 1)))), (5, .int (nI 1)), (4, .int (cdv f n (p0 + 1))), (0, .ref (a 0)), (1, .int (nI b0)), (2, .int (nI n)), (3, .int (nI c0))]) hx hb dX9_readsCell_149 hl (by decide) rfl (fun ls hl => ?_)
                      refine lv_iload hx hb dX9_readsCell_151 (lv_at hl 0 rfl) ?_
                      refine xn_if_ge (tgt := 158) hx hb (by omega) dX9_readsCell_153 (by decide) (fun c153 => ?_) (fun c153 => ?_)
                      · refine lv_iload hx hb dX9_readsCell_158 (lv_at hl 1 rfl) ?_
                        refine xn_if_eq (tgt := 242) hx hb (by omega) dX9_readsCell_160 (by decide) (fun c160 => ?_) (fun c160 => ?_)
                        · exact absurd c160 (by decide)
                        · refine lv_aload_n hx hb dX9_readsCell_163 rfl (lv_at hl 3 rfl) ?_
                          refine mg_24 FX hK in9 hP (List.mem_of_getElem? (i := 2) rfl) dX9_readsCell_164 ?_
                          refine lv_iload_n hx hb dX9_readsCell_167 rfl (lv_at hl 6 rfl) ?_
                          refine lv_bipush (v := nI 10) hx hb dX9_readsCell_168 rfl ?_
                          refine lv_aload_n hx hb dX9_readsCell_170 rfl (lv_at hl 3 rfl) ?_
                          refine mg_21 FX hK in9 hP (List.mem_of_getElem? (i := 4) rfl) dX9_readsCell_171 ?_
                          refine xn_to hx (z := nI hs) hx15 ?_
                          refine xn_iadd (a := 10) (b := hs) hx hb dX9_readsCell_174 ?_
                          refine ms12 (i := c0) (by omega) FX hK hP hA hS dX9_readsCell_175 (fun H locs hP hS => ?_)
                          refine lv_aload_n hx hb dX9_readsCell_176 rfl (lv_at hl 3 rfl) ?_
                          refine mg_25 FX hK in9 hP (List.mem_of_getElem? (i := 6) rfl) dX9_readsCell_177 ?_
                          refine lv_aload_n hx hb dX9_readsCell_180 rfl (lv_at hl 3 rfl) ?_
                          refine mg_21 FX hK in9 hP (List.mem_of_getElem? (i := 4) rfl) dX9_readsCell_181 ?_
                          refine xn_to hx (z := nI hs) hx15 ?_
                          refine lv_iload hx hb dX9_readsCell_184 (lv_at hl 2 rfl) ?_
                          refine lv_bipush (v := nI 104) hx hb dX9_readsCell_186 rfl ?_
                          refine lv_icmp_ne (tgt := 195) hx hb dX9_readsCell_188 (by decide) (fun c188 => ?_) (fun c188 => ?_)
                          · refine lv_iload hx hb dX9_readsCell_195 (lv_at hl 2 rfl) ?_
                            refine lv_bipush (v := nI 99) hx hb dX9_readsCell_197 rfl ?_
                            refine lv_icmp_ne (tgt := 206) hx hb dX9_readsCell_199 (by decide) (fun c199 => ?_) (fun c199 => ?_)
                            · exact absurd c71 c199
                            · refine lv_iconst (v := nI 1) hx hb dX9_readsCell_202 rfl ?_
                              refine lv_goto (tgt := 207) hx hb dX9_readsCell_203 (by decide) ?_
                              refine ms13 (i := hs) (by omega) FX hK hP hA hS dX9_readsCell_207 (fun H locs hP hS => ?_)
                              refine lv_aload_n hx hb dX9_readsCell_208 rfl (lv_at hl 3 rfl) ?_
                              refine mg_26 FX hK in9 hP (List.mem_of_getElem? (i := 7) rfl) dX9_readsCell_209 ?_
                              refine lv_aload_n hx hb dX9_readsCell_212 rfl (lv_at hl 3 rfl) ?_
                              refine mg_21 FX hK in9 hP (List.mem_of_getElem? (i := 4) rfl) dX9_readsCell_213 ?_
                              refine xn_to hx (z := nI hs) hx15 ?_
                              refine lv_iload_n hx hb dX9_readsCell_216 rfl (lv_at hl 6 rfl) ?_
                              refine ms14 (i := hs) (by omega) FX hK hP hA hS dX9_readsCell_217 (fun H locs hP hS => ?_)
                              refine lv_aload_n hx hb dX9_readsCell_218 rfl (lv_at hl 3 rfl) ?_
                              refine mg_27 FX hK in9 hP (List.mem_of_getElem? (i := 8) rfl) dX9_readsCell_219 ?_
                              refine lv_aload_n hx hb dX9_readsCell_222 rfl (lv_at hl 3 rfl) ?_
                              refine mg_21 FX hK in9 hP (List.mem_of_getElem? (i := 4) rfl) dX9_readsCell_223 ?_
                              refine xn_to hx (z := nI hs) hx15 ?_
                              refine lv_iload hx hb dX9_readsCell_226 (lv_at hl 0 rfl) ?_
                              refine ms15 (i := hs) (by omega) FX hK hP hA hS dX9_readsCell_228 (fun H locs hP hS => ?_)
                              refine lv_aload_n hx hb dX9_readsCell_229 rfl (lv_at hl 3 rfl) ?_
                              refine lv_dup hx hb dX9_readsCell_230 rfl ?_
                              refine mg_21 FX hK in9 hP (List.mem_of_getElem? (i := 4) rfl) dX9_readsCell_231 ?_
                              refine xn_to hx (z := nI hs) hx15 ?_
                              refine lv_iconst (v := nI 1) hx hb dX9_readsCell_234 rfl ?_
                              refine xn_iadd (a := hs) (b := 1) hx hb dX9_readsCell_235 ?_
                              refine mp_21 FX hK in9 hP hA hS (List.mem_of_getElem? (i := 4) rfl) dX9_readsCell_236 (fun H locs hP hS => ?_)
                              refine lv_goto (tgt := 286) hx hb dX9_readsCell_239 (by decide) ?_
                              refine lv_iconst (v := nI 1) hx hb dX9_readsCell_286 rfl ?_
                              exact ret H locs 287 ls (nI 1) (pg (pa (pa (pa (pa (pg (pg (pa (pg P 12 (nI (p0 + 1))) 20 c0 (nI (dvl f p0))) 12 (nI ((p0 + 1) + 1))) 12 (nI (p0 + 1 + 1 + 1))) 21 c0 (nI (10 + hs))) 22 hs (nI 1)) 23 hs (nI c0)) 24 hs (nI (dvl f (p0 + 1 + 1)))) 15 (nI (hs + 1))) dX9_readsCell_287 ⟨(by repeat (first | exact FR.rf _ | refine FR.g ?_ (by decide) _ | refine FR.a ?_ (by decide) _ _)), b2_1 ⟨d14, Or.inr ⟨k4, d149⟩⟩, fun _ => ⟨by unfold cPl; rw [cif_f (fun z => c38 ((cdv_ch (by decide)).mpr z))]; rfl, by unfold stl thv; rw [k9, cif_f (fun z => c38 ((cdv_ch (by decide)).mpr z)), cif_f (fun z => c38 ((cdv_ch (by decide)).mpr z)), cif_f (show ¬ (1 : Nat) = 3 by decide), cif_f (show ¬ (1 : Nat) = 3 by decide)]; exact Vw_house (pg P 12 (nI (p0 + 1))) c0 hs _ _ _ _ _ _⟩, fun z => absurd ⟨d14, Or.inr ⟨k4, d149⟩⟩ z⟩ hP hS
                          · exact absurd c188 c64
                      · exact c153.elim
                    · rw [cif_f d149] at hP
                      refine xn_to hx (z := (-9)) (cif_f d149) ?_
                      refine lv_istore (lv' := [(6, .int (-9)), (5, .int (nI 1)), (4, .int (cdv f n (p0 + 1))), (0, .ref (a 0)), (1, .int (nI b0)), (2, .int (nI n)), (3, .int (nI c0))]) hx hb dX9_readsCell_149 hl (by decide) rfl (fun ls hl => ?_)
                      refine lv_iload hx hb dX9_readsCell_151 (lv_at hl 0 rfl) ?_
                      refine lv_if_ge (tgt := 158) hx hb dX9_readsCell_153 (by decide) (fun c153 => ?_) (fun c153 => ?_)
                      · exact absurd c153 (by decide)
                      · refine lv_iconst (v := nI 0) hx hb dX9_readsCell_156 rfl ?_
                        exact ret H locs 157 ls (nI 0) (pg (pa (pg P 12 (nI (p0 + 1))) 20 c0 (nI (dvl f p0))) 12 (nI ((p0 + 1) + 1))) dX9_readsCell_157 ⟨(by repeat (first | exact FR.rf _ | refine FR.g ?_ (by decide) _ | refine FR.a ?_ (by decide) _ _)), b2_0 (fun z => z.2.elim (fun z => c38 ((cdv_ch (by decide)).mpr z)) (fun y => d149 y.2)), fun z => absurd z (fun z => z.2.elim (fun z => c38 ((cdv_ch (by decide)).mpr z)) (fun y => d149 y.2)), fun _ => (by unfold cFP; rw [cif_t d14, cif_t k4]; rfl)⟩ hP hS
                  · exact absurd c116 (by decide)
            · exact absurd c90 (by decide)
          · refine lv_iload hx hb dX9_readsCell_74 (lv_at hl 0 rfl) ?_
            refine lv_bipush (v := nI 114) hx hb dX9_readsCell_76 rfl ?_
            refine lv_icmp_ne (tgt := 85) hx hb dX9_readsCell_78 (by decide) (fun c78 => ?_) (fun c78 => ?_)
            · refine lv_iconst (v := nI 0) hx hb dX9_readsCell_85 rfl ?_
              refine lv_istore (lv' := [(5, .int (nI 0)), (4, .int (cdv f n (p0 + 1))), (0, .ref (a 0)), (1, .int (nI b0)), (2, .int (nI n)), (3, .int (nI c0))]) hx hb dX9_readsCell_86 hl (by decide) rfl (fun ls hl => ?_)
              refine lv_iload hx hb dX9_readsCell_88 (lv_at hl 0 rfl) ?_
              refine xn_if_ne (tgt := 100) hx hb (by omega) dX9_readsCell_90 (by decide) (fun c90 => ?_) (fun c90 => ?_)
              · exact absurd c90 (by decide)
              · refine lv_iload hx hb dX9_readsCell_93 (lv_at hl 1 rfl) ?_
                refine lv_bipush (v := nI 116) hx hb dX9_readsCell_95 rfl ?_
                refine lv_icmp_ne (tgt := 128) hx hb dX9_readsCell_97 (by decide) (fun c97 => ?_) (fun c97 => ?_)
                · refine lv_iconst (v := nI 0) hx hb dX9_readsCell_128 rfl ?_
                  exact ret H locs 129 ls (nI 0) (pa (pg P 12 (nI (p0 + 1))) 20 c0 (nI (dvl f p0))) dX9_readsCell_129 ⟨(by repeat (first | exact FR.rf _ | refine FR.g ?_ (by decide) _ | refine FR.a ?_ (by decide) _ _)), b2_0 (fun z => z.2.elim (fun z => c38 ((cdv_ch (by decide)).mpr z)) (fun y => by rw [show kdc f n (p0 + 1) hs ts = 4 from kdc_4 (fun z => (by first | exact c97 ((cdv_ch (v := 116) (by decide)).mpr z.2) | omega))  (fun _ => (fun z => c64 ((cdv_ch (v := 104) (by decide)).mpr z))) (fun _ => (fun z => c71 ((cdv_ch (v := 99) (by decide)).mpr z))) (fun _ => (fun z => c78 ((cdv_ch (v := 114) (by decide)).mpr z)))] at y; exact absurd y.1 (by decide))), fun z => absurd z (fun z => z.2.elim (fun z => c38 ((cdv_ch (by decide)).mpr z)) (fun y => by rw [show kdc f n (p0 + 1) hs ts = 4 from kdc_4 (fun z => (by first | exact c97 ((cdv_ch (v := 116) (by decide)).mpr z.2) | omega))  (fun _ => (fun z => c64 ((cdv_ch (v := 104) (by decide)).mpr z))) (fun _ => (fun z => c71 ((cdv_ch (v := 99) (by decide)).mpr z))) (fun _ => (fun z => c78 ((cdv_ch (v := 114) (by decide)).mpr z)))] at y; exact absurd y.1 (by decide))), fun _ => (by unfold cFP; rw [cif_t d14, show kdc f n (p0 + 1) hs ts = 4 from kdc_4 (fun z => (by first | exact c97 ((cdv_ch (v := 116) (by decide)).mpr z.2) | omega))  (fun _ => (fun z => c64 ((cdv_ch (v := 104) (by decide)).mpr z))) (fun _ => (fun z => c71 ((cdv_ch (v := 99) (by decide)).mpr z))) (fun _ => (fun z => c78 ((cdv_ch (v := 114) (by decide)).mpr z))), cif_f (show ¬ (4 : Nat) < 4 by decide)]; rfl)⟩ hP hS
                · refine lv_iload hx hb dX9_readsCell_100 (lv_at hl 0 rfl) ?_
                  refine xn_if_eq (tgt := 114) hx hb (by omega) dX9_readsCell_102 (by decide) (fun c102 => ?_) (fun c102 => ?_)
                  · refine lv_iload hx hb dX9_readsCell_114 (lv_at hl 0 rfl) ?_
                    refine xn_if_ne (tgt := 130) hx hb (by omega) dX9_readsCell_116 (by decide) (fun c116 => ?_) (fun c116 => ?_)
                    · exact absurd c116 (by decide)
                    · refine lv_aload_n hx hb dX9_readsCell_119 rfl (lv_at hl 2 rfl) ?_
                      refine mg_22 FX hK in9 hP (List.mem_of_getElem? (i := 5) rfl) dX9_readsCell_120 ?_
                      refine xn_to hx (z := nI ts) hx16 ?_
                      refine lv_bipush (v := nI 8) hx hb dX9_readsCell_123 rfl ?_
                      refine xn_icmp_ne (tgt := 130) hx hb (by omega) (by omega) dX9_readsCell_125 (by decide) (fun c125 => ?_) (fun c125 => ?_)
                      · have k9 : kdc f n (p0 + 1) hs ts = 3 := kdc_3 ⟨by omega, (cdv_ch (by decide)).mp c97⟩
                        have k4 : kdc f n (p0 + 1) hs ts < 4 := by rw [k9]; decide
                        have hp2 := kdc_p k4
                        refine lv_aload_n hx hb dX9_readsCell_130 rfl (lv_at hl 2 rfl) ?_
                        refine lv_dup hx hb dX9_readsCell_131 rfl ?_
                        refine mg_18 FX hK in9 hP (List.mem_of_getElem? (i := 3) rfl) dX9_readsCell_132 ?_
                        refine xn_to hx (z := nI (p0 + 1)) rfl ?_
                        refine lv_iconst (v := nI 1) hx hb dX9_readsCell_135 rfl ?_
                        refine xn_iadd (a := p0 + 1) (b := 1) hx hb dX9_readsCell_136 ?_
                        refine mp_18 FX hK in9 hP hA hS (List.mem_of_getElem? (i := 3) rfl) dX9_readsCell_137 (fun H locs hP hS => ?_)
                        refine lv_aload_n hx hb dX9_readsCell_140 rfl (lv_at hl 2 rfl) ?_
                        refine lv_iload_n hx hb dX9_readsCell_141 rfl (lv_at hl 3 rfl) ?_
                        refine lv_iload_n hx hb dX9_readsCell_142 rfl (lv_at hl 4 rfl) ?_
                        refine lv_iconst (v := nI 1) hx hb dX9_readsCell_143 rfl ?_
                        refine lv_bipush (v := nI 9) hx hb dX9_readsCell_144 rfl ?_
                        refine cViI [.int (nI b0), .int (nI n), .int (nI 1), .int (nI 9)] [] FX hK (c_X9_figure l D y a hA (pg (pa (pg P 12 (nI (p0 + 1))) 20 c0 (nI (dvl f p0))) 12 (nI ((p0 + 1) + 1))) f b0 n (p0 + 1 + 1) 1 9 rfl hf hb0 (show p0 + 1 + 1 ≤ n from hp2) (by decide) (by decide)) (cwV 4 hts gX9_readsCell_X9_figure rfl rfl rfl (by decide +kernel) ⟨Nat.le_of_ble_eq_true rfl, Nat.le_of_ble_eq_true rfl⟩) hP (pre_recv hK hP (ci := 9) (q0 := 0) rfl rfl) rfl rfl hl (Nat.le_of_ble_eq_true rfl) dX9_readsCell_146 ⟨Nat.zero_le _, Nat.zero_le _⟩ hS (fun _ h => h) (fun r146 u146 H locs hp146 hP hS _ _ => ?_)
                        obtain ⟨rfl, rfl⟩ := hp146
                        by_cases d149 : dgt f n (p0 + 1 + 1) 1 9
                        · rw [cif_t d149] at hP
                          refine xn_to hx (z := nI (dvl f (p0 + 1 + 1))) (cif_t d149) ?_
                          have bd149 := (dgt_v d149 (by decide)).2.1
                          refine lv_istore (lv' := [(6, .int (nI (dvl f (p0 + 1 + 1)))), (5, .int (nI 0)), (4, .int (cdv f n (p0 + 1))), (0, .ref (a 0)), (1, .int (nI b0)), (2, .int (nI n)), (3, .int (nI c0))]) hx hb dX9_readsCell_149 hl (by decide) rfl (fun ls hl => ?_)
                          refine lv_iload hx hb dX9_readsCell_151 (lv_at hl 0 rfl) ?_
                          refine xn_if_ge (tgt := 158) hx hb (by omega) dX9_readsCell_153 (by decide) (fun c153 => ?_) (fun c153 => ?_)
                          · refine lv_iload hx hb dX9_readsCell_158 (lv_at hl 1 rfl) ?_
                            refine xn_if_eq (tgt := 242) hx hb (by omega) dX9_readsCell_160 (by decide) (fun c160 => ?_) (fun c160 => ?_)
                            · refine lv_aload_n hx hb dX9_readsCell_242 rfl (lv_at hl 3 rfl) ?_
                              refine mg_24 FX hK in9 hP (List.mem_of_getElem? (i := 2) rfl) dX9_readsCell_243 ?_
                              refine lv_iload_n hx hb dX9_readsCell_246 rfl (lv_at hl 6 rfl) ?_
                              refine lv_bipush (v := nI 20) hx hb dX9_readsCell_247 rfl ?_
                              refine lv_aload_n hx hb dX9_readsCell_249 rfl (lv_at hl 3 rfl) ?_
                              refine mg_22 FX hK in9 hP (List.mem_of_getElem? (i := 5) rfl) dX9_readsCell_250 ?_
                              refine xn_to hx (z := nI ts) hx16 ?_
                              refine xn_iadd (a := 20) (b := ts) hx hb dX9_readsCell_253 ?_
                              refine ms12 (i := c0) (by omega) FX hK hP hA hS dX9_readsCell_254 (fun H locs hP hS => ?_)
                              refine lv_aload_n hx hb dX9_readsCell_255 rfl (lv_at hl 3 rfl) ?_
                              refine mg_28 FX hK in9 hP (List.mem_of_getElem? (i := 9) rfl) dX9_readsCell_256 ?_
                              refine lv_aload_n hx hb dX9_readsCell_259 rfl (lv_at hl 3 rfl) ?_
                              refine mg_22 FX hK in9 hP (List.mem_of_getElem? (i := 5) rfl) dX9_readsCell_260 ?_
                              refine xn_to hx (z := nI ts) hx16 ?_
                              refine lv_iload_n hx hb dX9_readsCell_263 rfl (lv_at hl 6 rfl) ?_
                              refine ms16 (i := ts) (by omega) FX hK hP hA hS dX9_readsCell_264 (fun H locs hP hS => ?_)
                              refine lv_aload_n hx hb dX9_readsCell_265 rfl (lv_at hl 3 rfl) ?_
                              refine mg_29 FX hK in9 hP (List.mem_of_getElem? (i := 10) rfl) dX9_readsCell_266 ?_
                              refine lv_aload_n hx hb dX9_readsCell_269 rfl (lv_at hl 3 rfl) ?_
                              refine mg_22 FX hK in9 hP (List.mem_of_getElem? (i := 5) rfl) dX9_readsCell_270 ?_
                              refine xn_to hx (z := nI ts) hx16 ?_
                              refine lv_iload hx hb dX9_readsCell_273 (lv_at hl 0 rfl) ?_
                              refine ms17 (i := ts) (by omega) FX hK hP hA hS dX9_readsCell_275 (fun H locs hP hS => ?_)
                              refine lv_aload_n hx hb dX9_readsCell_276 rfl (lv_at hl 3 rfl) ?_
                              refine lv_dup hx hb dX9_readsCell_277 rfl ?_
                              refine mg_22 FX hK in9 hP (List.mem_of_getElem? (i := 5) rfl) dX9_readsCell_278 ?_
                              refine xn_to hx (z := nI ts) hx16 ?_
                              refine lv_iconst (v := nI 1) hx hb dX9_readsCell_281 rfl ?_
                              refine xn_iadd (a := ts) (b := 1) hx hb dX9_readsCell_282 ?_
                              refine mp_22 FX hK in9 hP hA hS (List.mem_of_getElem? (i := 5) rfl) dX9_readsCell_283 (fun H locs hP hS => ?_)
                              refine lv_iconst (v := nI 1) hx hb dX9_readsCell_286 rfl ?_
                              exact ret H locs 287 ls (nI 1) (pg (pa (pa (pa (pg (pg (pa (pg P 12 (nI (p0 + 1))) 20 c0 (nI (dvl f p0))) 12 (nI ((p0 + 1) + 1))) 12 (nI (p0 + 1 + 1 + 1))) 21 c0 (nI (20 + ts))) 25 ts (nI c0)) 26 ts (nI (dvl f (p0 + 1 + 1)))) 16 (nI (ts + 1))) dX9_readsCell_287 ⟨(by repeat (first | exact FR.rf _ | refine FR.g ?_ (by decide) _ | refine FR.a ?_ (by decide) _ _)), b2_1 ⟨d14, Or.inr ⟨k4, d149⟩⟩, fun _ => ⟨by unfold cPl; rw [cif_f (fun z => c38 ((cdv_ch (by decide)).mpr z))]; rfl, by unfold stl thv; rw [k9, cif_f (fun z => c38 ((cdv_ch (by decide)).mpr z)), cif_f (fun z => c38 ((cdv_ch (by decide)).mpr z)), cif_t (show (3 : Nat) = 3 from rfl), cif_t (show (3 : Nat) = 3 from rfl)]; exact Vw_tree (pg P 12 (nI (p0 + 1))) c0 ts _ _ _ _ _⟩, fun z => absurd ⟨d14, Or.inr ⟨k4, d149⟩⟩ z⟩ hP hS
                            · exact absurd c160 (by decide)
                          · exact c153.elim
                        · rw [cif_f d149] at hP
                          refine xn_to hx (z := (-9)) (cif_f d149) ?_
                          refine lv_istore (lv' := [(6, .int (-9)), (5, .int (nI 0)), (4, .int (cdv f n (p0 + 1))), (0, .ref (a 0)), (1, .int (nI b0)), (2, .int (nI n)), (3, .int (nI c0))]) hx hb dX9_readsCell_149 hl (by decide) rfl (fun ls hl => ?_)
                          refine lv_iload hx hb dX9_readsCell_151 (lv_at hl 0 rfl) ?_
                          refine lv_if_ge (tgt := 158) hx hb dX9_readsCell_153 (by decide) (fun c153 => ?_) (fun c153 => ?_)
                          · exact absurd c153 (by decide)
                          · refine lv_iconst (v := nI 0) hx hb dX9_readsCell_156 rfl ?_
                            exact ret H locs 157 ls (nI 0) (pg (pa (pg P 12 (nI (p0 + 1))) 20 c0 (nI (dvl f p0))) 12 (nI ((p0 + 1) + 1))) dX9_readsCell_157 ⟨(by repeat (first | exact FR.rf _ | refine FR.g ?_ (by decide) _ | refine FR.a ?_ (by decide) _ _)), b2_0 (fun z => z.2.elim (fun z => c38 ((cdv_ch (by decide)).mpr z)) (fun y => d149 y.2)), fun z => absurd z (fun z => z.2.elim (fun z => c38 ((cdv_ch (by decide)).mpr z)) (fun y => d149 y.2)), fun _ => (by unfold cFP; rw [cif_t d14, cif_t k4]; rfl)⟩ hP hS
                      · refine lv_iconst (v := nI 0) hx hb dX9_readsCell_128 rfl ?_
                        exact ret H locs 129 ls (nI 0) (pa (pg P 12 (nI (p0 + 1))) 20 c0 (nI (dvl f p0))) dX9_readsCell_129 ⟨(by repeat (first | exact FR.rf _ | refine FR.g ?_ (by decide) _ | refine FR.a ?_ (by decide) _ _)), b2_0 (fun z => z.2.elim (fun z => c38 ((cdv_ch (by decide)).mpr z)) (fun y => by rw [show kdc f n (p0 + 1) hs ts = 4 from kdc_4 (fun z => (by first | exact c97 ((cdv_ch (v := 116) (by decide)).mpr z.2) | omega))  (fun _ => (fun z => c64 ((cdv_ch (v := 104) (by decide)).mpr z))) (fun _ => (fun z => c71 ((cdv_ch (v := 99) (by decide)).mpr z))) (fun _ => (fun z => c78 ((cdv_ch (v := 114) (by decide)).mpr z)))] at y; exact absurd y.1 (by decide))), fun z => absurd z (fun z => z.2.elim (fun z => c38 ((cdv_ch (by decide)).mpr z)) (fun y => by rw [show kdc f n (p0 + 1) hs ts = 4 from kdc_4 (fun z => (by first | exact c97 ((cdv_ch (v := 116) (by decide)).mpr z.2) | omega))  (fun _ => (fun z => c64 ((cdv_ch (v := 104) (by decide)).mpr z))) (fun _ => (fun z => c71 ((cdv_ch (v := 99) (by decide)).mpr z))) (fun _ => (fun z => c78 ((cdv_ch (v := 114) (by decide)).mpr z)))] at y; exact absurd y.1 (by decide))), fun _ => (by unfold cFP; rw [cif_t d14, show kdc f n (p0 + 1) hs ts = 4 from kdc_4 (fun z => (by first | exact c97 ((cdv_ch (v := 116) (by decide)).mpr z.2) | omega))  (fun _ => (fun z => c64 ((cdv_ch (v := 104) (by decide)).mpr z))) (fun _ => (fun z => c71 ((cdv_ch (v := 99) (by decide)).mpr z))) (fun _ => (fun z => c78 ((cdv_ch (v := 114) (by decide)).mpr z))), cif_f (show ¬ (4 : Nat) < 4 by decide)]; rfl)⟩ hP hS
                  · exact absurd c102 (by decide)
            · refine lv_iconst (v := nI 1) hx hb dX9_readsCell_81 rfl ?_
              refine lv_goto (tgt := 86) hx hb dX9_readsCell_82 (by decide) ?_
              refine lv_istore (lv' := [(5, .int (nI 1)), (4, .int (cdv f n (p0 + 1))), (0, .ref (a 0)), (1, .int (nI b0)), (2, .int (nI n)), (3, .int (nI c0))]) hx hb dX9_readsCell_86 hl (by decide) rfl (fun ls hl => ?_)
              refine lv_iload hx hb dX9_readsCell_88 (lv_at hl 0 rfl) ?_
              refine xn_if_ne (tgt := 100) hx hb (by omega) dX9_readsCell_90 (by decide) (fun c90 => ?_) (fun c90 => ?_)
              · refine lv_iload hx hb dX9_readsCell_100 (lv_at hl 0 rfl) ?_
                refine xn_if_eq (tgt := 114) hx hb (by omega) dX9_readsCell_102 (by decide) (fun c102 => ?_) (fun c102 => ?_)
                · exact absurd c102 (by decide)
                · refine lv_aload_n hx hb dX9_readsCell_105 rfl (lv_at hl 2 rfl) ?_
                  refine mg_21 FX hK in9 hP (List.mem_of_getElem? (i := 4) rfl) dX9_readsCell_106 ?_
                  refine xn_to hx (z := nI hs) hx15 ?_
                  refine lv_bipush (v := nI 8) hx hb dX9_readsCell_109 rfl ?_
                  refine xn_icmp_eq (tgt := 128) hx hb (by omega) (by omega) dX9_readsCell_111 (by decide) (fun c111 => ?_) (fun c111 => ?_)
                  · refine lv_iconst (v := nI 0) hx hb dX9_readsCell_128 rfl ?_
                    exact ret H locs 129 ls (nI 0) (pa (pg P 12 (nI (p0 + 1))) 20 c0 (nI (dvl f p0))) dX9_readsCell_129 ⟨(by repeat (first | exact FR.rf _ | refine FR.g ?_ (by decide) _ | refine FR.a ?_ (by decide) _ _)), b2_0 (fun z => z.2.elim (fun z => c38 ((cdv_ch (by decide)).mpr z)) (fun y => by rw [show kdc f n (p0 + 1) hs ts = 4 from kdc_4 (fun z => chr_ne ((cdv_ch (v := 114) (by decide)).mp c78) (by decide) (by decide) (by decide) z.2) (fun z => absurd z (by omega)) (fun z => absurd z (by omega)) (fun z => absurd z (by omega))] at y; exact absurd y.1 (by decide))), fun z => absurd z (fun z => z.2.elim (fun z => c38 ((cdv_ch (by decide)).mpr z)) (fun y => by rw [show kdc f n (p0 + 1) hs ts = 4 from kdc_4 (fun z => chr_ne ((cdv_ch (v := 114) (by decide)).mp c78) (by decide) (by decide) (by decide) z.2) (fun z => absurd z (by omega)) (fun z => absurd z (by omega)) (fun z => absurd z (by omega))] at y; exact absurd y.1 (by decide))), fun _ => (by unfold cFP; rw [cif_t d14, show kdc f n (p0 + 1) hs ts = 4 from kdc_4 (fun z => chr_ne ((cdv_ch (v := 114) (by decide)).mp c78) (by decide) (by decide) (by decide) z.2) (fun z => absurd z (by omega)) (fun z => absurd z (by omega)) (fun z => absurd z (by omega)), cif_f (show ¬ (4 : Nat) < 4 by decide)]; rfl)⟩ hP hS
                  · refine lv_iload hx hb dX9_readsCell_114 (lv_at hl 0 rfl) ?_
                    refine xn_if_ne (tgt := 130) hx hb (by omega) dX9_readsCell_116 (by decide) (fun c116 => ?_) (fun c116 => ?_)
                    · have k9 : kdc f n (p0 + 1) hs ts = 2 := kdc_2 (fun z => chr_ne ((cdv_ch (v := 114) (by decide)).mp c78) (by decide) (by decide) (by decide) z.2) (by omega) (fun z => c64 ((cdv_ch (v := 104) (by decide)).mpr z)) (fun z => c71 ((cdv_ch (v := 99) (by decide)).mpr z)) ((cdv_ch (by decide)).mp c78)
                      have k4 : kdc f n (p0 + 1) hs ts < 4 := by rw [k9]; decide
                      have hp2 := kdc_p k4
                      refine lv_aload_n hx hb dX9_readsCell_130 rfl (lv_at hl 2 rfl) ?_
                      refine lv_dup hx hb dX9_readsCell_131 rfl ?_
                      refine mg_18 FX hK in9 hP (List.mem_of_getElem? (i := 3) rfl) dX9_readsCell_132 ?_
                      refine xn_to hx (z := nI (p0 + 1)) rfl ?_
                      refine lv_iconst (v := nI 1) hx hb dX9_readsCell_135 rfl ?_
                      refine xn_iadd (a := p0 + 1) (b := 1) hx hb dX9_readsCell_136 ?_
                      refine mp_18 FX hK in9 hP hA hS (List.mem_of_getElem? (i := 3) rfl) dX9_readsCell_137 (fun H locs hP hS => ?_)
                      refine lv_aload_n hx hb dX9_readsCell_140 rfl (lv_at hl 2 rfl) ?_
                      refine lv_iload_n hx hb dX9_readsCell_141 rfl (lv_at hl 3 rfl) ?_
                      refine lv_iload_n hx hb dX9_readsCell_142 rfl (lv_at hl 4 rfl) ?_
                      refine lv_iconst (v := nI 1) hx hb dX9_readsCell_143 rfl ?_
                      refine lv_bipush (v := nI 9) hx hb dX9_readsCell_144 rfl ?_
                      refine cViI [.int (nI b0), .int (nI n), .int (nI 1), .int (nI 9)] [] FX hK (c_X9_figure l D y a hA (pg (pa (pg P 12 (nI (p0 + 1))) 20 c0 (nI (dvl f p0))) 12 (nI ((p0 + 1) + 1))) f b0 n (p0 + 1 + 1) 1 9 rfl hf hb0 (show p0 + 1 + 1 ≤ n from hp2) (by decide) (by decide)) (cwV 4 hts gX9_readsCell_X9_figure rfl rfl rfl (by decide +kernel) ⟨Nat.le_of_ble_eq_true rfl, Nat.le_of_ble_eq_true rfl⟩) hP (pre_recv hK hP (ci := 9) (q0 := 0) rfl rfl) rfl rfl hl (Nat.le_of_ble_eq_true rfl) dX9_readsCell_146 ⟨Nat.zero_le _, Nat.zero_le _⟩ hS (fun _ h => h) (fun r146 u146 H locs hp146 hP hS _ _ => ?_)
                      obtain ⟨rfl, rfl⟩ := hp146
                      by_cases d149 : dgt f n (p0 + 1 + 1) 1 9
                      · rw [cif_t d149] at hP
                        refine xn_to hx (z := nI (dvl f (p0 + 1 + 1))) (cif_t d149) ?_
                        have bd149 := (dgt_v d149 (by decide)).2.1
                        refine lv_istore (lv' := [(6, .int (nI (dvl f (p0 + 1 + 1)))), (5, .int (nI 1)), (4, .int (cdv f n (p0 + 1))), (0, .ref (a 0)), (1, .int (nI b0)), (2, .int (nI n)), (3, .int (nI c0))]) hx hb dX9_readsCell_149 hl (by decide) rfl (fun ls hl => ?_)
                        refine lv_iload hx hb dX9_readsCell_151 (lv_at hl 0 rfl) ?_
                        refine xn_if_ge (tgt := 158) hx hb (by omega) dX9_readsCell_153 (by decide) (fun c153 => ?_) (fun c153 => ?_)
                        · refine lv_iload hx hb dX9_readsCell_158 (lv_at hl 1 rfl) ?_
                          refine xn_if_eq (tgt := 242) hx hb (by omega) dX9_readsCell_160 (by decide) (fun c160 => ?_) (fun c160 => ?_)
                          · exact absurd c160 (by decide)
                          · refine lv_aload_n hx hb dX9_readsCell_163 rfl (lv_at hl 3 rfl) ?_
                            refine mg_24 FX hK in9 hP (List.mem_of_getElem? (i := 2) rfl) dX9_readsCell_164 ?_
                            refine lv_iload_n hx hb dX9_readsCell_167 rfl (lv_at hl 6 rfl) ?_
                            refine lv_bipush (v := nI 10) hx hb dX9_readsCell_168 rfl ?_
                            refine lv_aload_n hx hb dX9_readsCell_170 rfl (lv_at hl 3 rfl) ?_
                            refine mg_21 FX hK in9 hP (List.mem_of_getElem? (i := 4) rfl) dX9_readsCell_171 ?_
                            refine xn_to hx (z := nI hs) hx15 ?_
                            refine xn_iadd (a := 10) (b := hs) hx hb dX9_readsCell_174 ?_
                            refine ms12 (i := c0) (by omega) FX hK hP hA hS dX9_readsCell_175 (fun H locs hP hS => ?_)
                            refine lv_aload_n hx hb dX9_readsCell_176 rfl (lv_at hl 3 rfl) ?_
                            refine mg_25 FX hK in9 hP (List.mem_of_getElem? (i := 6) rfl) dX9_readsCell_177 ?_
                            refine lv_aload_n hx hb dX9_readsCell_180 rfl (lv_at hl 3 rfl) ?_
                            refine mg_21 FX hK in9 hP (List.mem_of_getElem? (i := 4) rfl) dX9_readsCell_181 ?_
                            refine xn_to hx (z := nI hs) hx15 ?_
                            refine lv_iload hx hb dX9_readsCell_184 (lv_at hl 2 rfl) ?_
                            refine lv_bipush (v := nI 104) hx hb dX9_readsCell_186 rfl ?_
                            refine lv_icmp_ne (tgt := 195) hx hb dX9_readsCell_188 (by decide) (fun c188 => ?_) (fun c188 => ?_)
                            · refine lv_iload hx hb dX9_readsCell_195 (lv_at hl 2 rfl) ?_
                              refine lv_bipush (v := nI 99) hx hb dX9_readsCell_197 rfl ?_
                              refine lv_icmp_ne (tgt := 206) hx hb dX9_readsCell_199 (by decide) (fun c199 => ?_) (fun c199 => ?_)
                              · refine lv_iconst (v := nI 2) hx hb dX9_readsCell_206 rfl ?_
                                refine ms13 (i := hs) (by omega) FX hK hP hA hS dX9_readsCell_207 (fun H locs hP hS => ?_)
                                refine lv_aload_n hx hb dX9_readsCell_208 rfl (lv_at hl 3 rfl) ?_
                                refine mg_26 FX hK in9 hP (List.mem_of_getElem? (i := 7) rfl) dX9_readsCell_209 ?_
                                refine lv_aload_n hx hb dX9_readsCell_212 rfl (lv_at hl 3 rfl) ?_
                                refine mg_21 FX hK in9 hP (List.mem_of_getElem? (i := 4) rfl) dX9_readsCell_213 ?_
                                refine xn_to hx (z := nI hs) hx15 ?_
                                refine lv_iload_n hx hb dX9_readsCell_216 rfl (lv_at hl 6 rfl) ?_
                                refine ms14 (i := hs) (by omega) FX hK hP hA hS dX9_readsCell_217 (fun H locs hP hS => ?_)
                                refine lv_aload_n hx hb dX9_readsCell_218 rfl (lv_at hl 3 rfl) ?_
                                refine mg_27 FX hK in9 hP (List.mem_of_getElem? (i := 8) rfl) dX9_readsCell_219 ?_
                                refine lv_aload_n hx hb dX9_readsCell_222 rfl (lv_at hl 3 rfl) ?_
                                refine mg_21 FX hK in9 hP (List.mem_of_getElem? (i := 4) rfl) dX9_readsCell_223 ?_
                                refine xn_to hx (z := nI hs) hx15 ?_
                                refine lv_iload hx hb dX9_readsCell_226 (lv_at hl 0 rfl) ?_
                                refine ms15 (i := hs) (by omega) FX hK hP hA hS dX9_readsCell_228 (fun H locs hP hS => ?_)
                                refine lv_aload_n hx hb dX9_readsCell_229 rfl (lv_at hl 3 rfl) ?_
                                refine lv_dup hx hb dX9_readsCell_230 rfl ?_
                                refine mg_21 FX hK in9 hP (List.mem_of_getElem? (i := 4) rfl) dX9_readsCell_231 ?_
                                refine xn_to hx (z := nI hs) hx15 ?_
                                refine lv_iconst (v := nI 1) hx hb dX9_readsCell_234 rfl ?_
                                refine xn_iadd (a := hs) (b := 1) hx hb dX9_readsCell_235 ?_
                                refine mp_21 FX hK in9 hP hA hS (List.mem_of_getElem? (i := 4) rfl) dX9_readsCell_236 (fun H locs hP hS => ?_)
                                refine lv_goto (tgt := 286) hx hb dX9_readsCell_239 (by decide) ?_
                                refine lv_iconst (v := nI 1) hx hb dX9_readsCell_286 rfl ?_
                                exact ret H locs 287 ls (nI 1) (pg (pa (pa (pa (pa (pg (pg (pa (pg P 12 (nI (p0 + 1))) 20 c0 (nI (dvl f p0))) 12 (nI ((p0 + 1) + 1))) 12 (nI (p0 + 1 + 1 + 1))) 21 c0 (nI (10 + hs))) 22 hs (nI 2)) 23 hs (nI c0)) 24 hs (nI (dvl f (p0 + 1 + 1)))) 15 (nI (hs + 1))) dX9_readsCell_287 ⟨(by repeat (first | exact FR.rf _ | refine FR.g ?_ (by decide) _ | refine FR.a ?_ (by decide) _ _)), b2_1 ⟨d14, Or.inr ⟨k4, d149⟩⟩, fun _ => ⟨by unfold cPl; rw [cif_f (fun z => c38 ((cdv_ch (by decide)).mpr z))]; rfl, by unfold stl thv; rw [k9, cif_f (fun z => c38 ((cdv_ch (by decide)).mpr z)), cif_f (fun z => c38 ((cdv_ch (by decide)).mpr z)), cif_f (show ¬ (2 : Nat) = 3 by decide), cif_f (show ¬ (2 : Nat) = 3 by decide)]; exact Vw_house (pg P 12 (nI (p0 + 1))) c0 hs _ _ _ _ _ _⟩, fun z => absurd ⟨d14, Or.inr ⟨k4, d149⟩⟩ z⟩ hP hS
                              · exact absurd c199 c71
                            · exact absurd c188 c64
                        · exact c153.elim
                      · rw [cif_f d149] at hP
                        refine xn_to hx (z := (-9)) (cif_f d149) ?_
                        refine lv_istore (lv' := [(6, .int (-9)), (5, .int (nI 1)), (4, .int (cdv f n (p0 + 1))), (0, .ref (a 0)), (1, .int (nI b0)), (2, .int (nI n)), (3, .int (nI c0))]) hx hb dX9_readsCell_149 hl (by decide) rfl (fun ls hl => ?_)
                        refine lv_iload hx hb dX9_readsCell_151 (lv_at hl 0 rfl) ?_
                        refine lv_if_ge (tgt := 158) hx hb dX9_readsCell_153 (by decide) (fun c153 => ?_) (fun c153 => ?_)
                        · exact absurd c153 (by decide)
                        · refine lv_iconst (v := nI 0) hx hb dX9_readsCell_156 rfl ?_
                          exact ret H locs 157 ls (nI 0) (pg (pa (pg P 12 (nI (p0 + 1))) 20 c0 (nI (dvl f p0))) 12 (nI ((p0 + 1) + 1))) dX9_readsCell_157 ⟨(by repeat (first | exact FR.rf _ | refine FR.g ?_ (by decide) _ | refine FR.a ?_ (by decide) _ _)), b2_0 (fun z => z.2.elim (fun z => c38 ((cdv_ch (by decide)).mpr z)) (fun y => d149 y.2)), fun z => absurd z (fun z => z.2.elim (fun z => c38 ((cdv_ch (by decide)).mpr z)) (fun y => d149 y.2)), fun _ => (by unfold cFP; rw [cif_t d14, cif_t k4]; rfl)⟩ hP hS
                    · exact absurd c116 (by decide)
              · exact absurd c90 (by decide)
      · refine lv_aload_n hx hb dX9_readsCell_41 rfl (lv_at hl 1 rfl) ?_
        refine mg_24 FX hK in9 hP (List.mem_of_getElem? (i := 2) rfl) dX9_readsCell_42 ?_
        refine lv_iload_n hx hb dX9_readsCell_45 rfl (lv_at hl 4 rfl) ?_
        refine lv_iconst (v := nI 0) hx hb dX9_readsCell_46 rfl ?_
        refine ms12 (i := c0) (by omega) FX hK hP hA hS dX9_readsCell_47 (fun H locs hP hS => ?_)
        refine lv_aload_n hx hb dX9_readsCell_48 rfl (lv_at hl 1 rfl) ?_
        refine lv_dup hx hb dX9_readsCell_49 rfl ?_
        refine mg_18 FX hK in9 hP (List.mem_of_getElem? (i := 3) rfl) dX9_readsCell_50 ?_
        refine xn_to hx (z := nI (p0 + 1)) rfl ?_
        refine lv_iconst (v := nI 1) hx hb dX9_readsCell_53 rfl ?_
        refine xn_iadd (a := p0 + 1) (b := 1) hx hb dX9_readsCell_54 ?_
        refine mp_18 FX hK in9 hP hA hS (List.mem_of_getElem? (i := 3) rfl) dX9_readsCell_55 (fun H locs hP hS => ?_)
        refine lv_iconst (v := nI 1) hx hb dX9_readsCell_58 rfl ?_
        exact ret H locs 59 ls (nI 1) (pg (pa (pa (pg P 12 (nI (p0 + 1))) 20 c0 (nI (dvl f p0))) 21 c0 (nI 0)) 12 (nI ((p0 + 1) + 1))) dX9_readsCell_59 ⟨(by repeat (first | exact FR.rf _ | refine FR.g ?_ (by decide) _ | refine FR.a ?_ (by decide) _ _)), b2_1 ⟨d14, Or.inl ((cdv_ch (by decide)).mp c38)⟩, fun _ => ⟨by unfold cPl; rw [cif_t ((cdv_ch (by decide)).mp c38)]; rfl, by unfold stl thv; rw [cif_t ((cdv_ch (by decide)).mp c38), cif_t ((cdv_ch (by decide)).mp c38)]; exact Vw_dot (pg P 12 (nI (p0 + 1))) c0 _ _⟩, fun z => absurd ⟨d14, Or.inl ((cdv_ch (by decide)).mp c38)⟩ z⟩ hP hS
    · exact c21.elim
  · rw [cif_f d14] at hP
    refine xn_to hx (z := (-9)) (cif_f d14) ?_
    refine ms11 (i := c0) (by omega) FX hK hP hA hS dX9_readsCell_14 (fun H locs hP hS => ?_)
    refine lv_aload_n hx hb dX9_readsCell_15 rfl (lv_at hl 0 rfl) ?_
    refine mg_23 FX hK in9 hP (List.mem_of_getElem? (i := 1) rfl) dX9_readsCell_16 ?_
    refine lv_iload_n hx hb dX9_readsCell_19 rfl (lv_at hl 3 rfl) ?_
    refine ma11 (i := c0) (by omega) FX hK hP dX9_readsCell_20 ?_
    refine xn_to hx (z := (-9)) (pa_get _ _ _ _) ?_
    refine lv_if_ge (tgt := 26) hx hb dX9_readsCell_21 (by decide) (fun c21 => ?_) (fun c21 => ?_)
    · exact absurd c21 (by decide)
    · refine lv_iconst (v := nI 0) hx hb dX9_readsCell_24 rfl ?_
      exact ret H locs 25 ls (nI 0) (pa P 20 c0 (-9)) dX9_readsCell_25 ⟨(by repeat (first | exact FR.rf _ | refine FR.g ?_ (by decide) _ | refine FR.a ?_ (by decide) _ _)), b2_0 (fun z => d14 z.1), fun z => absurd z (fun z => d14 z.1), fun _ => (by unfold cFP; rw [cif_f d14]; exact hx12)⟩ hP hS
