abbrev rmX9_felling : Room := { frames := 4, cells := 0, slots := 0, locals := 98 }
set_option maxRecDepth 100000 in
set_option maxHeartbeats 4000000 in
theorem c_X9_felling (l : Launch) (D : va_G) (y : Nat → ClassId) (a : Nat → Nat) (hA : CA a 26) (P : PT) (C : PT) (w cN n t rd : Nat) (f : Nat) (x : Int32) (v : Int32)  (hR : RQ C P) (hC : IP C w cN n t) (hc1 : C.1 1 = nI cN) (hr : RD C n rd) (hf : C.1 4 = nI f) (hfl : f < 2 ^ t) : CtI l D y yX9_felling wsX9_felling rmX9_felling [.ref (a 0), .int x, .int v] (wM y a P) (fun (r : Int32) (P' : PT) => r = (ansFelling C w n t x v).1 ∧ RQ (ansFelling C w n t x v).2 P') (fun P' => wM y a P') (AM a) := by
  refine mkI (cc := cX9_felling) (maxL := 7) (ret := some .int) RX9 rfl (by decide) rfl (Or.inl rfl) (Nat.le_of_ble_eq_true rfl) ?_
  intro p e s m args below meth c Q FX hK hP ret ls hl
  obtain ⟨hx, hb, hml, hown, hts⟩ := id FX
  have hS : va_S (AM a) s.heap s.heap [] := va_S.rf
  have in9 : ∀ w ∈ wsX90, w ∈ wsX9_felling := fun _ h => List.mem_cons_of_mem _ (List.mem_append_right _ (h))
  have hl : lv_has ls 7 [(0, .ref (a 0)), (1, .int x), (2, .int v)] := hl
  obtain ⟨hi, hi5, hI, hi0⟩ := hR.iq hC hc1
  have hcl := hC.c30
  have hnl := hC.n8
  have htl := hC.t8
  have hrl := hr.2.1
  have hfb : FB P := hR.2.2.2.2.2.2.2.2.2
  have hpw := pow8 htl
  have hp0 : 0 < 2 ^ t := Nat.two_pow_pos t
  refine lv_aload_n hx hb dX9_felling_0 rfl (lv_at hl 0 rfl) ?_
  refine lv_iload_n hx hb dX9_felling_1 rfl (lv_at hl 1 rfl) ?_
  refine cViI [.int x] [] FX hK (c_X9_noHouse l D y a hA P n x hI.nn hI.n9) (cwV 1 hts gX9_felling_X9_noHouse rfl rfl rfl (by decide +kernel) ⟨Nat.le_of_ble_eq_true rfl, Nat.le_of_ble_eq_true rfl⟩) hP (pre_recv hK hP (ci := 9) (q0 := 0) rfl rfl) rfl rfl hl (Nat.le_of_ble_eq_true rfl) dX9_felling_2 ⟨Nat.zero_le _, Nat.zero_le _⟩ hS (fun _ h => h) (fun r2 u2 H locs hp2 hP hS _ _ => ?_)
  obtain rfl := hp2
  refine xb_eq (tgt := 10) hx hb dX9_felling_5 (by decide) (fun c5 => ?_) (fun c5 => ?_)
  · have k5 : inN n x := Classical.not_not.mp c5
    obtain ⟨h, hh, eh⟩ := id k5
    subst eh
    refine lv_iload_n hx hb dX9_felling_10 rfl (lv_at hl 2 rfl) ?_
    refine cStI [.int v] [] FX hK (c_X9_isNumber l D y v) (va_cwS 1 hts gX9_felling_X9_isNumber rfl rfl rfl (by decide +kernel) ⟨Nat.le_of_ble_eq_true rfl, Nat.le_of_ble_eq_true rfl⟩) rfl rfl hl (Nat.le_of_ble_eq_true rfl) dX9_felling_11 ⟨Nat.zero_le _, Nat.zero_le _⟩ hP hS (fun r11 H locs hp11 hP hS => ?_)
    obtain rfl := hp11
    refine xb_ne (tgt := 20) hx hb dX9_felling_14 (by decide) (fun c14 => ?_) (fun c14 => ?_)
    · refine lv_aload_n hx hb dX9_felling_20 rfl (lv_at hl 0 rfl) ?_
      refine cViI [] [] FX hK (c_X9_felledNow l D y a hA P t hI.tt hI.t8) (cwV 0 hts gX9_felling_X9_felledNow rfl rfl rfl (by decide +kernel) ⟨Nat.le_of_ble_eq_true rfl, Nat.le_of_ble_eq_true rfl⟩) hP (pre_recv hK hP (ci := 9) (q0 := 0) rfl rfl) rfl rfl hl (Nat.le_of_ble_eq_true rfl) dX9_felling_21 ⟨Nat.zero_le _, Nat.zero_le _⟩ hS (fun _ h => h) (fun r21 u21 H locs hp21 hP hS _ _ => ?_)
      obtain rfl := hp21
      refine xn_to hx (z := C.1 4) (hR.felled hC hf hfl) ?_
      refine lv_istore_n (lv' := [(3, .int (C.1 4)), (0, .ref (a 0)), (1, .int (nI h)), (2, .int v)]) hx hb dX9_felling_24 rfl hl (by decide) rfl (fun ls hl => ?_)
      refine lv_bipush (v := (-9)) hx hb dX9_felling_25 rfl ?_
      refine lv_istore (lv' := [(4, .int (-9)), (3, .int (C.1 4)), (0, .ref (a 0)), (1, .int (nI h)), (2, .int v)]) hx hb dX9_felling_27 hl (by decide) rfl (fun ls hl => ?_)
      refine lv_iconst (v := nI 0) hx hb dX9_felling_29 rfl ?_
      refine lv_istore (lv' := [(5, .int (nI 0)), (4, .int (-9)), (3, .int (C.1 4)), (0, .ref (a 0)), (1, .int (nI h)), (2, .int v)]) hx hb dX9_felling_30 hl (by decide) rfl (fun ls hl => ?_)
      have L32 : ∀ (N : Nat) (i : Nat), (i ≤ 2 ^ t) → 2 ^ t - i < N → ∀ (H : Heap) (locs : List Loc) (ls : Array Slot), va_P D vwCl (wM y a P) H → va_S (AM a) s.heap H locs → lv_has ls 7 [(0, .ref (a 0)), (1, .int (nI h)), (2, .int v), (3, .int (C.1 4)), (4, .int (bestS (okF C w n (fun s => flB (C.1 4 ||| nI s)) (fun s => nI s &&& C.1 4 = 0) h v) i)), (5, .int (nI i))] → W p l e rmX9_felling s m args below meth c H locs 0 0 Q (F0 m 32 ls []) := by
        intro N32
        induction N32 with
        | zero => intro i hi9 hmeas; exact absurd hmeas (Nat.not_lt_zero _)
        | succ N32 ih32 =>
          intro i hi9 hmeas H locs ls hP hS hl
          refine lv_iload hx hb dX9_felling_32 (lv_at hl 5 rfl) ?_
          refine lv_iconst (v := nI 1) hx hb dX9_felling_34 rfl ?_
          refine lv_aload_n hx hb dX9_felling_35 rfl (lv_at hl 0 rfl) ?_
          refine mg_11 FX hK in9 hP (List.mem_of_getElem? (i := 1) rfl) dX9_felling_36 ?_
          refine xn_to hx (z := nI t) hI.tt ?_
          refine lv_ishl hx hb dX9_felling_39 ?_
          refine xn_to hx (z := nI (2 ^ t)) (shl1 t (by omega)) ?_
          refine xn_icmp_ge (tgt := 118) hx hb (by omega) (by omega) dX9_felling_40 (by decide) (fun c40 => ?_) (fun c40 => ?_)
          · refine lv_iload hx hb dX9_felling_118 (lv_at hl 4 rfl) ?_
            exact ret H locs 120 ls (bestS (okF C w n (fun s => flB (C.1 4 ||| nI s)) (fun s => nI s &&& C.1 4 = 0) h v) i) P dX9_felling_120 (by unfold ansFelling; rw [dN_nI (show h < 2 ^ 31 by omega), cif_t k5, cif_t c14]; exact ⟨(by rw [show i = 2 ^ t by omega]), hR⟩) hP hS
          · refine lv_iload hx hb dX9_felling_43 (lv_at hl 5 rfl) ?_
            refine lv_iload_n hx hb dX9_felling_45 rfl (lv_at hl 3 rfl) ?_
            refine lv_iand hx hb dX9_felling_46 ?_
            refine lv_if_ne (tgt := 72) hx hb dX9_felling_47 (by decide) (fun c47 => ?_) (fun c47 => ?_)
            · refine lv_iconst (v := nI 0) hx hb dX9_felling_72 rfl ?_
              refine lv_istore (lv' := [(6, .int (nI 0)), (0, .ref (a 0)), (1, .int (nI h)), (2, .int v), (3, .int (C.1 4)), (4, .int (bestS (okF C w n (fun s => flB (C.1 4 ||| nI s)) (fun s => nI s &&& C.1 4 = 0) h v) i)), (5, .int (nI i))]) hx hb dX9_felling_73 hl (by decide) rfl (fun ls hl => ?_)
              refine lv_iload hx hb dX9_felling_75 (lv_at hl 0 rfl) ?_
              refine xn_if_eq (tgt := 112) hx hb (by omega) dX9_felling_77 (by decide) (fun c77 => ?_) (fun c77 => ?_)
              · refine lv_iinc (v := nI (i + 1)) (lv' := [(5, .int (nI (i + 1))), (6, .int (nI 0)), (0, .ref (a 0)), (1, .int (nI h)), (2, .int v), (3, .int (C.1 4)), (4, .int (bestS (okF C w n (fun s => flB (C.1 4 ||| nI s)) (fun s => nI s &&& C.1 4 = 0) h v) i))]) hx hb dX9_felling_112 hl (k := 6) rfl (xn_inc i 1) (by decide) rfl (fun ls hl => ?_)
                refine lv_goto (tgt := 32) hx hb dX9_felling_115 (by decide) ?_
                rw [← bestS_f (ok := (okF C w n (fun s => flB (C.1 4 ||| nI s)) (fun s => nI s &&& C.1 4 = 0) h v)) (s := i) (by first | exact (fun z => c47 z.1.1) | exact (fun z => c93 z.1.2) | exact (fun z => by rcases z.2 with z | z; exact c52 (by rw [z]; decide); rw [hb2, nI_clamp (by omega)] at z; omega))] at hl
                exact ih32 (i + 1) (by omega) (by omega) H locs ls hP hS (lv_sub hl [2, 3, 4, 5, 6, 0] rfl)
              · exact absurd c77 (by decide)
            · refine lv_iload hx hb dX9_felling_50 (lv_at hl 4 rfl) ?_
              refine lv_if_lt (tgt := 68) hx hb dX9_felling_52 (by decide) (fun c52 => ?_) (fun c52 => ?_)
              · refine lv_iconst (v := nI 1) hx hb dX9_felling_68 rfl ?_
                refine lv_goto (tgt := 73) hx hb dX9_felling_69 (by decide) ?_
                refine lv_istore (lv' := [(6, .int (nI 1)), (0, .ref (a 0)), (1, .int (nI h)), (2, .int v), (3, .int (C.1 4)), (4, .int (bestS (okF C w n (fun s => flB (C.1 4 ||| nI s)) (fun s => nI s &&& C.1 4 = 0) h v) i)), (5, .int (nI i))]) hx hb dX9_felling_73 hl (by decide) rfl (fun ls hl => ?_)
                refine lv_iload hx hb dX9_felling_75 (lv_at hl 0 rfl) ?_
                refine xn_if_eq (tgt := 112) hx hb (by omega) dX9_felling_77 (by decide) (fun c77 => ?_) (fun c77 => ?_)
                · exact absurd c77 (by decide)
                · refine lv_aload_n hx hb dX9_felling_80 rfl (lv_at hl 1 rfl) ?_
                  refine lv_iload hx hb dX9_felling_81 (lv_at hl 6 rfl) ?_
                  refine lv_iconst (v := nI 1) hx hb dX9_felling_83 rfl ?_
                  refine cViV [.int (nI i), .int (nI 1)] [] FX hK (c_X9_fellAll l D y a hA P t (nI i) (nI 1) hI.tt hI.t8 hfb (Or.inr rfl)) (cwV 2 hts gX9_felling_X9_fellAll rfl rfl rfl (by decide +kernel) ⟨Nat.le_of_ble_eq_true rfl, Nat.le_of_ble_eq_true rfl⟩) hP (pre_recv hK hP (ci := 9) (q0 := 0) rfl rfl) rfl rfl hl (Nat.le_of_ble_eq_true rfl) dX9_felling_84 ⟨Nat.zero_le _, Nat.zero_le _⟩ hS (fun _ h => h) (fun u84 H locs hp84 hP hS _ _ => ?_)
                  refine lv_aload_n hx hb dX9_felling_87 rfl (lv_at hl 1 rfl) ?_
                  refine lv_iload_n hx hb dX9_felling_88 rfl (lv_at hl 2 rfl) ?_
                  refine cViI [.int (nI h)] [] FX hK (c_X9_numberOf l D y a hA (fA P (nI i) (nI 1) t) w cN n t hi h hI (by omega)) (cwV 1 hts gX9_felling_X9_numberOf rfl rfl rfl (by decide +kernel) ⟨Nat.le_of_ble_eq_true rfl, Nat.le_of_ble_eq_true rfl⟩) hP (pre_recv hK hP (ci := 9) (q0 := 0) rfl rfl) rfl rfl hl (Nat.le_of_ble_eq_true rfl) dX9_felling_89 ⟨Nat.zero_le _, Nat.zero_le _⟩ hS (fun _ h => h) (fun r89 u89 H locs hp89 hP hS _ _ => ?_)
                  obtain rfl := hp89
                  refine xn_to hx (z := nI (sNum C w n (C.1 6) (C.1 5) (flB (C.1 4 ||| nI i)) h)) (by rw [(hR.wpg4 hC (nI i)).num (show IP (pg C 4 (C.1 4 ||| nI i)) w cN n t from hC) hc1 hh]; rfl) ?_
                  refine lv_iload_n hx hb dX9_felling_92 rfl (lv_at hl 3 rfl) ?_
                  refine lv_icmp_ne (tgt := 101) hx hb dX9_felling_93 (by decide) (fun c93 => ?_) (fun c93 => ?_)
                  · refine lv_iload hx hb dX9_felling_101 (lv_at hl 5 rfl) ?_
                    refine lv_istore (lv' := [(4, .int (bestS (okF C w n (fun s => flB (C.1 4 ||| nI s)) (fun s => nI s &&& C.1 4 = 0) h v) i)), (6, .int (nI 1)), (0, .ref (a 0)), (1, .int (nI h)), (2, .int v), (3, .int (C.1 4)), (5, .int (nI i))]) hx hb dX9_felling_103 hl (by decide) rfl (fun ls hl => ?_)
                    refine lv_aload_n hx hb dX9_felling_105 rfl (lv_at hl 2 rfl) ?_
                    refine lv_iload hx hb dX9_felling_106 (lv_at hl 6 rfl) ?_
                    refine lv_iconst (v := nI 0) hx hb dX9_felling_108 rfl ?_
                    refine cViV [.int (nI i), .int (nI 0)] [] FX hK (c_X9_fellAll l D y a hA (fA P (nI i) (nI 1) t) t (nI i) (nI 0) hI.tt hI.t8 (fA_FB hfb (Or.inr rfl) _ _) (Or.inl rfl)) (cwV 2 hts gX9_felling_X9_fellAll rfl rfl rfl (by decide +kernel) ⟨Nat.le_of_ble_eq_true rfl, Nat.le_of_ble_eq_true rfl⟩) hP (pre_recv hK hP (ci := 9) (q0 := 0) rfl rfl) rfl rfl hl (Nat.le_of_ble_eq_true rfl) dX9_felling_109 ⟨Nat.zero_le _, Nat.zero_le _⟩ hS (fun _ h => h) (fun u109 H locs hp109 hP hS _ _ => ?_)
                    rw [fA_undo (not_felled hR hC c47)] at hP
                    refine lv_iinc (v := nI (i + 1)) (lv' := [(5, .int (nI (i + 1))), (4, .int (bestS (okF C w n (fun s => flB (C.1 4 ||| nI s)) (fun s => nI s &&& C.1 4 = 0) h v) i)), (6, .int (nI 1)), (0, .ref (a 0)), (1, .int (nI h)), (2, .int v), (3, .int (C.1 4))]) hx hb dX9_felling_112 hl (k := 6) rfl (xn_inc i 1) (by decide) rfl (fun ls hl => ?_)
                    refine lv_goto (tgt := 32) hx hb dX9_felling_115 (by decide) ?_
                    rw [← bestS_f (ok := (okF C w n (fun s => flB (C.1 4 ||| nI s)) (fun s => nI s &&& C.1 4 = 0) h v)) (s := i) (by first | exact (fun z => c47 z.1.1) | exact (fun z => c93 z.1.2) | exact (fun z => by rcases z.2 with z | z; exact c52 (by rw [z]; decide); rw [hb2, nI_clamp (by omega)] at z; omega))] at hl
                    exact ih32 (i + 1) (by omega) (by omega) H locs ls hP hS (lv_sub hl [3, 4, 5, 6, 1, 0] rfl)
                  · refine lv_iload hx hb dX9_felling_96 (lv_at hl 6 rfl) ?_
                    refine lv_goto (tgt := 103) hx hb dX9_felling_98 (by decide) ?_
                    refine lv_istore (lv' := [(4, .int (nI i)), (6, .int (nI 1)), (0, .ref (a 0)), (1, .int (nI h)), (2, .int v), (3, .int (C.1 4)), (5, .int (nI i))]) hx hb dX9_felling_103 hl (by decide) rfl (fun ls hl => ?_)
                    refine lv_aload_n hx hb dX9_felling_105 rfl (lv_at hl 2 rfl) ?_
                    refine lv_iload hx hb dX9_felling_106 (lv_at hl 6 rfl) ?_
                    refine lv_iconst (v := nI 0) hx hb dX9_felling_108 rfl ?_
                    refine cViV [.int (nI i), .int (nI 0)] [] FX hK (c_X9_fellAll l D y a hA (fA P (nI i) (nI 1) t) t (nI i) (nI 0) hI.tt hI.t8 (fA_FB hfb (Or.inr rfl) _ _) (Or.inl rfl)) (cwV 2 hts gX9_felling_X9_fellAll rfl rfl rfl (by decide +kernel) ⟨Nat.le_of_ble_eq_true rfl, Nat.le_of_ble_eq_true rfl⟩) hP (pre_recv hK hP (ci := 9) (q0 := 0) rfl rfl) rfl rfl hl (Nat.le_of_ble_eq_true rfl) dX9_felling_109 ⟨Nat.zero_le _, Nat.zero_le _⟩ hS (fun _ h => h) (fun u109 H locs hp109 hP hS _ _ => ?_)
                    rw [fA_undo (not_felled hR hC c47)] at hP
                    refine lv_iinc (v := nI (i + 1)) (lv' := [(5, .int (nI (i + 1))), (4, .int (nI i)), (6, .int (nI 1)), (0, .ref (a 0)), (1, .int (nI h)), (2, .int v), (3, .int (C.1 4))]) hx hb dX9_felling_112 hl (k := 6) rfl (xn_inc i 1) (by decide) rfl (fun ls hl => ?_)
                    refine lv_goto (tgt := 32) hx hb dX9_felling_115 (by decide) ?_
                    have e9 : bestS (okF C w n (fun s => flB (C.1 4 ||| nI s)) (fun s => nI s &&& C.1 4 = 0) h v) (i + 1) = nI i := bestS_t ⟨c47, c93⟩ (by first | exact Or.inr (by rw [hb2, nI_clamp (by omega)]; exact c65) | exact Or.inl ((bestS_cases (okF C w n (fun s => flB (C.1 4 ||| nI s)) (fun s => nI s &&& C.1 4 = 0) h v) i).resolve_right (by rintro ⟨b9, h8, h9⟩; rw [h9] at c52; exact absurd c52 (nI_pos (by omega)))))
                    rw [← e9] at hl
                    exact ih32 (i + 1) (by omega) (by omega) H locs ls hP hS (lv_sub hl [3, 4, 5, 6, 1, 0] rfl)
              · obtain ⟨b1, hb1, hb2⟩ := (bestS_cases (okF C w n (fun s => flB (C.1 4 ||| nI s)) (fun s => nI s &&& C.1 4 = 0) h v) i).resolve_left (fun z => c52 (by rw [z]; decide))
                rw [hb2] at hl
                refine lv_iload hx hb dX9_felling_55 (lv_at hl 5 rfl) ?_
                refine cStI [.int (nI i)] [] FX hK (c_X9_bits l D y i (by omega)) (va_cwS 1 hts gX9_felling_X9_bits rfl rfl rfl (by decide +kernel) ⟨Nat.le_of_ble_eq_true rfl, Nat.le_of_ble_eq_true rfl⟩) rfl rfl hl (Nat.le_of_ble_eq_true rfl) dX9_felling_57 ⟨Nat.zero_le _, Nat.zero_le _⟩ hP hS (fun r57 H locs hp57 hP hS => ?_)
                obtain rfl := hp57
                refine lv_iload hx hb dX9_felling_60 (lv_at hl 4 rfl) ?_
                refine cStI [.int (nI b1)] [.int (nI (pcn i))] FX hK (c_X9_bits l D y b1 (by omega)) (va_cwS 1 hts gX9_felling_X9_bits rfl rfl rfl (by decide +kernel) ⟨Nat.le_of_ble_eq_true rfl, Nat.le_of_ble_eq_true rfl⟩) rfl rfl hl (Nat.le_of_ble_eq_true rfl) dX9_felling_62 ⟨Nat.zero_le _, Nat.zero_le _⟩ hP hS (fun r62 H locs hp62 hP hS => ?_)
                obtain rfl := hp62
                refine xn_icmp_ge (tgt := 72) hx hb (Nat.lt_of_le_of_lt (pcn_le _) (by decide)) (Nat.lt_of_le_of_lt (pcn_le _) (by decide)) dX9_felling_65 (by decide) (fun c65 => ?_) (fun c65 => ?_)
                · refine lv_iconst (v := nI 0) hx hb dX9_felling_72 rfl ?_
                  refine lv_istore (lv' := [(6, .int (nI 0)), (0, .ref (a 0)), (1, .int (nI h)), (2, .int v), (3, .int (C.1 4)), (4, .int (nI b1)), (5, .int (nI i))]) hx hb dX9_felling_73 hl (by decide) rfl (fun ls hl => ?_)
                  refine lv_iload hx hb dX9_felling_75 (lv_at hl 0 rfl) ?_
                  refine xn_if_eq (tgt := 112) hx hb (by omega) dX9_felling_77 (by decide) (fun c77 => ?_) (fun c77 => ?_)
                  · refine lv_iinc (v := nI (i + 1)) (lv' := [(5, .int (nI (i + 1))), (6, .int (nI 0)), (0, .ref (a 0)), (1, .int (nI h)), (2, .int v), (3, .int (C.1 4)), (4, .int (nI b1))]) hx hb dX9_felling_112 hl (k := 6) rfl (xn_inc i 1) (by decide) rfl (fun ls hl => ?_)
                    refine lv_goto (tgt := 32) hx hb dX9_felling_115 (by decide) ?_
                    rw [← hb2] at hl
                    rw [← bestS_f (ok := (okF C w n (fun s => flB (C.1 4 ||| nI s)) (fun s => nI s &&& C.1 4 = 0) h v)) (s := i) (by first | exact (fun z => c47 z.1.1) | exact (fun z => c93 z.1.2) | exact (fun z => by rcases z.2 with z | z; exact c52 (by rw [z]; decide); rw [hb2, nI_clamp (by omega)] at z; omega))] at hl
                    exact ih32 (i + 1) (by omega) (by omega) H locs ls hP hS (lv_sub hl [2, 3, 4, 5, 6, 0] rfl)
                  · exact absurd c77 (by decide)
                · refine lv_iconst (v := nI 1) hx hb dX9_felling_68 rfl ?_
                  refine lv_goto (tgt := 73) hx hb dX9_felling_69 (by decide) ?_
                  refine lv_istore (lv' := [(6, .int (nI 1)), (0, .ref (a 0)), (1, .int (nI h)), (2, .int v), (3, .int (C.1 4)), (4, .int (nI b1)), (5, .int (nI i))]) hx hb dX9_felling_73 hl (by decide) rfl (fun ls hl => ?_)
                  refine lv_iload hx hb dX9_felling_75 (lv_at hl 0 rfl) ?_
                  refine xn_if_eq (tgt := 112) hx hb (by omega) dX9_felling_77 (by decide) (fun c77 => ?_) (fun c77 => ?_)
                  · exact absurd c77 (by decide)
                  · refine lv_aload_n hx hb dX9_felling_80 rfl (lv_at hl 1 rfl) ?_
                    refine lv_iload hx hb dX9_felling_81 (lv_at hl 6 rfl) ?_
                    refine lv_iconst (v := nI 1) hx hb dX9_felling_83 rfl ?_
                    refine cViV [.int (nI i), .int (nI 1)] [] FX hK (c_X9_fellAll l D y a hA P t (nI i) (nI 1) hI.tt hI.t8 hfb (Or.inr rfl)) (cwV 2 hts gX9_felling_X9_fellAll rfl rfl rfl (by decide +kernel) ⟨Nat.le_of_ble_eq_true rfl, Nat.le_of_ble_eq_true rfl⟩) hP (pre_recv hK hP (ci := 9) (q0 := 0) rfl rfl) rfl rfl hl (Nat.le_of_ble_eq_true rfl) dX9_felling_84 ⟨Nat.zero_le _, Nat.zero_le _⟩ hS (fun _ h => h) (fun u84 H locs hp84 hP hS _ _ => ?_)
                    refine lv_aload_n hx hb dX9_felling_87 rfl (lv_at hl 1 rfl) ?_
                    refine lv_iload_n hx hb dX9_felling_88 rfl (lv_at hl 2 rfl) ?_
                    refine cViI [.int (nI h)] [] FX hK (c_X9_numberOf l D y a hA (fA P (nI i) (nI 1) t) w cN n t hi h hI (by omega)) (cwV 1 hts gX9_felling_X9_numberOf rfl rfl rfl (by decide +kernel) ⟨Nat.le_of_ble_eq_true rfl, Nat.le_of_ble_eq_true rfl⟩) hP (pre_recv hK hP (ci := 9) (q0 := 0) rfl rfl) rfl rfl hl (Nat.le_of_ble_eq_true rfl) dX9_felling_89 ⟨Nat.zero_le _, Nat.zero_le _⟩ hS (fun _ h => h) (fun r89 u89 H locs hp89 hP hS _ _ => ?_)
                    obtain rfl := hp89
                    refine xn_to hx (z := nI (sNum C w n (C.1 6) (C.1 5) (flB (C.1 4 ||| nI i)) h)) (by rw [(hR.wpg4 hC (nI i)).num (show IP (pg C 4 (C.1 4 ||| nI i)) w cN n t from hC) hc1 hh]; rfl) ?_
                    refine lv_iload_n hx hb dX9_felling_92 rfl (lv_at hl 3 rfl) ?_
                    refine lv_icmp_ne (tgt := 101) hx hb dX9_felling_93 (by decide) (fun c93 => ?_) (fun c93 => ?_)
                    · refine lv_iload hx hb dX9_felling_101 (lv_at hl 5 rfl) ?_
                      refine lv_istore (lv' := [(4, .int (nI b1)), (6, .int (nI 1)), (0, .ref (a 0)), (1, .int (nI h)), (2, .int v), (3, .int (C.1 4)), (5, .int (nI i))]) hx hb dX9_felling_103 hl (by decide) rfl (fun ls hl => ?_)
                      refine lv_aload_n hx hb dX9_felling_105 rfl (lv_at hl 2 rfl) ?_
                      refine lv_iload hx hb dX9_felling_106 (lv_at hl 6 rfl) ?_
                      refine lv_iconst (v := nI 0) hx hb dX9_felling_108 rfl ?_
                      refine cViV [.int (nI i), .int (nI 0)] [] FX hK (c_X9_fellAll l D y a hA (fA P (nI i) (nI 1) t) t (nI i) (nI 0) hI.tt hI.t8 (fA_FB hfb (Or.inr rfl) _ _) (Or.inl rfl)) (cwV 2 hts gX9_felling_X9_fellAll rfl rfl rfl (by decide +kernel) ⟨Nat.le_of_ble_eq_true rfl, Nat.le_of_ble_eq_true rfl⟩) hP (pre_recv hK hP (ci := 9) (q0 := 0) rfl rfl) rfl rfl hl (Nat.le_of_ble_eq_true rfl) dX9_felling_109 ⟨Nat.zero_le _, Nat.zero_le _⟩ hS (fun _ h => h) (fun u109 H locs hp109 hP hS _ _ => ?_)
                      rw [fA_undo (not_felled hR hC c47)] at hP
                      refine lv_iinc (v := nI (i + 1)) (lv' := [(5, .int (nI (i + 1))), (4, .int (nI b1)), (6, .int (nI 1)), (0, .ref (a 0)), (1, .int (nI h)), (2, .int v), (3, .int (C.1 4))]) hx hb dX9_felling_112 hl (k := 6) rfl (xn_inc i 1) (by decide) rfl (fun ls hl => ?_)
                      refine lv_goto (tgt := 32) hx hb dX9_felling_115 (by decide) ?_
                      rw [← hb2] at hl
                      rw [← bestS_f (ok := (okF C w n (fun s => flB (C.1 4 ||| nI s)) (fun s => nI s &&& C.1 4 = 0) h v)) (s := i) (by first | exact (fun z => c47 z.1.1) | exact (fun z => c93 z.1.2) | exact (fun z => by rcases z.2 with z | z; exact c52 (by rw [z]; decide); rw [hb2, nI_clamp (by omega)] at z; omega))] at hl
                      exact ih32 (i + 1) (by omega) (by omega) H locs ls hP hS (lv_sub hl [3, 4, 5, 6, 1, 0] rfl)
                    · refine lv_iload hx hb dX9_felling_96 (lv_at hl 6 rfl) ?_
                      refine lv_goto (tgt := 103) hx hb dX9_felling_98 (by decide) ?_
                      refine lv_istore (lv' := [(4, .int (nI i)), (6, .int (nI 1)), (0, .ref (a 0)), (1, .int (nI h)), (2, .int v), (3, .int (C.1 4)), (5, .int (nI i))]) hx hb dX9_felling_103 hl (by decide) rfl (fun ls hl => ?_)
                      refine lv_aload_n hx hb dX9_felling_105 rfl (lv_at hl 2 rfl) ?_
                      refine lv_iload hx hb dX9_felling_106 (lv_at hl 6 rfl) ?_
                      refine lv_iconst (v := nI 0) hx hb dX9_felling_108 rfl ?_
                      refine cViV [.int (nI i), .int (nI 0)] [] FX hK (c_X9_fellAll l D y a hA (fA P (nI i) (nI 1) t) t (nI i) (nI 0) hI.tt hI.t8 (fA_FB hfb (Or.inr rfl) _ _) (Or.inl rfl)) (cwV 2 hts gX9_felling_X9_fellAll rfl rfl rfl (by decide +kernel) ⟨Nat.le_of_ble_eq_true rfl, Nat.le_of_ble_eq_true rfl⟩) hP (pre_recv hK hP (ci := 9) (q0 := 0) rfl rfl) rfl rfl hl (Nat.le_of_ble_eq_true rfl) dX9_felling_109 ⟨Nat.zero_le _, Nat.zero_le _⟩ hS (fun _ h => h) (fun u109 H locs hp109 hP hS _ _ => ?_)
                      rw [fA_undo (not_felled hR hC c47)] at hP
                      refine lv_iinc (v := nI (i + 1)) (lv' := [(5, .int (nI (i + 1))), (4, .int (nI i)), (6, .int (nI 1)), (0, .ref (a 0)), (1, .int (nI h)), (2, .int v), (3, .int (C.1 4))]) hx hb dX9_felling_112 hl (k := 6) rfl (xn_inc i 1) (by decide) rfl (fun ls hl => ?_)
                      refine lv_goto (tgt := 32) hx hb dX9_felling_115 (by decide) ?_
                      have e9 : bestS (okF C w n (fun s => flB (C.1 4 ||| nI s)) (fun s => nI s &&& C.1 4 = 0) h v) (i + 1) = nI i := bestS_t ⟨c47, c93⟩ (by first | exact Or.inr (by rw [hb2, nI_clamp (by omega)]; exact c65) | exact Or.inl ((bestS_cases (okF C w n (fun s => flB (C.1 4 ||| nI s)) (fun s => nI s &&& C.1 4 = 0) h v) i).resolve_right (by rintro ⟨b9, h8, h9⟩; rw [h9] at c52; exact absurd c52 (nI_pos (by omega)))))
                      rw [← e9] at hl
                      exact ih32 (i + 1) (by omega) (by omega) H locs ls hP hS (lv_sub hl [3, 4, 5, 6, 1, 0] rfl)
      exact L32 _ 0 (Nat.zero_le _) (Nat.lt_succ_self _) H locs ls hP hS (lv_sub hl [3, 4, 5, 2, 1, 0] rfl)
    · refine lv_bipush (v := (-2)) hx hb dX9_felling_17 rfl ?_
      exact ret H locs 19 ls (-2) P dX9_felling_19 (by unfold ansFelling; rw [dN_nI (show h < 2 ^ 31 by omega), cif_t k5, cif_f c14]; exact ⟨rfl, hR⟩) hP hS
  · refine lv_iconst (v := (-1)) hx hb dX9_felling_8 rfl ?_
    exact ret H locs 9 ls (-1) P dX9_felling_9 (by unfold ansFelling; rw [cif_f c5]; exact ⟨rfl, hR⟩) hP hS

abbrev rmX9_triedOn : Room := { frames := 4, cells := 0, slots := 0, locals := 98 }
set_option maxRecDepth 100000 in
set_option maxHeartbeats 4000000 in
theorem c_X9_triedOn (l : Launch) (D : va_G) (y : Nat → ClassId) (a : Nat → Nat) (hA : CA a 26) (P : PT) (C : PT) (w cN n t rd : Nat) (q : Nat) (tall : Int32)  (hR : RQ C P) (hC : IP C w cN n t) (hc1 : C.1 1 = nI cN) (hr : RD C n rd) (hq : q < cN) (hz : C.2 2 q = 0) : CtI l D y yX9_triedOn wsX9_triedOn rmX9_triedOn [.ref (a 0), .int (nI q), .int tall] (wM y a P) (fun (r : Int32) (P' : PT) => r = nI (aFresh C w n (flP C) q tall) ∧ P'.1 17 = aOthers C w n (flP C) q tall ∧ RQ C P') (fun P' => wM y a P') (AM a) := by
  refine mkI (cc := cX9_triedOn) (maxL := 5) (ret := some .int) RX9 rfl (by decide) rfl (Or.inl rfl) (Nat.le_of_ble_eq_true rfl) ?_
  intro p e s m args below meth c Q FX hK hP ret ls hl
  obtain ⟨hx, hb, hml, hown, hts⟩ := id FX
  have hS : va_S (AM a) s.heap s.heap [] := va_S.rf
  have in9 : ∀ w ∈ wsX90, w ∈ wsX9_triedOn := fun _ h => List.mem_cons_of_mem _ (List.mem_append_right _ (h))
  have hl : lv_has ls 5 [(0, .ref (a 0)), (1, .int (nI q)), (2, .int tall)] := hl
  obtain ⟨hi, hi5, hI, hi0⟩ := hR.iq hC hc1
  have hcl := hC.c30
  have hnl := hC.n8
  have htl := hC.t8
  have hrl := hr.2.1
  refine lv_iconst (v := nI 0) hx hb dX9_triedOn_0 rfl ?_
  refine lv_istore_n (lv' := [(3, .int (nI 0)), (0, .ref (a 0)), (1, .int (nI q)), (2, .int tall)]) hx hb dX9_triedOn_1 rfl hl (by decide) rfl (fun ls hl => ?_)
  have L2 : ∀ (N : Nat) (i : Nat) (P1 : PT), (i ≤ n) → (RQ C P1) → (IQ P1 w cN n t hi) → (∀ k, k < i → P1.2 27 k = nI (numP C w n k)) → n - i < N → ∀ (H : Heap) (locs : List Loc) (ls : Array Slot), va_P D vwCl (wM y a P1) H → va_S (AM a) s.heap H locs → lv_has ls 5 [(0, .ref (a 0)), (1, .int (nI q)), (2, .int tall), (3, .int (nI i))] → W p l e rmX9_triedOn s m args below meth c H locs 0 0 Q (F0 m 2 ls []) := by
    intro N2
    induction N2 with
    | zero => intro i P1 hi9 hR1 hI1 hw1 hmeas; exact absurd hmeas (Nat.not_lt_zero _)
    | succ N2 ih2 =>
      intro i P1 hi9 hR1 hI1 hw1 hmeas H locs ls hP hS hl
      have hR := hR1
      have hI := hI1
      refine lv_iload_n hx hb dX9_triedOn_2 rfl (lv_at hl 3 rfl) ?_
      refine lv_aload_n hx hb dX9_triedOn_3 rfl (lv_at hl 0 rfl) ?_
      refine mg_6 FX hK in9 hP (List.mem_of_getElem? (i := 1) rfl) dX9_triedOn_4 ?_
      refine xn_to hx (z := nI n) hI.nn ?_
      refine xn_icmp_ge (tgt := 27) hx hb (by omega) (by omega) dX9_triedOn_7 (by decide) (fun c7 => ?_) (fun c7 => ?_)
      · have hw1 : ∀ k, k < n → P1.2 27 k = nI (numP C w n k) := fun k hk => hw1 k (by omega)
        have hpl : ∀ k, k < n → plN P1 k ≠ q := fun k hk => by rw [hR.pl hC hk]; exact hC.pl0 hz hk
        refine lv_aload_n hx hb dX9_triedOn_27 rfl (lv_at hl 0 rfl) ?_
        refine mg_6 FX hK in9 hP (List.mem_of_getElem? (i := 1) rfl) dX9_triedOn_28 ?_
        refine xn_to hx (z := nI n) hI.nn ?_
        refine lv_istore_n (lv' := [(3, .int (nI n)), (0, .ref (a 0)), (1, .int (nI q)), (2, .int tall)]) hx hb dX9_triedOn_31 rfl hl (by decide) rfl (fun ls hl => ?_)
        refine lv_aload_n hx hb dX9_triedOn_32 rfl (lv_at hl 1 rfl) ?_
        refine mg_7 FX hK in9 hP (List.mem_of_getElem? (i := 3) rfl) dX9_triedOn_33 ?_
        refine lv_iload_n hx hb dX9_triedOn_36 rfl (lv_at hl 0 rfl) ?_
        refine lv_iconst (v := nI 0) hx hb dX9_triedOn_37 rfl ?_
        refine ms4 (i := n) (by omega) FX hK hP hA hS dX9_triedOn_38 (fun H locs hP hS => ?_)
        refine lv_aload_n hx hb dX9_triedOn_39 rfl (lv_at hl 1 rfl) ?_
        refine mg_8 FX hK in9 hP (List.mem_of_getElem? (i := 4) rfl) dX9_triedOn_40 ?_
        refine lv_iload_n hx hb dX9_triedOn_43 rfl (lv_at hl 0 rfl) ?_
        refine lv_iload_n hx hb dX9_triedOn_44 rfl (lv_at hl 2 rfl) ?_
        refine ms5 (i := n) (by omega) FX hK hP hA hS dX9_triedOn_45 (fun H locs hP hS => ?_)
        refine lv_aload_n hx hb dX9_triedOn_46 rfl (lv_at hl 1 rfl) ?_
        refine mg_9 FX hK in9 hP (List.mem_of_getElem? (i := 5) rfl) dX9_triedOn_47 ?_
        refine lv_iload_n hx hb dX9_triedOn_50 rfl (lv_at hl 0 rfl) ?_
        refine lv_iload_n hx hb dX9_triedOn_51 rfl (lv_at hl 3 rfl) ?_
        refine ms6 (i := n) (by omega) FX hK hP hA hS dX9_triedOn_52 (fun H locs hP hS => ?_)
        refine lv_aload_n hx hb dX9_triedOn_53 rfl (lv_at hl 1 rfl) ?_
        refine mg_10 FX hK in9 hP (List.mem_of_getElem? (i := 6) rfl) dX9_triedOn_54 ?_
        refine lv_iload_n hx hb dX9_triedOn_57 rfl (lv_at hl 0 rfl) ?_
        refine lv_iconst (v := nI 0) hx hb dX9_triedOn_58 rfl ?_
        refine ms7 (i := n) (by omega) FX hK hP hA hS dX9_triedOn_59 (fun H locs hP hS => ?_)
        refine lv_aload_n hx hb dX9_triedOn_60 rfl (lv_at hl 1 rfl) ?_
        refine mg_4 FX hK in9 hP (List.mem_of_getElem? (i := 7) rfl) dX9_triedOn_61 ?_
        refine lv_iload_n hx hb dX9_triedOn_64 rfl (lv_at hl 2 rfl) ?_
        refine lv_bipush (v := nI 10) hx hb dX9_triedOn_65 rfl ?_
        refine lv_iload_n hx hb dX9_triedOn_67 rfl (lv_at hl 0 rfl) ?_
        refine xn_iadd (a := 10) (b := n) hx hb dX9_triedOn_68 ?_
        refine ms2 (i := q) (by omega) FX hK hP hA hS dX9_triedOn_69 (fun H locs hP hS => ?_)
        refine lv_aload_n hx hb dX9_triedOn_70 rfl (lv_at hl 1 rfl) ?_
        refine lv_dup hx hb dX9_triedOn_71 rfl ?_
        refine mg_6 FX hK in9 hP (List.mem_of_getElem? (i := 1) rfl) dX9_triedOn_72 ?_
        refine xn_to hx (z := nI n) hI.nn ?_
        refine lv_iconst (v := nI 1) hx hb dX9_triedOn_75 rfl ?_
        refine xn_iadd (a := n) (b := 1) hx hb dX9_triedOn_76 ?_
        refine mp_6 FX hK in9 hP hA hS (List.mem_of_getElem? (i := 1) rfl) dX9_triedOn_77 (fun H locs hP hS => ?_)
        refine lv_aload_n hx hb dX9_triedOn_80 rfl (lv_at hl 1 rfl) ?_
        refine lv_iconst (v := nI 0) hx hb dX9_triedOn_81 rfl ?_
        refine mp_31 FX hK in9 hP hA hS (List.mem_of_getElem? (i := 8) rfl) dX9_triedOn_82 (fun H locs hP hS => ?_)
        refine lv_iconst (v := nI 0) hx hb dX9_triedOn_85 rfl ?_
        refine lv_istore (lv' := [(4, .int (nI 0)), (3, .int (nI n)), (0, .ref (a 0)), (1, .int (nI q)), (2, .int tall)]) hx hb dX9_triedOn_86 hl (by decide) rfl (fun ls hl => ?_)
        have L88 : ∀ (N : Nat) (i : Nat), (i ≤ n) → n - i < N → ∀ (H : Heap) (locs : List Loc) (ls : Array Slot), va_P D vwCl (wM y a (adH P1 n q tall (msk (fun h => ¬ nThen C w n (flP C) q tall h = sNum C w n (C.1 6) (C.1 5) (flP C) h) i))) H → va_S (AM a) s.heap H locs → lv_has ls 5 [(0, .ref (a 0)), (1, .int (nI q)), (2, .int tall), (3, .int (nI n)), (4, .int (nI i))] → W p l e rmX9_triedOn s m args below meth c H locs 0 0 Q (F0 m 88 ls []) := by
          intro N88
          induction N88 with
          | zero => intro i hi8 hmeas; exact absurd hmeas (Nat.not_lt_zero _)
          | succ N88 ih88 =>
            intro i hi8 hmeas H locs ls hP hS hl
            refine lv_iload hx hb dX9_triedOn_88 (lv_at hl 4 rfl) ?_
            refine lv_iload_n hx hb dX9_triedOn_90 rfl (lv_at hl 3 rfl) ?_
            refine xn_icmp_ge (tgt := 133) hx hb (by omega) (by omega) dX9_triedOn_91 (by decide) (fun c91 => ?_) (fun c91 => ?_)
            · rw [show i = n by omega] at hP
              refine lv_aload_n hx hb dX9_triedOn_133 rfl (lv_at hl 0 rfl) ?_
              refine lv_iload_n hx hb dX9_triedOn_134 rfl (lv_at hl 3 rfl) ?_
              refine cViI [.int (nI n)] [] FX hK (c_X9_numberOf l D y a hA (adH P1 n q tall (msk (fun h => ¬ nThen C w n (flP C) q tall h = sNum C w n (C.1 6) (C.1 5) (flP C) h) n)) w cN (n + 1) t hi n (hI.adH hC.n8 hq hpl tall _) (by omega)) (cwV 1 hts gX9_triedOn_X9_numberOf rfl rfl rfl (by decide +kernel) ⟨Nat.le_of_ble_eq_true rfl, Nat.le_of_ble_eq_true rfl⟩) hP (pre_recv hK hP (ci := 9) (q0 := 0) rfl rfl) rfl rfl hl (Nat.le_of_ble_eq_true rfl) dX9_triedOn_135 ⟨Nat.zero_le _, Nat.zero_le _⟩ hS (fun _ h => h) (fun r135 u135 H locs hp135 hP hS _ _ => ?_)
              obtain rfl := hp135
              refine xn_to hx (z := nI (aFresh C w n (flP C) q tall)) (by rw [hR.adnew hC hc1 hq hz tall _]) ?_
              refine lv_istore (lv' := [(4, .int (nI (aFresh C w n (flP C) q tall))), (0, .ref (a 0)), (1, .int (nI q)), (2, .int tall), (3, .int (nI n))]) hx hb dX9_triedOn_138 hl (by decide) rfl (fun ls hl => ?_)
              refine lv_aload_n hx hb dX9_triedOn_140 rfl (lv_at hl 1 rfl) ?_
              refine lv_dup hx hb dX9_triedOn_141 rfl ?_
              refine mg_6 FX hK in9 hP (List.mem_of_getElem? (i := 1) rfl) dX9_triedOn_142 ?_
              refine xn_to hx (z := nI (n + 1)) rfl ?_
              refine lv_iconst (v := nI 1) hx hb dX9_triedOn_145 rfl ?_
              refine xn_isub (a := n + 1) (b := 1) hx hb (by omega) dX9_triedOn_146 ?_
              refine mp_6 FX hK in9 hP hA hS (List.mem_of_getElem? (i := 1) rfl) dX9_triedOn_147 (fun H locs hP hS => ?_)
              refine lv_aload_n hx hb dX9_triedOn_150 rfl (lv_at hl 1 rfl) ?_
              refine mg_4 FX hK in9 hP (List.mem_of_getElem? (i := 7) rfl) dX9_triedOn_151 ?_
              refine lv_iload_n hx hb dX9_triedOn_154 rfl (lv_at hl 2 rfl) ?_
              refine lv_iconst (v := nI 0) hx hb dX9_triedOn_155 rfl ?_
              refine ms2 (i := q) (by omega) FX hK hP hA hS dX9_triedOn_156 (fun H locs hP hS => ?_)
              refine lv_iload hx hb dX9_triedOn_157 (lv_at hl 0 rfl) ?_
              exact ret H locs 159 ls (nI (aFresh C w n (flP C) q tall)) (pa (pg (adH P1 n q tall (msk (fun h => ¬ nThen C w n (flP C) q tall h = sNum C w n (C.1 6) (C.1 5) (flP C) h) n)) 2 (nI ((n + 1) - 1))) 2 q (nI 0)) dX9_triedOn_159 ⟨rfl, rfl, hR.unad hC hc1 hq hz tall _⟩ hP hS
            · refine lv_aload_n hx hb dX9_triedOn_94 rfl (lv_at hl 0 rfl) ?_
              refine lv_dup hx hb dX9_triedOn_95 rfl ?_
              refine mg_31 FX hK in9 hP (List.mem_of_getElem? (i := 8) rfl) dX9_triedOn_96 ?_
              refine xn_to hx (z := msk (fun h => ¬ nThen C w n (flP C) q tall h = sNum C w n (C.1 6) (C.1 5) (flP C) h) i) rfl ?_
              refine lv_aload_n hx hb dX9_triedOn_99 rfl (lv_at hl 0 rfl) ?_
              refine lv_iload hx hb dX9_triedOn_100 (lv_at hl 4 rfl) ?_
              refine cViI [.int (nI i)] [.int (msk (fun h => ¬ nThen C w n (flP C) q tall h = sNum C w n (C.1 6) (C.1 5) (flP C) h) i), .ref (a 0)] FX hK (c_X9_numberOf l D y a hA (adH P1 n q tall (msk (fun h => ¬ nThen C w n (flP C) q tall h = sNum C w n (C.1 6) (C.1 5) (flP C) h) i)) w cN (n + 1) t hi i (hI.adH hC.n8 hq hpl tall _) (by omega)) (cwV 1 hts gX9_triedOn_X9_numberOf rfl rfl rfl (by decide +kernel) ⟨Nat.le_of_ble_eq_true rfl, Nat.le_of_ble_eq_true rfl⟩) hP (pre_recv hK hP (ci := 9) (q0 := 0) rfl rfl) rfl rfl hl (Nat.le_of_ble_eq_true rfl) dX9_triedOn_102 ⟨Nat.zero_le _, Nat.zero_le _⟩ hS (fun _ h => h) (fun r102 u102 H locs hp102 hP hS _ _ => ?_)
              obtain rfl := hp102
              refine xn_to hx (z := nI (nThen C w n (flP C) q tall i)) (by rw [hR.adnum hC hc1 hq tall _ c91]) ?_
              refine lv_aload_n hx hb dX9_triedOn_105 rfl (lv_at hl 0 rfl) ?_
              refine mg_30 FX hK in9 hP (List.mem_of_getElem? (i := 2) rfl) dX9_triedOn_106 ?_
              refine lv_iload hx hb dX9_triedOn_109 (lv_at hl 4 rfl) ?_
              refine ma18 (i := i) (by omega) FX hK hP dX9_triedOn_111 ?_
              refine xn_to hx (z := nI (sNum C w n (C.1 6) (C.1 5) (flP C) i)) (hw1 i c91) ?_
              refine xn_icmp_ne (tgt := 119) hx hb (nThen_lt hC _ _ _ _) (sNum_lt hC _ _ _ _) dX9_triedOn_112 (by decide) (fun c112 => ?_) (fun c112 => ?_)
              · refine lv_iconst (v := nI 1) hx hb dX9_triedOn_119 rfl ?_
                refine lv_iload hx hb dX9_triedOn_120 (lv_at hl 4 rfl) ?_
                refine lv_ishl hx hb dX9_triedOn_122 ?_
                refine lv_ior hx hb dX9_triedOn_123 ?_
                refine mp_31 FX hK in9 hP hA hS (List.mem_of_getElem? (i := 8) rfl) dX9_triedOn_124 (fun H locs hP hS => ?_)
                refine lv_iinc (v := nI (i + 1)) (lv' := [(4, .int (nI (i + 1))), (0, .ref (a 0)), (1, .int (nI q)), (2, .int tall), (3, .int (nI n))]) hx hb dX9_triedOn_127 hl (k := 4) rfl (xn_inc i 1) (by decide) rfl (fun ls hl => ?_)
                refine lv_goto (tgt := 88) hx hb dX9_triedOn_130 (by decide) ?_
                rw [adH_o, ← msk_t (p := (fun h => ¬ nThen C w n (flP C) q tall h = sNum C w n (C.1 6) (C.1 5) (flP C) h)) (n := i) c112] at hP
                exact ih88 (i + 1) (by omega) (by omega) H locs ls hP hS (lv_sub hl [1, 2, 3, 4, 0] rfl)
              · refine lv_iconst (v := nI 0) hx hb dX9_triedOn_115 rfl ?_
                refine lv_goto (tgt := 123) hx hb dX9_triedOn_116 (by decide) ?_
                refine lv_ior hx hb dX9_triedOn_123 ?_
                refine mp_31 FX hK in9 hP hA hS (List.mem_of_getElem? (i := 8) rfl) dX9_triedOn_124 (fun H locs hP hS => ?_)
                refine lv_iinc (v := nI (i + 1)) (lv' := [(4, .int (nI (i + 1))), (0, .ref (a 0)), (1, .int (nI q)), (2, .int tall), (3, .int (nI n))]) hx hb dX9_triedOn_127 hl (k := 4) rfl (xn_inc i 1) (by decide) rfl (fun ls hl => ?_)
                refine lv_goto (tgt := 88) hx hb dX9_triedOn_130 (by decide) ?_
                rw [adH_o, or_nI0, ← msk_f (p := (fun h => ¬ nThen C w n (flP C) q tall h = sNum C w n (C.1 6) (C.1 5) (flP C) h)) (n := i) (fun z => z c112)] at hP
                exact ih88 (i + 1) (by omega) (by omega) H locs ls hP hS (lv_sub hl [1, 2, 3, 4, 0] rfl)
        exact L88 _ 0 (Nat.zero_le _) (Nat.lt_succ_self _) H locs ls hP hS (lv_sub hl [2, 3, 4, 1, 0] rfl)
      · refine lv_aload_n hx hb dX9_triedOn_10 rfl (lv_at hl 0 rfl) ?_
        refine mg_30 FX hK in9 hP (List.mem_of_getElem? (i := 2) rfl) dX9_triedOn_11 ?_
        refine lv_iload_n hx hb dX9_triedOn_14 rfl (lv_at hl 3 rfl) ?_
        refine lv_aload_n hx hb dX9_triedOn_15 rfl (lv_at hl 0 rfl) ?_
        refine lv_iload_n hx hb dX9_triedOn_16 rfl (lv_at hl 3 rfl) ?_
        refine cViI [.int (nI i)] [.int (nI i), .ref (a 18)] FX hK (c_X9_numberOf l D y a hA P1 w cN n t hi i hI (by omega)) (cwV 1 hts gX9_triedOn_X9_numberOf rfl rfl rfl (by decide +kernel) ⟨Nat.le_of_ble_eq_true rfl, Nat.le_of_ble_eq_true rfl⟩) hP (pre_recv hK hP (ci := 9) (q0 := 0) rfl rfl) rfl rfl hl (Nat.le_of_ble_eq_true rfl) dX9_triedOn_17 ⟨Nat.zero_le _, Nat.zero_le _⟩ hS (fun _ h => h) (fun r17 u17 H locs hp17 hP hS _ _ => ?_)
        obtain rfl := hp17
        refine xn_to hx (z := nI (numP C w n i)) (by rw [hR.num hC hc1 (by omega)]) ?_
        refine ms18 (i := i) (by omega) FX hK hP hA hS dX9_triedOn_20 (fun H locs hP hS => ?_)
        refine lv_iinc (v := nI (i + 1)) (lv' := [(3, .int (nI (i + 1))), (0, .ref (a 0)), (1, .int (nI q)), (2, .int tall)]) hx hb dX9_triedOn_21 hl (k := 3) rfl (xn_inc i 1) (by decide) rfl (fun ls hl => ?_)
        refine lv_goto (tgt := 2) hx hb dX9_triedOn_24 (by decide) ?_
        exact ih2 (i + 1) (pa P1 27 i (nI (numP C w n i))) (by omega) (hR.sa (by decide) _ _) hI (pa_step (f := fun k => nI (numP C w n k)) hw1) (by omega) H locs ls hP hS (lv_sub hl [1, 2, 3, 0] rfl)
  exact L2 _ 0 P (Nat.zero_le _) hR hI (fun k h => absurd h (Nat.not_lt_zero _)) (Nat.lt_succ_self _) s.heap [] ls hP hS (lv_sub hl [1, 2, 3, 0] rfl)

theorem w_le0 {x : Int32} (h : ∃ k, k ≤ 9 ∧ x = nI k) : x ≤ 0 ↔ x = 0 := by
  obtain ⟨k, hk, rfl⟩ := h
  constructor
  · intro z
    rcases Nat.eq_zero_or_pos k with e | e
    · rw [e]; rfl
    · exact absurd z (nI_nle e (by omega))
  · intro z; rw [z]; decide

abbrev rmX9_fresh : Room := { frames := 5, cells := 0, slots := 0, locals := 122 }
set_option maxRecDepth 100000 in
set_option maxHeartbeats 4000000 in
theorem c_X9_fresh (l : Launch) (D : va_G) (y : Nat → ClassId) (a : Nat → Nat) (hA : CA a 26) (P : PT) (C : PT) (w cN n t rd : Nat) (x : Int32) (tall : Int32) (wh : Int32)  (hR : RQ C P) (hC : IP C w cN n t) (hc1 : C.1 1 = nI cN) (hr : RD C n rd) (hwl : ∀ q, q < cN → ∃ k, k ≤ 9 ∧ C.2 1 q = nI k) : CtI l D y yX9_fresh wsX9_fresh rmX9_fresh [.ref (a 0), .int x, .int tall, .int wh] (wM y a P) (fun (r : Int32) (P' : PT) => r = (ansFresh C w cN n x tall wh).1 ∧ RQ (ansFresh C w cN n x tall wh).2 P') (fun P' => wM y a P') (AM a) := by
  refine mkI (cc := cX9_fresh) (maxL := 5) (ret := some .int) RX9 rfl (by decide) rfl (Or.inl rfl) (Nat.le_of_ble_eq_true rfl) ?_
  intro p e s m args below meth c Q FX hK hP ret ls hl
  obtain ⟨hx, hb, hml, hown, hts⟩ := id FX
  have hS : va_S (AM a) s.heap s.heap [] := va_S.rf
  have in9 : ∀ w ∈ wsX90, w ∈ wsX9_fresh := fun _ h => List.mem_cons_of_mem _ (List.mem_append_right _ (h))
  have hl : lv_has ls 5 [(0, .ref (a 0)), (1, .int x), (2, .int tall), (3, .int wh)] := hl
  obtain ⟨hi, hi5, hI, hi0⟩ := hR.iq hC hc1
  have hcl := hC.c30
  have hnl := hC.n8
  have htl := hC.t8
  have hrl := hr.2.1
  refine lv_aload_n hx hb dX9_fresh_0 rfl (lv_at hl 0 rfl) ?_
  refine lv_iload_n hx hb dX9_fresh_1 rfl (lv_at hl 1 rfl) ?_
  refine cViI [.int x] [] FX hK (c_X9_noCell l D y a hA P w cN n t hi x hI) (cwV 1 hts gX9_fresh_X9_noCell rfl rfl rfl (by decide +kernel) ⟨Nat.le_of_ble_eq_true rfl, Nat.le_of_ble_eq_true rfl⟩) hP (pre_recv hK hP (ci := 9) (q0 := 0) rfl rfl) rfl rfl hl (Nat.le_of_ble_eq_true rfl) dX9_fresh_2 ⟨Nat.zero_le _, Nat.zero_le _⟩ hS (fun _ h => h) (fun r2 u2 H locs hp2 hP hS _ _ => ?_)
  obtain rfl := hp2
  refine xb_eq (tgt := 10) hx hb dX9_fresh_5 (by decide) (fun c5 => ?_) (fun c5 => ?_)
  · have k5 : inN cN x := Classical.not_not.mp c5
    obtain ⟨j, hj, ej⟩ := id k5
    subst ej
    refine lv_iload_n hx hb dX9_fresh_10 rfl (lv_at hl 2 rfl) ?_
    refine lv_i2l hx hb dX9_fresh_11 rfl ?_
    refine lv_lconst (v := 1) hx hb dX9_fresh_12 rfl ?_
    refine lv_ldc2 hx hb hown (hts _ (List.mem_of_getElem? (i := 1) rfl)) dX9_fresh_13 ?_
    refine cStI [.long (tall.toInt64), .long 1, .long (9)] [] FX hK (c_X9_in l D y (tall.toInt64) 1 (9)) (va_cwS 3 hts gX9_fresh_X9_in rfl rfl rfl (by decide +kernel) ⟨Nat.le_of_ble_eq_true rfl, Nat.le_of_ble_eq_true rfl⟩) rfl rfl hl (Nat.le_of_ble_eq_true rfl) dX9_fresh_16 ⟨Nat.zero_le _, Nat.zero_le _⟩ hP hS (fun r16 H locs hp16 hP hS => ?_)
    obtain rfl := hp16
    refine xn_to hx (z := b2 (inR 1 9 tall)) (b2_iff (in_R (lo := 1) (hi := 9) rfl rfl (by decide))) ?_
    refine xb_eq (tgt := 32) hx hb dX9_fresh_19 (by decide) (fun c19 => ?_) (fun c19 => ?_)
    · refine lv_bipush (v := (-2)) hx hb dX9_fresh_32 rfl ?_
      exact ret H locs 34 ls (-2) P dX9_fresh_34 (by unfold ansFresh; rw [dN_nI (show j < 2 ^ 31 by omega), cif_t k5, cif_f c19]; exact ⟨rfl, hR⟩) hP hS
    · refine lv_iload_n hx hb dX9_fresh_22 rfl (lv_at hl 3 rfl) ?_
      refine lv_i2l hx hb dX9_fresh_23 rfl ?_
      refine lv_lconst (v := 0) hx hb dX9_fresh_24 rfl ?_
      refine lv_lconst (v := 1) hx hb dX9_fresh_25 rfl ?_
      refine cStI [.long (wh.toInt64), .long 0, .long 1] [] FX hK (c_X9_in l D y (wh.toInt64) 0 1) (va_cwS 3 hts gX9_fresh_X9_in rfl rfl rfl (by decide +kernel) ⟨Nat.le_of_ble_eq_true rfl, Nat.le_of_ble_eq_true rfl⟩) rfl rfl hl (Nat.le_of_ble_eq_true rfl) dX9_fresh_26 ⟨Nat.zero_le _, Nat.zero_le _⟩ hP hS (fun r26 H locs hp26 hP hS => ?_)
      obtain rfl := hp26
      refine xn_to hx (z := b2 (inR 0 1 wh)) (b2_iff (in_R (lo := 0) (hi := 1) rfl rfl (by decide))) ?_
      refine xb_ne (tgt := 35) hx hb dX9_fresh_29 (by decide) (fun c29 => ?_) (fun c29 => ?_)
      · refine lv_aload_n hx hb dX9_fresh_35 rfl (lv_at hl 0 rfl) ?_
        refine mg_4 FX hK in9 hP (List.mem_of_getElem? (i := 2) rfl) dX9_fresh_36 ?_
        refine lv_iload_n hx hb dX9_fresh_39 rfl (lv_at hl 1 rfl) ?_
        refine ma2 (i := j) (by omega) FX hK hP dX9_fresh_40 ?_
        refine xn_to hx (z := C.2 2 j) (hR.cell hC hc1 (k := 2) (by decide) (by omega)) ?_
        refine lv_if_gt (tgt := 53) hx hb dX9_fresh_41 (by decide) (fun c41 => ?_) (fun c41 => ?_)
        · refine lv_bipush (v := (-3)) hx hb dX9_fresh_53 rfl ?_
          exact ret H locs 55 ls (-3) P dX9_fresh_55 (by unfold ansFresh; rw [dN_nI (show j < 2 ^ 31 by omega), cif_t k5, cif_t c19, cif_t c29, cif_f (fun z => by rw [z.1] at c41; exact absurd c41 (by decide))]; exact ⟨rfl, hR⟩) hP hS
        · refine lv_aload_n hx hb dX9_fresh_44 rfl (lv_at hl 0 rfl) ?_
          refine mg_5 FX hK in9 hP (List.mem_of_getElem? (i := 3) rfl) dX9_fresh_45 ?_
          refine lv_iload_n hx hb dX9_fresh_48 rfl (lv_at hl 1 rfl) ?_
          refine ma3 (i := j) (by omega) FX hK hP dX9_fresh_49 ?_
          refine xn_to hx (z := C.2 1 j) (hR.cell hC hc1 (k := 1) (by decide) (by omega)) ?_
          refine lv_if_le (tgt := 56) hx hb dX9_fresh_50 (by decide) (fun c50 => ?_) (fun c50 => ?_)
          · refine lv_aload_n hx hb dX9_fresh_56 rfl (lv_at hl 0 rfl) ?_
            refine lv_iload_n hx hb dX9_fresh_57 rfl (lv_at hl 1 rfl) ?_
            refine lv_iload_n hx hb dX9_fresh_58 rfl (lv_at hl 2 rfl) ?_
            refine cViI [.int (nI j), .int tall] [] FX hK (c_X9_triedOn l D y a hA P C w cN n t rd j tall hR hC hc1 hr (by omega) (th_z hC hj c41)) (cwV 2 hts gX9_fresh_X9_triedOn rfl rfl rfl (by decide +kernel) ⟨Nat.le_of_ble_eq_true rfl, Nat.le_of_ble_eq_true rfl⟩) hP (pre_recv hK hP (ci := 9) (q0 := 0) rfl rfl) rfl rfl hl (Nat.le_of_ble_eq_true rfl) dX9_fresh_59 ⟨Nat.zero_le _, Nat.zero_le _⟩ hS (fun _ h => h) (fun r59 P9 H locs hp59 hP hS _ _ => ?_)
            obtain ⟨rfl, ho9, hR9⟩ := hp59
            refine lv_istore (lv' := [(4, .int (nI (aFresh C w n (flP C) j tall))), (0, .ref (a 0)), (1, .int (nI j)), (2, .int tall), (3, .int wh)]) hx hb dX9_fresh_62 hl (by decide) rfl (fun ls hl => ?_)
            refine lv_iload_n hx hb dX9_fresh_64 rfl (lv_at hl 4 rfl) ?_
            refine lv_if_ne (tgt := 73) hx hb dX9_fresh_65 (by decide) (fun c65 => ?_) (fun c65 => ?_)
            · refine lv_aload_n hx hb dX9_fresh_73 rfl (lv_at hl 1 rfl) ?_
              refine mg_31 FX hK in9 hP (List.mem_of_getElem? (i := 4) rfl) dX9_fresh_74 ?_
              refine xn_to hx (z := aOthers C w n (flP C) j tall) ho9 ?_
              exact ret H locs 77 ls (aOthers C w n (flP C) j tall) P9 dX9_fresh_77 (by unfold ansFresh; rw [dN_nI (show j < 2 ^ 31 by omega), cif_t k5, cif_t c19, cif_t c29, cif_t ⟨th_z hC hj c41, (w_le0 (hwl j hj)).mp c50⟩, cif_f c65]; exact ⟨rfl, hR9⟩) hP hS
            · refine lv_iload hx hb dX9_fresh_68 (lv_at hl 0 rfl) ?_
              refine lv_goto (tgt := 77) hx hb dX9_fresh_70 (by decide) ?_
              exact ret H locs 77 ls (nI (aFresh C w n (flP C) j tall)) P9 dX9_fresh_77 (by unfold ansFresh; rw [dN_nI (show j < 2 ^ 31 by omega), cif_t k5, cif_t c19, cif_t c29, cif_t ⟨th_z hC hj c41, (w_le0 (hwl j hj)).mp c50⟩, cif_t c65]; exact ⟨rfl, hR9⟩) hP hS
          · refine lv_bipush (v := (-3)) hx hb dX9_fresh_53 rfl ?_
            exact ret H locs 55 ls (-3) P dX9_fresh_55 (by unfold ansFresh; rw [dN_nI (show j < 2 ^ 31 by omega), cif_t k5, cif_t c19, cif_t c29, cif_f (fun z => c50 ((w_le0 (hwl j hj)).mpr z.2))]; exact ⟨rfl, hR⟩) hP hS
      · refine lv_bipush (v := (-2)) hx hb dX9_fresh_32 rfl ?_
        exact ret H locs 34 ls (-2) P dX9_fresh_34 (by unfold ansFresh; rw [dN_nI (show j < 2 ^ 31 by omega), cif_t k5, cif_t c19, cif_f c29]; exact ⟨rfl, hR⟩) hP hS
  · refine lv_iconst (v := (-1)) hx hb dX9_fresh_8 rfl ?_
    exact ret H locs 9 ls (-1) P dX9_fresh_9 (by unfold ansFresh; rw [cif_f c5]; exact ⟨rfl, hR⟩) hP hS

abbrev rmX9_free : Room := { frames := 5, cells := 0, slots := 0, locals := 122 }
set_option maxRecDepth 100000 in
set_option maxHeartbeats 4000000 in
theorem c_X9_free (l : Launch) (D : va_G) (y : Nat → ClassId) (a : Nat → Nat) (hA : CA a 26) (P : PT) (C : PT) (w cN n t rd : Nat) (tall : Int32) (v : Int32)  (hR : RQ C P) (hC : IP C w cN n t) (hc1 : C.1 1 = nI cN) (hr : RD C n rd) : CtL l D y yX9_free wsX9_free rmX9_free [.ref (a 0), .int tall, .int v] (wM y a P) (fun (r : Int64) (P' : PT) => r = (ansFree C w cN n tall v).1 ∧ RQ (ansFree C w cN n tall v).2 P') (fun P' => wM y a P') (AM a) := by
  refine mkL (cc := cX9_free) (maxL := 6) RX9 rfl (by decide) rfl (Nat.le_of_ble_eq_true rfl) ?_
  intro p e s m args below meth c Q FX hK hP ret ls hl
  obtain ⟨hx, hb, hml, hown, hts⟩ := id FX
  have hS : va_S (AM a) s.heap s.heap [] := va_S.rf
  have in9 : ∀ w ∈ wsX90, w ∈ wsX9_free := fun _ h => List.mem_cons_of_mem _ (List.mem_append_right _ (h))
  have hl : lv_has ls 6 [(0, .ref (a 0)), (1, .int tall), (2, .int v)] := hl
  obtain ⟨hi, hi5, hI, hi0⟩ := hR.iq hC hc1
  have hcl := hC.c30
  have hnl := hC.n8
  have htl := hC.t8
  have hrl := hr.2.1
  refine lv_iload_n hx hb dX9_free_0 rfl (lv_at hl 1 rfl) ?_
  refine lv_i2l hx hb dX9_free_1 rfl ?_
  refine lv_lconst (v := 1) hx hb dX9_free_2 rfl ?_
  refine lv_ldc2 hx hb hown (hts _ (List.mem_of_getElem? (i := 1) rfl)) dX9_free_3 ?_
  refine cStI [.long (tall.toInt64), .long 1, .long (9)] [] FX hK (c_X9_in l D y (tall.toInt64) 1 (9)) (va_cwS 3 hts gX9_free_X9_in rfl rfl rfl (by decide +kernel) ⟨Nat.le_of_ble_eq_true rfl, Nat.le_of_ble_eq_true rfl⟩) rfl rfl hl (Nat.le_of_ble_eq_true rfl) dX9_free_6 ⟨Nat.zero_le _, Nat.zero_le _⟩ hP hS (fun r6 H locs hp6 hP hS => ?_)
  obtain rfl := hp6
  refine xn_to hx (z := b2 (inR 1 9 tall)) (b2_iff (in_R (lo := 1) (hi := 9) rfl rfl (by decide))) ?_
  refine xb_eq (tgt := 31) hx hb dX9_free_9 (by decide) (fun c9 => ?_) (fun c9 => ?_)
  · refine cStL [] [] FX hK (c_X9_lost l D y) (va_cwS 0 hts gX9_free_X9_lost rfl rfl rfl (by decide +kernel) ⟨Nat.le_of_ble_eq_true rfl, Nat.le_of_ble_eq_true rfl⟩) rfl rfl hl (Nat.le_of_ble_eq_true rfl) dX9_free_31 ⟨Nat.zero_le _, Nat.zero_le _⟩ hP hS (fun r31 H locs hp31 hP hS => ?_)
    obtain rfl := hp31
    exact ret H locs 34 ls LOST P dX9_free_34 (by unfold ansFree; rw [cif_f c9]; exact ⟨rfl, hR⟩) hP hS
  · refine lv_iload_n hx hb dX9_free_12 rfl (lv_at hl 2 rfl) ?_
    refine lv_i2l hx hb dX9_free_13 rfl ?_
    refine lv_lconst (v := 0) hx hb dX9_free_14 rfl ?_
    refine lv_ldc2 hx hb hown (hts _ (List.mem_of_getElem? (i := 2) rfl)) dX9_free_15 ?_
    refine cStI [.long (v.toInt64), .long 0, .long (8)] [] FX hK (c_X9_in l D y (v.toInt64) 0 (8)) (va_cwS 3 hts gX9_free_X9_in rfl rfl rfl (by decide +kernel) ⟨Nat.le_of_ble_eq_true rfl, Nat.le_of_ble_eq_true rfl⟩) rfl rfl hl (Nat.le_of_ble_eq_true rfl) dX9_free_18 ⟨Nat.zero_le _, Nat.zero_le _⟩ hP hS (fun r18 H locs hp18 hP hS => ?_)
    obtain rfl := hp18
    refine xn_to hx (z := b2 (inR 0 8 v)) (b2_iff (in_R (lo := 0) (hi := 8) rfl rfl (by decide))) ?_
    refine xb_eq (tgt := 31) hx hb dX9_free_21 (by decide) (fun c21 => ?_) (fun c21 => ?_)
    · refine cStL [] [] FX hK (c_X9_lost l D y) (va_cwS 0 hts gX9_free_X9_lost rfl rfl rfl (by decide +kernel) ⟨Nat.le_of_ble_eq_true rfl, Nat.le_of_ble_eq_true rfl⟩) rfl rfl hl (Nat.le_of_ble_eq_true rfl) dX9_free_31 ⟨Nat.zero_le _, Nat.zero_le _⟩ hP hS (fun r31 H locs hp31 hP hS => ?_)
      obtain rfl := hp31
      exact ret H locs 34 ls LOST P dX9_free_34 (by unfold ansFree; rw [cif_t c9, cif_f c21]; exact ⟨rfl, hR⟩) hP hS
    · refine lv_aload_n hx hb dX9_free_24 rfl (lv_at hl 0 rfl) ?_
      refine mg_1 FX hK in9 hP (List.mem_of_getElem? (i := 3) rfl) dX9_free_25 ?_
      refine xn_to hx (z := nI hi) hI.hh ?_
      refine xn_if_ne (tgt := 35) hx hb (by omega) dX9_free_28 (by decide) (fun c28 => ?_) (fun c28 => ?_)
      · refine lv_lconst (v := 0) hx hb dX9_free_35 rfl ?_
        refine lv_lstore_n (lv' := [(3, .long 0), (0, .ref (a 0)), (1, .int tall), (2, .int v)]) hx hb dX9_free_36 rfl hl (by decide) rfl (fun ls hl => ?_)
        refine lv_iconst (v := nI 0) hx hb dX9_free_37 rfl ?_
        refine lv_istore (lv' := [(5, .int (nI 0)), (3, .long 0), (0, .ref (a 0)), (1, .int tall), (2, .int v)]) hx hb dX9_free_38 hl (by decide) rfl (fun ls hl => ?_)
        have L40 : ∀ (N : Nat) (i : Nat) (P1 : PT), (i ≤ cN) → (RQ C P1) → (IQ P1 w cN n t hi) → cN - i < N → ∀ (H : Heap) (locs : List Loc) (ls : Array Slot), va_P D vwCl (wM y a P1) H → va_S (AM a) s.heap H locs → lv_has ls 6 [(0, .ref (a 0)), (1, .int tall), (2, .int v), (3, .long (mskL (fun q => (C.2 2 q = 0 ∧ C.2 1 q = 0) ∧ nI (aFresh C w n (flP C) q tall) = v) i)), (5, .int (nI i))] → W p l e rmX9_free s m args below meth c H locs 0 0 Q (F0 m 40 ls []) := by
          intro N40
          induction N40 with
          | zero => intro i P1 hi9 hR1 hI1 hmeas; exact absurd hmeas (Nat.not_lt_zero _)
          | succ N40 ih40 =>
            intro i P1 hi9 hR1 hI1 hmeas H locs ls hP hS hl
            have hR := hR1
            have hI := hI1
            refine lv_iload hx hb dX9_free_40 (lv_at hl 4 rfl) ?_
            refine lv_aload_n hx hb dX9_free_42 rfl (lv_at hl 0 rfl) ?_
            refine cViI [] [.int (nI i)] FX hK (c_X9_cells l D y a hA P1 w hi hI.ww hI.hh) (cwV 0 hts gX9_free_X9_cells rfl rfl rfl (by decide +kernel) ⟨Nat.le_of_ble_eq_true rfl, Nat.le_of_ble_eq_true rfl⟩) hP (pre_recv hK hP (ci := 9) (q0 := 0) rfl rfl) rfl rfl hl (Nat.le_of_ble_eq_true rfl) dX9_free_43 ⟨Nat.zero_le _, Nat.zero_le _⟩ hS (fun _ h => h) (fun r43 u43 H locs hp43 hP hS _ _ => ?_)
            obtain rfl := hp43
            refine xn_to hx (z := nI cN) (by rw [← hI.cc]) ?_
            refine xn_icmp_ge (tgt := 97) hx hb (by omega) (by omega) dX9_free_46 (by decide) (fun c46 => ?_) (fun c46 => ?_)
            · refine lv_lload_n hx hb dX9_free_97 rfl (lv_at hl 3 rfl) ?_
              exact ret H locs 98 ls (mskL (fun q => (C.2 2 q = 0 ∧ C.2 1 q = 0) ∧ nI (aFresh C w n (flP C) q tall) = v) i) P1 dX9_free_98 (by unfold ansFree; rw [cif_t c9, cif_t c21, cif_t (show 0 < cN by omega)]; exact ⟨(by rw [show i = cN by omega]; rfl), hR⟩) hP hS
            · refine lv_aload_n hx hb dX9_free_49 rfl (lv_at hl 0 rfl) ?_
              refine mg_4 FX hK in9 hP (List.mem_of_getElem? (i := 4) rfl) dX9_free_50 ?_
              refine lv_iload hx hb dX9_free_53 (lv_at hl 4 rfl) ?_
              refine ma2 (i := i) (by omega) FX hK hP dX9_free_55 ?_
              refine xn_to hx (z := C.2 2 i) (hR.cell hC hc1 (k := 2) (by decide) (by omega)) ?_
              refine lv_if_ne (tgt := 91) hx hb dX9_free_56 (by decide) (fun c56 => ?_) (fun c56 => ?_)
              · refine lv_iinc (v := nI (i + 1)) (lv' := [(5, .int (nI (i + 1))), (0, .ref (a 0)), (1, .int tall), (2, .int v), (3, .long (mskL (fun q => (C.2 2 q = 0 ∧ C.2 1 q = 0) ∧ nI (aFresh C w n (flP C) q tall) = v) i))]) hx hb dX9_free_91 hl (k := 4) rfl (xn_inc i 1) (by decide) rfl (fun ls hl => ?_)
                refine lv_goto (tgt := 40) hx hb dX9_free_94 (by decide) ?_
                rw [← mskL_f (p := (fun q => (C.2 2 q = 0 ∧ C.2 1 q = 0) ∧ nI (aFresh C w n (flP C) q tall) = v)) (n := i) (by first | exact (fun z => c56 z.1.1) | exact (fun z => c66 z.1.2) | exact (fun z => c78 z.2))] at hl
                exact ih40 (i + 1) P1 (by omega) hR hI (by omega) H locs ls hP hS (lv_sub hl [1, 2, 3, 4, 0] rfl)
              · refine lv_aload_n hx hb dX9_free_59 rfl (lv_at hl 0 rfl) ?_
                refine mg_5 FX hK in9 hP (List.mem_of_getElem? (i := 5) rfl) dX9_free_60 ?_
                refine lv_iload hx hb dX9_free_63 (lv_at hl 4 rfl) ?_
                refine ma3 (i := i) (by omega) FX hK hP dX9_free_65 ?_
                refine xn_to hx (z := C.2 1 i) (hR.cell hC hc1 (k := 1) (by decide) (by omega)) ?_
                refine lv_if_ne (tgt := 91) hx hb dX9_free_66 (by decide) (fun c66 => ?_) (fun c66 => ?_)
                · refine lv_iinc (v := nI (i + 1)) (lv' := [(5, .int (nI (i + 1))), (0, .ref (a 0)), (1, .int tall), (2, .int v), (3, .long (mskL (fun q => (C.2 2 q = 0 ∧ C.2 1 q = 0) ∧ nI (aFresh C w n (flP C) q tall) = v) i))]) hx hb dX9_free_91 hl (k := 4) rfl (xn_inc i 1) (by decide) rfl (fun ls hl => ?_)
                  refine lv_goto (tgt := 40) hx hb dX9_free_94 (by decide) ?_
                  rw [← mskL_f (p := (fun q => (C.2 2 q = 0 ∧ C.2 1 q = 0) ∧ nI (aFresh C w n (flP C) q tall) = v)) (n := i) (by first | exact (fun z => c56 z.1.1) | exact (fun z => c66 z.1.2) | exact (fun z => c78 z.2))] at hl
                  exact ih40 (i + 1) P1 (by omega) hR hI (by omega) H locs ls hP hS (lv_sub hl [1, 2, 3, 4, 0] rfl)
                · refine lv_lload_n hx hb dX9_free_69 rfl (lv_at hl 3 rfl) ?_
                  refine lv_aload_n hx hb dX9_free_70 rfl (lv_at hl 0 rfl) ?_
                  refine lv_iload hx hb dX9_free_71 (lv_at hl 4 rfl) ?_
                  refine lv_iload_n hx hb dX9_free_73 rfl (lv_at hl 1 rfl) ?_
                  refine cViI [.int (nI i), .int tall] [.long (mskL (fun q => (C.2 2 q = 0 ∧ C.2 1 q = 0) ∧ nI (aFresh C w n (flP C) q tall) = v) i)] FX hK (c_X9_triedOn l D y a hA P1 C w cN n t rd i tall hR hC hc1 hr (by omega) c56) (cwV 2 hts gX9_free_X9_triedOn rfl rfl rfl (by decide +kernel) ⟨Nat.le_of_ble_eq_true rfl, Nat.le_of_ble_eq_true rfl⟩) hP (pre_recv hK hP (ci := 9) (q0 := 0) rfl rfl) rfl rfl hl (Nat.le_of_ble_eq_true rfl) dX9_free_74 ⟨Nat.zero_le _, Nat.zero_le _⟩ hS (fun _ h => h) (fun r74 P9 H locs hp74 hP hS _ _ => ?_)
                  obtain ⟨rfl, ho9, hR9⟩ := hp74
                  refine lv_iload_n hx hb dX9_free_77 rfl (lv_at hl 2 rfl) ?_
                  refine lv_icmp_ne (tgt := 88) hx hb dX9_free_78 (by decide) (fun c78 => ?_) (fun c78 => ?_)
                  · refine lv_lconst (v := 0) hx hb dX9_free_88 rfl ?_
                    refine lv_lor hx hb dX9_free_89 ?_
                    refine lv_lstore_n (lv' := [(3, .long ((mskL (fun q => (C.2 2 q = 0 ∧ C.2 1 q = 0) ∧ nI (aFresh C w n (flP C) q tall) = v) i) ||| 0)), (0, .ref (a 0)), (1, .int tall), (2, .int v), (5, .int (nI i))]) hx hb dX9_free_90 rfl hl (by decide) rfl (fun ls hl => ?_)
                    refine lv_iinc (v := nI (i + 1)) (lv' := [(5, .int (nI (i + 1))), (3, .long ((mskL (fun q => (C.2 2 q = 0 ∧ C.2 1 q = 0) ∧ nI (aFresh C w n (flP C) q tall) = v) i) ||| 0)), (0, .ref (a 0)), (1, .int tall), (2, .int v)]) hx hb dX9_free_91 hl (k := 4) rfl (xn_inc i 1) (by decide) rfl (fun ls hl => ?_)
                    refine lv_goto (tgt := 40) hx hb dX9_free_94 (by decide) ?_
                    obtain ⟨hi9b, -, hI9, -⟩ := hR9.iq hC hc1
                    have hI9 : IQ P9 w cN n t hi := hI9.same hI (by omega)
                    rw [or_0L] at hl
                    rw [← mskL_f (p := (fun q => (C.2 2 q = 0 ∧ C.2 1 q = 0) ∧ nI (aFresh C w n (flP C) q tall) = v)) (n := i) (by first | exact (fun z => c56 z.1.1) | exact (fun z => c66 z.1.2) | exact (fun z => c78 z.2))] at hl
                    exact ih40 (i + 1) P9 (by omega) hR9 hI9 (by omega) H locs ls hP hS (lv_sub hl [2, 3, 4, 1, 0] rfl)
                  · refine lv_lconst (v := 1) hx hb dX9_free_81 rfl ?_
                    refine lv_iload hx hb dX9_free_82 (lv_at hl 4 rfl) ?_
                    refine lv_lshl hx hb dX9_free_84 rfl ?_
                    refine lv_goto (tgt := 89) hx hb dX9_free_85 (by decide) ?_
                    refine lv_lor hx hb dX9_free_89 ?_
                    refine lv_lstore_n (lv' := [(3, .long ((mskL (fun q => (C.2 2 q = 0 ∧ C.2 1 q = 0) ∧ nI (aFresh C w n (flP C) q tall) = v) i) ||| (1 <<< ((nI i).toInt64 &&& 63)))), (0, .ref (a 0)), (1, .int tall), (2, .int v), (5, .int (nI i))]) hx hb dX9_free_90 rfl hl (by decide) rfl (fun ls hl => ?_)
                    refine lv_iinc (v := nI (i + 1)) (lv' := [(5, .int (nI (i + 1))), (3, .long ((mskL (fun q => (C.2 2 q = 0 ∧ C.2 1 q = 0) ∧ nI (aFresh C w n (flP C) q tall) = v) i) ||| (1 <<< ((nI i).toInt64 &&& 63)))), (0, .ref (a 0)), (1, .int tall), (2, .int v)]) hx hb dX9_free_91 hl (k := 4) rfl (xn_inc i 1) (by decide) rfl (fun ls hl => ?_)
                    refine lv_goto (tgt := 40) hx hb dX9_free_94 (by decide) ?_
                    obtain ⟨hi9b, -, hI9, -⟩ := hR9.iq hC hc1
                    have hI9 : IQ P9 w cN n t hi := hI9.same hI (by omega)
                    rw [← mskL_t (p := (fun q => (C.2 2 q = 0 ∧ C.2 1 q = 0) ∧ nI (aFresh C w n (flP C) q tall) = v)) (n := i) ⟨⟨c56, c66⟩, c78⟩] at hl
                    exact ih40 (i + 1) P9 (by omega) hR9 hI9 (by omega) H locs ls hP hS (lv_sub hl [2, 3, 4, 1, 0] rfl)
        exact L40 _ 0 P (Nat.zero_le _) hR hI (Nat.lt_succ_self _) H locs ls hP hS (lv_sub hl [2, 3, 4, 1, 0] rfl)
      · refine cStL [] [] FX hK (c_X9_lost l D y) (va_cwS 0 hts gX9_free_X9_lost rfl rfl rfl (by decide +kernel) ⟨Nat.le_of_ble_eq_true rfl, Nat.le_of_ble_eq_true rfl⟩) rfl rfl hl (Nat.le_of_ble_eq_true rfl) dX9_free_31 ⟨Nat.zero_le _, Nat.zero_le _⟩ hP hS (fun r31 H locs hp31 hP hS => ?_)
        obtain rfl := hp31
        exact ret H locs 34 ls LOST P dX9_free_34 (by unfold ansFree; rw [cif_t c9, cif_t c21, cif_f (show ¬ 0 < cN by omega)]; exact ⟨rfl, hR⟩) hP hS

theorem lv_eqk2 {ls : Array Slot} {nL k : Nat} {l1 : Nat × Value} {x z : Int32} {r : List (Nat × Value)} (h : lv_has ls nL (l1 :: (k, .int x) :: r)) (e : x = z) : lv_has ls nL (l1 :: (k, .int z) :: r) := e ▸ h

abbrev rmX9_change : Room := { frames := 4, cells := 0, slots := 0, locals := 98 }
set_option maxRecDepth 100000 in
set_option maxHeartbeats 4000000 in
theorem c_X9_change (l : Launch) (D : va_G) (y : Nat → ClassId) (a : Nat → Nat) (hA : CA a 26) (P : PT) (C : PT) (w cN n t rd : Nat) (yr : Nat) (x : Int32)  (hR : RQ C P) (hC : IP C w cN n t) (hc1 : C.1 1 = nI cN) (hr : RD C n rd) (hyr : C.1 5 = nI yr) (hyl : yr ≤ 30) : CtI l D y yX9_change wsX9_change rmX9_change [.ref (a 0), .int x] (wM y a P) (fun (r : Int32) (P' : PT) => r = (ansChange C w n x).1 ∧ RQ (ansChange C w n x).2 P') (fun P' => wM y a P') (AM a) := by
  refine mkI (cc := cX9_change) (maxL := 6) (ret := some .int) RX9 rfl (by decide) rfl (Or.inl rfl) (Nat.le_of_ble_eq_true rfl) ?_
  intro p e s m args below meth c Q FX hK hP ret ls hl
  obtain ⟨hx, hb, hml, hown, hts⟩ := id FX
  have hS : va_S (AM a) s.heap s.heap [] := va_S.rf
  have in9 : ∀ w ∈ wsX90, w ∈ wsX9_change := fun _ h => List.mem_cons_of_mem _ (List.mem_append_right _ (h))
  have hl : lv_has ls 6 [(0, .ref (a 0)), (1, .int x)] := hl
  obtain ⟨hi, hi5, hI, hi0⟩ := hR.iq hC hc1
  have hcl := hC.c30
  have hnl := hC.n8
  have htl := hC.t8
  have hrl := hr.2.1
  refine lv_aload_n hx hb dX9_change_0 rfl (lv_at hl 0 rfl) ?_
  refine lv_iload_n hx hb dX9_change_1 rfl (lv_at hl 1 rfl) ?_
  refine cViI [.int x] [] FX hK (c_X9_noHouse l D y a hA P n x hI.nn hI.n9) (cwV 1 hts gX9_change_X9_noHouse rfl rfl rfl (by decide +kernel) ⟨Nat.le_of_ble_eq_true rfl, Nat.le_of_ble_eq_true rfl⟩) hP (pre_recv hK hP (ci := 9) (q0 := 0) rfl rfl) rfl rfl hl (Nat.le_of_ble_eq_true rfl) dX9_change_2 ⟨Nat.zero_le _, Nat.zero_le _⟩ hS (fun _ h => h) (fun r2 u2 H locs hp2 hP hS _ _ => ?_)
  obtain rfl := hp2
  refine xb_eq (tgt := 10) hx hb dX9_change_5 (by decide) (fun c5 => ?_) (fun c5 => ?_)
  · have k5 : inN n x := Classical.not_not.mp c5
    obtain ⟨j, hj, ej⟩ := id k5
    subst ej
    refine lv_aload_n hx hb dX9_change_10 rfl (lv_at hl 0 rfl) ?_
    refine mg_15 FX hK in9 hP (List.mem_of_getElem? (i := 1) rfl) dX9_change_11 ?_
    refine xn_to hx (z := nI yr) (((hR.1 5 (by omega))).trans hyr) ?_
    refine lv_istore_n (lv' := [(2, .int (nI yr)), (0, .ref (a 0)), (1, .int (nI j))]) hx hb dX9_change_14 rfl hl (by decide) rfl (fun ls hl => ?_)
    refine lv_aload_n hx hb dX9_change_15 rfl (lv_at hl 1 rfl) ?_
    refine lv_iload_n hx hb dX9_change_16 rfl (lv_at hl 2 rfl) ?_
    refine cViI [.int (nI j)] [] FX hK (c_X9_numberOf l D y a hA P w cN n t hi j hI (by omega)) (cwV 1 hts gX9_change_X9_numberOf rfl rfl rfl (by decide +kernel) ⟨Nat.le_of_ble_eq_true rfl, Nat.le_of_ble_eq_true rfl⟩) hP (pre_recv hK hP (ci := 9) (q0 := 0) rfl rfl) rfl rfl hl (Nat.le_of_ble_eq_true rfl) dX9_change_17 ⟨Nat.zero_le _, Nat.zero_le _⟩ hS (fun _ h => h) (fun r17 u17 H locs hp17 hP hS _ _ => ?_)
    obtain rfl := hp17
    refine xn_to hx (z := nI (sNum C w n (C.1 6) (C.1 5) (flP C) j)) (by rw [hR.num hC hc1 hj]) ?_
    refine lv_istore_n (lv' := [(3, .int (nI (sNum C w n (C.1 6) (C.1 5) (flP C) j))), (2, .int (nI yr)), (0, .ref (a 0)), (1, .int (nI j))]) hx hb dX9_change_20 rfl hl (by decide) rfl (fun ls hl => ?_)
    refine lv_bipush (v := (-9)) hx hb dX9_change_21 rfl ?_
    refine lv_istore (lv' := [(4, .int (-9)), (3, .int (nI (sNum C w n (C.1 6) (C.1 5) (flP C) j))), (2, .int (nI yr)), (0, .ref (a 0)), (1, .int (nI j))]) hx hb dX9_change_23 hl (by decide) rfl (fun ls hl => ?_)
    refine lv_iload_n hx hb dX9_change_25 rfl (lv_at hl 2 rfl) ?_
    refine lv_iconst (v := nI 1) hx hb dX9_change_26 rfl ?_
    refine xn_iadd (a := yr) (b := 1) hx hb dX9_change_27 ?_
    refine lv_istore (lv' := [(5, .int (nI (yr + 1))), (4, .int (-9)), (3, .int (nI (sNum C w n (C.1 6) (C.1 5) (flP C) j))), (2, .int (nI yr)), (0, .ref (a 0)), (1, .int (nI j))]) hx hb dX9_change_28 hl (by decide) rfl (fun ls hl => ?_)
    have L30 : ∀ (N : Nat) (i : Nat) (z : Int32), (i ≤ 30 - yr) → 30 - yr - i < N → ∀ (H : Heap) (locs : List Loc) (ls : Array Slot), va_P D vwCl (wM y a (pg P 5 z)) H → va_S (AM a) s.heap H locs → lv_has ls 6 [(0, .ref (a 0)), (1, .int (nI j)), (2, .int (nI yr)), (3, .int (nI (sNum C w n (C.1 6) (C.1 5) (flP C) j))), (4, .int (fsI (fun k => fnd (¬ sNum C w n (C.1 6) (nI (yr + 1 + k)) (flP C) j = sNum C w n (C.1 6) (C.1 5) (flP C) j) (yr + 1 + k)) i)), (5, .int (nI (yr + 1 + i)))] → W p l e rmX9_change s m args below meth c H locs 0 0 Q (F0 m 30 ls []) := by
      intro N30
      induction N30 with
      | zero => intro i z hi9 hmeas; exact absurd hmeas (Nat.not_lt_zero _)
      | succ N30 ih30 =>
        intro i z hi9 hmeas H locs ls hP hS hl
        refine lv_iload hx hb dX9_change_30 (lv_at hl 5 rfl) ?_
        refine lv_bipush (v := nI 30) hx hb dX9_change_32 rfl ?_
        refine xn_icmp_gt (tgt := 72) hx hb (by omega) (by omega) dX9_change_34 (by decide) (fun c34 => ?_) (fun c34 => ?_)
        · refine lv_aload_n hx hb dX9_change_72 rfl (lv_at hl 0 rfl) ?_
          refine lv_iload_n hx hb dX9_change_73 rfl (lv_at hl 2 rfl) ?_
          refine mp_15 FX hK in9 hP hA hS (List.mem_of_getElem? (i := 1) rfl) dX9_change_74 (fun H locs hP hS => ?_)
          rw [pg_pg, ← ((hR.1 5 (by omega)).trans hyr), pg_self] at hP
          refine lv_iload hx hb dX9_change_77 (lv_at hl 4 rfl) ?_
          exact ret H locs 79 ls (fsI (fun k => fnd (¬ sNum C w n (C.1 6) (nI (yr + 1 + k)) (flP C) j = sNum C w n (C.1 6) (C.1 5) (flP C) j) (yr + 1 + k)) i) P dX9_change_79 (by unfold ansChange; rw [dN_nI (show j < 2 ^ 31 by omega), cif_t k5]; rw [show dN (C.1 5) = yr from (by rw [hyr]; exact dN_nI (by omega))]; exact ⟨(by first | (rw [show i = 30 - yr by omega]; rfl) | exact fsI_all (fun z => by rw [z] at c39; exact absurd c39 (by decide)) hi9), hR⟩) hP hS
        · refine lv_iload hx hb dX9_change_37 (lv_at hl 4 rfl) ?_
          refine lv_if_ge (tgt := 72) hx hb dX9_change_39 (by decide) (fun c39 => ?_) (fun c39 => ?_)
          · refine lv_aload_n hx hb dX9_change_72 rfl (lv_at hl 0 rfl) ?_
            refine lv_iload_n hx hb dX9_change_73 rfl (lv_at hl 2 rfl) ?_
            refine mp_15 FX hK in9 hP hA hS (List.mem_of_getElem? (i := 1) rfl) dX9_change_74 (fun H locs hP hS => ?_)
            rw [pg_pg, ← ((hR.1 5 (by omega)).trans hyr), pg_self] at hP
            refine lv_iload hx hb dX9_change_77 (lv_at hl 4 rfl) ?_
            exact ret H locs 79 ls (fsI (fun k => fnd (¬ sNum C w n (C.1 6) (nI (yr + 1 + k)) (flP C) j = sNum C w n (C.1 6) (C.1 5) (flP C) j) (yr + 1 + k)) i) P dX9_change_79 (by unfold ansChange; rw [dN_nI (show j < 2 ^ 31 by omega), cif_t k5]; rw [show dN (C.1 5) = yr from (by rw [hyr]; exact dN_nI (by omega))]; exact ⟨(by first | (rw [show i = 30 - yr by omega]; rfl) | exact fsI_all (fun z => by rw [z] at c39; exact absurd c39 (by decide)) hi9), hR⟩) hP hS
          · refine lv_aload_n hx hb dX9_change_42 rfl (lv_at hl 0 rfl) ?_
            refine lv_iload hx hb dX9_change_43 (lv_at hl 5 rfl) ?_
            refine mp_15 FX hK in9 hP hA hS (List.mem_of_getElem? (i := 1) rfl) dX9_change_45 (fun H locs hP hS => ?_)
            rw [pg_pg] at hP
            refine lv_aload_n hx hb dX9_change_48 rfl (lv_at hl 0 rfl) ?_
            refine lv_iload_n hx hb dX9_change_49 rfl (lv_at hl 1 rfl) ?_
            refine cViI [.int (nI j)] [] FX hK (c_X9_numberOf l D y a hA (pg P 5 (nI (yr + 1 + i))) w cN n t hi j hI (by omega)) (cwV 1 hts gX9_change_X9_numberOf rfl rfl rfl (by decide +kernel) ⟨Nat.le_of_ble_eq_true rfl, Nat.le_of_ble_eq_true rfl⟩) hP (pre_recv hK hP (ci := 9) (q0 := 0) rfl rfl) rfl rfl hl (Nat.le_of_ble_eq_true rfl) dX9_change_50 ⟨Nat.zero_le _, Nat.zero_le _⟩ hS (fun _ h => h) (fun r50 u50 H locs hp50 hP hS _ _ => ?_)
            obtain rfl := hp50
            refine xn_to hx (z := nI (sNum C w n (C.1 6) (nI (yr + 1 + i)) (flP C) j)) (by rw [(hR.wpg (k := 5) (by omega) (nI (yr + 1 + i))).num (show IP (pg C 5 (nI (yr + 1 + i))) w cN n t from hC) hc1 hj]; rfl) ?_
            refine lv_iload_n hx hb dX9_change_53 rfl (lv_at hl 3 rfl) ?_
            refine xn_icmp_ne (tgt := 62) hx hb (sNum_lt hC _ _ _ _) (sNum_lt hC _ _ _ _) dX9_change_54 (by decide) (fun c54 => ?_) (fun c54 => ?_)
            · refine lv_iload hx hb dX9_change_62 (lv_at hl 5 rfl) ?_
              refine lv_istore (lv' := [(4, .int (nI (yr + 1 + i))), (0, .ref (a 0)), (1, .int (nI j)), (2, .int (nI yr)), (3, .int (nI (sNum C w n (C.1 6) (C.1 5) (flP C) j))), (5, .int (nI (yr + 1 + i)))]) hx hb dX9_change_64 hl (by decide) rfl (fun ls hl => ?_)
              refine lv_iinc (v := nI (yr + 1 + i + 1)) (lv' := [(5, .int (nI (yr + 1 + i + 1))), (4, .int (nI (yr + 1 + i))), (0, .ref (a 0)), (1, .int (nI j)), (2, .int (nI yr)), (3, .int (nI (sNum C w n (C.1 6) (C.1 5) (flP C) j)))]) hx hb dX9_change_66 hl (k := 5) rfl (xn_inc (yr + 1 + i) 1) (by decide) rfl (fun ls hl => ?_)
              refine lv_goto (tgt := 30) hx hb dX9_change_69 (by decide) ?_
              have e9 : fsI (fun k => fnd (¬ sNum C w n (C.1 6) (nI (yr + 1 + k)) (flP C) j = sNum C w n (C.1 6) (C.1 5) (flP C) j) (yr + 1 + k)) (i + 1) = nI (yr + 1 + i) := (by rw [fsI_next ((fnd_cases (p := fun k => ¬ sNum C w n (C.1 6) (nI (yr + 1 + k)) (flP C) j = sNum C w n (C.1 6) (C.1 5) (flP C) j) (v := fun k => yr + 1 + k) (N := 30) (fun k hk => by omega) i (by omega)).resolve_right c39)]; exact fnd_t c54)
              have hl := lv_eqk2 hl e9.symm
              exact ih30 (i + 1) (nI (yr + 1 + i)) (by omega) (by omega) H locs ls hP hS (lv_sub hl [2, 3, 4, 5, 1, 0] rfl)
            · refine lv_bipush (v := (-9)) hx hb dX9_change_57 rfl ?_
              refine lv_goto (tgt := 64) hx hb dX9_change_59 (by decide) ?_
              refine lv_istore (lv' := [(4, .int (-9)), (0, .ref (a 0)), (1, .int (nI j)), (2, .int (nI yr)), (3, .int (nI (sNum C w n (C.1 6) (C.1 5) (flP C) j))), (5, .int (nI (yr + 1 + i)))]) hx hb dX9_change_64 hl (by decide) rfl (fun ls hl => ?_)
              refine lv_iinc (v := nI (yr + 1 + i + 1)) (lv' := [(5, .int (nI (yr + 1 + i + 1))), (4, .int (-9)), (0, .ref (a 0)), (1, .int (nI j)), (2, .int (nI yr)), (3, .int (nI (sNum C w n (C.1 6) (C.1 5) (flP C) j)))]) hx hb dX9_change_66 hl (k := 5) rfl (xn_inc (yr + 1 + i) 1) (by decide) rfl (fun ls hl => ?_)
              refine lv_goto (tgt := 30) hx hb dX9_change_69 (by decide) ?_
              have e9 : fsI (fun k => fnd (¬ sNum C w n (C.1 6) (nI (yr + 1 + k)) (flP C) j = sNum C w n (C.1 6) (C.1 5) (flP C) j) (yr + 1 + k)) (i + 1) = (-9) := (by rw [fsI_next ((fnd_cases (p := fun k => ¬ sNum C w n (C.1 6) (nI (yr + 1 + k)) (flP C) j = sNum C w n (C.1 6) (C.1 5) (flP C) j) (v := fun k => yr + 1 + k) (N := 30) (fun k hk => by omega) i (by omega)).resolve_right c39)]; exact fnd_f (fun z => z c54))
              have hl := lv_eqk2 hl e9.symm
              exact ih30 (i + 1) (nI (yr + 1 + i)) (by omega) (by omega) H locs ls hP hS (lv_sub hl [2, 3, 4, 5, 1, 0] rfl)
    rw [← pg_self P 5] at hP
    exact L30 _ 0 (P.1 5) (Nat.zero_le _) (Nat.lt_succ_self _) H locs ls hP hS (lv_sub hl [4, 5, 3, 2, 1, 0] rfl)
  · refine lv_iconst (v := (-1)) hx hb dX9_change_8 rfl ?_
    exact ret H locs 9 ls (-1) P dX9_change_9 (by unfold ansChange; rw [cif_f c5]; exact ⟨rfl, hR⟩) hP hS

abbrev rmX9_areSo : Room := { frames := 4, cells := 0, slots := 0, locals := 98 }
set_option maxRecDepth 100000 in
set_option maxHeartbeats 4000000 in
theorem c_X9_areSo (l : Launch) (D : va_G) (y : Nat → ClassId) (a : Nat → Nat) (hA : CA a 26) (P : PT) (C : PT) (w cN n t rd : Nat)  (hR : RQ C P) (hC : IP C w cN n t) (hc1 : C.1 1 = nI cN) (hr : RD C n rd) : CtI l D y yX9_areSo wsX9_areSo rmX9_areSo [.ref (a 0)] (wM y a P) (fun r (_ : Unit) => r = b2 (soS C w n rd (C.1 6) (flP C))) (fun _ => wM y a P) (AM a) := by
  refine mkI (cc := cX9_areSo) (maxL := 4) (ret := some .boolean) RX9 rfl (by decide) rfl (Or.inr ⟨rfl, fun r u h => by rw [h]; exact b2_01 _⟩) (Nat.le_of_ble_eq_true rfl) ?_
  intro p e s m args below meth c Q FX hK hP ret ls hl
  obtain ⟨hx, hb, hml, hown, hts⟩ := id FX
  have hS : va_S (AM a) s.heap s.heap [] := va_S.rf
  have in9 : ∀ w ∈ wsX90, w ∈ wsX9_areSo := fun _ h => List.mem_cons_of_mem _ (List.mem_append_right _ (h))
  have hl : lv_has ls 4 [(0, .ref (a 0))] := hl
  obtain ⟨hi, hi5, hI, hi0⟩ := hR.iq hC hc1
  have hcl := hC.c30
  have hnl := hC.n8
  have htl := hC.t8
  have hrl := hr.2.1
  refine lv_aload_n hx hb dX9_areSo_0 rfl (lv_at hl 0 rfl) ?_
  refine mg_15 FX hK in9 hP (List.mem_of_getElem? (i := 1) rfl) dX9_areSo_1 ?_
  refine xn_to hx (z := C.1 5) (hR.1 5 (by omega)) ?_
  refine lv_istore_n (lv' := [(1, .int (C.1 5)), (0, .ref (a 0))]) hx hb dX9_areSo_4 rfl hl (by decide) rfl (fun ls hl => ?_)
  refine lv_iconst (v := nI 1) hx hb dX9_areSo_5 rfl ?_
  refine xn_to hx (z := b2 True) (b2_1 trivial) ?_
  refine lv_istore_n (lv' := [(2, .int (b2 True)), (1, .int (C.1 5)), (0, .ref (a 0))]) hx hb dX9_areSo_6 rfl hl (by decide) rfl (fun ls hl => ?_)
  refine lv_iconst (v := nI 0) hx hb dX9_areSo_7 rfl ?_
  refine lv_istore_n (lv' := [(3, .int (nI 0)), (2, .int (b2 True)), (1, .int (C.1 5)), (0, .ref (a 0))]) hx hb dX9_areSo_8 rfl hl (by decide) rfl (fun ls hl => ?_)
  have L9 : ∀ (N : Nat) (g : Prop) (i : Nat) (z : Int32), (g ↔ ∀ k, k < i → (soK C w n (C.1 6) (flP C)) k) → (i ≤ rd) → rd - i < N → ∀ (H : Heap) (locs : List Loc) (ls : Array Slot), va_P D vwCl (wM y a (pg P 5 z)) H → va_S (AM a) s.heap H locs → lv_has ls 4 [(0, .ref (a 0)), (1, .int (C.1 5)), (2, .int (b2 g)), (3, .int (nI i))] → W p l e rmX9_areSo s m args below meth c H locs 0 0 Q (F0 m 9 ls []) := by
    intro N9
    induction N9 with
    | zero => intro g i z hg hi9 hmeas; exact absurd hmeas (Nat.not_lt_zero _)
    | succ N9 ih9 =>
      intro g i z hg hi9 hmeas H locs ls hP hS hl
      refine lv_iload_n hx hb dX9_areSo_9 rfl (lv_at hl 3 rfl) ?_
      refine lv_aload_n hx hb dX9_areSo_10 rfl (lv_at hl 0 rfl) ?_
      refine mg_32 FX hK in9 hP (List.mem_of_getElem? (i := 2) rfl) dX9_areSo_11 ?_
      refine xn_to hx (z := nI rd) ((hR.1 8 (by omega)).trans hr.1) ?_
      refine xn_icmp_ge (tgt := 62) hx hb (by omega) (by omega) dX9_areSo_14 (by decide) (fun c14 => ?_) (fun c14 => ?_)
      · refine lv_aload_n hx hb dX9_areSo_62 rfl (lv_at hl 0 rfl) ?_
        refine lv_iload_n hx hb dX9_areSo_63 rfl (lv_at hl 1 rfl) ?_
        refine mp_15 FX hK in9 hP hA hS (List.mem_of_getElem? (i := 1) rfl) dX9_areSo_64 (fun H locs hP hS => ?_)
        rw [pg_pg, ← hR.1 5 (by omega), pg_self] at hP
        refine lv_iload_n hx hb dX9_areSo_67 rfl (lv_at hl 2 rfl) ?_
        exact ret H locs 68 ls (b2 g) () dX9_areSo_68 (b2_iff (so_end hg hi9 (by first | exact Or.inl c14 | exact Or.inr c18))) hP hS
      · refine lv_iload_n hx hb dX9_areSo_17 rfl (lv_at hl 2 rfl) ?_
        refine xb_eq (tgt := 62) hx hb dX9_areSo_18 (by decide) (fun c18 => ?_) (fun c18 => ?_)
        · refine lv_aload_n hx hb dX9_areSo_62 rfl (lv_at hl 0 rfl) ?_
          refine lv_iload_n hx hb dX9_areSo_63 rfl (lv_at hl 1 rfl) ?_
          refine mp_15 FX hK in9 hP hA hS (List.mem_of_getElem? (i := 1) rfl) dX9_areSo_64 (fun H locs hP hS => ?_)
          rw [pg_pg, ← hR.1 5 (by omega), pg_self] at hP
          refine lv_iload_n hx hb dX9_areSo_67 rfl (lv_at hl 2 rfl) ?_
          exact ret H locs 68 ls (b2 g) () dX9_areSo_68 (b2_iff (so_end hg hi9 (by first | exact Or.inl c14 | exact Or.inr c18))) hP hS
        · refine lv_aload_n hx hb dX9_areSo_21 rfl (lv_at hl 0 rfl) ?_
          refine lv_aload_n hx hb dX9_areSo_22 rfl (lv_at hl 0 rfl) ?_
          refine mg_34 FX hK in9 hP (List.mem_of_getElem? (i := 3) rfl) dX9_areSo_23 ?_
          refine lv_iload_n hx hb dX9_areSo_26 rfl (lv_at hl 3 rfl) ?_
          refine ma20 (i := i) (by omega) FX hK hP dX9_areSo_27 ?_
          refine xn_to hx (z := C.2 10 i) (hR.rdg hr (by decide) (by decide) c14) ?_
          refine mp_15 FX hK in9 hP hA hS (List.mem_of_getElem? (i := 1) rfl) dX9_areSo_28 (fun H locs hP hS => ?_)
          rw [pg_pg] at hP
          have hrn := (hr.2.2 i c14).2
          refine lv_aload_n hx hb dX9_areSo_31 rfl (lv_at hl 0 rfl) ?_
          refine lv_aload_n hx hb dX9_areSo_32 rfl (lv_at hl 0 rfl) ?_
          refine mg_33 FX hK in9 hP (List.mem_of_getElem? (i := 4) rfl) dX9_areSo_33 ?_
          refine lv_iload_n hx hb dX9_areSo_36 rfl (lv_at hl 3 rfl) ?_
          refine ma19 (i := i) (by omega) FX hK hP dX9_areSo_37 ?_
          refine xn_to hx (z := nI (rhN C i)) ((hR.rdg hr (by decide) (by decide) c14).trans (hr.2.2 i c14).1) ?_
          refine cViI [.int (nI (rhN C i))] [] FX hK (c_X9_numberOf l D y a hA (pg P 5 (C.2 10 i)) w cN n t hi (rhN C i) hI (by omega)) (cwV 1 hts gX9_areSo_X9_numberOf rfl rfl rfl (by decide +kernel) ⟨Nat.le_of_ble_eq_true rfl, Nat.le_of_ble_eq_true rfl⟩) hP (pre_recv hK hP (ci := 9) (q0 := 0) rfl rfl) rfl rfl hl (Nat.le_of_ble_eq_true rfl) dX9_areSo_38 ⟨Nat.zero_le _, Nat.zero_le _⟩ hS (fun _ h => h) (fun r38 u38 H locs hp38 hP hS _ _ => ?_)
          obtain rfl := hp38
          refine xn_to hx (z := nI (sNum C w n (C.1 6) (C.2 10 i) (flP C) (rhN C i))) (by rw [(hR.wpg (k := 5) (by omega) (C.2 10 i)).num (show IP (pg C 5 (C.2 10 i)) w cN n t from hC) hc1 hrn]; rfl) ?_
          refine lv_aload_n hx hb dX9_areSo_41 rfl (lv_at hl 0 rfl) ?_
          refine mg_35 FX hK in9 hP (List.mem_of_getElem? (i := 5) rfl) dX9_areSo_42 ?_
          refine lv_iload_n hx hb dX9_areSo_45 rfl (lv_at hl 3 rfl) ?_
          refine ma21 (i := i) (by omega) FX hK hP dX9_areSo_46 ?_
          refine xn_to hx (z := C.2 11 i) (hR.rdg hr (by decide) (by decide) c14) ?_
          refine lv_icmp_ne (tgt := 54) hx hb dX9_areSo_47 (by decide) (fun c47 => ?_) (fun c47 => ?_)
          · refine lv_iconst (v := nI 0) hx hb dX9_areSo_54 rfl ?_
            refine xn_to hx (z := b2 False) (b2_0 (fun z => z)) ?_
            refine lv_istore_n (lv' := [(2, .int (b2 False)), (0, .ref (a 0)), (1, .int (C.1 5)), (3, .int (nI i))]) hx hb dX9_areSo_55 rfl hl (by decide) rfl (fun ls hl => ?_)
            refine lv_iinc (v := nI (i + 1)) (lv' := [(3, .int (nI (i + 1))), (2, .int (b2 False)), (0, .ref (a 0)), (1, .int (C.1 5))]) hx hb dX9_areSo_56 hl (k := 3) rfl (xn_inc i 1) (by decide) rfl (fun ls hl => ?_)
            refine lv_goto (tgt := 9) hx hb dX9_areSo_59 (by decide) ?_
            exact ih9 False (i + 1) (C.2 10 i) (so_f (q := (soK C w n (C.1 6) (flP C))) c47) (by omega) (by omega) H locs ls hP hS (lv_sub hl [2, 3, 1, 0] rfl)
          · refine lv_iconst (v := nI 1) hx hb dX9_areSo_50 rfl ?_
            refine lv_goto (tgt := 55) hx hb dX9_areSo_51 (by decide) ?_
            refine xn_to hx (z := b2 True) (b2_1 trivial) ?_
            refine lv_istore_n (lv' := [(2, .int (b2 True)), (0, .ref (a 0)), (1, .int (C.1 5)), (3, .int (nI i))]) hx hb dX9_areSo_55 rfl hl (by decide) rfl (fun ls hl => ?_)
            refine lv_iinc (v := nI (i + 1)) (lv' := [(3, .int (nI (i + 1))), (2, .int (b2 True)), (0, .ref (a 0)), (1, .int (C.1 5))]) hx hb dX9_areSo_56 hl (k := 3) rfl (xn_inc i 1) (by decide) rfl (fun ls hl => ?_)
            refine lv_goto (tgt := 9) hx hb dX9_areSo_59 (by decide) ?_
            exact ih9 True (i + 1) (C.2 10 i) (so_t (q := (soK C w n (C.1 6) (flP C))) hg c18 c47) (by omega) (by omega) H locs ls hP hS (lv_sub hl [2, 3, 1, 0] rfl)
  rw [← pg_self P 5] at hP
  exact L9 _ True 0 (P.1 5) ⟨fun _ k h => absurd h (Nat.not_lt_zero _), fun _ => trivial⟩ (Nat.zero_le _) (Nat.lt_succ_self _) s.heap [] ls hP hS (lv_sub hl [3, 2, 1, 0] rfl)

abbrev rmX9_fogs : Room := { frames := 5, cells := 0, slots := 0, locals := 121 }
set_option maxRecDepth 100000 in
set_option maxHeartbeats 4000000 in
theorem c_X9_fogs (l : Launch) (D : va_G) (y : Nat → ClassId) (a : Nat → Nat) (hA : CA a 26) (P : PT) (C : PT) (w cN n t rd : Nat)  (hR : RQ C P) (hC : IP C w cN n t) (hc1 : C.1 1 = nI cN) (hr : RD C n rd) : CtI l D y yX9_fogs wsX9_fogs rmX9_fogs [.ref (a 0)] (wM y a P) (fun (r : Int32) (P' : PT) => r = (ansFogs C w cN n rd).1 ∧ RQ (ansFogs C w cN n rd).2 P') (fun P' => wM y a P') (AM a) := by
  refine mkI (cc := cX9_fogs) (maxL := 4) (ret := some .int) RX9 rfl (by decide) rfl (Or.inl rfl) (Nat.le_of_ble_eq_true rfl) ?_
  intro p e s m args below meth c Q FX hK hP ret ls hl
  obtain ⟨hx, hb, hml, hown, hts⟩ := id FX
  have hS : va_S (AM a) s.heap s.heap [] := va_S.rf
  have in9 : ∀ w ∈ wsX90, w ∈ wsX9_fogs := fun _ h => List.mem_cons_of_mem _ (List.mem_append_right _ (h))
  have hl : lv_has ls 4 [(0, .ref (a 0))] := hl
  obtain ⟨hi, hi5, hI, hi0⟩ := hR.iq hC hc1
  have hcl := hC.c30
  have hnl := hC.n8
  have htl := hC.t8
  have hrl := hr.2.1
  refine lv_aload_n hx hb dX9_fogs_0 rfl (lv_at hl 0 rfl) ?_
  refine mg_1 FX hK in9 hP (List.mem_of_getElem? (i := 1) rfl) dX9_fogs_1 ?_
  refine xn_to hx (z := nI hi) hI.hh ?_
  refine xn_if_ne (tgt := 10) hx hb (by omega) dX9_fogs_4 (by decide) (fun c4 => ?_) (fun c4 => ?_)
  · refine lv_aload_n hx hb dX9_fogs_10 rfl (lv_at hl 0 rfl) ?_
    refine mg_16 FX hK in9 hP (List.mem_of_getElem? (i := 2) rfl) dX9_fogs_11 ?_
    refine xn_to hx (z := C.1 6) (hR.1 6 (by omega)) ?_
    refine lv_istore_n (lv' := [(1, .int (C.1 6)), (0, .ref (a 0))]) hx hb dX9_fogs_14 rfl hl (by decide) rfl (fun ls hl => ?_)
    refine lv_iconst (v := nI 0) hx hb dX9_fogs_15 rfl ?_
    refine lv_istore_n (lv' := [(2, .int (nI 0)), (1, .int (C.1 6)), (0, .ref (a 0))]) hx hb dX9_fogs_16 rfl hl (by decide) rfl (fun ls hl => ?_)
    refine lv_iconst (v := nI 1) hx hb dX9_fogs_17 rfl ?_
    refine lv_istore_n (lv' := [(3, .int (nI 1)), (2, .int (nI 0)), (1, .int (C.1 6)), (0, .ref (a 0))]) hx hb dX9_fogs_18 rfl hl (by decide) rfl (fun ls hl => ?_)
    have L19 : ∀ (N : Nat) (f : Nat) (z : Int32), (0 < f) → (f ≤ 10) → 10 - f < N → ∀ (H : Heap) (locs : List Loc) (ls : Array Slot), va_P D vwCl (wM y a (pg P 6 z)) H → va_S (AM a) s.heap H locs → lv_has ls 4 [(0, .ref (a 0)), (1, .int (C.1 6)), (2, .int (msk (fun f => 0 < f ∧ soS C w n rd (nI f) (flP C)) f)), (3, .int (nI f))] → W p l e rmX9_fogs s m args below meth c H locs 0 0 Q (F0 m 19 ls []) := by
      intro N19
      induction N19 with
      | zero => intro f z hf1 hf10 hmeas; exact absurd hmeas (Nat.not_lt_zero _)
      | succ N19 ih19 =>
        intro f z hf1 hf10 hmeas H locs ls hP hS hl
        refine lv_iload_n hx hb dX9_fogs_19 rfl (lv_at hl 3 rfl) ?_
        refine lv_bipush (v := nI 10) hx hb dX9_fogs_20 rfl ?_
        refine xn_icmp_ge (tgt := 53) hx hb (by omega) (by omega) dX9_fogs_22 (by decide) (fun c22 => ?_) (fun c22 => ?_)
        · refine lv_aload_n hx hb dX9_fogs_53 rfl (lv_at hl 0 rfl) ?_
          refine lv_iload_n hx hb dX9_fogs_54 rfl (lv_at hl 1 rfl) ?_
          refine mp_16 FX hK in9 hP hA hS (List.mem_of_getElem? (i := 2) rfl) dX9_fogs_55 (fun H locs hP hS => ?_)
          rw [pg_pg, ← hR.1 6 (by omega), pg_self] at hP
          refine lv_iload_n hx hb dX9_fogs_58 rfl (lv_at hl 2 rfl) ?_
          exact ret H locs 59 ls (msk (fun f => 0 < f ∧ soS C w n rd (nI f) (flP C)) f) P dX9_fogs_59 (by unfold ansFogs; rw [cif_t (show 0 < cN by omega)]; exact ⟨(by rw [show f = 10 by omega]; rfl), hR⟩) hP hS
        · refine lv_aload_n hx hb dX9_fogs_25 rfl (lv_at hl 0 rfl) ?_
          refine lv_iload_n hx hb dX9_fogs_26 rfl (lv_at hl 3 rfl) ?_
          refine mp_16 FX hK in9 hP hA hS (List.mem_of_getElem? (i := 2) rfl) dX9_fogs_27 (fun H locs hP hS => ?_)
          rw [pg_pg] at hP
          refine lv_iload_n hx hb dX9_fogs_30 rfl (lv_at hl 2 rfl) ?_
          refine lv_aload_n hx hb dX9_fogs_31 rfl (lv_at hl 0 rfl) ?_
          refine cViI [] [.int (msk (fun f => 0 < f ∧ soS C w n rd (nI f) (flP C)) f)] FX hK (c_X9_areSo l D y a hA (pg P 6 (nI f)) (pg C 6 (nI f)) w cN n t rd (hR.wpg (k := 6) (by omega) (nI f)) (show IP (pg C 6 (nI f)) w cN n t from hC) hc1 (show RD (pg C 6 (nI f)) n rd from hr)) (cwV 0 hts gX9_fogs_X9_areSo rfl rfl rfl (by decide +kernel) ⟨Nat.le_of_ble_eq_true rfl, Nat.le_of_ble_eq_true rfl⟩) hP (pre_recv hK hP (ci := 9) (q0 := 0) rfl rfl) rfl rfl hl (Nat.le_of_ble_eq_true rfl) dX9_fogs_32 ⟨Nat.zero_le _, Nat.zero_le _⟩ hS (fun _ h => h) (fun r32 u32 H locs hp32 hP hS _ _ => ?_)
          obtain rfl := hp32
          refine xn_to hx (z := b2 (soS C w n rd (nI f) (flP C))) (b2_iff Iff.rfl) ?_
          refine xb_eq (tgt := 44) hx hb dX9_fogs_35 (by decide) (fun c35 => ?_) (fun c35 => ?_)
          · refine lv_iconst (v := nI 0) hx hb dX9_fogs_44 rfl ?_
            refine lv_ior hx hb dX9_fogs_45 ?_
            refine lv_istore_n (lv' := [(2, .int ((msk (fun f => 0 < f ∧ soS C w n rd (nI f) (flP C)) f) ||| (nI 0))), (0, .ref (a 0)), (1, .int (C.1 6)), (3, .int (nI f))]) hx hb dX9_fogs_46 rfl hl (by decide) rfl (fun ls hl => ?_)
            refine lv_iinc (v := nI (f + 1)) (lv' := [(3, .int (nI (f + 1))), (2, .int ((msk (fun f => 0 < f ∧ soS C w n rd (nI f) (flP C)) f) ||| (nI 0))), (0, .ref (a 0)), (1, .int (C.1 6))]) hx hb dX9_fogs_47 hl (k := 3) rfl (xn_inc f 1) (by decide) rfl (fun ls hl => ?_)
            refine lv_goto (tgt := 19) hx hb dX9_fogs_50 (by decide) ?_
            rw [or_nI0] at hl
            rw [← msk_f (p := (fun f => 0 < f ∧ soS C w n rd (nI f) (flP C))) (n := f) (fun z => c35 z.2)] at hl
            exact ih19 (f + 1) (nI f) (by omega) (by omega) (by omega) H locs ls hP hS (lv_sub hl [2, 3, 1, 0] rfl)
          · refine lv_iconst (v := nI 1) hx hb dX9_fogs_38 rfl ?_
            refine lv_iload_n hx hb dX9_fogs_39 rfl (lv_at hl 3 rfl) ?_
            refine lv_ishl hx hb dX9_fogs_40 ?_
            refine lv_goto (tgt := 45) hx hb dX9_fogs_41 (by decide) ?_
            refine lv_ior hx hb dX9_fogs_45 ?_
            refine lv_istore_n (lv' := [(2, .int ((msk (fun f => 0 < f ∧ soS C w n rd (nI f) (flP C)) f) ||| ((nI 1) <<< ((nI f) &&& 31)))), (0, .ref (a 0)), (1, .int (C.1 6)), (3, .int (nI f))]) hx hb dX9_fogs_46 rfl hl (by decide) rfl (fun ls hl => ?_)
            refine lv_iinc (v := nI (f + 1)) (lv' := [(3, .int (nI (f + 1))), (2, .int ((msk (fun f => 0 < f ∧ soS C w n rd (nI f) (flP C)) f) ||| ((nI 1) <<< ((nI f) &&& 31)))), (0, .ref (a 0)), (1, .int (C.1 6))]) hx hb dX9_fogs_47 hl (k := 3) rfl (xn_inc f 1) (by decide) rfl (fun ls hl => ?_)
            refine lv_goto (tgt := 19) hx hb dX9_fogs_50 (by decide) ?_
            rw [← msk_t (p := (fun f => 0 < f ∧ soS C w n rd (nI f) (flP C))) (n := f) ⟨hf1, c35⟩] at hl
            exact ih19 (f + 1) (nI f) (by omega) (by omega) (by omega) H locs ls hP hS (lv_sub hl [2, 3, 1, 0] rfl)
    rw [← pg_self P 6] at hP
    rw [show nI 0 = msk (fun f => 0 < f ∧ soS C w n rd (nI f) (flP C)) 1 from (msk_f (p := (fun f => 0 < f ∧ soS C w n rd (nI f) (flP C))) (n := 0) (fun z => absurd z.1 (by decide))).symm] at hl
    exact L19 _ 1 (P.1 6) (by decide) (by decide) (Nat.lt_succ_self _) s.heap [] ls hP hS (lv_sub hl [3, 2, 1, 0] rfl)
  · refine lv_bipush (v := (-3)) hx hb dX9_fogs_7 rfl ?_
    exact ret s.heap [] 9 ls (-3) P dX9_fogs_9 (by unfold ansFogs; rw [cif_f (show ¬ 0 < cN by omega)]; exact ⟨rfl, hR⟩) hP hS

theorem lv_eqk3 {ls : Array Slot} {nL k : Nat} {l1 l2 : Nat × Value} {x z : Int32} {r : List (Nat × Value)} (h : lv_has ls nL (l1 :: l2 :: (k, .int x) :: r)) (e : x = z) : lv_has ls nL (l1 :: l2 :: (k, .int z) :: r) := e ▸ h

abbrev rmX9_stood : Room := { frames := 5, cells := 0, slots := 0, locals := 121 }
set_option maxRecDepth 100000 in
set_option maxHeartbeats 4000000 in
theorem c_X9_stood (l : Launch) (D : va_G) (y : Nat → ClassId) (a : Nat → Nat) (hA : CA a 26) (P : PT) (C : PT) (w cN n t rd : Nat) (f : Nat) (wh : Int32)  (hR : RQ C P) (hC : IP C w cN n t) (hc1 : C.1 1 = nI cN) (hr : RD C n rd) (hf : C.1 4 = nI f) (hfl : f < 2 ^ t) : CtI l D y yX9_stood wsX9_stood rmX9_stood [.ref (a 0), .int wh] (wM y a P) (fun (r : Int32) (P' : PT) => r = (ansStood C w cN n rd t wh).1 ∧ RQ (ansStood C w cN n rd t wh).2 P') (fun P' => wM y a P') (AM a) := by
  refine mkI (cc := cX9_stood) (maxL := 7) (ret := some .int) RX9 rfl (by decide) rfl (Or.inl rfl) (Nat.le_of_ble_eq_true rfl) ?_
  intro p e s m args below meth c Q FX hK hP ret ls hl
  obtain ⟨hx, hb, hml, hown, hts⟩ := id FX
  have hS : va_S (AM a) s.heap s.heap [] := va_S.rf
  have in9 : ∀ w ∈ wsX90, w ∈ wsX9_stood := fun _ h => List.mem_cons_of_mem _ (List.mem_append_right _ (h))
  have hl : lv_has ls 7 [(0, .ref (a 0)), (1, .int wh)] := hl
  obtain ⟨hi, hi5, hI, hi0⟩ := hR.iq hC hc1
  have hcl := hC.c30
  have hnl := hC.n8
  have htl := hC.t8
  have hrl := hr.2.1
  have hfb : FB P := hR.2.2.2.2.2.2.2.2.2
  have hpw := pow8 htl
  have hp0 : 0 < 2 ^ t := Nat.two_pow_pos t
  refine lv_iload_n hx hb dX9_stood_0 rfl (lv_at hl 1 rfl) ?_
  refine lv_i2l hx hb dX9_stood_1 rfl ?_
  refine lv_lconst (v := 0) hx hb dX9_stood_2 rfl ?_
  refine lv_lconst (v := 1) hx hb dX9_stood_3 rfl ?_
  refine cStI [.long (wh.toInt64), .long 0, .long 1] [] FX hK (c_X9_in l D y (wh.toInt64) 0 1) (va_cwS 3 hts gX9_stood_X9_in rfl rfl rfl (by decide +kernel) ⟨Nat.le_of_ble_eq_true rfl, Nat.le_of_ble_eq_true rfl⟩) rfl rfl hl (Nat.le_of_ble_eq_true rfl) dX9_stood_4 ⟨Nat.zero_le _, Nat.zero_le _⟩ hP hS (fun r4 H locs hp4 hP hS => ?_)
  obtain rfl := hp4
  refine xn_to hx (z := b2 (inR 0 1 wh)) (b2_iff (in_R (lo := 0) (hi := 1) rfl rfl (by decide))) ?_
  refine xb_ne (tgt := 13) hx hb dX9_stood_7 (by decide) (fun c7 => ?_) (fun c7 => ?_)
  · refine lv_aload_n hx hb dX9_stood_13 rfl (lv_at hl 0 rfl) ?_
    refine mg_1 FX hK in9 hP (List.mem_of_getElem? (i := 1) rfl) dX9_stood_14 ?_
    refine xn_to hx (z := nI hi) hI.hh ?_
    refine xn_if_ne (tgt := 23) hx hb (by omega) dX9_stood_17 (by decide) (fun c17 => ?_) (fun c17 => ?_)
    · refine lv_aload_n hx hb dX9_stood_23 rfl (lv_at hl 0 rfl) ?_
      refine cViI [] [] FX hK (c_X9_felledNow l D y a hA P t hI.tt hI.t8) (cwV 0 hts gX9_stood_X9_felledNow rfl rfl rfl (by decide +kernel) ⟨Nat.le_of_ble_eq_true rfl, Nat.le_of_ble_eq_true rfl⟩) hP (pre_recv hK hP (ci := 9) (q0 := 0) rfl rfl) rfl rfl hl (Nat.le_of_ble_eq_true rfl) dX9_stood_24 ⟨Nat.zero_le _, Nat.zero_le _⟩ hS (fun _ h => h) (fun r24 u24 H locs hp24 hP hS _ _ => ?_)
      obtain rfl := hp24
      refine xn_to hx (z := C.1 4) (hR.felled hC hf hfl) ?_
      refine lv_istore_n (lv' := [(2, .int (C.1 4)), (0, .ref (a 0)), (1, .int wh)]) hx hb dX9_stood_27 rfl hl (by decide) rfl (fun ls hl => ?_)
      refine lv_iconst (v := nI 1) hx hb dX9_stood_28 rfl ?_
      refine lv_aload_n hx hb dX9_stood_29 rfl (lv_at hl 1 rfl) ?_
      refine mg_11 FX hK in9 hP (List.mem_of_getElem? (i := 2) rfl) dX9_stood_30 ?_
      refine xn_to hx (z := nI t) hI.tt ?_
      refine lv_ishl hx hb dX9_stood_33 ?_
      refine xn_to hx (z := nI (2 ^ t)) (shl1 t (by omega)) ?_
      refine lv_iconst (v := nI 1) hx hb dX9_stood_34 rfl ?_
      refine xn_isub (a := 2 ^ t) (b := 1) hx hb (by omega) dX9_stood_35 ?_
      refine lv_istore_n (lv' := [(3, .int (nI ((2 ^ t) - 1))), (2, .int (C.1 4)), (0, .ref (a 0)), (1, .int wh)]) hx hb dX9_stood_36 rfl hl (by decide) rfl (fun ls hl => ?_)
      refine lv_iconst (v := nI 0) hx hb dX9_stood_37 rfl ?_
      refine lv_istore (lv' := [(4, .int (nI 0)), (3, .int (nI ((2 ^ t) - 1))), (2, .int (C.1 4)), (0, .ref (a 0)), (1, .int wh)]) hx hb dX9_stood_38 hl (by decide) rfl (fun ls hl => ?_)
      refine lv_bipush (v := (-9)) hx hb dX9_stood_40 rfl ?_
      refine lv_istore (lv' := [(5, .int (-9)), (4, .int (nI 0)), (3, .int (nI ((2 ^ t) - 1))), (2, .int (C.1 4)), (0, .ref (a 0)), (1, .int wh)]) hx hb dX9_stood_42 hl (by decide) rfl (fun ls hl => ?_)
      refine lv_iconst (v := nI 0) hx hb dX9_stood_44 rfl ?_
      refine lv_istore (lv' := [(6, .int (nI 0)), (5, .int (-9)), (4, .int (nI 0)), (3, .int (nI ((2 ^ t) - 1))), (2, .int (C.1 4)), (0, .ref (a 0)), (1, .int wh)]) hx hb dX9_stood_45 hl (by decide) rfl (fun ls hl => ?_)
      have L47 : ∀ (N : Nat) (i : Nat) (f1 : Int32) (P1 : PT), (i ≤ 2 ^ t) → (RQ (pg C 4 f1) P1) → (IQ P1 w cN n t hi) → 2 ^ t - i < N → ∀ (H : Heap) (locs : List Loc) (ls : Array Slot), va_P D vwCl (wM y a P1) H → va_S (AM a) s.heap H locs → lv_has ls 7 [(0, .ref (a 0)), (1, .int wh), (2, .int (C.1 4)), (3, .int (nI (2 ^ t - 1))), (4, .int (nI (cn (fun s => soS C w n rd (C.1 6) (flS t s)) i))), (5, .int (fsI (fun s => fnd (soS C w n rd (C.1 6) (flS t s)) s) i)), (6, .int (nI i))] → W p l e rmX9_stood s m args below meth c H locs 0 0 Q (F0 m 47 ls []) := by
        intro N47
        induction N47 with
        | zero => intro i f1 P1 hi9 hR1 hI1 hmeas; exact absurd hmeas (Nat.not_lt_zero _)
        | succ N47 ih47 =>
          intro i f1 P1 hi9 hR1 hI1 hmeas H locs ls hP hS hl
          have hR := hR1
          have hI := hI1
          have hcn := cn_le (fun s => soS C w n rd (C.1 6) (flS t s)) i
          refine lv_iload hx hb dX9_stood_47 (lv_at hl 6 rfl) ?_
          refine lv_iload_n hx hb dX9_stood_49 rfl (lv_at hl 3 rfl) ?_
          refine xn_icmp_gt (tgt := 96) hx hb (by omega) (by omega) dX9_stood_50 (by decide) (fun c50 => ?_) (fun c50 => ?_)
          · refine lv_aload_n hx hb dX9_stood_96 rfl (lv_at hl 0 rfl) ?_
            refine lv_iload_n hx hb dX9_stood_97 rfl (lv_at hl 3 rfl) ?_
            refine lv_iconst (v := nI 0) hx hb dX9_stood_98 rfl ?_
            refine cViV [.int (nI (2 ^ t - 1)), .int (nI 0)] [] FX hK (c_X9_fellAll l D y a hA P1 t (nI (2 ^ t - 1)) (nI 0) hI.tt hI.t8 hR.2.2.2.2.2.2.2.2.2 (Or.inl rfl)) (cwV 2 hts gX9_stood_X9_fellAll rfl rfl rfl (by decide +kernel) ⟨Nat.le_of_ble_eq_true rfl, Nat.le_of_ble_eq_true rfl⟩) hP (pre_recv hK hP (ci := 9) (q0 := 0) rfl rfl) rfl rfl hl (Nat.le_of_ble_eq_true rfl) dX9_stood_99 ⟨Nat.zero_le _, Nat.zero_le _⟩ hS (fun _ h => h) (fun u99 H locs hp99 hP hS _ _ => ?_)
            refine lv_aload_n hx hb dX9_stood_102 rfl (lv_at hl 0 rfl) ?_
            refine lv_iload_n hx hb dX9_stood_103 rfl (lv_at hl 2 rfl) ?_
            refine lv_iconst (v := nI 1) hx hb dX9_stood_104 rfl ?_
            refine cViV [.int (C.1 4), .int (nI 1)] [] FX hK (c_X9_fellAll l D y a hA (fA P1 (nI (2 ^ t - 1)) (nI 0) t) t (C.1 4) (nI 1) hI.tt hI.t8 (fA_FB hR.2.2.2.2.2.2.2.2.2 (Or.inl rfl) _ _) (Or.inr rfl)) (cwV 2 hts gX9_stood_X9_fellAll rfl rfl rfl (by decide +kernel) ⟨Nat.le_of_ble_eq_true rfl, Nat.le_of_ble_eq_true rfl⟩) hP (pre_recv hK hP (ci := 9) (q0 := 0) rfl rfl) rfl rfl hl (Nat.le_of_ble_eq_true rfl) dX9_stood_105 ⟨Nat.zero_le _, Nat.zero_le _⟩ hS (fun _ h => h) (fun u105 H locs hp105 hP hS _ _ => ?_)
            have hR2 := hR1.stb (t := t) hC
            refine lv_iload_n hx hb dX9_stood_108 rfl (lv_at hl 1 rfl) ?_
            refine lv_if_ne (tgt := 117) hx hb dX9_stood_109 (by decide) (fun c109 => ?_) (fun c109 => ?_)
            · refine lv_iload hx hb dX9_stood_117 (lv_at hl 5 rfl) ?_
              exact ret H locs 119 ls (fsI (fun s => fnd (soS C w n rd (C.1 6) (flS t s)) s) i) (fA (fA P1 (nI (2 ^ t - 1)) (nI 0) t) (C.1 4) (nI 1) t) dX9_stood_119 (by unfold ansStood; rw [cif_t c7, cif_t (show 0 < cN by omega), cif_f c109]; exact ⟨(by rw [show i = 2 ^ t by omega]; rfl), hR2⟩) hP hS
            · refine lv_iload hx hb dX9_stood_112 (lv_at hl 4 rfl) ?_
              refine lv_goto (tgt := 119) hx hb dX9_stood_114 (by decide) ?_
              exact ret H locs 119 ls (nI (cn (fun s => soS C w n rd (C.1 6) (flS t s)) i)) (fA (fA P1 (nI (2 ^ t - 1)) (nI 0) t) (C.1 4) (nI 1) t) dX9_stood_119 (by unfold ansStood; rw [cif_t c7, cif_t (show 0 < cN by omega), cif_t c109]; exact ⟨(by rw [show i = 2 ^ t by omega]; rfl), hR2⟩) hP hS
          · refine lv_aload_n hx hb dX9_stood_53 rfl (lv_at hl 0 rfl) ?_
            refine lv_iload_n hx hb dX9_stood_54 rfl (lv_at hl 3 rfl) ?_
            refine lv_iconst (v := nI 1) hx hb dX9_stood_55 rfl ?_
            refine cViV [.int (nI (2 ^ t - 1)), .int (nI 1)] [] FX hK (c_X9_fellAll l D y a hA P1 t (nI (2 ^ t - 1)) (nI 1) hI.tt hI.t8 hR.2.2.2.2.2.2.2.2.2 (Or.inr rfl)) (cwV 2 hts gX9_stood_X9_fellAll rfl rfl rfl (by decide +kernel) ⟨Nat.le_of_ble_eq_true rfl, Nat.le_of_ble_eq_true rfl⟩) hP (pre_recv hK hP (ci := 9) (q0 := 0) rfl rfl) rfl rfl hl (Nat.le_of_ble_eq_true rfl) dX9_stood_56 ⟨Nat.zero_le _, Nat.zero_le _⟩ hS (fun _ h => h) (fun u56 H locs hp56 hP hS _ _ => ?_)
            refine lv_aload_n hx hb dX9_stood_59 rfl (lv_at hl 0 rfl) ?_
            refine lv_iload hx hb dX9_stood_60 (lv_at hl 6 rfl) ?_
            refine lv_iconst (v := nI 0) hx hb dX9_stood_62 rfl ?_
            refine cViV [.int (nI i), .int (nI 0)] [] FX hK (c_X9_fellAll l D y a hA (fA P1 (nI (2 ^ t - 1)) (nI 1) t) t (nI i) (nI 0) hI.tt hI.t8 (fA_FB hR.2.2.2.2.2.2.2.2.2 (Or.inr rfl) _ _) (Or.inl rfl)) (cwV 2 hts gX9_stood_X9_fellAll rfl rfl rfl (by decide +kernel) ⟨Nat.le_of_ble_eq_true rfl, Nat.le_of_ble_eq_true rfl⟩) hP (pre_recv hK hP (ci := 9) (q0 := 0) rfl rfl) rfl rfl hl (Nat.le_of_ble_eq_true rfl) dX9_stood_63 ⟨Nat.zero_le _, Nat.zero_le _⟩ hS (fun _ h => h) (fun u63 H locs hp63 hP hS _ _ => ?_)
            have hR2 := hR1.stw hC (i := i) (by omega)
            refine lv_aload_n hx hb dX9_stood_66 rfl (lv_at hl 0 rfl) ?_
            refine cViI [] [] FX hK (c_X9_areSo l D y a hA (fA (fA P1 (nI (2 ^ t - 1)) (nI 1) t) (nI i) (nI 0) t) (pg C 4 (nI (2 ^ t - 1 - i))) w cN n t rd hR2 (show IP (pg C 4 (nI (2 ^ t - 1 - i))) w cN n t from hC) hc1 (show RD (pg C 4 (nI (2 ^ t - 1 - i))) n rd from hr)) (cwV 0 hts gX9_stood_X9_areSo rfl rfl rfl (by decide +kernel) ⟨Nat.le_of_ble_eq_true rfl, Nat.le_of_ble_eq_true rfl⟩) hP (pre_recv hK hP (ci := 9) (q0 := 0) rfl rfl) rfl rfl hl (Nat.le_of_ble_eq_true rfl) dX9_stood_67 ⟨Nat.zero_le _, Nat.zero_le _⟩ hS (fun _ h => h) (fun r67 u67 H locs hp67 hP hS _ _ => ?_)
            obtain rfl := hp67
            refine xn_to hx (z := b2 (soS C w n rd (C.1 6) (flS t i))) (b2_iff Iff.rfl) ?_
            refine xb_eq (tgt := 90) hx hb dX9_stood_70 (by decide) (fun c70 => ?_) (fun c70 => ?_)
            · refine lv_iinc (v := nI (i + 1)) (lv' := [(6, .int (nI (i + 1))), (0, .ref (a 0)), (1, .int wh), (2, .int (C.1 4)), (3, .int (nI (2 ^ t - 1))), (4, .int (nI (cn (fun s => soS C w n rd (C.1 6) (flS t s)) i))), (5, .int (fsI (fun s => fnd (soS C w n rd (C.1 6) (flS t s)) s) i))]) hx hb dX9_stood_90 hl (k := 6) rfl (xn_inc i 1) (by decide) rfl (fun ls hl => ?_)
              refine lv_goto (tgt := 47) hx hb dX9_stood_93 (by decide) ?_
              rw [← cn_f (p := (fun s => soS C w n rd (C.1 6) (flS t s))) (n := i) c70] at hl
              have e9 : fsI (fun s => fnd (soS C w n rd (C.1 6) (flS t s)) s) (i + 1) = fsI (fun s => fnd (soS C w n rd (C.1 6) (flS t s)) s) i := by
                by_cases y : fsI (fun s => fnd (soS C w n rd (C.1 6) (flS t s)) s) i = -9
                · rw [fsI_next y, y]; exact fnd_f c70
                · exact cif_f y
              rw [← e9] at hl
              exact ih47 (i + 1) (nI (2 ^ t - 1 - i)) (fA (fA P1 (nI (2 ^ t - 1)) (nI 1) t) (nI i) (nI 0) t) (by omega) hR2 hI (by omega) H locs ls hP hS (lv_sub hl [1, 2, 3, 4, 5, 6, 0] rfl)
            · refine lv_iload hx hb dX9_stood_73 (lv_at hl 4 rfl) ?_
              refine xn_if_ne (tgt := 83) hx hb (by omega) dX9_stood_75 (by decide) (fun c75 => ?_) (fun c75 => ?_)
              · refine lv_iload hx hb dX9_stood_83 (lv_at hl 5 rfl) ?_
                refine lv_istore (lv' := [(5, .int (fsI (fun s => fnd (soS C w n rd (C.1 6) (flS t s)) s) i)), (0, .ref (a 0)), (1, .int wh), (2, .int (C.1 4)), (3, .int (nI (2 ^ t - 1))), (4, .int (nI (cn (fun s => soS C w n rd (C.1 6) (flS t s)) i))), (6, .int (nI i))]) hx hb dX9_stood_85 hl (by decide) rfl (fun ls hl => ?_)
                refine lv_iinc (v := nI (cn (fun s => soS C w n rd (C.1 6) (flS t s)) i + 1)) (lv' := [(4, .int (nI (cn (fun s => soS C w n rd (C.1 6) (flS t s)) i + 1))), (5, .int (fsI (fun s => fnd (soS C w n rd (C.1 6) (flS t s)) s) i)), (0, .ref (a 0)), (1, .int wh), (2, .int (C.1 4)), (3, .int (nI (2 ^ t - 1))), (6, .int (nI i))]) hx hb dX9_stood_87 hl (k := 5) rfl (xn_inc (cn (fun s => soS C w n rd (C.1 6) (flS t s)) i) 1) (by decide) rfl (fun ls hl => ?_)
                refine lv_iinc (v := nI (i + 1)) (lv' := [(6, .int (nI (i + 1))), (4, .int (nI (cn (fun s => soS C w n rd (C.1 6) (flS t s)) i + 1))), (5, .int (fsI (fun s => fnd (soS C w n rd (C.1 6) (flS t s)) s) i)), (0, .ref (a 0)), (1, .int wh), (2, .int (C.1 4)), (3, .int (nI (2 ^ t - 1)))]) hx hb dX9_stood_90 hl (k := 6) rfl (xn_inc i 1) (by decide) rfl (fun ls hl => ?_)
                refine lv_goto (tgt := 47) hx hb dX9_stood_93 (by decide) ?_
                have e9 : fsI (fun s => fnd (soS C w n rd (C.1 6) (flS t s)) s) (i + 1) = fsI (fun s => fnd (soS C w n rd (C.1 6) (flS t s)) s) i := cif_f (cn_fs1 (by omega) c75)
                rw [← cn_t (p := (fun s => soS C w n rd (C.1 6) (flS t s))) (n := i) c70] at hl
                have hl := lv_eqk3 hl e9.symm
                exact ih47 (i + 1) (nI (2 ^ t - 1 - i)) (fA (fA P1 (nI (2 ^ t - 1)) (nI 1) t) (nI i) (nI 0) t) (by omega) hR2 hI (by omega) H locs ls hP hS (lv_sub hl [3, 4, 5, 6, 1, 2, 0] rfl)
              · refine lv_iload hx hb dX9_stood_78 (lv_at hl 6 rfl) ?_
                refine lv_goto (tgt := 85) hx hb dX9_stood_80 (by decide) ?_
                refine lv_istore (lv' := [(5, .int (nI i)), (0, .ref (a 0)), (1, .int wh), (2, .int (C.1 4)), (3, .int (nI (2 ^ t - 1))), (4, .int (nI (cn (fun s => soS C w n rd (C.1 6) (flS t s)) i))), (6, .int (nI i))]) hx hb dX9_stood_85 hl (by decide) rfl (fun ls hl => ?_)
                refine lv_iinc (v := nI (cn (fun s => soS C w n rd (C.1 6) (flS t s)) i + 1)) (lv' := [(4, .int (nI (cn (fun s => soS C w n rd (C.1 6) (flS t s)) i + 1))), (5, .int (nI i)), (0, .ref (a 0)), (1, .int wh), (2, .int (C.1 4)), (3, .int (nI (2 ^ t - 1))), (6, .int (nI i))]) hx hb dX9_stood_87 hl (k := 5) rfl (xn_inc (cn (fun s => soS C w n rd (C.1 6) (flS t s)) i) 1) (by decide) rfl (fun ls hl => ?_)
                refine lv_iinc (v := nI (i + 1)) (lv' := [(6, .int (nI (i + 1))), (4, .int (nI (cn (fun s => soS C w n rd (C.1 6) (flS t s)) i + 1))), (5, .int (nI i)), (0, .ref (a 0)), (1, .int wh), (2, .int (C.1 4)), (3, .int (nI (2 ^ t - 1)))]) hx hb dX9_stood_90 hl (k := 6) rfl (xn_inc i 1) (by decide) rfl (fun ls hl => ?_)
                refine lv_goto (tgt := 47) hx hb dX9_stood_93 (by decide) ?_
                have e9 : fsI (fun s => fnd (soS C w n rd (C.1 6) (flS t s)) s) (i + 1) = nI i := by rw [fsI_next (cn_fs0 c75)]; exact fnd_t c70
                rw [← cn_t (p := (fun s => soS C w n rd (C.1 6) (flS t s))) (n := i) c70] at hl
                have hl := lv_eqk3 hl e9.symm
                exact ih47 (i + 1) (nI (2 ^ t - 1 - i)) (fA (fA P1 (nI (2 ^ t - 1)) (nI 1) t) (nI i) (nI 0) t) (by omega) hR2 hI (by omega) H locs ls hP hS (lv_sub hl [3, 4, 5, 6, 1, 2, 0] rfl)
      exact L47 _ 0 (C.1 4) P (Nat.zero_le _) (by rw [pg_self]; exact hR) hI (Nat.lt_succ_self _) H locs ls hP hS (lv_sub hl [5, 6, 4, 3, 2, 1, 0] rfl)
    · refine lv_bipush (v := (-3)) hx hb dX9_stood_20 rfl ?_
      exact ret H locs 22 ls (-3) P dX9_stood_22 (by unfold ansStood; rw [cif_t c7, cif_f (show ¬ 0 < cN by omega)]; exact ⟨rfl, hR⟩) hP hS
  · refine lv_bipush (v := (-2)) hx hb dX9_stood_10 rfl ?_
    exact ret H locs 12 ls (-2) P dX9_stood_12 (by unfold ansStood; rw [cif_f c7]; exact ⟨rfl, hR⟩) hP hS
