abbrev rmX9_readsLand : Room := { frames := 3, cells := 0, slots := 0, locals := 77 }
set_option maxRecDepth 100000 in
set_option maxHeartbeats 4000000 in
theorem c_X9_readsLand (l : Launch) (D : va_G) (y : Nat → ClassId) (a : Nat → Nat) (hA : CA a 26) (P : PT) (f : Nat → Int32) (b0 n : Nat)  (hf : ∀ q, q < n → P.2 18 (b0 + q) = f q) (hb0 : b0 + n ≤ 400) : CtI l D y yX9_readsLand wsX9_readsLand rmX9_readsLand [.ref (a 0), .int (nI b0), .int (nI n)] (wM y a P) (fun (r : Int32) (P' : PT) => FR2 P P' ∧ r = b2 (TOK f n) ∧ (TOK f n → P'.1 13 = nI (dvl f 1) ∧ P'.1 14 = nI (dvl f 2) ∧ CN (Vw P) (Vw P') f n (dvl f 2) (dvl f 1 * dvl f 2)) ∧ (¬ TOK f n → ∃ pf, pf ≤ n ∧ P'.1 12 = nI pf ∧ FPL f n pf)) (fun P' => wM y a P') (AM a) := by
  refine mkI (cc := cX9_readsLand) (maxL := 5) (ret := some .boolean) RX9 rfl (by decide) rfl (Or.inr ⟨rfl, fun r u h => by rw [h.2.1]; exact b2_01 _⟩) (Nat.le_of_ble_eq_true rfl) ?_
  intro p e s m args below meth c Q FX hK hP ret ls hl
  obtain ⟨hx, hb, hml, hown, hts⟩ := id FX
  have hS : va_S (AM a) s.heap s.heap [] := va_S.rf
  have in9 : ∀ w ∈ wsX90, w ∈ wsX9_readsLand := fun _ h => List.mem_cons_of_mem _ (List.mem_append_right _ (h))
  have hl : lv_has ls 5 [(0, .ref (a 0)), (1, .int (nI b0)), (2, .int (nI n))] := hl
  refine lv_aload_n hx hb dX9_readsLand_0 rfl (lv_at hl 0 rfl) ?_
  refine lv_iconst (v := nI 0) hx hb dX9_readsLand_1 rfl ?_
  refine mp_18 FX hK in9 hP hA hS (List.mem_of_getElem? (i := 1) rfl) dX9_readsLand_2 (fun H locs hP hS => ?_)
  refine lv_aload_n hx hb dX9_readsLand_5 rfl (lv_at hl 0 rfl) ?_
  refine lv_iconst (v := nI 0) hx hb dX9_readsLand_6 rfl ?_
  refine mp_21 FX hK in9 hP hA hS (List.mem_of_getElem? (i := 2) rfl) dX9_readsLand_7 (fun H locs hP hS => ?_)
  refine lv_aload_n hx hb dX9_readsLand_10 rfl (lv_at hl 0 rfl) ?_
  refine lv_iconst (v := nI 0) hx hb dX9_readsLand_11 rfl ?_
  refine mp_22 FX hK in9 hP hA hS (List.mem_of_getElem? (i := 3) rfl) dX9_readsLand_12 (fun H locs hP hS => ?_)
  refine lv_aload_n hx hb dX9_readsLand_15 rfl (lv_at hl 0 rfl) ?_
  refine lv_iload_n hx hb dX9_readsLand_16 rfl (lv_at hl 1 rfl) ?_
  refine lv_iload_n hx hb dX9_readsLand_17 rfl (lv_at hl 2 rfl) ?_
  refine cViI [.int (nI b0), .int (nI n)] [] FX hK (c_X9_codeAt l D y a hA (pg (pg (pg P 12 (nI 0)) 15 (nI 0)) 16 (nI 0)) f b0 n 0 rfl hf hb0 (Nat.zero_le _)) (cwV 2 hts gX9_readsLand_X9_codeAt rfl rfl rfl (by decide +kernel) ⟨Nat.le_of_ble_eq_true rfl, Nat.le_of_ble_eq_true rfl⟩) hP (pre_recv hK hP (ci := 9) (q0 := 0) rfl rfl) rfl rfl hl (Nat.le_of_ble_eq_true rfl) dX9_readsLand_18 ⟨Nat.zero_le _, Nat.zero_le _⟩ hS (fun _ h => h) (fun r18 u18 H locs hp18 hP hS _ _ => ?_)
  obtain rfl := hp18
  refine lv_bipush (v := nI 110) hx hb dX9_readsLand_21 rfl ?_
  refine lv_icmp_ne (tgt := 30) hx hb dX9_readsLand_23 (by decide) (fun c23 => ?_) (fun c23 => ?_)
  · refine lv_iconst (v := nI 0) hx hb dX9_readsLand_30 rfl ?_
    refine lv_istore_n (lv' := [(3, .int (nI 0)), (0, .ref (a 0)), (1, .int (nI b0)), (2, .int (nI n))]) hx hb dX9_readsLand_31 rfl hl (by decide) rfl (fun ls hl => ?_)
    refine lv_aload_n hx hb dX9_readsLand_32 rfl (lv_at hl 1 rfl) ?_
    refine lv_dup hx hb dX9_readsLand_33 rfl ?_
    refine mg_18 FX hK in9 hP (List.mem_of_getElem? (i := 1) rfl) dX9_readsLand_34 ?_
    refine xn_to hx (z := nI 0) rfl ?_
    refine lv_iload_n hx hb dX9_readsLand_37 rfl (lv_at hl 0 rfl) ?_
    refine xn_if_eq (tgt := 45) hx hb (by omega) dX9_readsLand_38 (by decide) (fun c38 => ?_) (fun c38 => ?_)
    · refine lv_iconst (v := nI 0) hx hb dX9_readsLand_45 rfl ?_
      refine xn_iadd (a := 0) (b := 0) hx hb dX9_readsLand_46 ?_
      refine mp_18 FX hK in9 hP hA hS (List.mem_of_getElem? (i := 1) rfl) dX9_readsLand_47 (fun H locs hP hS => ?_)
      refine lv_aload_n hx hb dX9_readsLand_50 rfl (lv_at hl 1 rfl) ?_
      refine lv_iload_n hx hb dX9_readsLand_51 rfl (lv_at hl 0 rfl) ?_
      refine xn_if_eq (tgt := 66) hx hb (by omega) dX9_readsLand_52 (by decide) (fun c52 => ?_) (fun c52 => ?_)
      · refine lv_bipush (v := (-9)) hx hb dX9_readsLand_66 rfl ?_
        refine mp_19 FX hK in9 hP hA hS (List.mem_of_getElem? (i := 4) rfl) dX9_readsLand_68 (fun H locs hP hS => ?_)
        refine lv_aload_n hx hb dX9_readsLand_71 rfl (lv_at hl 1 rfl) ?_
        refine lv_aload_n hx hb dX9_readsLand_72 rfl (lv_at hl 1 rfl) ?_
        refine mg_19 FX hK in9 hP (List.mem_of_getElem? (i := 4) rfl) dX9_readsLand_73 ?_
        refine xn_to hx (z := (-9)) rfl ?_
        refine lv_if_le (tgt := 91) hx hb dX9_readsLand_76 (by decide) (fun c76 => ?_) (fun c76 => ?_)
        · refine lv_bipush (v := (-9)) hx hb dX9_readsLand_91 rfl ?_
          refine mp_20 FX hK in9 hP hA hS (List.mem_of_getElem? (i := 5) rfl) dX9_readsLand_93 (fun H locs hP hS => ?_)
          refine lv_aload_n hx hb dX9_readsLand_96 rfl (lv_at hl 1 rfl) ?_
          refine mg_20 FX hK in9 hP (List.mem_of_getElem? (i := 5) rfl) dX9_readsLand_97 ?_
          refine xn_to hx (z := (-9)) rfl ?_
          refine lv_if_le (tgt := 107) hx hb dX9_readsLand_100 (by decide) (fun c100 => ?_) (fun c100 => ?_)
          · refine lv_iconst (v := nI 0) hx hb dX9_readsLand_107 rfl ?_
            refine lv_istore_n (lv' := [(3, .int (nI 0)), (0, .ref (a 0)), (1, .int (nI b0)), (2, .int (nI n))]) hx hb dX9_readsLand_108 rfl hl (by decide) rfl (fun ls hl => ?_)
            refine lv_iconst (v := nI 0) hx hb dX9_readsLand_109 rfl ?_
            refine lv_istore (lv' := [(4, .int (nI 0)), (3, .int (nI 0)), (0, .ref (a 0)), (1, .int (nI b0)), (2, .int (nI n))]) hx hb dX9_readsLand_110 hl (by decide) rfl (fun ls hl => ?_)
            refine lv_iload_n hx hb dX9_readsLand_112 rfl (lv_at hl 1 rfl) ?_
            refine xn_if_eq (tgt := 202) hx hb (by omega) dX9_readsLand_113 (by decide) (fun c113 => ?_) (fun c113 => ?_)
            · refine lv_iload_n hx hb dX9_readsLand_202 rfl (lv_at hl 1 rfl) ?_
              refine xn_if_eq (tgt := 218) hx hb (by omega) dX9_readsLand_203 (by decide) (fun c203 => ?_) (fun c203 => ?_)
              · refine lv_iconst (v := nI 0) hx hb dX9_readsLand_218 rfl ?_
                exact ret H locs 219 ls (nI 0) (pg (pg (pg (pg (pg (pg P 12 (nI 0)) 15 (nI 0)) 16 (nI 0)) 12 (nI (0 + 0))) 13 (-9)) 14 (-9)) dX9_readsLand_219 (by have fp : FPL f n 0 := Or.inl ⟨fun z => c23 ((cdv_ch (by decide)).mpr z), rfl⟩; have h1 : 0 ≤ n := Nat.zero_le _; have h2 : (pg (pg (pg (pg (pg (pg P 12 (nI 0)) 15 (nI 0)) 16 (nI 0)) 12 (nI (0 + 0))) 13 (-9)) 14 (-9)).1 12 = nI 0 := rfl; exact ⟨(by repeat (first | exact FR2.rf _ | exact hFR | refine FR2.g ?_ (by decide) _)), b2_0 (FPL_not fp), fun z => absurd z (FPL_not fp), fun _ => ⟨_, h1, h2, fp⟩⟩) hP hS
              · exact absurd c203 (by decide)
            · exact absurd c113 (by decide)
          · exact absurd (by decide) c100
        · exact absurd (by decide) c76
      · exact absurd c52 (by decide)
    · exact absurd c38 (by decide)
  · have k23 := (cdv_ch (by decide)).mp c23
    refine lv_iconst (v := nI 1) hx hb dX9_readsLand_26 rfl ?_
    refine lv_goto (tgt := 31) hx hb dX9_readsLand_27 (by decide) ?_
    refine lv_istore_n (lv' := [(3, .int (nI 1)), (0, .ref (a 0)), (1, .int (nI b0)), (2, .int (nI n))]) hx hb dX9_readsLand_31 rfl hl (by decide) rfl (fun ls hl => ?_)
    refine lv_aload_n hx hb dX9_readsLand_32 rfl (lv_at hl 1 rfl) ?_
    refine lv_dup hx hb dX9_readsLand_33 rfl ?_
    refine mg_18 FX hK in9 hP (List.mem_of_getElem? (i := 1) rfl) dX9_readsLand_34 ?_
    refine xn_to hx (z := nI 0) rfl ?_
    refine lv_iload_n hx hb dX9_readsLand_37 rfl (lv_at hl 0 rfl) ?_
    refine xn_if_eq (tgt := 45) hx hb (by omega) dX9_readsLand_38 (by decide) (fun c38 => ?_) (fun c38 => ?_)
    · exact absurd c38 (by decide)
    · refine lv_iconst (v := nI 1) hx hb dX9_readsLand_41 rfl ?_
      refine lv_goto (tgt := 46) hx hb dX9_readsLand_42 (by decide) ?_
      refine xn_iadd (a := 0) (b := 1) hx hb dX9_readsLand_46 ?_
      refine mp_18 FX hK in9 hP hA hS (List.mem_of_getElem? (i := 1) rfl) dX9_readsLand_47 (fun H locs hP hS => ?_)
      refine lv_aload_n hx hb dX9_readsLand_50 rfl (lv_at hl 1 rfl) ?_
      refine lv_iload_n hx hb dX9_readsLand_51 rfl (lv_at hl 0 rfl) ?_
      refine xn_if_eq (tgt := 66) hx hb (by omega) dX9_readsLand_52 (by decide) (fun c52 => ?_) (fun c52 => ?_)
      · exact absurd c52 (by decide)
      · refine lv_aload_n hx hb dX9_readsLand_55 rfl (lv_at hl 1 rfl) ?_
        refine lv_iload_n hx hb dX9_readsLand_56 rfl (lv_at hl 2 rfl) ?_
        refine lv_iload_n hx hb dX9_readsLand_57 rfl (lv_at hl 3 rfl) ?_
        refine lv_iconst (v := nI 1) hx hb dX9_readsLand_58 rfl ?_
        refine lv_iconst (v := nI 5) hx hb dX9_readsLand_59 rfl ?_
        refine cViI [.int (nI b0), .int (nI n), .int (nI 1), .int (nI 5)] [.ref (a 0)] FX hK (c_X9_figure l D y a hA (pg (pg (pg (pg P 12 (nI 0)) 15 (nI 0)) 16 (nI 0)) 12 (nI (0 + 1))) f b0 n 1 1 5 rfl hf hb0 (show 1 ≤ n from (cdv_ch (by decide)).mp c23 |>.1) (by decide) (by decide)) (cwV 4 hts gX9_readsLand_X9_figure rfl rfl rfl (by decide +kernel) ⟨Nat.le_of_ble_eq_true rfl, Nat.le_of_ble_eq_true rfl⟩) hP (pre_recv hK hP (ci := 9) (q0 := 0) rfl rfl) rfl rfl hl (Nat.le_of_ble_eq_true rfl) dX9_readsLand_60 ⟨Nat.zero_le _, Nat.zero_le _⟩ hS (fun _ h => h) (fun r60 u60 H locs hp60 hP hS _ _ => ?_)
        obtain ⟨rfl, rfl⟩ := hp60
        refine lv_goto (tgt := 68) hx hb dX9_readsLand_63 (by decide) ?_
        by_cases d68 : dgt f n 1 1 5
        · rw [cif_t d68] at hP
          refine xn_to hx (z := nI (dvl f 1)) (cif_t d68) ?_
          have bd68 := dgt_v d68 (by decide)
          refine mp_19 FX hK in9 hP hA hS (List.mem_of_getElem? (i := 4) rfl) dX9_readsLand_68 (fun H locs hP hS => ?_)
          refine lv_aload_n hx hb dX9_readsLand_71 rfl (lv_at hl 1 rfl) ?_
          refine lv_aload_n hx hb dX9_readsLand_72 rfl (lv_at hl 1 rfl) ?_
          refine mg_19 FX hK in9 hP (List.mem_of_getElem? (i := 4) rfl) dX9_readsLand_73 ?_
          refine xn_to hx (z := nI (dvl f 1)) rfl ?_
          refine xn_if_le (tgt := 91) hx hb (by omega) dX9_readsLand_76 (by decide) (fun c76 => ?_) (fun c76 => ?_)
          · exact absurd c76 (by omega)
          · refine lv_aload_n hx hb dX9_readsLand_79 rfl (lv_at hl 1 rfl) ?_
            refine lv_iload_n hx hb dX9_readsLand_80 rfl (lv_at hl 2 rfl) ?_
            refine lv_iload_n hx hb dX9_readsLand_81 rfl (lv_at hl 3 rfl) ?_
            refine lv_iconst (v := nI 2) hx hb dX9_readsLand_82 rfl ?_
            refine lv_bipush (v := nI 6) hx hb dX9_readsLand_83 rfl ?_
            refine cViI [.int (nI b0), .int (nI n), .int (nI 2), .int (nI 6)] [.ref (a 0)] FX hK (c_X9_figure l D y a hA (pg (pg (pg (pg (pg (pg P 12 (nI 0)) 15 (nI 0)) 16 (nI 0)) 12 (nI (0 + 1))) 12 (nI 2)) 13 (nI (dvl f 1))) f b0 n 2 2 6 rfl hf hb0 (show 2 ≤ n from d68.1) (by decide) (by decide)) (cwV 4 hts gX9_readsLand_X9_figure rfl rfl rfl (by decide +kernel) ⟨Nat.le_of_ble_eq_true rfl, Nat.le_of_ble_eq_true rfl⟩) hP (pre_recv hK hP (ci := 9) (q0 := 0) rfl rfl) rfl rfl hl (Nat.le_of_ble_eq_true rfl) dX9_readsLand_85 ⟨Nat.zero_le _, Nat.zero_le _⟩ hS (fun _ h => h) (fun r85 u85 H locs hp85 hP hS _ _ => ?_)
            obtain ⟨rfl, rfl⟩ := hp85
            refine lv_goto (tgt := 93) hx hb dX9_readsLand_88 (by decide) ?_
            by_cases d93 : dgt f n 2 2 6
            · rw [cif_t d93] at hP
              refine xn_to hx (z := nI (dvl f 2)) (cif_t d93) ?_
              have bd93 := dgt_v d93 (by decide)
              refine mp_20 FX hK in9 hP hA hS (List.mem_of_getElem? (i := 5) rfl) dX9_readsLand_93 (fun H locs hP hS => ?_)
              refine lv_aload_n hx hb dX9_readsLand_96 rfl (lv_at hl 1 rfl) ?_
              refine mg_20 FX hK in9 hP (List.mem_of_getElem? (i := 5) rfl) dX9_readsLand_97 ?_
              refine xn_to hx (z := nI (dvl f 2)) rfl ?_
              refine xn_if_le (tgt := 107) hx hb (by omega) dX9_readsLand_100 (by decide) (fun c100 => ?_) (fun c100 => ?_)
              · exact absurd c100 (by omega)
              · refine lv_iconst (v := nI 1) hx hb dX9_readsLand_103 rfl ?_
                refine lv_goto (tgt := 108) hx hb dX9_readsLand_104 (by decide) ?_
                refine xn_to hx (z := b2 True) (b2_1 trivial) ?_
                refine lv_istore_n (lv' := [(3, .int (b2 True)), (0, .ref (a 0)), (1, .int (nI b0)), (2, .int (nI n))]) hx hb dX9_readsLand_108 rfl hl (by decide) rfl (fun ls hl => ?_)
                have hn3 : 3 ≤ n := d93.1
                have h30 := row_30 bd68.2.1 bd93.2.1
                have hw2 := bd93.1
                have hw6 := bd93.2.1
                refine lv_iconst (v := nI 0) hx hb dX9_readsLand_109 rfl ?_
                refine lv_istore (lv' := [(4, .int (nI 0)), (3, .int (b2 True)), (0, .ref (a 0)), (1, .int (nI b0)), (2, .int (nI n))]) hx hb dX9_readsLand_110 hl (by decide) rfl (fun ls hl => ?_)
                have L112 : ∀ (N : Nat) (g : Prop) (c0 : Nat) (P1 : PT), (c0 ≤ (dvl f 1 * dvl f 2)) → (P1.1 13 = nI (dvl f 1)) → (P1.1 14 = nI (dvl f 2)) → (FR2 P P1) → (g → (rOK f n (dvl f 2) c0 ∧ P1.1 12 = nI (scn f n (dvl f 2) c0).1 ∧ CN (Vw P) (Vw P1) f n (dvl f 2) c0)) → (¬ g → (∃ pf, pf ≤ n ∧ P1.1 12 = nI pf ∧ rFP f n (dvl f 2) (dvl f 1 * dvl f 2) pf)) → (dvl f 1 * dvl f 2) - c0 < N → ∀ (H : Heap) (locs : List Loc) (ls : Array Slot), va_P D vwCl (wM y a P1) H → va_S (AM a) s.heap H locs → lv_has ls 5 [(0, .ref (a 0)), (1, .int (nI b0)), (2, .int (nI n)), (3, .int (b2 g)), (4, .int (nI c0))] → W p l e rmX9_readsLand s m args below meth c H locs 0 0 Q (F0 m 112 ls []) := by
                  intro N112
                  induction N112 with
                  | zero => intro g c0 P1 hc9 h13 h14 hFR hg1 hg0 hmeas; exact absurd hmeas (Nat.not_lt_zero _)
                  | succ N112 ih112 =>
                    intro g c0 P1 hc9 h13 h14 hFR hg1 hg0 hmeas H locs ls hP hS hl
                    refine lv_iload_n hx hb dX9_readsLand_112 rfl (lv_at hl 3 rfl) ?_
                    refine xb_eq (tgt := 202) hx hb dX9_readsLand_113 (by decide) (fun c113 => ?_) (fun c113 => ?_)
                    · refine lv_iload_n hx hb dX9_readsLand_202 rfl (lv_at hl 3 rfl) ?_
                      refine xb_eq (tgt := 218) hx hb dX9_readsLand_203 (by decide) (fun c203 => ?_) (fun c203 => ?_)
                      · refine lv_iconst (v := nI 0) hx hb dX9_readsLand_218 rfl ?_
                        exact ret H locs 219 ls (nI 0) P1 dX9_readsLand_219 (by obtain ⟨pf, h1, h2, h3⟩ := hg0 c113; have fp : FPL f n pf := Or.inr (Or.inr (Or.inr ⟨k23, d68, d93, Or.inl h3⟩)); exact ⟨(by repeat (first | exact FR2.rf _ | exact hFR | refine FR2.g ?_ (by decide) _)), b2_0 (FPL_not fp), fun z => absurd z (FPL_not fp), fun _ => ⟨_, h1, h2, fp⟩⟩) hP hS
                      · exact absurd c203 c113
                    · obtain ⟨hok1, hpl, hCN⟩ := hg1 c113
                      have hle := scn_le hok1 hn3
                      have hn8 := scn_n hok1
                      have hf : ∀ q, q < n → P1.2 18 (b0 + q) = f q := fun q hq => (hFR.2 18 _ (by decide)).trans (hf q hq)
                      refine lv_iload hx hb dX9_readsLand_116 (lv_at hl 4 rfl) ?_
                      refine lv_aload_n hx hb dX9_readsLand_118 rfl (lv_at hl 0 rfl) ?_
                      refine mg_19 FX hK in9 hP (List.mem_of_getElem? (i := 4) rfl) dX9_readsLand_119 ?_
                      refine xn_to hx (z := nI (dvl f 1)) h13 ?_
                      refine lv_aload_n hx hb dX9_readsLand_122 rfl (lv_at hl 0 rfl) ?_
                      refine mg_20 FX hK in9 hP (List.mem_of_getElem? (i := 5) rfl) dX9_readsLand_123 ?_
                      refine xn_to hx (z := nI (dvl f 2)) h14 ?_
                      refine xn_imul (a := dvl f 1) (b := dvl f 2) hx hb dX9_readsLand_126 ?_
                      refine xn_icmp_ge (tgt := 202) hx hb (by omega) (by omega) dX9_readsLand_127 (by decide) (fun c127 => ?_) (fun c127 => ?_)
                      · refine lv_iload_n hx hb dX9_readsLand_202 rfl (lv_at hl 3 rfl) ?_
                        refine xb_eq (tgt := 218) hx hb dX9_readsLand_203 (by decide) (fun c203 => ?_) (fun c203 => ?_)
                        · exact absurd c113 c203
                        · have hce : c0 = (dvl f 1 * dvl f 2) := Nat.le_antisymm hc9 c127
                          rw [hce] at hg1
                          obtain ⟨hok2, hpl2, hCN2⟩ := hg1 c203
                          have hle2 := scn_le hok2 hn3
                          refine lv_aload_n hx hb dX9_readsLand_206 rfl (lv_at hl 0 rfl) ?_
                          refine mg_18 FX hK in9 hP (List.mem_of_getElem? (i := 1) rfl) dX9_readsLand_207 ?_
                          refine xn_to hx (z := nI ((scn f n (dvl f 2) (dvl f 1 * dvl f 2)).1)) hpl2 ?_
                          refine lv_iload_n hx hb dX9_readsLand_210 rfl (lv_at hl 2 rfl) ?_
                          refine xn_icmp_ne (tgt := 218) hx hb (by omega) (by omega) dX9_readsLand_211 (by decide) (fun c211 => ?_) (fun c211 => ?_)
                          · refine lv_iconst (v := nI 0) hx hb dX9_readsLand_218 rfl ?_
                            exact ret H locs 219 ls (nI 0) P1 dX9_readsLand_219 (by have h1 := hle2; have h2 := hpl2; have fp : FPL f n (scn f n (dvl f 2) (dvl f 1 * dvl f 2)).1 := Or.inr (Or.inr (Or.inr ⟨k23, d68, d93, Or.inr ⟨hok2, c211, rfl⟩⟩)); exact ⟨(by repeat (first | exact FR2.rf _ | exact hFR | refine FR2.g ?_ (by decide) _)), b2_0 (FPL_not fp), fun z => absurd z (FPL_not fp), fun _ => ⟨_, h1, h2, fp⟩⟩) hP hS
                          · refine lv_iconst (v := nI 1) hx hb dX9_readsLand_214 rfl ?_
                            refine lv_goto (tgt := 219) hx hb dX9_readsLand_215 (by decide) ?_
                            exact ret H locs 219 ls (nI 1) P1 dX9_readsLand_219 (by have tk : TOK f n := ⟨k23, d68, d93, hok2, c211⟩; exact ⟨(by repeat (first | exact FR2.rf _ | exact hFR | refine FR2.g ?_ (by decide) _)), b2_1 tk, fun _ => ⟨h13, h14, hCN2⟩, fun z => absurd tk z⟩) hP hS
                      · refine lv_iload hx hb dX9_readsLand_130 (lv_at hl 4 rfl) ?_
                        refine lv_aload_n hx hb dX9_readsLand_132 rfl (lv_at hl 0 rfl) ?_
                        refine mg_20 FX hK in9 hP (List.mem_of_getElem? (i := 5) rfl) dX9_readsLand_133 ?_
                        refine xn_to hx (z := nI (dvl f 2)) h14 ?_
                        refine xn_irem (a := c0) (b := dvl f 2) hx hb (by omega) (by omega) (by omega) dX9_readsLand_136 ?_
                        refine xn_if_ne (tgt := 175) hx hb (Nat.lt_of_le_of_lt (Nat.mod_le _ _) (by omega)) dX9_readsLand_137 (by decide) (fun c137 => ?_) (fun c137 => ?_)
                        · have hq1 := qpl_1 (f := f) (n := n) (c := c0) (w := (dvl f 2)) (by omega)
                          refine lv_iload_n hx hb dX9_readsLand_175 rfl (lv_at hl 3 rfl) ?_
                          refine xb_eq (tgt := 194) hx hb dX9_readsLand_176 (by decide) (fun c176 => ?_) (fun c176 => ?_)
                          · exact absurd c113 c176
                          · refine lv_aload_n hx hb dX9_readsLand_179 rfl (lv_at hl 0 rfl) ?_
                            refine lv_iload_n hx hb dX9_readsLand_180 rfl (lv_at hl 1 rfl) ?_
                            refine lv_iload_n hx hb dX9_readsLand_181 rfl (lv_at hl 2 rfl) ?_
                            refine lv_iload hx hb dX9_readsLand_182 (lv_at hl 4 rfl) ?_
                            have hq2 : P1.1 12 = nI (qpl f n (dvl f 2) c0) := by rw [hq1]; exact hpl
                            have hqn : (qpl f n (dvl f 2) c0) ≤ n := by rw [hq1]; exact hle
                            have hlt : c0 < (dvl f 1 * dvl f 2) := c127
                            refine cViI [.int (nI b0), .int (nI n), .int (nI c0)] [] FX hK (c_X9_readsCell l D y a hA P1 f b0 n (qpl f n (dvl f 2) c0) (hsN f n (dvl f 2) c0) (tsN f n (dvl f 2) c0) c0 hq2 hf hb0 hqn hCN.2.1 hCN.2.2.1 hn8.1 hn8.2 (by omega)) (cwV 3 hts gX9_readsLand_X9_readsCell rfl rfl rfl (by decide +kernel) ⟨Nat.le_of_ble_eq_true rfl, Nat.le_of_ble_eq_true rfl⟩) hP (pre_recv hK hP (ci := 9) (q0 := 0) rfl rfl) rfl rfl hl (Nat.le_of_ble_eq_true rfl) dX9_readsLand_184 ⟨Nat.zero_le _, Nat.zero_le _⟩ hS (fun _ h => h) (fun r184 P2 H locs hp184 hP hS _ _ => ?_)
                            obtain ⟨hFRc, rfl, hMC, hMB⟩ := hp184
                            refine xb_eq (tgt := 194) hx hb dX9_readsLand_187 (by decide) (fun c187 => ?_) (fun c187 => ?_)
                            · refine lv_iconst (v := nI 0) hx hb dX9_readsLand_194 rfl ?_
                              refine xn_to hx (z := b2 False) (b2_0 (fun z => z)) ?_
                              refine lv_istore_n (lv' := [(3, .int (b2 False)), (0, .ref (a 0)), (1, .int (nI b0)), (2, .int (nI n)), (4, .int (nI c0))]) hx hb dX9_readsLand_195 rfl hl (by decide) rfl (fun ls hl => ?_)
                              refine lv_iinc (v := nI (c0 + 1)) (lv' := [(4, .int (nI (c0 + 1))), (3, .int (b2 False)), (0, .ref (a 0)), (1, .int (nI b0)), (2, .int (nI n))]) hx hb dX9_readsLand_196 hl (k := 4) rfl (xn_inc c0 1) (by decide) rfl (fun ls hl => ?_)
                              refine lv_goto (tgt := 112) hx hb dX9_readsLand_199 (by decide) ?_
                              exact ih112 False (c0 + 1) P2 c127 (hFRc.2.1.trans h13) (hFRc.2.2.1.trans h14) (hFR.tr hFRc) (fun z => z.elim) (fun _ => ⟨_, cFP_le hqn, hMB c187, ⟨c0, hlt, hok1, Or.inr ⟨(fun z => by rw [z] at c137; exact absurd c137 (Nat.lt_irrefl 0)), c187, rfl⟩⟩⟩) (Nat.lt_of_lt_of_le (Nat.sub_lt_sub_left c127 (Nat.lt_succ_self c0)) (Nat.lt_succ_iff.mp hmeas)) H locs ls hP hS (lv_sub hl [2, 3, 4, 1, 0] rfl)
                            · refine lv_iconst (v := nI 1) hx hb dX9_readsLand_190 rfl ?_
                              refine lv_goto (tgt := 195) hx hb dX9_readsLand_191 (by decide) ?_
                              refine xn_to hx (z := b2 True) (b2_1 trivial) ?_
                              refine lv_istore_n (lv' := [(3, .int (b2 True)), (0, .ref (a 0)), (1, .int (nI b0)), (2, .int (nI n)), (4, .int (nI c0))]) hx hb dX9_readsLand_195 rfl hl (by decide) rfl (fun ls hl => ?_)
                              refine lv_iinc (v := nI (c0 + 1)) (lv' := [(4, .int (nI (c0 + 1))), (3, .int (b2 True)), (0, .ref (a 0)), (1, .int (nI b0)), (2, .int (nI n))]) hx hb dX9_readsLand_196 hl (k := 4) rfl (xn_inc c0 1) (by decide) rfl (fun ls hl => ?_)
                              refine lv_goto (tgt := 112) hx hb dX9_readsLand_199 (by decide) ?_
                              have hM := hMC c187
                              have okx : okc f n (dvl f 2) c0 := ⟨(fun z => by rw [z] at c137; exact absurd c137 (Nat.lt_irrefl 0)), c187⟩
                              exact ih112 True (c0 + 1) P2 c127 (hFRc.2.1.trans h13) (hFRc.2.2.1.trans h14) (hFR.tr hFRc) (fun _ => ⟨ok_snoc hok1 okx, hM.1, by rw [hM.2]; exact CN_s hCN rfl (fun _ => rfl)⟩) (fun z => absurd trivial z) (Nat.lt_of_lt_of_le (Nat.sub_lt_sub_left c127 (Nat.lt_succ_self c0)) (Nat.lt_succ_iff.mp hmeas)) H locs ls hP hS (lv_sub hl [2, 3, 4, 1, 0] rfl)
                        · have hq1 := qpl_0 (f := f) (n := n) c137
                          refine lv_aload_n hx hb dX9_readsLand_140 rfl (lv_at hl 0 rfl) ?_
                          refine lv_iload_n hx hb dX9_readsLand_141 rfl (lv_at hl 1 rfl) ?_
                          refine lv_iload_n hx hb dX9_readsLand_142 rfl (lv_at hl 2 rfl) ?_
                          refine cViI [.int (nI b0), .int (nI n)] [] FX hK (c_X9_codeAt l D y a hA P1 f b0 n ((scn f n (dvl f 2) c0).1) hpl hf hb0 hle) (cwV 2 hts gX9_readsLand_X9_codeAt rfl rfl rfl (by decide +kernel) ⟨Nat.le_of_ble_eq_true rfl, Nat.le_of_ble_eq_true rfl⟩) hP (pre_recv hK hP (ci := 9) (q0 := 0) rfl rfl) rfl rfl hl (Nat.le_of_ble_eq_true rfl) dX9_readsLand_143 ⟨Nat.zero_le _, Nat.zero_le _⟩ hS (fun _ h => h) (fun r143 u143 H locs hp143 hP hS _ _ => ?_)
                          obtain rfl := hp143
                          refine lv_bipush (v := nI 59) hx hb dX9_readsLand_146 rfl ?_
                          refine lv_icmp_ne (tgt := 155) hx hb dX9_readsLand_148 (by decide) (fun c148 => ?_) (fun c148 => ?_)
                          · have k148 : ¬ chr f n (scn f n (dvl f 2) c0).1 59 := fun z => c148 ((cdv_ch (by decide)).mpr z)
                            refine lv_iconst (v := nI 0) hx hb dX9_readsLand_155 rfl ?_
                            refine lv_istore_n (lv' := [(3, .int (nI 0)), (0, .ref (a 0)), (1, .int (nI b0)), (2, .int (nI n)), (4, .int (nI c0))]) hx hb dX9_readsLand_156 rfl hl (by decide) rfl (fun ls hl => ?_)
                            refine lv_aload_n hx hb dX9_readsLand_157 rfl (lv_at hl 1 rfl) ?_
                            refine lv_dup hx hb dX9_readsLand_158 rfl ?_
                            refine mg_18 FX hK in9 hP (List.mem_of_getElem? (i := 1) rfl) dX9_readsLand_159 ?_
                            refine xn_to hx (z := nI ((scn f n (dvl f 2) c0).1)) hpl ?_
                            refine lv_iload_n hx hb dX9_readsLand_162 rfl (lv_at hl 0 rfl) ?_
                            refine xn_if_eq (tgt := 170) hx hb (by omega) dX9_readsLand_163 (by decide) (fun c163 => ?_) (fun c163 => ?_)
                            · refine lv_iconst (v := nI 0) hx hb dX9_readsLand_170 rfl ?_
                              refine xn_iadd (a := (scn f n (dvl f 2) c0).1) (b := 0) hx hb dX9_readsLand_171 ?_
                              refine mp_18 FX hK in9 hP hA hS (List.mem_of_getElem? (i := 1) rfl) dX9_readsLand_172 (fun H locs hP hS => ?_)
                              refine lv_iload_n hx hb dX9_readsLand_175 rfl (lv_at hl 0 rfl) ?_
                              refine xn_if_eq (tgt := 194) hx hb (by omega) dX9_readsLand_176 (by decide) (fun c176 => ?_) (fun c176 => ?_)
                              · refine lv_iconst (v := nI 0) hx hb dX9_readsLand_194 rfl ?_
                                refine xn_to hx (z := b2 False) (b2_0 (fun z => z)) ?_
                                refine lv_istore_n (lv' := [(3, .int (b2 False)), (0, .ref (a 0)), (1, .int (nI b0)), (2, .int (nI n)), (4, .int (nI c0))]) hx hb dX9_readsLand_195 rfl hl (by decide) rfl (fun ls hl => ?_)
                                refine lv_iinc (v := nI (c0 + 1)) (lv' := [(4, .int (nI (c0 + 1))), (3, .int (b2 False)), (0, .ref (a 0)), (1, .int (nI b0)), (2, .int (nI n))]) hx hb dX9_readsLand_196 hl (k := 4) rfl (xn_inc c0 1) (by decide) rfl (fun ls hl => ?_)
                                refine lv_goto (tgt := 112) hx hb dX9_readsLand_199 (by decide) ?_
                                exact ih112 False (c0 + 1) (pg P1 12 (nI (((scn f n (dvl f 2) c0).1) + 0))) c127 h13 h14 (hFR.g (by decide) _) (fun z => z.elim) (fun _ => ⟨_, hle, rfl, ⟨c0, c127, hok1, Or.inl ⟨c137, k148, rfl⟩⟩⟩) (Nat.lt_of_lt_of_le (Nat.sub_lt_sub_left c127 (Nat.lt_succ_self c0)) (Nat.lt_succ_iff.mp hmeas)) H locs ls hP hS (lv_sub hl [2, 3, 4, 1, 0] rfl)
                              · exact absurd c176 (by decide)
                            · exact absurd c163 (by decide)
                          · have k148 := (cdv_ch (by decide)).mp c148
                            refine lv_iconst (v := nI 1) hx hb dX9_readsLand_151 rfl ?_
                            refine lv_goto (tgt := 156) hx hb dX9_readsLand_152 (by decide) ?_
                            refine lv_istore_n (lv' := [(3, .int (nI 1)), (0, .ref (a 0)), (1, .int (nI b0)), (2, .int (nI n)), (4, .int (nI c0))]) hx hb dX9_readsLand_156 rfl hl (by decide) rfl (fun ls hl => ?_)
                            refine lv_aload_n hx hb dX9_readsLand_157 rfl (lv_at hl 1 rfl) ?_
                            refine lv_dup hx hb dX9_readsLand_158 rfl ?_
                            refine mg_18 FX hK in9 hP (List.mem_of_getElem? (i := 1) rfl) dX9_readsLand_159 ?_
                            refine xn_to hx (z := nI ((scn f n (dvl f 2) c0).1)) hpl ?_
                            refine lv_iload_n hx hb dX9_readsLand_162 rfl (lv_at hl 0 rfl) ?_
                            refine xn_if_eq (tgt := 170) hx hb (by omega) dX9_readsLand_163 (by decide) (fun c163 => ?_) (fun c163 => ?_)
                            · exact absurd c163 (by decide)
                            · refine lv_iconst (v := nI 1) hx hb dX9_readsLand_166 rfl ?_
                              refine lv_goto (tgt := 171) hx hb dX9_readsLand_167 (by decide) ?_
                              refine xn_iadd (a := (scn f n (dvl f 2) c0).1) (b := 1) hx hb dX9_readsLand_171 ?_
                              refine mp_18 FX hK in9 hP hA hS (List.mem_of_getElem? (i := 1) rfl) dX9_readsLand_172 (fun H locs hP hS => ?_)
                              refine lv_iload_n hx hb dX9_readsLand_175 rfl (lv_at hl 0 rfl) ?_
                              refine xn_if_eq (tgt := 194) hx hb (by omega) dX9_readsLand_176 (by decide) (fun c176 => ?_) (fun c176 => ?_)
                              · exact absurd c176 (by decide)
                              · refine lv_aload_n hx hb dX9_readsLand_179 rfl (lv_at hl 1 rfl) ?_
                                refine lv_iload_n hx hb dX9_readsLand_180 rfl (lv_at hl 2 rfl) ?_
                                refine lv_iload_n hx hb dX9_readsLand_181 rfl (lv_at hl 3 rfl) ?_
                                refine lv_iload hx hb dX9_readsLand_182 (lv_at hl 4 rfl) ?_
                                have hq2 : (pg P1 12 (nI (((scn f n (dvl f 2) c0).1) + 1))).1 12 = nI (qpl f n (dvl f 2) c0) := by rw [hq1]; rfl
                                have hqn : (qpl f n (dvl f 2) c0) ≤ n := by rw [hq1]; exact k148.1
                                have hlt : c0 < (dvl f 1 * dvl f 2) := c127
                                refine cViI [.int (nI b0), .int (nI n), .int (nI c0)] [] FX hK (c_X9_readsCell l D y a hA (pg P1 12 (nI (((scn f n (dvl f 2) c0).1) + 1))) f b0 n (qpl f n (dvl f 2) c0) (hsN f n (dvl f 2) c0) (tsN f n (dvl f 2) c0) c0 hq2 hf hb0 hqn hCN.2.1 hCN.2.2.1 hn8.1 hn8.2 (by omega)) (cwV 3 hts gX9_readsLand_X9_readsCell rfl rfl rfl (by decide +kernel) ⟨Nat.le_of_ble_eq_true rfl, Nat.le_of_ble_eq_true rfl⟩) hP (pre_recv hK hP (ci := 9) (q0 := 0) rfl rfl) rfl rfl hl (Nat.le_of_ble_eq_true rfl) dX9_readsLand_184 ⟨Nat.zero_le _, Nat.zero_le _⟩ hS (fun _ h => h) (fun r184 P2 H locs hp184 hP hS _ _ => ?_)
                                obtain ⟨hFRc, rfl, hMC, hMB⟩ := hp184
                                refine xb_eq (tgt := 194) hx hb dX9_readsLand_187 (by decide) (fun c187 => ?_) (fun c187 => ?_)
                                · refine lv_iconst (v := nI 0) hx hb dX9_readsLand_194 rfl ?_
                                  refine xn_to hx (z := b2 False) (b2_0 (fun z => z)) ?_
                                  refine lv_istore_n (lv' := [(3, .int (b2 False)), (0, .ref (a 0)), (1, .int (nI b0)), (2, .int (nI n)), (4, .int (nI c0))]) hx hb dX9_readsLand_195 rfl hl (by decide) rfl (fun ls hl => ?_)
                                  refine lv_iinc (v := nI (c0 + 1)) (lv' := [(4, .int (nI (c0 + 1))), (3, .int (b2 False)), (0, .ref (a 0)), (1, .int (nI b0)), (2, .int (nI n))]) hx hb dX9_readsLand_196 hl (k := 4) rfl (xn_inc c0 1) (by decide) rfl (fun ls hl => ?_)
                                  refine lv_goto (tgt := 112) hx hb dX9_readsLand_199 (by decide) ?_
                                  exact ih112 False (c0 + 1) P2 c127 (hFRc.2.1.trans h13) (hFRc.2.2.1.trans h14) ((hFR.g (by decide) _).tr hFRc) (fun z => z.elim) (fun _ => ⟨_, cFP_le hqn, hMB c187, ⟨c0, hlt, hok1, Or.inr ⟨(fun _ => k148), c187, rfl⟩⟩⟩) (Nat.lt_of_lt_of_le (Nat.sub_lt_sub_left c127 (Nat.lt_succ_self c0)) (Nat.lt_succ_iff.mp hmeas)) H locs ls hP hS (lv_sub hl [2, 3, 4, 1, 0] rfl)
                                · refine lv_iconst (v := nI 1) hx hb dX9_readsLand_190 rfl ?_
                                  refine lv_goto (tgt := 195) hx hb dX9_readsLand_191 (by decide) ?_
                                  refine xn_to hx (z := b2 True) (b2_1 trivial) ?_
                                  refine lv_istore_n (lv' := [(3, .int (b2 True)), (0, .ref (a 0)), (1, .int (nI b0)), (2, .int (nI n)), (4, .int (nI c0))]) hx hb dX9_readsLand_195 rfl hl (by decide) rfl (fun ls hl => ?_)
                                  refine lv_iinc (v := nI (c0 + 1)) (lv' := [(4, .int (nI (c0 + 1))), (3, .int (b2 True)), (0, .ref (a 0)), (1, .int (nI b0)), (2, .int (nI n))]) hx hb dX9_readsLand_196 hl (k := 4) rfl (xn_inc c0 1) (by decide) rfl (fun ls hl => ?_)
                                  refine lv_goto (tgt := 112) hx hb dX9_readsLand_199 (by decide) ?_
                                  have hM := hMC c187
                                  have okx : okc f n (dvl f 2) c0 := ⟨(fun _ => k148), c187⟩
                                  exact ih112 True (c0 + 1) P2 c127 (hFRc.2.1.trans h13) (hFRc.2.2.1.trans h14) ((hFR.g (by decide) _).tr hFRc) (fun _ => ⟨ok_snoc hok1 okx, hM.1, by rw [hM.2]; exact CN_s hCN rfl (fun _ => rfl)⟩) (fun z => absurd trivial z) (Nat.lt_of_lt_of_le (Nat.sub_lt_sub_left c127 (Nat.lt_succ_self c0)) (Nat.lt_succ_iff.mp hmeas)) H locs ls hP hS (lv_sub hl [2, 3, 4, 1, 0] rfl)
                exact L112 _ True 0 (pg (pg (pg (pg (pg (pg (pg (pg P 12 (nI 0)) 15 (nI 0)) 16 (nI 0)) 12 (nI (0 + 1))) 12 (nI 2)) 13 (nI (dvl f 1))) 12 (nI 3)) 14 (nI (dvl f 2))) (Nat.zero_le _) rfl rfl (by repeat (first | exact FR2.rf _ | refine FR2.g ?_ (by decide) _)) (fun _ => ⟨fun m hm => absurd hm (Nat.not_lt_zero _), rfl, Vw_0 _ _ rfl rfl⟩) (fun z => absurd trivial z) (Nat.lt_succ_self _) H locs ls hP hS (lv_sub hl [2, 3, 4, 1, 0] rfl)
            · rw [cif_f d93] at hP
              refine xn_to hx (z := (-9)) (cif_f d93) ?_
              refine mp_20 FX hK in9 hP hA hS (List.mem_of_getElem? (i := 5) rfl) dX9_readsLand_93 (fun H locs hP hS => ?_)
              refine lv_aload_n hx hb dX9_readsLand_96 rfl (lv_at hl 1 rfl) ?_
              refine mg_20 FX hK in9 hP (List.mem_of_getElem? (i := 5) rfl) dX9_readsLand_97 ?_
              refine xn_to hx (z := (-9)) rfl ?_
              refine lv_if_le (tgt := 107) hx hb dX9_readsLand_100 (by decide) (fun c100 => ?_) (fun c100 => ?_)
              · refine lv_iconst (v := nI 0) hx hb dX9_readsLand_107 rfl ?_
                refine lv_istore_n (lv' := [(3, .int (nI 0)), (0, .ref (a 0)), (1, .int (nI b0)), (2, .int (nI n))]) hx hb dX9_readsLand_108 rfl hl (by decide) rfl (fun ls hl => ?_)
                refine lv_iconst (v := nI 0) hx hb dX9_readsLand_109 rfl ?_
                refine lv_istore (lv' := [(4, .int (nI 0)), (3, .int (nI 0)), (0, .ref (a 0)), (1, .int (nI b0)), (2, .int (nI n))]) hx hb dX9_readsLand_110 hl (by decide) rfl (fun ls hl => ?_)
                refine lv_iload_n hx hb dX9_readsLand_112 rfl (lv_at hl 1 rfl) ?_
                refine xn_if_eq (tgt := 202) hx hb (by omega) dX9_readsLand_113 (by decide) (fun c113 => ?_) (fun c113 => ?_)
                · refine lv_iload_n hx hb dX9_readsLand_202 rfl (lv_at hl 1 rfl) ?_
                  refine xn_if_eq (tgt := 218) hx hb (by omega) dX9_readsLand_203 (by decide) (fun c203 => ?_) (fun c203 => ?_)
                  · refine lv_iconst (v := nI 0) hx hb dX9_readsLand_218 rfl ?_
                    exact ret H locs 219 ls (nI 0) (pg (pg (pg (pg (pg (pg (pg P 12 (nI 0)) 15 (nI 0)) 16 (nI 0)) 12 (nI (0 + 1))) 12 (nI 2)) 13 (nI (dvl f 1))) 14 (-9)) dX9_readsLand_219 (by have fp : FPL f n 2 := Or.inr (Or.inr (Or.inl ⟨k23, d68, d93, rfl⟩)); have h1 : 2 ≤ n := d68.1; have h2 : (pg (pg (pg (pg (pg (pg (pg P 12 (nI 0)) 15 (nI 0)) 16 (nI 0)) 12 (nI (0 + 1))) 12 (nI 2)) 13 (nI (dvl f 1))) 14 (-9)).1 12 = nI 2 := rfl; exact ⟨(by repeat (first | exact FR2.rf _ | exact hFR | refine FR2.g ?_ (by decide) _)), b2_0 (FPL_not fp), fun z => absurd z (FPL_not fp), fun _ => ⟨_, h1, h2, fp⟩⟩) hP hS
                  · exact absurd c203 (by decide)
                · exact absurd c113 (by decide)
              · exact absurd (by decide) c100
        · rw [cif_f d68] at hP
          refine xn_to hx (z := (-9)) (cif_f d68) ?_
          refine mp_19 FX hK in9 hP hA hS (List.mem_of_getElem? (i := 4) rfl) dX9_readsLand_68 (fun H locs hP hS => ?_)
          refine lv_aload_n hx hb dX9_readsLand_71 rfl (lv_at hl 1 rfl) ?_
          refine lv_aload_n hx hb dX9_readsLand_72 rfl (lv_at hl 1 rfl) ?_
          refine mg_19 FX hK in9 hP (List.mem_of_getElem? (i := 4) rfl) dX9_readsLand_73 ?_
          refine xn_to hx (z := (-9)) rfl ?_
          refine lv_if_le (tgt := 91) hx hb dX9_readsLand_76 (by decide) (fun c76 => ?_) (fun c76 => ?_)
          · refine lv_bipush (v := (-9)) hx hb dX9_readsLand_91 rfl ?_
            refine mp_20 FX hK in9 hP hA hS (List.mem_of_getElem? (i := 5) rfl) dX9_readsLand_93 (fun H locs hP hS => ?_)
            refine lv_aload_n hx hb dX9_readsLand_96 rfl (lv_at hl 1 rfl) ?_
            refine mg_20 FX hK in9 hP (List.mem_of_getElem? (i := 5) rfl) dX9_readsLand_97 ?_
            refine xn_to hx (z := (-9)) rfl ?_
            refine lv_if_le (tgt := 107) hx hb dX9_readsLand_100 (by decide) (fun c100 => ?_) (fun c100 => ?_)
            · refine lv_iconst (v := nI 0) hx hb dX9_readsLand_107 rfl ?_
              refine lv_istore_n (lv' := [(3, .int (nI 0)), (0, .ref (a 0)), (1, .int (nI b0)), (2, .int (nI n))]) hx hb dX9_readsLand_108 rfl hl (by decide) rfl (fun ls hl => ?_)
              refine lv_iconst (v := nI 0) hx hb dX9_readsLand_109 rfl ?_
              refine lv_istore (lv' := [(4, .int (nI 0)), (3, .int (nI 0)), (0, .ref (a 0)), (1, .int (nI b0)), (2, .int (nI n))]) hx hb dX9_readsLand_110 hl (by decide) rfl (fun ls hl => ?_)
              refine lv_iload_n hx hb dX9_readsLand_112 rfl (lv_at hl 1 rfl) ?_
              refine xn_if_eq (tgt := 202) hx hb (by omega) dX9_readsLand_113 (by decide) (fun c113 => ?_) (fun c113 => ?_)
              · refine lv_iload_n hx hb dX9_readsLand_202 rfl (lv_at hl 1 rfl) ?_
                refine xn_if_eq (tgt := 218) hx hb (by omega) dX9_readsLand_203 (by decide) (fun c203 => ?_) (fun c203 => ?_)
                · refine lv_iconst (v := nI 0) hx hb dX9_readsLand_218 rfl ?_
                  exact ret H locs 219 ls (nI 0) (pg (pg (pg (pg (pg (pg P 12 (nI 0)) 15 (nI 0)) 16 (nI 0)) 12 (nI (0 + 1))) 13 (-9)) 14 (-9)) dX9_readsLand_219 (by have fp : FPL f n 1 := Or.inr (Or.inl ⟨k23, d68, rfl⟩); have h1 : 1 ≤ n := k23.1; have h2 : (pg (pg (pg (pg (pg (pg P 12 (nI 0)) 15 (nI 0)) 16 (nI 0)) 12 (nI (0 + 1))) 13 (-9)) 14 (-9)).1 12 = nI 1 := rfl; exact ⟨(by repeat (first | exact FR2.rf _ | exact hFR | refine FR2.g ?_ (by decide) _)), b2_0 (FPL_not fp), fun z => absurd z (FPL_not fp), fun _ => ⟨_, h1, h2, fp⟩⟩) hP hS
                · exact absurd c203 (by decide)
              · exact absurd c113 (by decide)
            · exact absurd (by decide) c100
          · exact absurd (by decide) c76

abbrev rmX9_land : Room := { frames := 4, cells := 0, slots := 0, locals := 101 }
set_option maxRecDepth 100000 in
set_option maxHeartbeats 4000000 in
theorem c_X9_land (l : Launch) (D : va_G) (y : Nat → ClassId) (a : Nat → Nat) (hA : CA a 26) (P : PT) (C : PT) (x lane i0 n0 : Int32)  (hR : RQ C P) (hsh : SH C) : CtI l D y yX9_land wsX9_land rmX9_land [.ref (a 0), .int x, .int lane, .int i0, .int n0] (wM y a P) (fun (r : Int32) (P' : PT) => ∀ r' C', LR C x lane i0 n0 r' C' → r = r' ∧ RQ C' P') (fun P' => wM y a P') (AM a) := by
  refine mkI (cc := cX9_land) (maxL := 6) (ret := some .int) RX9 rfl (by decide) rfl (Or.inl rfl) (Nat.le_of_ble_eq_true rfl) ?_
  intro p e s m args below meth c Q FX hK hP ret ls hl
  obtain ⟨hx, hb, hml, hown, hts⟩ := id FX
  have hS : va_S (AM a) s.heap s.heap [] := va_S.rf
  have in9 : ∀ w ∈ wsX90, w ∈ wsX9_land := fun _ h => List.mem_cons_of_mem _ (List.mem_append_right _ (h))
  have hl : lv_has ls 6 [(0, .ref (a 0)), (1, .int x), (2, .int lane), (3, .int i0), (4, .int n0)] := hl
  refine lv_iload_n hx hb dX9_land_0 rfl (lv_at hl 1 rfl) ?_
  refine cStI [.int x] [] FX hK (c_X9_noSheet l D y x) (va_cwS 1 hts gX9_land_X9_noSheet rfl rfl rfl (by decide +kernel) ⟨Nat.le_of_ble_eq_true rfl, Nat.le_of_ble_eq_true rfl⟩) rfl rfl hl (Nat.le_of_ble_eq_true rfl) dX9_land_1 ⟨Nat.zero_le _, Nat.zero_le _⟩ hP hS (fun r1 H locs hp1 hP hS => ?_)
  obtain rfl := hp1
  refine xb_eq (tgt := 13) hx hb dX9_land_4 (by decide) (fun c4 => ?_) (fun c4 => ?_)
  · have k4 : inN 4 x := Classical.not_not.mp c4
    obtain ⟨j, hj, ej⟩ := id k4
    subst ej
    refine lv_iload_n hx hb dX9_land_13 rfl (lv_at hl 2 rfl) ?_
    refine lv_i2l hx hb dX9_land_14 rfl ?_
    refine lv_lconst (v := 0) hx hb dX9_land_15 rfl ?_
    refine lv_ldc2 hx hb hown (hts _ (List.mem_of_getElem? (i := 1) rfl)) dX9_land_16 ?_
    refine cStI [.long (lane.toInt64), .long 0, .long (2)] [] FX hK (c_X9_in l D y (lane.toInt64) 0 (2)) (va_cwS 3 hts gX9_land_X9_in rfl rfl rfl (by decide +kernel) ⟨Nat.le_of_ble_eq_true rfl, Nat.le_of_ble_eq_true rfl⟩) rfl rfl hl (Nat.le_of_ble_eq_true rfl) dX9_land_19 ⟨Nat.zero_le _, Nat.zero_le _⟩ hP hS (fun r19 H locs hp19 hP hS => ?_)
    obtain rfl := hp19
    refine xn_to hx (z := b2 (inR 0 2 lane)) (b2_iff (in_R (lo := 0) (hi := 2) rfl rfl (by decide))) ?_
    refine xb_ne (tgt := 32) hx hb dX9_land_22 (by decide) (fun c22 => ?_) (fun c22 => ?_)
    · refine lv_aload_n hx hb dX9_land_32 rfl (lv_at hl 0 rfl) ?_
      refine mg_36 FX hK in9 hP (List.mem_of_getElem? (i := 2) rfl) dX9_land_33 ?_
      refine lv_iload_n hx hb dX9_land_36 rfl (lv_at hl 1 rfl) ?_
      refine ma22 (i := j) (by omega) FX hK hP dX9_land_37 ?_
      refine xn_to hx (z := C.2 13 j) (hR.shv (k := 13) (q := j) (by omega) (by decide) (by decide)) ?_
      refine lv_if_lt (tgt := 57) hx hb dX9_land_38 (by decide) (fun c38 => ?_) (fun c38 => ?_)
      · refine lv_aload_n hx hb dX9_land_57 rfl (lv_at hl 0 rfl) ?_
        refine mg_36 FX hK in9 hP (List.mem_of_getElem? (i := 2) rfl) dX9_land_58 ?_
        refine lv_iload_n hx hb dX9_land_61 rfl (lv_at hl 1 rfl) ?_
        refine ma22 (i := j) (by omega) FX hK hP dX9_land_62 ?_
        refine xn_to hx (z := C.2 13 j) (hR.shv (k := 13) (q := j) (by omega) (by decide) (by decide)) ?_
        refine lv_if_ge (tgt := 72) hx hb dX9_land_63 (by decide) (fun c63 => ?_) (fun c63 => ?_)
        · exact absurd (ge_nlt c63) (fun z => z c38)
        · refine lv_aload_n hx hb dX9_land_66 rfl (lv_at hl 0 rfl) ?_
          refine lv_iconst (v := nI 1) hx hb dX9_land_67 rfl ?_
          refine cViI [.int (nI 1)] [] FX hK (c_X9_failed l D y a hA P (nI 1)) (cwV 1 hts gX9_land_X9_failed rfl rfl rfl (by decide +kernel) ⟨Nat.le_of_ble_eq_true rfl, Nat.le_of_ble_eq_true rfl⟩) hP (pre_recv hK hP (ci := 9) (q0 := 0) rfl rfl) rfl rfl hl (Nat.le_of_ble_eq_true rfl) dX9_land_68 ⟨Nat.zero_le _, Nat.zero_le _⟩ hS (fun _ h => h) (fun r68 u68 H locs hp68 hP hS _ _ => ?_)
          obtain rfl := hp68
          exact ret H locs 71 ls ((-10) - (nI 1)) (pg P 10 (nI 1)) dX9_land_71 (fun r9 C9 hLR => by have z9 : nI 1 = lfl C j lane i0 n0 := (show fas C j lane = nI 1 from by unfold fas; rw [cif_f (fun z => z (sh_lt hsh hj c63))]).symm.trans (lfl_1 (by unfold fas; rw [cif_f (fun z => z (sh_lt hsh hj c63))]; decide)); have t9 := LR_3 hj hLR c22 (by rw [← z9]; decide); rw [← z9] at t9; rw [t9.1, t9.2]; exact ⟨rfl, hR.wpg (by omega) _⟩) hP hS
      · refine lv_aload_n hx hb dX9_land_41 rfl (lv_at hl 0 rfl) ?_
        refine mg_37 FX hK in9 hP (List.mem_of_getElem? (i := 3) rfl) dX9_land_42 ?_
        refine lv_iload_n hx hb dX9_land_45 rfl (lv_at hl 1 rfl) ?_
        refine ma23 (i := j) (by omega) FX hK hP dX9_land_46 ?_
        refine xn_to hx (z := C.2 12 j) (hR.shv (k := 12) (q := j) (by omega) (by decide) (by decide)) ?_
        refine lv_iload_n hx hb dX9_land_47 rfl (lv_at hl 2 rfl) ?_
        refine lv_icmp_eq (tgt := 57) hx hb dX9_land_48 (by decide) (fun c48 => ?_) (fun c48 => ?_)
        · refine lv_aload_n hx hb dX9_land_57 rfl (lv_at hl 0 rfl) ?_
          refine mg_36 FX hK in9 hP (List.mem_of_getElem? (i := 2) rfl) dX9_land_58 ?_
          refine lv_iload_n hx hb dX9_land_61 rfl (lv_at hl 1 rfl) ?_
          refine ma22 (i := j) (by omega) FX hK hP dX9_land_62 ?_
          refine xn_to hx (z := C.2 13 j) (hR.shv (k := 13) (q := j) (by omega) (by decide) (by decide)) ?_
          refine lv_if_ge (tgt := 72) hx hb dX9_land_63 (by decide) (fun c63 => ?_) (fun c63 => ?_)
          · have k63 := sh_ge0 c63
            obtain ⟨m1, hm1, hs1⟩ := sh_nn hsh hj k63
            refine lv_iload hx hb dX9_land_72 (lv_at hl 4 rfl) ?_
            refine lv_if_ge (tgt := 83) hx hb dX9_land_74 (by decide) (fun c74 => ?_) (fun c74 => ?_)
            · refine lv_iload_n hx hb dX9_land_83 rfl (lv_at hl 3 rfl) ?_
              refine lv_iload hx hb dX9_land_84 (lv_at hl 4 rfl) ?_
              refine lv_i2l hx hb dX9_land_86 rfl ?_
              refine lv_aload_n hx hb dX9_land_87 rfl (lv_at hl 0 rfl) ?_
              refine mg_36 FX hK in9 hP (List.mem_of_getElem? (i := 2) rfl) dX9_land_88 ?_
              refine lv_iload_n hx hb dX9_land_91 rfl (lv_at hl 1 rfl) ?_
              refine ma22 (i := j) (by omega) FX hK hP dX9_land_92 ?_
              refine xn_to hx (z := nI m1) ((hR.shv (k := 13) (q := j) (by omega) (by decide) (by decide)).trans hs1) ?_
              refine cStI [.int i0, .long (n0.toInt64), .int (nI m1)] [] FX hK (c_X9_isBeyond l D y i0 n0 m1 (by omega)) (va_cwS 3 hts gX9_land_X9_isBeyond rfl rfl rfl (by decide +kernel) ⟨Nat.le_of_ble_eq_true rfl, Nat.le_of_ble_eq_true rfl⟩) rfl rfl hl (Nat.le_of_ble_eq_true rfl) dX9_land_93 ⟨Nat.zero_le _, Nat.zero_le _⟩ hP hS (fun r93 H locs hp93 hP hS => ?_)
              obtain rfl := hp93
              refine xn_to hx (z := b2 (¬ inRun i0 n0 (C.2 13 j))) (by rw [hs1]) ?_
              refine xb_eq (tgt := 105) hx hb dX9_land_96 (by decide) (fun c96 => ?_) (fun c96 => ?_)
              · have k96 := Classical.not_not.mp c96
                have hf0 : fas C j lane = 0 := by unfold fas; rw [cif_t k63, cif_t c48]; rfl
                have hlf : lfl C j lane i0 n0 = 0 := lfl_0 hf0 (ge_nlt c74) k96
                obtain ⟨ii, nn, s1, h1, h2, e1, e2, h3⟩ := inRun_nat hsh hj k63 k96
                subst e1
                subst e2
                refine lv_aload_n hx hb dX9_land_105 rfl (lv_at hl 0 rfl) ?_
                refine lv_bipush (v := nI 100) hx hb dX9_land_106 rfl ?_
                refine lv_iload_n hx hb dX9_land_108 rfl (lv_at hl 1 rfl) ?_
                refine xn_imul (a := 100) (b := j) hx hb dX9_land_109 ?_
                refine lv_iload_n hx hb dX9_land_110 rfl (lv_at hl 3 rfl) ?_
                refine xn_iadd (a := 100 * j) (b := ii) hx hb dX9_land_111 ?_
                refine lv_iload hx hb dX9_land_112 (lv_at hl 4 rfl) ?_
                refine cViI [.int (nI ((100 * j) + ii)), .int (nI nn)] [] FX hK (c_X9_readsLand l D y a hA P (tf C j ii) ((100 * j) + ii) nn (fun q hq => (by rw [Nat.add_assoc]; exact hR.shc hj (by omega))) (by omega)) (cwV 2 hts gX9_land_X9_readsLand rfl rfl rfl (by decide +kernel) ⟨Nat.le_of_ble_eq_true rfl, Nat.le_of_ble_eq_true rfl⟩) hP (pre_recv hK hP (ci := 9) (q0 := 0) rfl rfl) rfl rfl hl (Nat.le_of_ble_eq_true rfl) dX9_land_114 ⟨Nat.zero_le _, Nat.zero_le _⟩ hS (fun _ h => h) (fun r114 P2 H locs hp114 hP hS _ _ => ?_)
                obtain ⟨hFR, rfl, hTK, hTF⟩ := hp114
                refine xb_ne (tgt := 132) hx hb dX9_land_117 (by decide) (fun c117 => ?_) (fun c117 => ?_)
                · obtain ⟨hk13, hk14, hCN⟩ := hTK c117
                  have hdim := TOK_dim c117
                  have h30 := row_30 hdim.2.1 hdim.2.2.2
                  have hn8 := scn_n c117.2.2.2.1
                  refine lv_aload_n hx hb dX9_land_132 rfl (lv_at hl 0 rfl) ?_
                  refine lv_aload_n hx hb dX9_land_133 rfl (lv_at hl 0 rfl) ?_
                  refine mg_19 FX hK in9 hP (List.mem_of_getElem? (i := 5) rfl) dX9_land_134 ?_
                  refine xn_to hx (z := nI (dvl (tf C j ii) 1)) hk13 ?_
                  refine mp_1 FX hK in9 hP hA hS (List.mem_of_getElem? (i := 6) rfl) dX9_land_137 (fun H locs hP hS => ?_)
                  refine lv_aload_n hx hb dX9_land_140 rfl (lv_at hl 0 rfl) ?_
                  refine lv_aload_n hx hb dX9_land_141 rfl (lv_at hl 0 rfl) ?_
                  refine mg_20 FX hK in9 hP (List.mem_of_getElem? (i := 7) rfl) dX9_land_142 ?_
                  refine xn_to hx (z := nI (dvl (tf C j ii) 2)) hk14 ?_
                  refine mp_2 FX hK in9 hP hA hS (List.mem_of_getElem? (i := 8) rfl) dX9_land_145 (fun H locs hP hS => ?_)
                  refine lv_aload_n hx hb dX9_land_148 rfl (lv_at hl 0 rfl) ?_
                  refine lv_aload_n hx hb dX9_land_149 rfl (lv_at hl 0 rfl) ?_
                  refine mg_21 FX hK in9 hP (List.mem_of_getElem? (i := 9) rfl) dX9_land_150 ?_
                  refine xn_to hx (z := nI (hsN (tf C j ii) nn (dvl (tf C j ii) 2) (dvl (tf C j ii) 1 * dvl (tf C j ii) 2))) hCN.2.1 ?_
                  refine mp_6 FX hK in9 hP hA hS (List.mem_of_getElem? (i := 10) rfl) dX9_land_153 (fun H locs hP hS => ?_)
                  refine lv_aload_n hx hb dX9_land_156 rfl (lv_at hl 0 rfl) ?_
                  refine lv_aload_n hx hb dX9_land_157 rfl (lv_at hl 0 rfl) ?_
                  refine mg_22 FX hK in9 hP (List.mem_of_getElem? (i := 11) rfl) dX9_land_158 ?_
                  refine xn_to hx (z := nI (tsN (tf C j ii) nn (dvl (tf C j ii) 2) (dvl (tf C j ii) 1 * dvl (tf C j ii) 2))) hCN.2.2.1 ?_
                  refine mp_11 FX hK in9 hP hA hS (List.mem_of_getElem? (i := 12) rfl) dX9_land_161 (fun H locs hP hS => ?_)
                  refine lv_iconst (v := nI 0) hx hb dX9_land_164 rfl ?_
                  refine lv_istore (lv' := [(5, .int (nI 0)), (0, .ref (a 0)), (1, .int (nI j)), (2, .int lane), (3, .int (nI ii)), (4, .int (nI nn))]) hx hb dX9_land_165 hl (by decide) rfl (fun ls hl => ?_)
                  have L167 : ∀ (N : Nat) (c0 : Nat), (c0 ≤ (dvl (tf C j ii) 1 * dvl (tf C j ii) 2)) → (dvl (tf C j ii) 1 * dvl (tf C j ii) 2) - c0 < N → ∀ (H : Heap) (locs : List Loc) (ls : Array Slot), va_P D vwCl (wM y a (qa1 (pg (pg (pg (pg P2 11 (nI (dvl (tf C j ii) 1))) 0 (nI (dvl (tf C j ii) 2))) 2 (nI (hsN (tf C j ii) nn (dvl (tf C j ii) 2) (dvl (tf C j ii) 1 * dvl (tf C j ii) 2)))) 3 (nI (tsN (tf C j ii) nn (dvl (tf C j ii) 2) (dvl (tf C j ii) 1 * dvl (tf C j ii) 2)))) c0)) H → va_S (AM a) s.heap H locs → lv_has ls 6 [(0, .ref (a 0)), (5, .int (nI c0))] → W p l e rmX9_land s m args below meth c H locs 0 0 Q (F0 m 167 ls []) := by
                    intro N167
                    induction N167 with
                    | zero => intro c0 hc9 hmeas; exact absurd hmeas (Nat.not_lt_zero _)
                    | succ N167 ih167 =>
                      intro c0 hc9 hmeas H locs ls hP hS hl
                      refine lv_iload hx hb dX9_land_167 (lv_at hl 1 rfl) ?_
                      refine lv_aload_n hx hb dX9_land_169 rfl (lv_at hl 0 rfl) ?_
                      refine cViI [] [.int (nI c0)] FX hK (c_X9_cells l D y a hA (qa1 (pg (pg (pg (pg P2 11 (nI (dvl (tf C j ii) 1))) 0 (nI (dvl (tf C j ii) 2))) 2 (nI (hsN (tf C j ii) nn (dvl (tf C j ii) 2) (dvl (tf C j ii) 1 * dvl (tf C j ii) 2)))) 3 (nI (tsN (tf C j ii) nn (dvl (tf C j ii) 2) (dvl (tf C j ii) 1 * dvl (tf C j ii) 2)))) c0) (dvl (tf C j ii) 2) (dvl (tf C j ii) 1) rfl rfl) (cwV 0 hts gX9_land_X9_cells rfl rfl rfl (by decide +kernel) ⟨Nat.le_of_ble_eq_true rfl, Nat.le_of_ble_eq_true rfl⟩) hP (pre_recv hK hP (ci := 9) (q0 := 0) rfl rfl) rfl rfl hl (Nat.le_of_ble_eq_true rfl) dX9_land_170 ⟨Nat.zero_le _, Nat.zero_le _⟩ hS (fun _ h => h) (fun r170 u170 H locs hp170 hP hS _ _ => ?_)
                      obtain rfl := hp170
                      refine xn_icmp_ge (tgt := 218) hx hb (by omega) (by omega) dX9_land_173 (by decide) (fun c173 => ?_) (fun c173 => ?_)
                      · refine lv_iconst (v := nI 0) hx hb dX9_land_218 rfl ?_
                        refine lv_istore (lv' := [(5, .int (nI 0)), (0, .ref (a 0))]) hx hb dX9_land_219 hl (by decide) rfl (fun ls hl => ?_)
                        have L221 : ∀ (N : Nat) (c0 : Nat), (c0 ≤ (hsN (tf C j ii) nn (dvl (tf C j ii) 2) (dvl (tf C j ii) 1 * dvl (tf C j ii) 2))) → (hsN (tf C j ii) nn (dvl (tf C j ii) 2) (dvl (tf C j ii) 1 * dvl (tf C j ii) 2)) - c0 < N → ∀ (H : Heap) (locs : List Loc) (ls : Array Slot), va_P D vwCl (wM y a (qa2 (qa1 (pg (pg (pg (pg P2 11 (nI (dvl (tf C j ii) 1))) 0 (nI (dvl (tf C j ii) 2))) 2 (nI (hsN (tf C j ii) nn (dvl (tf C j ii) 2) (dvl (tf C j ii) 1 * dvl (tf C j ii) 2)))) 3 (nI (tsN (tf C j ii) nn (dvl (tf C j ii) 2) (dvl (tf C j ii) 1 * dvl (tf C j ii) 2)))) (dvl (tf C j ii) 1 * dvl (tf C j ii) 2)) c0)) H → va_S (AM a) s.heap H locs → lv_has ls 6 [(0, .ref (a 0)), (5, .int (nI c0))] → W p l e rmX9_land s m args below meth c H locs 0 0 Q (F0 m 221 ls []) := by
                          intro N221
                          induction N221 with
                          | zero => intro c0 hc8 hmeas; exact absurd hmeas (Nat.not_lt_zero _)
                          | succ N221 ih221 =>
                            intro c0 hc8 hmeas H locs ls hP hS hl
                            refine lv_iload hx hb dX9_land_221 (lv_at hl 1 rfl) ?_
                            refine lv_aload_n hx hb dX9_land_223 rfl (lv_at hl 0 rfl) ?_
                            refine mg_6 FX hK in9 hP (List.mem_of_getElem? (i := 10) rfl) dX9_land_224 ?_
                            refine xn_to hx (z := nI (hsN (tf C j ii) nn (dvl (tf C j ii) 2) (dvl (tf C j ii) 1 * dvl (tf C j ii) 2))) rfl ?_
                            refine xn_icmp_ge (tgt := 286) hx hb (by omega) (by omega) dX9_land_227 (by decide) (fun c227 => ?_) (fun c227 => ?_)
                            · refine lv_iconst (v := nI 0) hx hb dX9_land_286 rfl ?_
                              refine lv_istore (lv' := [(5, .int (nI 0)), (0, .ref (a 0))]) hx hb dX9_land_287 hl (by decide) rfl (fun ls hl => ?_)
                              have L289 : ∀ (N : Nat) (c0 : Nat), (c0 ≤ (tsN (tf C j ii) nn (dvl (tf C j ii) 2) (dvl (tf C j ii) 1 * dvl (tf C j ii) 2))) → (tsN (tf C j ii) nn (dvl (tf C j ii) 2) (dvl (tf C j ii) 1 * dvl (tf C j ii) 2)) - c0 < N → ∀ (H : Heap) (locs : List Loc) (ls : Array Slot), va_P D vwCl (wM y a (qa3 (qa2 (qa1 (pg (pg (pg (pg P2 11 (nI (dvl (tf C j ii) 1))) 0 (nI (dvl (tf C j ii) 2))) 2 (nI (hsN (tf C j ii) nn (dvl (tf C j ii) 2) (dvl (tf C j ii) 1 * dvl (tf C j ii) 2)))) 3 (nI (tsN (tf C j ii) nn (dvl (tf C j ii) 2) (dvl (tf C j ii) 1 * dvl (tf C j ii) 2)))) (dvl (tf C j ii) 1 * dvl (tf C j ii) 2)) (hsN (tf C j ii) nn (dvl (tf C j ii) 2) (dvl (tf C j ii) 1 * dvl (tf C j ii) 2))) c0)) H → va_S (AM a) s.heap H locs → lv_has ls 6 [(0, .ref (a 0)), (5, .int (nI c0))] → W p l e rmX9_land s m args below meth c H locs 0 0 Q (F0 m 289 ls []) := by
                                intro N289
                                induction N289 with
                                | zero => intro c0 hc7 hmeas; exact absurd hmeas (Nat.not_lt_zero _)
                                | succ N289 ih289 =>
                                  intro c0 hc7 hmeas H locs ls hP hS hl
                                  refine lv_iload hx hb dX9_land_289 (lv_at hl 1 rfl) ?_
                                  refine lv_aload_n hx hb dX9_land_291 rfl (lv_at hl 0 rfl) ?_
                                  refine mg_11 FX hK in9 hP (List.mem_of_getElem? (i := 12) rfl) dX9_land_292 ?_
                                  refine xn_to hx (z := nI (tsN (tf C j ii) nn (dvl (tf C j ii) 2) (dvl (tf C j ii) 1 * dvl (tf C j ii) 2))) rfl ?_
                                  refine xn_icmp_ge (tgt := 340) hx hb (by omega) (by omega) dX9_land_295 (by decide) (fun c295 => ?_) (fun c295 => ?_)
                                  · rw [show c0 = (tsN (tf C j ii) nn (dvl (tf C j ii) 2) (dvl (tf C j ii) 1 * dvl (tf C j ii) 2)) by omega] at hP
                                    refine lv_aload_n hx hb dX9_land_340 rfl (lv_at hl 0 rfl) ?_
                                    refine lv_iconst (v := nI 0) hx hb dX9_land_341 rfl ?_
                                    refine mp_15 FX hK in9 hP hA hS (List.mem_of_getElem? (i := 30) rfl) dX9_land_342 (fun H locs hP hS => ?_)
                                    refine lv_aload_n hx hb dX9_land_345 rfl (lv_at hl 0 rfl) ?_
                                    refine lv_bipush (v := nI 9) hx hb dX9_land_346 rfl ?_
                                    refine mp_16 FX hK in9 hP hA hS (List.mem_of_getElem? (i := 31) rfl) dX9_land_348 (fun H locs hP hS => ?_)
                                    refine lv_aload_n hx hb dX9_land_351 rfl (lv_at hl 0 rfl) ?_
                                    refine lv_iconst (v := nI 0) hx hb dX9_land_352 rfl ?_
                                    refine mp_17 FX hK in9 hP hA hS (List.mem_of_getElem? (i := 32) rfl) dX9_land_353 (fun H locs hP hS => ?_)
                                    refine lv_aload_n hx hb dX9_land_356 rfl (lv_at hl 0 rfl) ?_
                                    refine lv_iconst (v := nI 0) hx hb dX9_land_357 rfl ?_
                                    refine mp_32 FX hK in9 hP hA hS (List.mem_of_getElem? (i := 33) rfl) dX9_land_358 (fun H locs hP hS => ?_)
                                    refine lv_aload_n hx hb dX9_land_361 rfl (lv_at hl 0 rfl) ?_
                                    refine lv_aload_n hx hb dX9_land_362 rfl (lv_at hl 0 rfl) ?_
                                    refine cViI [] [.ref (a 0)] FX hK (c_X9_cells l D y a hA (pg (pg (pg (pg (qa3 (qa2 (qa1 (pg (pg (pg (pg P2 11 (nI (dvl (tf C j ii) 1))) 0 (nI (dvl (tf C j ii) 2))) 2 (nI (hsN (tf C j ii) nn (dvl (tf C j ii) 2) (dvl (tf C j ii) 1 * dvl (tf C j ii) 2)))) 3 (nI (tsN (tf C j ii) nn (dvl (tf C j ii) 2) (dvl (tf C j ii) 1 * dvl (tf C j ii) 2)))) (dvl (tf C j ii) 1 * dvl (tf C j ii) 2)) (hsN (tf C j ii) nn (dvl (tf C j ii) 2) (dvl (tf C j ii) 1 * dvl (tf C j ii) 2))) (tsN (tf C j ii) nn (dvl (tf C j ii) 2) (dvl (tf C j ii) 1 * dvl (tf C j ii) 2))) 5 (nI 0)) 6 (nI 9)) 7 (nI 0)) 8 (nI 0)) (dvl (tf C j ii) 2) (dvl (tf C j ii) 1) rfl rfl) (cwV 0 hts gX9_land_X9_cells rfl rfl rfl (by decide +kernel) ⟨Nat.le_of_ble_eq_true rfl, Nat.le_of_ble_eq_true rfl⟩) hP (pre_recv hK hP (ci := 9) (q0 := 0) rfl rfl) rfl rfl hl (Nat.le_of_ble_eq_true rfl) dX9_land_363 ⟨Nat.zero_le _, Nat.zero_le _⟩ hS (fun _ h => h) (fun r363 u363 H locs hp363 hP hS _ _ => ?_)
                                    obtain rfl := hp363
                                    refine cViI [.int (nI (dvl (tf C j ii) 1 * dvl (tf C j ii) 2))] [] FX hK (c_X9_refused l D y a hA (pg (pg (pg (pg (qa3 (qa2 (qa1 (pg (pg (pg (pg P2 11 (nI (dvl (tf C j ii) 1))) 0 (nI (dvl (tf C j ii) 2))) 2 (nI (hsN (tf C j ii) nn (dvl (tf C j ii) 2) (dvl (tf C j ii) 1 * dvl (tf C j ii) 2)))) 3 (nI (tsN (tf C j ii) nn (dvl (tf C j ii) 2) (dvl (tf C j ii) 1 * dvl (tf C j ii) 2)))) (dvl (tf C j ii) 1 * dvl (tf C j ii) 2)) (hsN (tf C j ii) nn (dvl (tf C j ii) 2) (dvl (tf C j ii) 1 * dvl (tf C j ii) 2))) (tsN (tf C j ii) nn (dvl (tf C j ii) 2) (dvl (tf C j ii) 1 * dvl (tf C j ii) 2))) 5 (nI 0)) 6 (nI 9)) 7 (nI 0)) 8 (nI 0)) (nI (dvl (tf C j ii) 1 * dvl (tf C j ii) 2))) (cwV 1 hts gX9_land_X9_refused rfl rfl rfl (by decide +kernel) ⟨Nat.le_of_ble_eq_true rfl, Nat.le_of_ble_eq_true rfl⟩) hP (pre_recv hK hP (ci := 9) (q0 := 0) rfl rfl) rfl rfl hl (Nat.le_of_ble_eq_true rfl) dX9_land_366 ⟨Nat.zero_le _, Nat.zero_le _⟩ hS (fun _ h => h) (fun r366 u366 H locs hp366 hP hS _ _ => ?_)
                                    obtain rfl := hp366
                                    exact ret H locs 369 ls (nI (dvl (tf C j ii) 1 * dvl (tf C j ii) 2)) (pg (pg (pg (pg (pg (qa3 (qa2 (qa1 (pg (pg (pg (pg P2 11 (nI (dvl (tf C j ii) 1))) 0 (nI (dvl (tf C j ii) 2))) 2 (nI (hsN (tf C j ii) nn (dvl (tf C j ii) 2) (dvl (tf C j ii) 1 * dvl (tf C j ii) 2)))) 3 (nI (tsN (tf C j ii) nn (dvl (tf C j ii) 2) (dvl (tf C j ii) 1 * dvl (tf C j ii) 2)))) (dvl (tf C j ii) 1 * dvl (tf C j ii) 2)) (hsN (tf C j ii) nn (dvl (tf C j ii) 2) (dvl (tf C j ii) 1 * dvl (tf C j ii) 2))) (tsN (tf C j ii) nn (dvl (tf C j ii) 2) (dvl (tf C j ii) 1 * dvl (tf C j ii) 2))) 5 (nI 0)) 6 (nI 9)) 7 (nI 0)) 8 (nI 0)) 10 (nI 0)) dX9_land_369 (fun r9 C9 hLR => by have t9 := LR_5 hj (by omega) (by omega) hLR c22 hlf c117; rw [t9.1]; exact ⟨rfl, land_rq hR hFR c117 hCN t9.2⟩) hP hS
                                  · refine lv_aload_n hx hb dX9_land_298 rfl (lv_at hl 0 rfl) ?_
                                    refine mg_12 FX hK in9 hP (List.mem_of_getElem? (i := 25) rfl) dX9_land_299 ?_
                                    refine lv_iload hx hb dX9_land_302 (lv_at hl 1 rfl) ?_
                                    refine lv_aload_n hx hb dX9_land_304 rfl (lv_at hl 0 rfl) ?_
                                    refine mg_28 FX hK in9 hP (List.mem_of_getElem? (i := 26) rfl) dX9_land_305 ?_
                                    refine lv_iload hx hb dX9_land_308 (lv_at hl 1 rfl) ?_
                                    refine ma16 (i := c0) (by omega) FX hK hP dX9_land_310 ?_
                                    refine xn_to hx (z := P2.2 25 c0) rfl ?_
                                    refine ms8 (i := c0) (by omega) FX hK hP hA hS dX9_land_311 (fun H locs hP hS => ?_)
                                    refine lv_aload_n hx hb dX9_land_312 rfl (lv_at hl 0 rfl) ?_
                                    refine mg_13 FX hK in9 hP (List.mem_of_getElem? (i := 27) rfl) dX9_land_313 ?_
                                    refine lv_iload hx hb dX9_land_316 (lv_at hl 1 rfl) ?_
                                    refine lv_aload_n hx hb dX9_land_318 rfl (lv_at hl 0 rfl) ?_
                                    refine mg_29 FX hK in9 hP (List.mem_of_getElem? (i := 28) rfl) dX9_land_319 ?_
                                    refine lv_iload hx hb dX9_land_322 (lv_at hl 1 rfl) ?_
                                    refine ma17 (i := c0) (by omega) FX hK hP dX9_land_324 ?_
                                    refine xn_to hx (z := P2.2 26 c0) rfl ?_
                                    refine ms9 (i := c0) (by omega) FX hK hP hA hS dX9_land_325 (fun H locs hP hS => ?_)
                                    refine lv_aload_n hx hb dX9_land_326 rfl (lv_at hl 0 rfl) ?_
                                    refine mg_14 FX hK in9 hP (List.mem_of_getElem? (i := 29) rfl) dX9_land_327 ?_
                                    refine lv_iload hx hb dX9_land_330 (lv_at hl 1 rfl) ?_
                                    refine lv_iconst (v := nI 0) hx hb dX9_land_332 rfl ?_
                                    refine ms10 (i := c0) (by omega) FX hK hP hA hS dX9_land_333 (fun H locs hP hS => ?_)
                                    refine lv_iinc (v := nI (c0 + 1)) (lv' := [(5, .int (nI (c0 + 1))), (0, .ref (a 0))]) hx hb dX9_land_334 hl (k := 1) rfl (xn_inc c0 1) (by decide) rfl (fun ls hl => ?_)
                                    refine lv_goto (tgt := 289) hx hb dX9_land_337 (by decide) ?_
                                    have e9 := qa3_s (qa2 (qa1 (pg (pg (pg (pg P2 11 (nI (dvl (tf C j ii) 1))) 0 (nI (dvl (tf C j ii) 2))) 2 (nI (hsN (tf C j ii) nn (dvl (tf C j ii) 2) (dvl (tf C j ii) 1 * dvl (tf C j ii) 2)))) 3 (nI (tsN (tf C j ii) nn (dvl (tf C j ii) 2) (dvl (tf C j ii) 1 * dvl (tf C j ii) 2)))) (dvl (tf C j ii) 1 * dvl (tf C j ii) 2)) (hsN (tf C j ii) nn (dvl (tf C j ii) 2) (dvl (tf C j ii) 1 * dvl (tf C j ii) 2))) c0
                                    have hP : va_P D vwCl (wM y a (qa3 (qa2 (qa1 (pg (pg (pg (pg P2 11 (nI (dvl (tf C j ii) 1))) 0 (nI (dvl (tf C j ii) 2))) 2 (nI (hsN (tf C j ii) nn (dvl (tf C j ii) 2) (dvl (tf C j ii) 1 * dvl (tf C j ii) 2)))) 3 (nI (tsN (tf C j ii) nn (dvl (tf C j ii) 2) (dvl (tf C j ii) 1 * dvl (tf C j ii) 2)))) (dvl (tf C j ii) 1 * dvl (tf C j ii) 2)) (hsN (tf C j ii) nn (dvl (tf C j ii) 2) (dvl (tf C j ii) 1 * dvl (tf C j ii) 2))) (c0 + 1))) H := e9 ▸ hP
                                    exact ih289 (c0 + 1) (by omega) (by omega) H locs ls hP hS (lv_sub hl [1, 0] rfl)
                              rw [show c0 = (hsN (tf C j ii) nn (dvl (tf C j ii) 2) (dvl (tf C j ii) 1 * dvl (tf C j ii) 2)) by omega, ← qa3_0 (qa2 (qa1 (pg (pg (pg (pg P2 11 (nI (dvl (tf C j ii) 1))) 0 (nI (dvl (tf C j ii) 2))) 2 (nI (hsN (tf C j ii) nn (dvl (tf C j ii) 2) (dvl (tf C j ii) 1 * dvl (tf C j ii) 2)))) 3 (nI (tsN (tf C j ii) nn (dvl (tf C j ii) 2) (dvl (tf C j ii) 1 * dvl (tf C j ii) 2)))) (dvl (tf C j ii) 1 * dvl (tf C j ii) 2)) (hsN (tf C j ii) nn (dvl (tf C j ii) 2) (dvl (tf C j ii) 1 * dvl (tf C j ii) 2)))] at hP
                              exact L289 _ 0 (Nat.zero_le _) (Nat.lt_succ_self _) H locs ls hP hS (lv_sub hl [1, 0] rfl)
                            · refine lv_aload_n hx hb dX9_land_230 rfl (lv_at hl 0 rfl) ?_
                              refine mg_7 FX hK in9 hP (List.mem_of_getElem? (i := 18) rfl) dX9_land_231 ?_
                              refine lv_iload hx hb dX9_land_234 (lv_at hl 1 rfl) ?_
                              refine lv_aload_n hx hb dX9_land_236 rfl (lv_at hl 0 rfl) ?_
                              refine mg_25 FX hK in9 hP (List.mem_of_getElem? (i := 19) rfl) dX9_land_237 ?_
                              refine lv_iload hx hb dX9_land_240 (lv_at hl 1 rfl) ?_
                              refine ma13 (i := c0) (by omega) FX hK hP dX9_land_242 ?_
                              refine xn_to hx (z := P2.2 22 c0) rfl ?_
                              refine ms4 (i := c0) (by omega) FX hK hP hA hS dX9_land_243 (fun H locs hP hS => ?_)
                              refine lv_aload_n hx hb dX9_land_244 rfl (lv_at hl 0 rfl) ?_
                              refine mg_8 FX hK in9 hP (List.mem_of_getElem? (i := 20) rfl) dX9_land_245 ?_
                              refine lv_iload hx hb dX9_land_248 (lv_at hl 1 rfl) ?_
                              refine lv_aload_n hx hb dX9_land_250 rfl (lv_at hl 0 rfl) ?_
                              refine mg_26 FX hK in9 hP (List.mem_of_getElem? (i := 21) rfl) dX9_land_251 ?_
                              refine lv_iload hx hb dX9_land_254 (lv_at hl 1 rfl) ?_
                              refine ma14 (i := c0) (by omega) FX hK hP dX9_land_256 ?_
                              refine xn_to hx (z := P2.2 23 c0) rfl ?_
                              refine ms5 (i := c0) (by omega) FX hK hP hA hS dX9_land_257 (fun H locs hP hS => ?_)
                              refine lv_aload_n hx hb dX9_land_258 rfl (lv_at hl 0 rfl) ?_
                              refine mg_9 FX hK in9 hP (List.mem_of_getElem? (i := 22) rfl) dX9_land_259 ?_
                              refine lv_iload hx hb dX9_land_262 (lv_at hl 1 rfl) ?_
                              refine lv_aload_n hx hb dX9_land_264 rfl (lv_at hl 0 rfl) ?_
                              refine mg_27 FX hK in9 hP (List.mem_of_getElem? (i := 23) rfl) dX9_land_265 ?_
                              refine lv_iload hx hb dX9_land_268 (lv_at hl 1 rfl) ?_
                              refine ma15 (i := c0) (by omega) FX hK hP dX9_land_270 ?_
                              refine xn_to hx (z := P2.2 24 c0) rfl ?_
                              refine ms6 (i := c0) (by omega) FX hK hP hA hS dX9_land_271 (fun H locs hP hS => ?_)
                              refine lv_aload_n hx hb dX9_land_272 rfl (lv_at hl 0 rfl) ?_
                              refine mg_10 FX hK in9 hP (List.mem_of_getElem? (i := 24) rfl) dX9_land_273 ?_
                              refine lv_iload hx hb dX9_land_276 (lv_at hl 1 rfl) ?_
                              refine lv_iconst (v := nI 0) hx hb dX9_land_278 rfl ?_
                              refine ms7 (i := c0) (by omega) FX hK hP hA hS dX9_land_279 (fun H locs hP hS => ?_)
                              refine lv_iinc (v := nI (c0 + 1)) (lv' := [(5, .int (nI (c0 + 1))), (0, .ref (a 0))]) hx hb dX9_land_280 hl (k := 1) rfl (xn_inc c0 1) (by decide) rfl (fun ls hl => ?_)
                              refine lv_goto (tgt := 221) hx hb dX9_land_283 (by decide) ?_
                              have e9 := qa2_s (qa1 (pg (pg (pg (pg P2 11 (nI (dvl (tf C j ii) 1))) 0 (nI (dvl (tf C j ii) 2))) 2 (nI (hsN (tf C j ii) nn (dvl (tf C j ii) 2) (dvl (tf C j ii) 1 * dvl (tf C j ii) 2)))) 3 (nI (tsN (tf C j ii) nn (dvl (tf C j ii) 2) (dvl (tf C j ii) 1 * dvl (tf C j ii) 2)))) (dvl (tf C j ii) 1 * dvl (tf C j ii) 2)) c0
                              have hP : va_P D vwCl (wM y a (qa2 (qa1 (pg (pg (pg (pg P2 11 (nI (dvl (tf C j ii) 1))) 0 (nI (dvl (tf C j ii) 2))) 2 (nI (hsN (tf C j ii) nn (dvl (tf C j ii) 2) (dvl (tf C j ii) 1 * dvl (tf C j ii) 2)))) 3 (nI (tsN (tf C j ii) nn (dvl (tf C j ii) 2) (dvl (tf C j ii) 1 * dvl (tf C j ii) 2)))) (dvl (tf C j ii) 1 * dvl (tf C j ii) 2)) (c0 + 1))) H := e9 ▸ hP
                              exact ih221 (c0 + 1) (by omega) (by omega) H locs ls hP hS (lv_sub hl [1, 0] rfl)
                        rw [show c0 = (dvl (tf C j ii) 1 * dvl (tf C j ii) 2) by omega, ← qa2_0 (qa1 (pg (pg (pg (pg P2 11 (nI (dvl (tf C j ii) 1))) 0 (nI (dvl (tf C j ii) 2))) 2 (nI (hsN (tf C j ii) nn (dvl (tf C j ii) 2) (dvl (tf C j ii) 1 * dvl (tf C j ii) 2)))) 3 (nI (tsN (tf C j ii) nn (dvl (tf C j ii) 2) (dvl (tf C j ii) 1 * dvl (tf C j ii) 2)))) (dvl (tf C j ii) 1 * dvl (tf C j ii) 2))] at hP
                        exact L221 _ 0 (Nat.zero_le _) (Nat.lt_succ_self _) H locs ls hP hS (lv_sub hl [1, 0] rfl)
                      · refine lv_aload_n hx hb dX9_land_176 rfl (lv_at hl 0 rfl) ?_
                        refine mg_3 FX hK in9 hP (List.mem_of_getElem? (i := 13) rfl) dX9_land_177 ?_
                        refine lv_iload hx hb dX9_land_180 (lv_at hl 1 rfl) ?_
                        refine lv_aload_n hx hb dX9_land_182 rfl (lv_at hl 0 rfl) ?_
                        refine mg_23 FX hK in9 hP (List.mem_of_getElem? (i := 14) rfl) dX9_land_183 ?_
                        refine lv_iload hx hb dX9_land_186 (lv_at hl 1 rfl) ?_
                        refine ma11 (i := c0) (by omega) FX hK hP dX9_land_188 ?_
                        refine xn_to hx (z := P2.2 20 c0) rfl ?_
                        refine ms1 (i := c0) (by omega) FX hK hP hA hS dX9_land_189 (fun H locs hP hS => ?_)
                        refine lv_aload_n hx hb dX9_land_190 rfl (lv_at hl 0 rfl) ?_
                        refine mg_4 FX hK in9 hP (List.mem_of_getElem? (i := 15) rfl) dX9_land_191 ?_
                        refine lv_iload hx hb dX9_land_194 (lv_at hl 1 rfl) ?_
                        refine lv_aload_n hx hb dX9_land_196 rfl (lv_at hl 0 rfl) ?_
                        refine mg_24 FX hK in9 hP (List.mem_of_getElem? (i := 16) rfl) dX9_land_197 ?_
                        refine lv_iload hx hb dX9_land_200 (lv_at hl 1 rfl) ?_
                        refine ma12 (i := c0) (by omega) FX hK hP dX9_land_202 ?_
                        refine xn_to hx (z := P2.2 21 c0) rfl ?_
                        refine ms2 (i := c0) (by omega) FX hK hP hA hS dX9_land_203 (fun H locs hP hS => ?_)
                        refine lv_aload_n hx hb dX9_land_204 rfl (lv_at hl 0 rfl) ?_
                        refine mg_5 FX hK in9 hP (List.mem_of_getElem? (i := 17) rfl) dX9_land_205 ?_
                        refine lv_iload hx hb dX9_land_208 (lv_at hl 1 rfl) ?_
                        refine lv_iconst (v := nI 0) hx hb dX9_land_210 rfl ?_
                        refine ms3 (i := c0) (by omega) FX hK hP hA hS dX9_land_211 (fun H locs hP hS => ?_)
                        refine lv_iinc (v := nI (c0 + 1)) (lv' := [(5, .int (nI (c0 + 1))), (0, .ref (a 0))]) hx hb dX9_land_212 hl (k := 1) rfl (xn_inc c0 1) (by decide) rfl (fun ls hl => ?_)
                        refine lv_goto (tgt := 167) hx hb dX9_land_215 (by decide) ?_
                        have e9 := qa1_s (pg (pg (pg (pg P2 11 (nI (dvl (tf C j ii) 1))) 0 (nI (dvl (tf C j ii) 2))) 2 (nI (hsN (tf C j ii) nn (dvl (tf C j ii) 2) (dvl (tf C j ii) 1 * dvl (tf C j ii) 2)))) 3 (nI (tsN (tf C j ii) nn (dvl (tf C j ii) 2) (dvl (tf C j ii) 1 * dvl (tf C j ii) 2)))) c0
                        have hP : va_P D vwCl (wM y a (qa1 (pg (pg (pg (pg P2 11 (nI (dvl (tf C j ii) 1))) 0 (nI (dvl (tf C j ii) 2))) 2 (nI (hsN (tf C j ii) nn (dvl (tf C j ii) 2) (dvl (tf C j ii) 1 * dvl (tf C j ii) 2)))) 3 (nI (tsN (tf C j ii) nn (dvl (tf C j ii) 2) (dvl (tf C j ii) 1 * dvl (tf C j ii) 2)))) (c0 + 1))) H := e9 ▸ hP
                        exact ih167 (c0 + 1) (by omega) (by omega) H locs ls hP hS (lv_sub hl [1, 0] rfl)
                  rw [← qa1_0 (pg (pg (pg (pg P2 11 (nI (dvl (tf C j ii) 1))) 0 (nI (dvl (tf C j ii) 2))) 2 (nI (hsN (tf C j ii) nn (dvl (tf C j ii) 2) (dvl (tf C j ii) 1 * dvl (tf C j ii) 2)))) 3 (nI (tsN (tf C j ii) nn (dvl (tf C j ii) 2) (dvl (tf C j ii) 1 * dvl (tf C j ii) 2))))] at hP
                  exact L167 _ 0 (Nat.zero_le _) (Nat.lt_succ_self _) H locs ls hP hS (lv_sub hl [1, 0] rfl)
                · obtain ⟨pf, hpf1, hpf2, hpf3⟩ := hTF c117
                  refine lv_aload_n hx hb dX9_land_120 rfl (lv_at hl 0 rfl) ?_
                  refine lv_bipush (v := (-100)) hx hb dX9_land_121 rfl ?_
                  refine lv_aload_n hx hb dX9_land_123 rfl (lv_at hl 0 rfl) ?_
                  refine mg_18 FX hK in9 hP (List.mem_of_getElem? (i := 4) rfl) dX9_land_124 ?_
                  refine xn_to hx (z := nI pf) hpf2 ?_
                  refine lv_isub hx hb dX9_land_127 ?_
                  refine cViI [.int ((-100) - (nI pf))] [] FX hK (c_X9_refused l D y a hA P2 ((-100) - (nI pf))) (cwV 1 hts gX9_land_X9_refused rfl rfl rfl (by decide +kernel) ⟨Nat.le_of_ble_eq_true rfl, Nat.le_of_ble_eq_true rfl⟩) hP (pre_recv hK hP (ci := 9) (q0 := 0) rfl rfl) rfl rfl hl (Nat.le_of_ble_eq_true rfl) dX9_land_128 ⟨Nat.zero_le _, Nat.zero_le _⟩ hS (fun _ h => h) (fun r128 u128 H locs hp128 hP hS _ _ => ?_)
                  obtain rfl := hp128
                  exact ret H locs 131 ls ((-100) - (nI pf)) (pg P2 10 (nI 0)) dX9_land_131 (fun r9 C9 hLR => by have t9 := LR_4 hj (by omega) (by omega) hLR c22 hlf hpf3; rw [t9.1, t9.2]; exact ⟨rfl, (hR.fr2 hFR).wpg (by omega) _⟩) hP hS
              · refine lv_aload_n hx hb dX9_land_99 rfl (lv_at hl 0 rfl) ?_
                refine lv_iconst (v := nI 3) hx hb dX9_land_100 rfl ?_
                refine cViI [.int (nI 3)] [] FX hK (c_X9_failed l D y a hA P (nI 3)) (cwV 1 hts gX9_land_X9_failed rfl rfl rfl (by decide +kernel) ⟨Nat.le_of_ble_eq_true rfl, Nat.le_of_ble_eq_true rfl⟩) hP (pre_recv hK hP (ci := 9) (q0 := 0) rfl rfl) rfl rfl hl (Nat.le_of_ble_eq_true rfl) dX9_land_101 ⟨Nat.zero_le _, Nat.zero_le _⟩ hS (fun _ h => h) (fun r101 u101 H locs hp101 hP hS _ _ => ?_)
                obtain rfl := hp101
                exact ret H locs 104 ls ((-10) - (nI 3)) (pg P 10 (nI 3)) dX9_land_104 (fun r9 C9 hLR => by have z9 : nI 3 = lfl C j lane i0 n0 := lfl_3 (show fas C j lane = 0 from by unfold fas; rw [cif_t k63, cif_t c48]; rfl) (ge_nlt c74) c96; have t9 := LR_3 hj hLR c22 (by rw [← z9]; decide); rw [← z9] at t9; rw [t9.1, t9.2]; exact ⟨rfl, hR.wpg (by omega) _⟩) hP hS
            · refine lv_aload_n hx hb dX9_land_77 rfl (lv_at hl 0 rfl) ?_
              refine lv_iconst (v := nI 4) hx hb dX9_land_78 rfl ?_
              refine cViI [.int (nI 4)] [] FX hK (c_X9_failed l D y a hA P (nI 4)) (cwV 1 hts gX9_land_X9_failed rfl rfl rfl (by decide +kernel) ⟨Nat.le_of_ble_eq_true rfl, Nat.le_of_ble_eq_true rfl⟩) hP (pre_recv hK hP (ci := 9) (q0 := 0) rfl rfl) rfl rfl hl (Nat.le_of_ble_eq_true rfl) dX9_land_79 ⟨Nat.zero_le _, Nat.zero_le _⟩ hS (fun _ h => h) (fun r79 u79 H locs hp79 hP hS _ _ => ?_)
              obtain rfl := hp79
              exact ret H locs 82 ls ((-10) - (nI 4)) (pg P 10 (nI 4)) dX9_land_82 (fun r9 C9 hLR => by have z9 : nI 4 = lfl C j lane i0 n0 := lfl_4 (show fas C j lane = 0 from by unfold fas; rw [cif_t k63, cif_t c48]; rfl) (nge_lt c74); have t9 := LR_3 hj hLR c22 (by rw [← z9]; decide); rw [← z9] at t9; rw [t9.1, t9.2]; exact ⟨rfl, hR.wpg (by omega) _⟩) hP hS
          · exact absurd (nge_lt c63) c38
        · refine lv_aload_n hx hb dX9_land_51 rfl (lv_at hl 0 rfl) ?_
          refine lv_iconst (v := nI 2) hx hb dX9_land_52 rfl ?_
          refine cViI [.int (nI 2)] [] FX hK (c_X9_failed l D y a hA P (nI 2)) (cwV 1 hts gX9_land_X9_failed rfl rfl rfl (by decide +kernel) ⟨Nat.le_of_ble_eq_true rfl, Nat.le_of_ble_eq_true rfl⟩) hP (pre_recv hK hP (ci := 9) (q0 := 0) rfl rfl) rfl rfl hl (Nat.le_of_ble_eq_true rfl) dX9_land_53 ⟨Nat.zero_le _, Nat.zero_le _⟩ hS (fun _ h => h) (fun r53 u53 H locs hp53 hP hS _ _ => ?_)
          obtain rfl := hp53
          exact ret H locs 56 ls ((-10) - (nI 2)) (pg P 10 (nI 2)) dX9_land_56 (fun r9 C9 hLR => by have z9 : nI 2 = lfl C j lane i0 n0 := (show fas C j lane = nI 2 from by unfold fas; rw [cif_t (sh_ne c38), cif_f c48]).symm.trans (lfl_1 (by unfold fas; rw [cif_t (sh_ne c38), cif_f c48]; decide)); have t9 := LR_3 hj hLR c22 (by rw [← z9]; decide); rw [← z9] at t9; rw [t9.1, t9.2]; exact ⟨rfl, hR.wpg (by omega) _⟩) hP hS
    · refine lv_aload_n hx hb dX9_land_25 rfl (lv_at hl 0 rfl) ?_
      refine lv_bipush (v := (-2)) hx hb dX9_land_26 rfl ?_
      refine cViI [.int (-2)] [] FX hK (c_X9_refused l D y a hA P (-2)) (cwV 1 hts gX9_land_X9_refused rfl rfl rfl (by decide +kernel) ⟨Nat.le_of_ble_eq_true rfl, Nat.le_of_ble_eq_true rfl⟩) hP (pre_recv hK hP (ci := 9) (q0 := 0) rfl rfl) rfl rfl hl (Nat.le_of_ble_eq_true rfl) dX9_land_28 ⟨Nat.zero_le _, Nat.zero_le _⟩ hS (fun _ h => h) (fun r28 u28 H locs hp28 hP hS _ _ => ?_)
      obtain rfl := hp28
      exact ret H locs 31 ls (-2) (pg P 10 (nI 0)) dX9_land_31 (fun r9 C9 hLR => by have t9 := (LR_2 hLR ⟨j, hj, rfl⟩ c22); rw [t9.1, t9.2]; exact ⟨rfl, hR.wpg (by omega) _⟩) hP hS
  · refine lv_aload_n hx hb dX9_land_7 rfl (lv_at hl 0 rfl) ?_
    refine lv_iconst (v := (-1)) hx hb dX9_land_8 rfl ?_
    refine cViI [.int (-1)] [] FX hK (c_X9_refused l D y a hA P (-1)) (cwV 1 hts gX9_land_X9_refused rfl rfl rfl (by decide +kernel) ⟨Nat.le_of_ble_eq_true rfl, Nat.le_of_ble_eq_true rfl⟩) hP (pre_recv hK hP (ci := 9) (q0 := 0) rfl rfl) rfl rfl hl (Nat.le_of_ble_eq_true rfl) dX9_land_9 ⟨Nat.zero_le _, Nat.zero_le _⟩ hS (fun _ h => h) (fun r9 u9 H locs hp9 hP hS _ _ => ?_)
    obtain rfl := hp9
    exact ret H locs 12 ls (-1) (pg P 10 (nI 0)) dX9_land_12 (fun r9 C9 hLR => by have t9 := (LR_1 hLR c4); rw [t9.1, t9.2]; exact ⟨rfl, hR.wpg (by omega) _⟩) hP hS
