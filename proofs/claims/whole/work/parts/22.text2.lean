abbrev rmX6_takeHead : Room := { frames := 2, cells := 0, slots := 0, locals := 45 }
set_option maxRecDepth 100000 in
set_option maxHeartbeats 4000000 in
theorem c_X6_takeHead (l : Launch) (D : va_G) (y : Nat → ClassId) (a : Nat → Nat) (hA : CA a 44) (P X : PT) (row : Value) (k i n : Nat) (hk : k < 4) (hin : i + n ≤ 100) (hx5 : X.1 5 = nI i) (hx6 : X.1 6 = nI n) (hx2 : X.1 2 = nI 0) : CtI l D y yX6_takeHead wsX6_takeHead rmX6_takeHead [.ref (a 10)] (wC y a P X (.ref (a (2 + k)))) (fun r (X' : PT) => r = b2 (hOK (tf P k i) n) ∧ (hOK (tf P k i) n → (X'.1 0 = nI (dvl (tf P k i) 1) ∧ X'.1 1 = nI (dvl (tf P k i) 2) ∧ X'.1 2 = nI 3 ∧ (∀ j, j ≠ 0 → j ≠ 1 → j ≠ 2 → X'.1 j = X.1 j) ∧ ∀ j m, X'.2 j m = X.2 j m)) ∧ (¬ hOK (tf P k i) n → ∃ pf, pf ≤ n ∧ X'.1 2 = nI pf ∧ hFP (tf P k i) n pf)) (fun X' => wC y a P X' (.ref (a (2 + k)))) (AC a) := by
  refine mkI (cc := cX6_takeHead) (maxL := 1) (ret := some .boolean) RX6 rfl (by decide) rfl (Or.inr ⟨rfl, fun r u h => by rw [h.1]; exact b2_01 _⟩) (Nat.le_of_ble_eq_true rfl) ?_
  intro p e s m args below meth c Q FX hK hP ret ls hl
  obtain ⟨hx, hb, hml, hown, hts⟩ := id FX
  have hS : va_S (AC a) s.heap s.heap [] := va_S.rf
  have in4 : ∀ w ∈ wsX40, w ∈ wsX6_takeHead := fun _ h => List.mem_cons_of_mem _ (List.mem_append_right _ (h))
  have in6 : ∀ w ∈ wsX60, w ∈ wsX6_takeHead := fun _ h => List.mem_cons_of_mem _ (List.mem_append_left _ (List.mem_append_right _ (h)))
  have hl : lv_has ls 1 [(0, .ref (a 10))] := hl
  have hpn : 0 ≤ n := Nat.zero_le _
  refine lv_aload_n hx hb dX6_takeHead_0 rfl (lv_at hl 0 rfl) ?_
  refine lv_bipush (v := nI 110) hx hb dX6_takeHead_1 rfl ?_
  refine cViI [.int (nI 110)] [] FX hK (c_X6_take l D y a hA P X .null k i n 0 110 hk hin hx2 hx5 hx6 hpn (by decide)) (cwV 1 hts gX6_takeHead_X6_take rfl rfl rfl (by decide +kernel) ⟨Nat.le_of_ble_eq_true rfl, Nat.le_of_ble_eq_true rfl⟩) hP (pre_recv hK hP (ci := 6) (q0 := 10) rfl rfl) rfl rfl hl (Nat.le_of_ble_eq_true rfl) dX6_takeHead_3 ⟨Nat.zero_le _, Nat.zero_le _⟩ hS (fun _ h => h) (fun r3 u3 H locs hp3 hP hS _ _ => ?_)
  obtain ⟨rfl, rfl⟩ := hp3
  refine xb_ne (tgt := 11) hx hb dX6_takeHead_6 (by decide) (fun c6 => ?_) (fun c6 => ?_)
  · rw [cif_t c6] at hP
    refine lv_aload_n hx hb dX6_takeHead_11 rfl (lv_at hl 0 rfl) ?_
    refine lv_aload_n hx hb dX6_takeHead_12 rfl (lv_at hl 0 rfl) ?_
    refine lv_iconst (v := nI 1) hx hb dX6_takeHead_13 rfl ?_
    refine lv_iconst (v := nI 5) hx hb dX6_takeHead_14 rfl ?_
    refine cViI [.int (nI 1), .int (nI 5)] [.ref (a 10)] FX hK (c_X6_takeDigit l D y a hA P (pg X 2 (nI 1)) .null k i n 1 1 5 hk hin rfl hx5 hx6 (show 1 ≤ n from c6.1) (by decide) (by decide)) (cwV 2 hts gX6_takeHead_X6_takeDigit rfl rfl rfl (by decide +kernel) ⟨Nat.le_of_ble_eq_true rfl, Nat.le_of_ble_eq_true rfl⟩) hP (pre_recv hK hP (ci := 6) (q0 := 10) rfl rfl) rfl rfl hl (Nat.le_of_ble_eq_true rfl) dX6_takeHead_15 ⟨Nat.zero_le _, Nat.zero_le _⟩ hS (fun _ h => h) (fun r15 u15 H locs hp15 hP hS _ _ => ?_)
    obtain ⟨rfl, rfl⟩ := hp15
    by_cases d18 : dgt (tf P k i) n 1 1 5
    · rw [cif_t d18] at hP
      refine xn_to hx (z := nI (dvl (tf P k i) 1)) (cif_t d18) ?_
      have bd18 := (dgt_v d18 (by decide)).2.1
      refine cp6_3 FX hK in6 hP hA hS (List.mem_of_getElem? (i := 1) rfl) dX6_takeHead_18 (fun H locs hP hS => ?_)
      refine lv_aload_n hx hb dX6_takeHead_21 rfl (lv_at hl 0 rfl) ?_
      refine cg6_3 FX hK in6 hP (List.mem_of_getElem? (i := 1) rfl) dX6_takeHead_22 ?_
      refine xn_to hx (z := nI (dvl (tf P k i) 1)) rfl ?_
      refine lv_iconst (v := (-1)) hx hb dX6_takeHead_25 rfl ?_
      refine lv_icmp_ne (tgt := 31) hx hb dX6_takeHead_26 (by decide) (fun c26 => ?_) (fun c26 => ?_)
      · refine lv_aload_n hx hb dX6_takeHead_31 rfl (lv_at hl 0 rfl) ?_
        refine lv_aload_n hx hb dX6_takeHead_32 rfl (lv_at hl 0 rfl) ?_
        refine lv_iconst (v := nI 2) hx hb dX6_takeHead_33 rfl ?_
        refine lv_bipush (v := nI 6) hx hb dX6_takeHead_34 rfl ?_
        refine cViI [.int (nI 2), .int (nI 6)] [.ref (a 10)] FX hK (c_X6_takeDigit l D y a hA P (pg (pg (pg X 2 (nI 1)) 2 (nI 2)) 0 (nI (dvl (tf P k i) 1))) .null k i n 2 2 6 hk hin rfl hx5 hx6 (show 2 ≤ n from d18.1) (by decide) (by decide)) (cwV 2 hts gX6_takeHead_X6_takeDigit rfl rfl rfl (by decide +kernel) ⟨Nat.le_of_ble_eq_true rfl, Nat.le_of_ble_eq_true rfl⟩) hP (pre_recv hK hP (ci := 6) (q0 := 10) rfl rfl) rfl rfl hl (Nat.le_of_ble_eq_true rfl) dX6_takeHead_36 ⟨Nat.zero_le _, Nat.zero_le _⟩ hS (fun _ h => h) (fun r36 u36 H locs hp36 hP hS _ _ => ?_)
        obtain ⟨rfl, rfl⟩ := hp36
        by_cases d39 : dgt (tf P k i) n 2 2 6
        · rw [cif_t d39] at hP
          refine xn_to hx (z := nI (dvl (tf P k i) 2)) (cif_t d39) ?_
          have bd39 := (dgt_v d39 (by decide)).2.1
          refine cp6_4 FX hK in6 hP hA hS (List.mem_of_getElem? (i := 2) rfl) dX6_takeHead_39 (fun H locs hP hS => ?_)
          refine lv_aload_n hx hb dX6_takeHead_42 rfl (lv_at hl 0 rfl) ?_
          refine cg6_4 FX hK in6 hP (List.mem_of_getElem? (i := 2) rfl) dX6_takeHead_43 ?_
          refine xn_to hx (z := nI (dvl (tf P k i) 2)) rfl ?_
          refine lv_iconst (v := (-1)) hx hb dX6_takeHead_46 rfl ?_
          refine lv_icmp_eq (tgt := 54) hx hb dX6_takeHead_47 (by decide) (fun c47 => ?_) (fun c47 => ?_)
          · exact absurd c47 (nI_m1 (by omega))
          · refine lv_iconst (v := nI 1) hx hb dX6_takeHead_50 rfl ?_
            refine lv_goto (tgt := 55) hx hb dX6_takeHead_51 (by decide) ?_
            exact ret H locs 55 ls (nI 1) (pg (pg (pg (pg (pg X 2 (nI 1)) 2 (nI 2)) 0 (nI (dvl (tf P k i) 1))) 2 (nI 3)) 1 (nI (dvl (tf P k i) 2))) dX6_takeHead_55 ⟨b2_1 ⟨c6, d18, d39⟩, fun _ => ⟨rfl, rfl, rfl, fun j g0 g1 g2 => by simp [pg_val, g0, g1, g2], fun _ _ => rfl⟩, fun z => absurd ⟨c6, d18, d39⟩ z⟩ hP hS
        · rw [cif_f d39] at hP
          refine xn_to hx (z := (-1)) (cif_f d39) ?_
          refine cp6_4 FX hK in6 hP hA hS (List.mem_of_getElem? (i := 2) rfl) dX6_takeHead_39 (fun H locs hP hS => ?_)
          refine lv_aload_n hx hb dX6_takeHead_42 rfl (lv_at hl 0 rfl) ?_
          refine cg6_4 FX hK in6 hP (List.mem_of_getElem? (i := 2) rfl) dX6_takeHead_43 ?_
          refine xn_to hx (z := (-1)) rfl ?_
          refine lv_iconst (v := (-1)) hx hb dX6_takeHead_46 rfl ?_
          refine lv_icmp_eq (tgt := 54) hx hb dX6_takeHead_47 (by decide) (fun c47 => ?_) (fun c47 => ?_)
          · refine lv_iconst (v := nI 0) hx hb dX6_takeHead_54 rfl ?_
            exact ret H locs 55 ls (nI 0) (pg (pg (pg (pg X 2 (nI 1)) 2 (nI 2)) 0 (nI (dvl (tf P k i) 1))) 1 (-1)) dX6_takeHead_55 ⟨b2_0 (fun z => d39 z.2.2), fun z => absurd z (fun z => d39 z.2.2), fun _ => ⟨2, d18.1, rfl, Or.inr (Or.inr ⟨c6, d18, d39, rfl⟩)⟩⟩ hP hS
          · exact absurd rfl c47
      · exact absurd c26 (nI_m1 (by omega))
    · rw [cif_f d18] at hP
      refine xn_to hx (z := (-1)) (cif_f d18) ?_
      refine cp6_3 FX hK in6 hP hA hS (List.mem_of_getElem? (i := 1) rfl) dX6_takeHead_18 (fun H locs hP hS => ?_)
      refine lv_aload_n hx hb dX6_takeHead_21 rfl (lv_at hl 0 rfl) ?_
      refine cg6_3 FX hK in6 hP (List.mem_of_getElem? (i := 1) rfl) dX6_takeHead_22 ?_
      refine xn_to hx (z := (-1)) rfl ?_
      refine lv_iconst (v := (-1)) hx hb dX6_takeHead_25 rfl ?_
      refine lv_icmp_ne (tgt := 31) hx hb dX6_takeHead_26 (by decide) (fun c26 => ?_) (fun c26 => ?_)
      · exact absurd rfl c26
      · refine lv_iconst (v := nI 0) hx hb dX6_takeHead_29 rfl ?_
        exact ret H locs 30 ls (nI 0) (pg (pg X 2 (nI 1)) 0 (-1)) dX6_takeHead_30 ⟨b2_0 (fun z => d18 z.2.1), fun z => absurd z (fun z => d18 z.2.1), fun _ => ⟨1, c6.1, rfl, Or.inr (Or.inl ⟨c6, d18, rfl⟩)⟩⟩ hP hS
  · rw [cif_f c6] at hP
    refine lv_iconst (v := nI 0) hx hb dX6_takeHead_9 rfl ?_
    exact ret H locs 10 ls (nI 0) X dX6_takeHead_10 ⟨b2_0 (fun z => c6 z.1), fun z => absurd z (fun z => c6 z.1), fun _ => ⟨0, Nat.zero_le _, hx2, Or.inl ⟨c6, rfl⟩⟩⟩ hP hS

abbrev rmX6_takeRows : Room := { frames := 4, cells := 0, slots := 0, locals := 83 }
set_option maxRecDepth 100000 in
set_option maxHeartbeats 4000000 in
theorem c_X6_takeRows (l : Launch) (D : va_G) (y : Nat → ClassId) (a : Nat → Nat) (hA : CA a 44) (P X : PT) (row : Value) (k i n w hi : Nat) (hk : k < 4) (hin : i + n ≤ 100) (hw2 : 2 ≤ w) (hw6 : w ≤ 6) (hi1 : 1 ≤ hi) (hi5 : hi ≤ 5) (hn3 : 3 ≤ n) (hT : TU X (tf P k i) n w (0)) (hd0 : X.1 0 = nI hi) (hd1 : X.1 1 = nI w) (hx5 : X.1 5 = nI i) (hx6 : X.1 6 = nI n) (hx2 : X.1 2 = nI 3) : CtI l D y yX6_takeRows wsX6_takeRows rmX6_takeRows [.ref (a 10)] (wC y a P X (.ref (a (2 + k)))) (fun r (X' : PT) => r = b2 (rOK (tf P k i) n w (hi * w)) ∧ (rOK (tf P k i) n w (hi * w) → TS X' (tf P k i) n w (hi * w) ∧ X'.1 0 = nI hi ∧ X'.1 1 = nI w ∧ X'.1 6 = nI n) ∧ (¬ rOK (tf P k i) n w (hi * w) → ∃ pf, pf ≤ n ∧ X'.1 2 = nI pf ∧ rFP (tf P k i) n w (hi * w) pf)) (fun X' => wC y a P X' (.ref (a (2 + k)))) (AC a) := by
  refine mkI (cc := cX6_takeRows) (maxL := 3) (ret := some .boolean) RX6 rfl (by decide) rfl (Or.inr ⟨rfl, fun r u h => by rw [h.1]; exact b2_01 _⟩) (Nat.le_of_ble_eq_true rfl) ?_
  intro p e s m args below meth c Q FX hK hP ret ls hl
  obtain ⟨hx, hb, hml, hown, hts⟩ := id FX
  have hS : va_S (AC a) s.heap s.heap [] := va_S.rf
  have in4 : ∀ w ∈ wsX40, w ∈ wsX6_takeRows := fun _ h => List.mem_cons_of_mem _ (List.mem_append_right _ (h))
  have in6 : ∀ w ∈ wsX60, w ∈ wsX6_takeRows := fun _ h => List.mem_cons_of_mem _ (List.mem_append_left _ (List.mem_append_right _ (h)))
  have hl : lv_has ls 3 [(0, .ref (a 10))] := hl
  have h30 := row_30 hi5 hw6
  refine lv_iconst (v := nI 0) hx hb dX6_takeRows_0 rfl ?_
  refine lv_istore_n (lv' := [(1, .int (nI 0)), (0, .ref (a 10))]) hx hb dX6_takeRows_1 rfl hl (by decide) rfl (fun ls hl => ?_)
  have L2 : ∀ (N : Nat) (u0 : Nat) (X1 : PT), (u0 ≤ hi) → (TU X1 (tf P k i) n w (u0 * w)) → (X1.1 0 = nI hi) → (X1.1 1 = nI w) → (X1.1 5 = nI i) → (X1.1 6 = nI n) → (rOK (tf P k i) n w (u0 * w)) → (X1.1 2 = nI (scn (tf P k i) n w (u0 * w)).1) → hi - u0 < N → ∀ (H : Heap) (locs : List Loc) (ls : Array Slot), va_P D vwCl (wC y a P X1 (.ref (a (2 + k)))) H → va_S (AC a) s.heap H locs → lv_has ls 3 [(0, .ref (a 10)), (1, .int (nI u0))] → W p l e rmX6_takeRows s m args below meth c H locs 0 0 Q (F0 m 2 ls []) := by
    intro N2
    induction N2 with
    | zero => intro u0 X1 hu hT hd0 hd1 hx5 hx6 hok1 hpl hmeas; exact absurd hmeas (Nat.not_lt_zero _)
    | succ N2 ih2 =>
      intro u0 X1 hu hT hd0 hd1 hx5 hx6 hok1 hpl hmeas H locs ls hP hS hl
      refine lv_iload_n hx hb dX6_takeRows_2 rfl (lv_at hl 1 rfl) ?_
      refine lv_aload_n hx hb dX6_takeRows_3 rfl (lv_at hl 0 rfl) ?_
      refine cg6_3 FX hK in6 hP (List.mem_of_getElem? (i := 1) rfl) dX6_takeRows_4 ?_
      refine xn_to hx (z := nI hi) hd0 ?_
      refine xn_icmp_ge (tgt := 60) hx hb (by omega) (by omega) dX6_takeRows_7 (by decide) (fun c7 => ?_) (fun c7 => ?_)
      · refine lv_iconst (v := nI 1) hx hb dX6_takeRows_60 rfl ?_
        exact ret H locs 61 ls (nI 1) X1 dX6_takeRows_61 (by have eu : u0 = hi := (by omega); subst eu; exact ⟨b2_1 hok1, fun _ => ⟨⟨⟨hpl, hT.1.1, hT.1.2⟩, hT.2⟩, hd0, hd1, hx6⟩, fun z => absurd hok1 z⟩) hP hS
      · have hpn : (scn (tf P k i) n w (u0 * w)).1 ≤ n := scn_le hok1 hn3
        have hlt0 : u0 * w < hi * w := by have := row_lt (r := u0) (c := 0) (w := w) (hi := hi) c7 (by omega); omega
        have hm0 : u0 * w % w = 0 := Nat.mul_mod_left _ _
        refine lv_aload_n hx hb dX6_takeRows_10 rfl (lv_at hl 0 rfl) ?_
        refine lv_bipush (v := nI 59) hx hb dX6_takeRows_11 rfl ?_
        refine cViI [.int (nI 59)] [] FX hK (c_X6_take l D y a hA P X1 .null k i n (scn (tf P k i) n w (u0 * w)).1 59 hk hin hpl hx5 hx6 hpn (by decide)) (cwV 1 hts gX6_takeRows_X6_take rfl rfl rfl (by decide +kernel) ⟨Nat.le_of_ble_eq_true rfl, Nat.le_of_ble_eq_true rfl⟩) hP (pre_recv hK hP (ci := 6) (q0 := 10) rfl rfl) rfl rfl hl (Nat.le_of_ble_eq_true rfl) dX6_takeRows_13 ⟨Nat.zero_le _, Nat.zero_le _⟩ hS (fun _ h => h) (fun r13 u13 H locs hp13 hP hS _ _ => ?_)
        obtain ⟨rfl, rfl⟩ := hp13
        refine xb_ne (tgt := 21) hx hb dX6_takeRows_16 (by decide) (fun c16 => ?_) (fun c16 => ?_)
        · rw [cif_t c16] at hP
          refine lv_iconst (v := nI 0) hx hb dX6_takeRows_21 rfl ?_
          refine lv_istore_n (lv' := [(2, .int (nI 0)), (0, .ref (a 10)), (1, .int (nI u0))]) hx hb dX6_takeRows_22 rfl hl (by decide) rfl (fun ls hl => ?_)
          have L23 : ∀ (N : Nat) (v0 : Nat) (X2 : PT), (v0 ≤ w) → (TU X2 (tf P k i) n w (u0 * w + v0)) → (X2.1 0 = nI hi) → (X2.1 1 = nI w) → (X2.1 5 = nI i) → (X2.1 6 = nI n) → (rOK (tf P k i) n w (u0 * w + v0)) → (X2.1 2 = nI ((scn (tf P k i) n w (u0 * w + v0)).1 + (if v0 = 0 then 1 else 0))) → (((scn (tf P k i) n w (u0 * w + v0)).1 + (if v0 = 0 then 1 else 0)) ≤ n) → (v0 = 0 → chr (tf P k i) n (scn (tf P k i) n w (u0 * w + v0)).1 59) → w - v0 < N → ∀ (H : Heap) (locs : List Loc) (ls : Array Slot), va_P D vwCl (wC y a P X2 (.ref (a (2 + k)))) H → va_S (AC a) s.heap H locs → lv_has ls 3 [(0, .ref (a 10)), (1, .int (nI u0)), (2, .int (nI v0))] → W p l e rmX6_takeRows s m args below meth c H locs 0 0 Q (F0 m 23 ls []) := by
            intro N23
            induction N23 with
            | zero => intro v0 X2 hv hT hd0 hd1 hx5 hx6 hok2 hpl2 hpn2 hsp2 hmeas; exact absurd hmeas (Nat.not_lt_zero _)
            | succ N23 ih23 =>
              intro v0 X2 hv hT hd0 hd1 hx5 hx6 hok2 hpl2 hpn2 hsp2 hmeas H locs ls hP hS hl
              refine lv_iload_n hx hb dX6_takeRows_23 rfl (lv_at hl 2 rfl) ?_
              refine lv_aload_n hx hb dX6_takeRows_24 rfl (lv_at hl 0 rfl) ?_
              refine cg6_4 FX hK in6 hP (List.mem_of_getElem? (i := 2) rfl) dX6_takeRows_25 ?_
              refine xn_to hx (z := nI w) hd1 ?_
              refine xn_icmp_ge (tgt := 54) hx hb (by omega) (by omega) dX6_takeRows_28 (by decide) (fun c28 => ?_) (fun c28 => ?_)
              · refine lv_iinc (v := nI (u0 + 1)) (lv' := [(1, .int (nI (u0 + 1))), (0, .ref (a 10)), (2, .int (nI v0))]) hx hb dX6_takeRows_54 hl (k := 1) rfl (xn_inc u0 1) (by decide) rfl (fun ls hl => ?_)
                refine lv_goto (tgt := 2) hx hb dX6_takeRows_57 (by decide) ?_
                have e9 : (u0 + 1) * w = u0 * w + v0 := by rw [Nat.succ_mul]; omega
                exact ih2 (u0 + 1) X2 (by omega) (by rw [e9]; exact hT) hd0 hd1 hx5 hx6 (by rw [e9]; exact hok2) (by rw [e9, hpl2, if_neg (show ¬ v0 = 0 by omega)]; rfl) (by omega) H locs ls hP hS (lv_sub hl [1, 0] rfl)
              · refine lv_aload_n hx hb dX6_takeRows_31 rfl (lv_at hl 0 rfl) ?_
                refine lv_iload_n hx hb dX6_takeRows_32 rfl (lv_at hl 1 rfl) ?_
                refine lv_aload_n hx hb dX6_takeRows_33 rfl (lv_at hl 0 rfl) ?_
                refine cg6_4 FX hK in6 hP (List.mem_of_getElem? (i := 2) rfl) dX6_takeRows_34 ?_
                refine xn_to hx (z := nI w) hd1 ?_
                refine xn_imul (a := u0) (b := w) hx hb dX6_takeRows_37 ?_
                refine lv_iload_n hx hb dX6_takeRows_38 rfl (lv_at hl 2 rfl) ?_
                refine xn_iadd (a := u0 * w) (b := v0) hx hb dX6_takeRows_39 ?_
                have hlt := row_lt (r := u0) (c := v0) (w := w) (hi := hi) c7 c28
                have hmod := row_mod (r := u0) (c := v0) (w := w) c28
                have eq1 : (if (u0 * w + v0) % w = 0 then 1 else 0) = (if v0 = 0 then 1 else 0) := by rw [hmod]
                have hq2 : X2.1 2 = nI (qpl (tf P k i) n w (u0 * w + v0)) := by rw [hpl2]; show _ = nI ((scn (tf P k i) n w (u0 * w + v0)).1 + (if (u0 * w + v0) % w = 0 then 1 else 0)); rw [eq1]
                have hqn : qpl (tf P k i) n w (u0 * w + v0) ≤ n := by show (scn (tf P k i) n w (u0 * w + v0)).1 + (if (u0 * w + v0) % w = 0 then 1 else 0) ≤ n; rw [eq1]; exact hpn2
                have hn8 := scn_n (f := (tf P k i)) (n := n) (w := w) (c := u0 * w + v0) hok2
                refine cViI [.int (nI ((u0 * w) + v0))] [] FX hK (c_X6_takeCell l D y a hA P X2 .null k i n (qpl (tf P k i) n w (u0 * w + v0)) (hsN (tf P k i) n w (u0 * w + v0)) (tsN (tf P k i) n w (u0 * w + v0)) (u0 * w + v0) hk hin hq2 hx5 hx6 hqn hT.1.1 hT.1.2 hn8.1 hn8.2 (by omega)) (cwV 1 hts gX6_takeRows_X6_takeCell rfl rfl rfl (by decide +kernel) ⟨Nat.le_of_ble_eq_true rfl, Nat.le_of_ble_eq_true rfl⟩) hP (pre_recv hK hP (ci := 6) (q0 := 10) rfl rfl) rfl rfl hl (Nat.le_of_ble_eq_true rfl) dX6_takeRows_40 ⟨Nat.zero_le _, Nat.zero_le _⟩ hS (fun _ h => h) (fun r40 X3 H locs hp40 hP hS _ _ => ?_)
                obtain ⟨rfl, hTC, hTB⟩ := hp40
                refine xb_ne (tgt := 48) hx hb dX6_takeRows_43 (by decide) (fun c43 => ?_) (fun c43 => ?_)
                · refine lv_iinc (v := nI (v0 + 1)) (lv' := [(2, .int (nI (v0 + 1))), (0, .ref (a 10)), (1, .int (nI u0))]) hx hb dX6_takeRows_48 hl (k := 2) rfl (xn_inc v0 1) (by decide) rfl (fun ls hl => ?_)
                  refine lv_goto (tgt := 23) hx hb dX6_takeRows_51 (by decide) ?_
                  have hTC1 := hTC c43
                  have hok9 : okc (tf P k i) n w (u0 * w + v0) := ⟨fun z => hsp2 (by rw [hmod] at z; exact z), c43⟩
                  have hok3 : rOK (tf P k i) n w (u0 * w + (v0 + 1)) := ok_snoc hok2 hok9
                  have hle9 : (scn (tf P k i) n w (u0 * w + (v0 + 1))).1 ≤ n := scn_le hok3 hn3
                  exact ih23 (v0 + 1) X3 (by omega) (TU_s hT hTC1) ((hTC1.2.1 0 (by decide) (by decide) (by decide)).trans hd0) ((hTC1.2.1 1 (by decide) (by decide) (by decide)).trans hd1) ((hTC1.2.1 5 (by decide) (by decide) (by decide)).trans hx5) ((hTC1.2.1 6 (by decide) (by decide) (by decide)).trans hx6) hok3 (by rw [if_neg (show ¬ v0 + 1 = 0 by omega)]; exact hTC1.1.1) (by rw [if_neg (show ¬ v0 + 1 = 0 by omega)]; exact hle9) (fun z => absurd z (Nat.succ_ne_zero v0)) (Nat.lt_of_lt_of_le (Nat.sub_lt_sub_left c28 (Nat.lt_succ_self v0)) (Nat.lt_succ_iff.mp hmeas)) H locs ls hP hS (lv_sub hl [1, 2, 0] rfl)
                · refine lv_iconst (v := nI 0) hx hb dX6_takeRows_46 rfl ?_
                  exact ret H locs 47 ls (nI 0) X3 dX6_takeRows_47 (by have fp : rFP (tf P k i) n w (hi * w) (cFP (tf P k i) n (qpl (tf P k i) n w (u0 * w + v0)) (hsN (tf P k i) n w (u0 * w + v0)) (tsN (tf P k i) n w (u0 * w + v0))) := ⟨u0 * w + v0, hlt, hok2, Or.inr ⟨fun z => hsp2 (by rw [hmod] at z; exact z), c43, rfl⟩⟩; exact ⟨b2_0 (rFP_not fp), fun z => absurd z (rFP_not fp), fun _ => ⟨_, (cFP_le hqn), (hTB c43), fp⟩⟩) hP hS
          exact L23 _ 0 (pg X1 2 (nI ((scn (tf P k i) n w (u0 * w)).1 + 1))) (Nat.zero_le _) (show TU (pg X1 2 (nI ((scn (tf P k i) n w (u0 * w)).1 + 1))) (tf P k i) n w (u0 * w + 0) from hT) hd0 hd1 hx5 hx6 hok1 (by rw [if_pos rfl]; rfl) (by rw [if_pos rfl]; exact c16.1) (fun _ => c16) (Nat.lt_succ_self _) H locs ls hP hS (lv_sub hl [1, 2, 0] rfl)
        · rw [cif_f c16] at hP
          refine lv_iconst (v := nI 0) hx hb dX6_takeRows_19 rfl ?_
          exact ret H locs 20 ls (nI 0) X1 dX6_takeRows_20 (by have fp : rFP (tf P k i) n w (hi * w) (scn (tf P k i) n w (u0 * w)).1 := ⟨u0 * w, hlt0, hok1, Or.inl ⟨hm0, c16, rfl⟩⟩; exact ⟨b2_0 (rFP_not fp), fun z => absurd z (rFP_not fp), fun _ => ⟨_, hpn, hpl, fp⟩⟩) hP hS
  exact L2 _ 0 X (Nat.zero_le _) (by rw [Nat.zero_mul]; exact hT) hd0 hd1 hx5 hx6 (fun m hm => by rw [Nat.zero_mul] at hm; exact absurd hm (Nat.not_lt_zero _)) (by rw [Nat.zero_mul]; exact hx2) (Nat.lt_succ_self _) s.heap [] ls hP hS (lv_sub hl [1, 0] rfl)

abbrev rmX6_isTaken : Room := { frames := 5, cells := 0, slots := 0, locals := 105 }
set_option maxRecDepth 100000 in
set_option maxHeartbeats 4000000 in
theorem c_X6_isTaken (l : Launch) (D : va_G) (y : Nat → ClassId) (a : Nat → Nat) (hA : CA a 44) (P X : PT) (row : Value) (k i n : Nat) (hk : k < 4) (hin : i + n ≤ 100) : CtI l D y yX6_isTaken wsX6_isTaken rmX6_isTaken [.ref (a 10), .ref (a (2 + k)), .int (nI i), .int (nI n)] (wC y a P X row) (fun r (X' : PT) => r = b2 (TOK (tf P k i) n) ∧ (TOK (tf P k i) n → X'.1 0 = nI (dvl (tf P k i) 1) ∧ X'.1 1 = nI (dvl (tf P k i) 2) ∧ TS X' (tf P k i) n (dvl (tf P k i) 2) (dvl (tf P k i) 1 * dvl (tf P k i) 2)) ∧ (¬ TOK (tf P k i) n → ∃ pf, pf ≤ n ∧ X'.1 2 = nI pf ∧ FPL (tf P k i) n pf)) (fun X' => wC y a P X' (.ref (a (2 + k)))) (AC a) := by
  refine mkI (cc := cX6_isTaken) (maxL := 4) (ret := some .boolean) RX6 rfl (by decide) rfl (Or.inr ⟨rfl, fun r u h => by rw [h.1]; exact b2_01 _⟩) (Nat.le_of_ble_eq_true rfl) ?_
  intro p e s m args below meth c Q FX hK hP ret ls hl
  obtain ⟨hx, hb, hml, hown, hts⟩ := id FX
  have hS : va_S (AC a) s.heap s.heap [] := va_S.rf
  have in4 : ∀ w ∈ wsX40, w ∈ wsX6_isTaken := fun _ h => List.mem_cons_of_mem _ (List.mem_append_right _ (h))
  have in6 : ∀ w ∈ wsX60, w ∈ wsX6_isTaken := fun _ h => List.mem_cons_of_mem _ (List.mem_append_left _ (List.mem_append_right _ (h)))
  have hl : lv_has ls 4 [(0, .ref (a 10)), (1, .ref (a (2 + k))), (2, .int (nI i)), (3, .int (nI n))] := hl
  refine lv_aload_n hx hb dX6_isTaken_0 rfl (lv_at hl 0 rfl) ?_
  refine lv_aload_n hx hb dX6_isTaken_1 rfl (lv_at hl 1 rfl) ?_
  refine cp6_8 FX hK in6 hP hA hS (List.mem_of_getElem? (i := 1) rfl) dX6_isTaken_2 (fun H locs hP hS => ?_)
  refine lv_aload_n hx hb dX6_isTaken_5 rfl (lv_at hl 0 rfl) ?_
  refine lv_iload_n hx hb dX6_isTaken_6 rfl (lv_at hl 2 rfl) ?_
  refine cp6_9 FX hK in6 hP hA hS (List.mem_of_getElem? (i := 2) rfl) dX6_isTaken_7 (fun H locs hP hS => ?_)
  refine lv_aload_n hx hb dX6_isTaken_10 rfl (lv_at hl 0 rfl) ?_
  refine lv_iload_n hx hb dX6_isTaken_11 rfl (lv_at hl 3 rfl) ?_
  refine cp6_10 FX hK in6 hP hA hS (List.mem_of_getElem? (i := 3) rfl) dX6_isTaken_12 (fun H locs hP hS => ?_)
  refine lv_aload_n hx hb dX6_isTaken_15 rfl (lv_at hl 0 rfl) ?_
  refine lv_iconst (v := nI 0) hx hb dX6_isTaken_16 rfl ?_
  refine cp6_5 FX hK in6 hP hA hS (List.mem_of_getElem? (i := 4) rfl) dX6_isTaken_17 (fun H locs hP hS => ?_)
  refine lv_aload_n hx hb dX6_isTaken_20 rfl (lv_at hl 0 rfl) ?_
  refine lv_iconst (v := nI 0) hx hb dX6_isTaken_21 rfl ?_
  refine cp6_6 FX hK in6 hP hA hS (List.mem_of_getElem? (i := 5) rfl) dX6_isTaken_22 (fun H locs hP hS => ?_)
  refine lv_aload_n hx hb dX6_isTaken_25 rfl (lv_at hl 0 rfl) ?_
  refine lv_iconst (v := nI 0) hx hb dX6_isTaken_26 rfl ?_
  refine cp6_7 FX hK in6 hP hA hS (List.mem_of_getElem? (i := 6) rfl) dX6_isTaken_27 (fun H locs hP hS => ?_)
  refine lv_aload_n hx hb dX6_isTaken_30 rfl (lv_at hl 0 rfl) ?_
  refine cViI [] [] FX hK (c_X6_takeHead l D y a hA P (pg (pg (pg (pg (pg X 5 (nI i)) 6 (nI n)) 2 (nI 0)) 3 (nI 0)) 4 (nI 0)) .null k i n hk hin rfl rfl rfl) (cwV 0 hts gX6_isTaken_X6_takeHead rfl rfl rfl (by decide +kernel) ⟨Nat.le_of_ble_eq_true rfl, Nat.le_of_ble_eq_true rfl⟩) hP (pre_recv hK hP (ci := 6) (q0 := 10) rfl rfl) rfl rfl hl (Nat.le_of_ble_eq_true rfl) dX6_isTaken_31 ⟨Nat.zero_le _, Nat.zero_le _⟩ hS (fun _ h => h) (fun r31 X1 H locs hp31 hP hS _ _ => ?_)
  obtain ⟨rfl, hHC, hHB⟩ := hp31
  refine xb_eq (tgt := 59) hx hb dX6_isTaken_34 (by decide) (fun c34 => ?_) (fun c34 => ?_)
  · refine lv_iconst (v := nI 0) hx hb dX6_isTaken_59 rfl ?_
    exact ret H locs 60 ls (nI 0) X1 dX6_isTaken_60 (by obtain ⟨pf, h1, h2, h3⟩ := hHB c34; have fp : FPL (tf P k i) n pf := (by rcases h3 with h3 | h3 | h3; exact Or.inl h3; exact Or.inr (Or.inl h3); exact Or.inr (Or.inr (Or.inl h3))); exact ⟨b2_0 (FPL_not fp), fun z => absurd z (FPL_not fp), fun _ => ⟨_, h1, h2, fp⟩⟩) hP hS
  · have hH := hHC c34
    have b1 := dgt_v c34.2.1 (by decide)
    have b2 := dgt_v c34.2.2 (by decide)
    have hw2 := b2.1
    have hw6 := b2.2.1
    have hi1 := b1.1
    have hi5 := b1.2.1
    have hx5 : X1.1 5 = nI i := (hH.2.2.2.1 5 (by decide) (by decide) (by decide)).trans rfl
    have hx6 : X1.1 6 = nI n := (hH.2.2.2.1 6 (by decide) (by decide) (by decide)).trans rfl
    have hT0 : TU X1 (tf P k i) n (dvl (tf P k i) 2) 0 := ⟨⟨(hH.2.2.2.1 3 (by decide) (by decide) (by decide)).trans rfl, (hH.2.2.2.1 4 (by decide) (by decide) (by decide)).trans rfl⟩, fun m hm => absurd hm (Nat.not_lt_zero _)⟩
    refine lv_aload_n hx hb dX6_isTaken_37 rfl (lv_at hl 0 rfl) ?_
    refine cViI [] [] FX hK (c_X6_takeRows l D y a hA P X1 .null k i n (dvl (tf P k i) 2) (dvl (tf P k i) 1) hk hin hw2 hw6 hi1 hi5 c34.2.2.1 hT0 hH.1 hH.2.1 hx5 hx6 hH.2.2.1) (cwV 0 hts gX6_isTaken_X6_takeRows rfl rfl rfl (by decide +kernel) ⟨Nat.le_of_ble_eq_true rfl, Nat.le_of_ble_eq_true rfl⟩) hP (pre_recv hK hP (ci := 6) (q0 := 10) rfl rfl) rfl rfl hl (Nat.le_of_ble_eq_true rfl) dX6_isTaken_38 ⟨Nat.zero_le _, Nat.zero_le _⟩ hS (fun _ h => h) (fun r38 X2 H locs hp38 hP hS _ _ => ?_)
    obtain ⟨rfl, hRC, hRB⟩ := hp38
    refine xb_eq (tgt := 59) hx hb dX6_isTaken_41 (by decide) (fun c41 => ?_) (fun c41 => ?_)
    · refine lv_iconst (v := nI 0) hx hb dX6_isTaken_59 rfl ?_
      exact ret H locs 60 ls (nI 0) X2 dX6_isTaken_60 (by obtain ⟨pf, h1, h2, h3⟩ := hRB c41; have fp : FPL (tf P k i) n pf := Or.inr (Or.inr (Or.inr ⟨c34.1, c34.2.1, c34.2.2, Or.inl h3⟩)); exact ⟨b2_0 (FPL_not fp), fun z => absurd z (FPL_not fp), fun _ => ⟨_, h1, h2, fp⟩⟩) hP hS
    · have hle := scn_le c41 c34.2.2.1
      refine lv_aload_n hx hb dX6_isTaken_44 rfl (lv_at hl 0 rfl) ?_
      refine cg6_5 FX hK in6 hP (List.mem_of_getElem? (i := 4) rfl) dX6_isTaken_45 ?_
      refine xn_to hx (z := nI ((scn (tf P k i) n (dvl (tf P k i) 2) (dvl (tf P k i) 1 * dvl (tf P k i) 2)).1)) (hRC c41).1.1.1 ?_
      refine lv_aload_n hx hb dX6_isTaken_48 rfl (lv_at hl 0 rfl) ?_
      refine cg6_10 FX hK in6 hP (List.mem_of_getElem? (i := 3) rfl) dX6_isTaken_49 ?_
      refine xn_to hx (z := nI n) (hRC c41).2.2.2 ?_
      refine xn_icmp_ne (tgt := 59) hx hb (by omega) (by omega) dX6_isTaken_52 (by decide) (fun c52 => ?_) (fun c52 => ?_)
      · refine lv_iconst (v := nI 0) hx hb dX6_isTaken_59 rfl ?_
        exact ret H locs 60 ls (nI 0) X2 dX6_isTaken_60 (by have h1 := hle; have h2 := (hRC c41).1.1.1; have fp : FPL (tf P k i) n (scn (tf P k i) n (dvl (tf P k i) 2) (dvl (tf P k i) 1 * dvl (tf P k i) 2)).1 := Or.inr (Or.inr (Or.inr ⟨c34.1, c34.2.1, c34.2.2, Or.inr ⟨c41, c52, rfl⟩⟩)); exact ⟨b2_0 (FPL_not fp), fun z => absurd z (FPL_not fp), fun _ => ⟨_, h1, h2, fp⟩⟩) hP hS
      · refine lv_iconst (v := nI 1) hx hb dX6_isTaken_55 rfl ?_
        refine lv_goto (tgt := 60) hx hb dX6_isTaken_56 (by decide) ?_
        exact ret H locs 60 ls (nI 1) X2 dX6_isTaken_60 (by have tk : TOK (tf P k i) n := ⟨c34.1, c34.2.1, c34.2.2, c41, c52⟩; exact ⟨b2_1 tk, fun _ => ⟨(hRC c41).2.1, (hRC c41).2.2.1, (hRC c41).1⟩, fun z => absurd tk z⟩) hP hS

abbrev rmX2_settle : Room := { frames := 0, cells := 0, slots := 0, locals := 0 }
set_option maxRecDepth 100000 in
set_option maxHeartbeats 4000000 in
theorem c_X2_settle (l : Launch) (D : va_G) (y : Nat → ClassId) (a : Nat → Nat) (hA : CA a 44) (P X : PT) (row : Value) (dt : Prop) (kd m0 hs ts : Nat) (tv : Int32) (hp2 : P.1 2 = nI hs) (hp3 : P.1 3 = nI ts) (hh8 : ¬ dt → ¬ kd = 3 → hs < 8) (ht8 : ¬ dt → kd = 3 → ts < 8) (hkd : kd ≤ 4) (hs8 : hs ≤ 8) (ts8 : ts ≤ 8) : CtI l D y yX2_settle wsX2_settle rmX2_settle [.ref (a 14), .int (nI m0), .int (cif dt (-1) (nI kd)), .int tv] (wC y a P X row) (fun r (P' : PT) => r = thv dt kd hs ts ∧ P' = stl P dt kd m0 hs ts tv) (fun P' => wC y a P' X row) (AC a) := by
  refine mkI (cc := cX2_settle) (maxL := 5) (ret := some .int) RX2 rfl (by decide) rfl (Or.inl rfl) (Nat.le_of_ble_eq_true rfl) ?_
  intro p e s m args below meth c Q FX hK hP ret ls hl
  obtain ⟨hx, hb, hml, hown, hts⟩ := id FX
  have hS : va_S (AC a) s.heap s.heap [] := va_S.rf
  have in1 : ∀ w ∈ wsX10, w ∈ wsX2_settle := fun _ h => List.mem_cons_of_mem _ (List.mem_append_right _ (h))
  have in2 : ∀ w ∈ wsX20, w ∈ wsX2_settle := fun _ h => List.mem_cons_of_mem _ (List.mem_append_left _ (List.mem_append_left _ (List.mem_append_right _ (h))))
  have in7 : ∀ w ∈ wsX70, w ∈ wsX2_settle := fun _ h => List.mem_cons_of_mem _ (List.mem_append_left _ (List.mem_append_right _ (h)))
  have hl : lv_has ls 5 [(0, .ref (a 14)), (1, .int (nI m0)), (2, .int (cif dt (-1) (nI kd))), (3, .int tv)] := hl
  by_cases hd : dt
  · rw [cif_t hd] at hl
    refine lv_iload_n hx hb dX2_settle_0 rfl (lv_at hl 2 rfl) ?_
    refine lv_iconst (v := (-1)) hx hb dX2_settle_1 rfl ?_
    refine lv_icmp_ne (tgt := 7) hx hb dX2_settle_2 (by decide) (fun c2 => ?_) (fun c2 => ?_)
    · exact absurd rfl c2
    · refine lv_iconst (v := nI 0) hx hb dX2_settle_5 rfl ?_
      exact ret s.heap [] 6 ls (nI 0) P dX2_settle_6 (by unfold thv stl; rw [cif_t hd, cif_t hd]; exact ⟨rfl, rfl⟩) hP hS
  · rw [cif_f hd] at hl
    by_cases h3 : kd = 3
    · have h8 := ht8 hd h3
      rw [h3] at hl
      refine lv_iload_n hx hb dX2_settle_0 rfl (lv_at hl 2 rfl) ?_
      refine lv_iconst (v := (-1)) hx hb dX2_settle_1 rfl ?_
      refine lv_icmp_ne (tgt := 7) hx hb dX2_settle_2 (by decide) (fun c2 => ?_) (fun c2 => ?_)
      · refine lv_iload_n hx hb dX2_settle_7 rfl (lv_at hl 2 rfl) ?_
        refine lv_iconst (v := nI 3) hx hb dX2_settle_8 rfl ?_
        refine xn_icmp_ne (tgt := 50) hx hb (by omega) (by omega) dX2_settle_9 (by decide) (fun c9 => ?_) (fun c9 => ?_)
        · exact absurd rfl c9
        · refine lv_aload_n hx hb dX2_settle_12 rfl (lv_at hl 0 rfl) ?_
          refine cg2_4 FX hK in2 hP (List.mem_of_getElem? (i := 1) rfl) dX2_settle_13 ?_
          refine lv_aload_n hx hb dX2_settle_16 rfl (lv_at hl 0 rfl) ?_
          refine cg2_8 FX hK in2 hP (List.mem_of_getElem? (i := 2) rfl) dX2_settle_17 ?_
          refine xn_to hx (z := nI ts) hp3 ?_
          refine ca19 (i := ts) (by omega) FX hK hP dX2_settle_20 ?_
          refine lv_astore (lv' := [(4, .ref (a (28 + ts))), (0, .ref (a 14)), (1, .int (nI m0)), (2, .int (nI 3)), (3, .int tv)]) hx hb dX2_settle_21 hl (by decide) rfl (fun ls hl => ?_)
          refine lv_aload hx hb dX2_settle_23 (lv_at hl 0 rfl) ?_
          refine lv_iload_n hx hb dX2_settle_25 rfl (lv_at hl 2 rfl) ?_
          refine cp7_0 (h := ts) (by omega) FX hK in7 hP hA hS (List.mem_of_getElem? (i := 3) rfl) dX2_settle_26 (fun H locs hP hS => ?_)
          refine lv_aload hx hb dX2_settle_29 (lv_at hl 0 rfl) ?_
          refine lv_iload_n hx hb dX2_settle_31 rfl (lv_at hl 4 rfl) ?_
          refine cp7_1 (h := ts) (by omega) FX hK in7 hP hA hS (List.mem_of_getElem? (i := 4) rfl) dX2_settle_32 (fun H locs hP hS => ?_)
          refine lv_bipush (v := nI 20) hx hb dX2_settle_35 rfl ?_
          refine lv_aload_n hx hb dX2_settle_37 rfl (lv_at hl 1 rfl) ?_
          refine lv_dup hx hb dX2_settle_38 rfl ?_
          refine cg2_8 FX hK in2 hP (List.mem_of_getElem? (i := 2) rfl) dX2_settle_39 ?_
          refine xn_to hx (z := nI ts) hp3 ?_
          refine lv_dup_x1 hx hb dX2_settle_42 rfl rfl ?_
          refine lv_iconst (v := nI 1) hx hb dX2_settle_43 rfl ?_
          refine xn_iadd (a := ts) (b := 1) hx hb dX2_settle_44 ?_
          refine cp2_8 FX hK in2 hP hA hS (List.mem_of_getElem? (i := 2) rfl) dX2_settle_45 (fun H locs hP hS => ?_)
          refine xn_iadd (a := 20) (b := ts) hx hb dX2_settle_48 ?_
          exact ret H locs 49 ls (nI (20 + ts)) (pg (pa (pa P 7 ts (nI m0)) 8 ts tv) 3 (nI (ts + 1))) dX2_settle_49 (by unfold thv stl; rw [cif_f hd, cif_t h3, cif_f hd, cif_t h3]; exact ⟨rfl, rfl⟩) hP hS
      · exact absurd c2 (nI_m1 (by omega))
    · have h8 := hh8 hd h3
      refine lv_iload_n hx hb dX2_settle_0 rfl (lv_at hl 2 rfl) ?_
      refine lv_iconst (v := (-1)) hx hb dX2_settle_1 rfl ?_
      refine lv_icmp_ne (tgt := 7) hx hb dX2_settle_2 (by decide) (fun c2 => ?_) (fun c2 => ?_)
      · refine lv_iload_n hx hb dX2_settle_7 rfl (lv_at hl 2 rfl) ?_
        refine lv_iconst (v := nI 3) hx hb dX2_settle_8 rfl ?_
        refine xn_icmp_ne (tgt := 50) hx hb (by omega) (by omega) dX2_settle_9 (by decide) (fun c9 => ?_) (fun c9 => ?_)
        · refine lv_aload_n hx hb dX2_settle_50 rfl (lv_at hl 0 rfl) ?_
          refine cg2_3 FX hK in2 hP (List.mem_of_getElem? (i := 5) rfl) dX2_settle_51 ?_
          refine lv_aload_n hx hb dX2_settle_54 rfl (lv_at hl 0 rfl) ?_
          refine cg2_7 FX hK in2 hP (List.mem_of_getElem? (i := 6) rfl) dX2_settle_55 ?_
          refine xn_to hx (z := nI hs) hp2 ?_
          refine ca18 (i := hs) (by omega) FX hK hP dX2_settle_58 ?_
          refine lv_astore (lv' := [(4, .ref (a (20 + hs))), (0, .ref (a 14)), (1, .int (nI m0)), (2, .int (nI kd)), (3, .int tv)]) hx hb dX2_settle_59 hl (by decide) rfl (fun ls hl => ?_)
          refine lv_aload hx hb dX2_settle_61 (lv_at hl 0 rfl) ?_
          refine lv_iload_n hx hb dX2_settle_63 rfl (lv_at hl 3 rfl) ?_
          refine cp1_0 (h := hs) (by omega) FX hK in1 hP hA hS (List.mem_of_getElem? (i := 7) rfl) dX2_settle_64 (fun H locs hP hS => ?_)
          refine lv_aload hx hb dX2_settle_67 (lv_at hl 0 rfl) ?_
          refine lv_iload_n hx hb dX2_settle_69 rfl (lv_at hl 2 rfl) ?_
          refine cp1_1 (h := hs) (by omega) FX hK in1 hP hA hS (List.mem_of_getElem? (i := 8) rfl) dX2_settle_70 (fun H locs hP hS => ?_)
          refine lv_aload hx hb dX2_settle_73 (lv_at hl 0 rfl) ?_
          refine lv_iload_n hx hb dX2_settle_75 rfl (lv_at hl 4 rfl) ?_
          refine cp1_2 (h := hs) (by omega) FX hK in1 hP hA hS (List.mem_of_getElem? (i := 9) rfl) dX2_settle_76 (fun H locs hP hS => ?_)
          refine lv_aload hx hb dX2_settle_79 (lv_at hl 0 rfl) ?_
          refine lv_iconst (v := nI 0) hx hb dX2_settle_81 rfl ?_
          refine cp1_3 (h := hs) (by omega) FX hK in1 hP hA hS (List.mem_of_getElem? (i := 10) rfl) dX2_settle_82 (fun H locs hP hS => ?_)
          refine lv_bipush (v := nI 10) hx hb dX2_settle_85 rfl ?_
          refine lv_aload_n hx hb dX2_settle_87 rfl (lv_at hl 1 rfl) ?_
          refine lv_dup hx hb dX2_settle_88 rfl ?_
          refine cg2_7 FX hK in2 hP (List.mem_of_getElem? (i := 6) rfl) dX2_settle_89 ?_
          refine xn_to hx (z := nI hs) hp2 ?_
          refine lv_dup_x1 hx hb dX2_settle_92 rfl rfl ?_
          refine lv_iconst (v := nI 1) hx hb dX2_settle_93 rfl ?_
          refine xn_iadd (a := hs) (b := 1) hx hb dX2_settle_94 ?_
          refine cp2_7 FX hK in2 hP hA hS (List.mem_of_getElem? (i := 6) rfl) dX2_settle_95 (fun H locs hP hS => ?_)
          refine xn_iadd (a := 10) (b := hs) hx hb dX2_settle_98 ?_
          exact ret H locs 99 ls (nI (10 + hs)) (pg (pa (pa (pa (pa P 3 hs (nI kd)) 4 hs (nI m0)) 5 hs tv) 6 hs (nI 0)) 2 (nI (hs + 1))) dX2_settle_99 (by unfold thv stl; rw [cif_f hd, cif_f h3, cif_f hd, cif_f h3]; exact ⟨rfl, rfl⟩) hP hS
        · exact absurd c9 h3
      · exact absurd c2 (nI_m1 (by omega))

theorem kdc_le (f : Nat → Int32) (n p hs ts : Nat) : kdc f n p hs ts ≤ 4 := by
  unfold kdc cif
  split
  · decide
  · split
    · decide
    · split
      · decide
      · split <;> decide

abbrev rmX2_makeAnew : Room := { frames := 1, cells := 0, slots := 0, locals := 24 }
set_option maxRecDepth 100000 in
set_option maxHeartbeats 4000000 in
theorem c_X2_makeAnew (l : Launch) (D : va_G) (y : Nat → ClassId) (a : Nat → Nat) (hA : CA a 44) (P X : PT) (row : Value) (f : Nat → Int32) (n w hi : Nat) (hw6 : w ≤ 6) (hi5 : hi ≤ 5) (hx0 : X.1 0 = nI hi) (hx1 : X.1 1 = nI w) (hT : TS X f n w (hi * w)) (hok : rOK f n w (hi * w)) : CtV l D y yX2_makeAnew wsX2_makeAnew rmX2_makeAnew [.ref (a 14), .ref (a 10)] (wC y a P X row) (fun (P' : PT) => CN (pg (pg (pg (pg (pg (pg (pg (pg P 0 (nI w)) 1 (nI (hi * w))) 2 (nI 0)) 3 (nI 0)) 4 (nI 0)) 5 (nI 0)) 6 (nI 9)) 7 (nI 0)) P' f n w (hi * w)) (fun P' => wC y a P' X row) (AC a) := by
  refine mkV (cc := cX2_makeAnew) (maxL := 3) RX2 rfl (by decide) rfl (Nat.le_of_ble_eq_true rfl) ?_
  intro p e s m args below meth c Q FX hK hP ret ls hl
  obtain ⟨hx, hb, hml, hown, hts⟩ := id FX
  have hS : va_S (AC a) s.heap s.heap [] := va_S.rf
  have in1 : ∀ w ∈ wsX10, w ∈ wsX2_makeAnew := fun _ h => List.mem_cons_of_mem _ (List.mem_append_right _ (h))
  have in2 : ∀ w ∈ wsX20, w ∈ wsX2_makeAnew := fun _ h => List.mem_cons_of_mem _ (List.mem_append_left _ (List.mem_append_left _ (List.mem_append_right _ (h))))
  have in6 : ∀ w ∈ wsX60, w ∈ wsX2_makeAnew := fun _ h => List.mem_cons_of_mem _ (List.mem_append_left _ (List.mem_append_left _ (List.mem_append_left _ (List.mem_append_right _ (h)))))
  have in7 : ∀ w ∈ wsX70, w ∈ wsX2_makeAnew := fun _ h => List.mem_cons_of_mem _ (List.mem_append_left _ (List.mem_append_right _ (h)))
  have hl : lv_has ls 3 [(0, .ref (a 14)), (1, .ref (a 10))] := hl
  have h30 := row_30 hi5 hw6
  refine lv_aload_n hx hb dX2_makeAnew_0 rfl (lv_at hl 0 rfl) ?_
  refine lv_aload_n hx hb dX2_makeAnew_1 rfl (lv_at hl 1 rfl) ?_
  refine cg6_4 FX hK in6 hP (List.mem_of_getElem? (i := 1) rfl) dX2_makeAnew_2 ?_
  refine xn_to hx (z := nI w) hx1 ?_
  refine cp2_5 FX hK in2 hP hA hS (List.mem_of_getElem? (i := 2) rfl) dX2_makeAnew_5 (fun H locs hP hS => ?_)
  refine lv_aload_n hx hb dX2_makeAnew_8 rfl (lv_at hl 0 rfl) ?_
  refine lv_aload_n hx hb dX2_makeAnew_9 rfl (lv_at hl 1 rfl) ?_
  refine cg6_3 FX hK in6 hP (List.mem_of_getElem? (i := 3) rfl) dX2_makeAnew_10 ?_
  refine xn_to hx (z := nI hi) hx0 ?_
  refine lv_aload_n hx hb dX2_makeAnew_13 rfl (lv_at hl 1 rfl) ?_
  refine cg6_4 FX hK in6 hP (List.mem_of_getElem? (i := 1) rfl) dX2_makeAnew_14 ?_
  refine xn_to hx (z := nI w) hx1 ?_
  refine xn_imul (a := hi) (b := w) hx hb dX2_makeAnew_17 ?_
  refine cp2_6 FX hK in2 hP hA hS (List.mem_of_getElem? (i := 4) rfl) dX2_makeAnew_18 (fun H locs hP hS => ?_)
  refine lv_aload_n hx hb dX2_makeAnew_21 rfl (lv_at hl 0 rfl) ?_
  refine lv_iconst (v := nI 0) hx hb dX2_makeAnew_22 rfl ?_
  refine cp2_7 FX hK in2 hP hA hS (List.mem_of_getElem? (i := 5) rfl) dX2_makeAnew_23 (fun H locs hP hS => ?_)
  refine lv_aload_n hx hb dX2_makeAnew_26 rfl (lv_at hl 0 rfl) ?_
  refine lv_iconst (v := nI 0) hx hb dX2_makeAnew_27 rfl ?_
  refine cp2_8 FX hK in2 hP hA hS (List.mem_of_getElem? (i := 6) rfl) dX2_makeAnew_28 (fun H locs hP hS => ?_)
  refine lv_aload_n hx hb dX2_makeAnew_31 rfl (lv_at hl 0 rfl) ?_
  refine lv_iconst (v := nI 0) hx hb dX2_makeAnew_32 rfl ?_
  refine cp2_9 FX hK in2 hP hA hS (List.mem_of_getElem? (i := 7) rfl) dX2_makeAnew_33 (fun H locs hP hS => ?_)
  refine lv_aload_n hx hb dX2_makeAnew_36 rfl (lv_at hl 0 rfl) ?_
  refine lv_iconst (v := nI 0) hx hb dX2_makeAnew_37 rfl ?_
  refine cp2_10 FX hK in2 hP hA hS (List.mem_of_getElem? (i := 8) rfl) dX2_makeAnew_38 (fun H locs hP hS => ?_)
  refine lv_aload_n hx hb dX2_makeAnew_41 rfl (lv_at hl 0 rfl) ?_
  refine lv_bipush (v := nI 9) hx hb dX2_makeAnew_42 rfl ?_
  refine cp2_11 FX hK in2 hP hA hS (List.mem_of_getElem? (i := 9) rfl) dX2_makeAnew_44 (fun H locs hP hS => ?_)
  refine lv_aload_n hx hb dX2_makeAnew_47 rfl (lv_at hl 0 rfl) ?_
  refine lv_iconst (v := nI 0) hx hb dX2_makeAnew_48 rfl ?_
  refine cp2_12 FX hK in2 hP hA hS (List.mem_of_getElem? (i := 10) rfl) dX2_makeAnew_49 (fun H locs hP hS => ?_)
  refine lv_iconst (v := nI 0) hx hb dX2_makeAnew_52 rfl ?_
  refine lv_istore_n (lv' := [(2, .int (nI 0)), (0, .ref (a 14)), (1, .ref (a 10))]) hx hb dX2_makeAnew_53 rfl hl (by decide) rfl (fun ls hl => ?_)
  have L54 : ∀ (N : Nat) (c0 : Nat) (P1 : PT), (c0 ≤ hi * w) → (CN (pg (pg (pg (pg (pg (pg (pg (pg P 0 (nI w)) 1 (nI (hi * w))) 2 (nI 0)) 3 (nI 0)) 4 (nI 0)) 5 (nI 0)) 6 (nI 9)) 7 (nI 0)) P1 f n w c0) → hi * w - c0 < N → ∀ (H : Heap) (locs : List Loc) (ls : Array Slot), va_P D vwCl (wC y a P1 X row) H → va_S (AC a) s.heap H locs → lv_has ls 3 [(0, .ref (a 14)), (1, .ref (a 10)), (2, .int (nI c0))] → W p l e rmX2_makeAnew s m args below meth c H locs 0 0 Q (F0 m 54 ls []) := by
    intro N54
    induction N54 with
    | zero => intro c0 P1 hc9 hCN hmeas; exact absurd hmeas (Nat.not_lt_zero _)
    | succ N54 ih54 =>
      intro c0 P1 hc9 hCN hmeas H locs ls hP hS hl
      refine lv_iload_n hx hb dX2_makeAnew_54 rfl (lv_at hl 2 rfl) ?_
      refine lv_aload_n hx hb dX2_makeAnew_55 rfl (lv_at hl 0 rfl) ?_
      refine cg2_6 FX hK in2 hP (List.mem_of_getElem? (i := 4) rfl) dX2_makeAnew_56 ?_
      refine xn_to hx (z := nI (hi * w)) ((hCN.2.2.2.1 1 (by decide) (by decide)).trans rfl) ?_
      refine xn_icmp_ge (tgt := 110) hx hb (by omega) (by omega) dX2_makeAnew_59 (by decide) (fun c59 => ?_) (fun c59 => ?_)
      · exact ret H locs 110 ls P1 dX2_makeAnew_110 (by have e9 : c0 = hi * w := (by omega); rw [e9] at hCN; exact hCN) hP hS
      · have hn8 := scn_n (f := f) (n := n) (w := w) (c := c0) (fun b hb => hok b (by omega))
        have hT2 := hT.2 c0 c59
        have hkd : ¬ dot f n w c0 → kdN f n w c0 < 4 := fun z => ((hok c0 c59).2.2.resolve_left z).1
        refine lv_aload_n hx hb dX2_makeAnew_62 rfl (lv_at hl 0 rfl) ?_
        refine cg2_0 FX hK in2 hP (List.mem_of_getElem? (i := 11) rfl) dX2_makeAnew_63 ?_
        refine lv_iload_n hx hb dX2_makeAnew_66 rfl (lv_at hl 2 rfl) ?_
        refine lv_aload_n hx hb dX2_makeAnew_67 rfl (lv_at hl 1 rfl) ?_
        refine cg6_0 FX hK in6 hP (List.mem_of_getElem? (i := 12) rfl) dX2_makeAnew_68 ?_
        refine lv_iload_n hx hb dX2_makeAnew_71 rfl (lv_at hl 2 rfl) ?_
        refine ca11 (i := c0) (by omega) FX hK hP dX2_makeAnew_72 ?_
        refine xn_to hx (z := nI (dvl f (qpl f n w c0))) hT2.1 ?_
        refine cs15 (i := c0) (by omega) FX hK hP hA hS dX2_makeAnew_73 (fun H locs hP hS => ?_)
        refine lv_aload_n hx hb dX2_makeAnew_74 rfl (lv_at hl 0 rfl) ?_
        refine cg2_1 FX hK in2 hP (List.mem_of_getElem? (i := 13) rfl) dX2_makeAnew_75 ?_
        refine lv_iload_n hx hb dX2_makeAnew_78 rfl (lv_at hl 2 rfl) ?_
        refine lv_iconst (v := nI 0) hx hb dX2_makeAnew_79 rfl ?_
        refine cs16 (i := c0) (by omega) FX hK hP hA hS dX2_makeAnew_80 (fun H locs hP hS => ?_)
        refine lv_aload_n hx hb dX2_makeAnew_81 rfl (lv_at hl 0 rfl) ?_
        refine cg2_2 FX hK in2 hP (List.mem_of_getElem? (i := 14) rfl) dX2_makeAnew_82 ?_
        refine lv_iload_n hx hb dX2_makeAnew_85 rfl (lv_at hl 2 rfl) ?_
        refine lv_aload_n hx hb dX2_makeAnew_86 rfl (lv_at hl 0 rfl) ?_
        refine lv_iload_n hx hb dX2_makeAnew_87 rfl (lv_at hl 2 rfl) ?_
        refine lv_aload_n hx hb dX2_makeAnew_88 rfl (lv_at hl 1 rfl) ?_
        refine cg6_1 FX hK in6 hP (List.mem_of_getElem? (i := 15) rfl) dX2_makeAnew_89 ?_
        refine lv_iload_n hx hb dX2_makeAnew_92 rfl (lv_at hl 2 rfl) ?_
        refine ca12 (i := c0) (by omega) FX hK hP dX2_makeAnew_93 ?_
        refine xn_to hx (z := cif (dot f n w c0) (-1) (nI (kdN f n w c0))) hT2.2.1 ?_
        refine lv_aload_n hx hb dX2_makeAnew_94 rfl (lv_at hl 1 rfl) ?_
        refine cg6_2 FX hK in6 hP (List.mem_of_getElem? (i := 16) rfl) dX2_makeAnew_95 ?_
        refine lv_iload_n hx hb dX2_makeAnew_98 rfl (lv_at hl 2 rfl) ?_
        refine ca13 (i := c0) (by omega) FX hK hP dX2_makeAnew_99 ?_
        refine cViI [.int (nI c0), .int (cif (dot f n w c0) (-1) (nI (kdN f n w c0))), .int (X.2 2 c0)] [.int (nI c0), .ref (a 17)] FX hK (c_X2_settle l D y a hA (pa (pa P1 0 c0 (nI (dvl f (qpl f n w c0)))) 1 c0 (nI 0)) X row (dot f n w c0) (kdN f n w c0) c0 (hsN f n w c0) (tsN f n w c0) (X.2 2 c0) hCN.2.1 hCN.2.2.1 (fun z1 z2 => kdc_lt3 (f := f) (n := n) (p := qpl f n w c0 + 1) (hs := hsN f n w c0) (ts := tsN f n w c0) (show kdN f n w c0 < 3 by have := hkd z1; omega)) (fun _ z2 => kdc_3h z2) (kdc_le _ _ _ _ _) hn8.1 hn8.2) (cwV 3 hts gX2_makeAnew_X2_settle rfl rfl rfl (by decide +kernel) ⟨Nat.le_of_ble_eq_true rfl, Nat.le_of_ble_eq_true rfl⟩) hP (pre_recv hK hP (ci := 2) (q0 := 14) rfl rfl) rfl rfl hl (Nat.le_of_ble_eq_true rfl) dX2_makeAnew_100 ⟨Nat.zero_le _, Nat.zero_le _⟩ hS (fun _ h => h) (fun r100 u100 H locs hp100 hP hS _ _ => ?_)
        obtain ⟨rfl, rfl⟩ := hp100
        refine cs17 (i := c0) (by omega) FX hK hP hA hS dX2_makeAnew_103 (fun H locs hP hS => ?_)
        refine lv_iinc (v := nI (c0 + 1)) (lv' := [(2, .int (nI (c0 + 1))), (0, .ref (a 14)), (1, .ref (a 10))]) hx hb dX2_makeAnew_104 hl (k := 2) rfl (xn_inc c0 1) (by decide) rfl (fun ls hl => ?_)
        refine lv_goto (tgt := 54) hx hb dX2_makeAnew_107 (by decide) ?_
        exact ih54 (c0 + 1) (pa (stl (pa (pa P1 0 c0 (nI (dvl f (qpl f n w c0)))) 1 c0 (nI 0)) (dot f n w c0) (kdN f n w c0) c0 (hsN f n w c0) (tsN f n w c0) (X.2 2 c0)) 2 c0 (thv (dot f n w c0) (kdN f n w c0) (hsN f n w c0) (tsN f n w c0))) (by omega) (CN_s hCN rfl hT2.2.2) (by omega) H locs ls hP hS (lv_sub hl [1, 2, 0] rfl)
  exact L54 _ 0 (pg (pg (pg (pg (pg (pg (pg (pg P 0 (nI w)) 1 (nI (hi * w))) 2 (nI 0)) 3 (nI 0)) 4 (nI 0)) 5 (nI 0)) 6 (nI 9)) 7 (nI 0)) (Nat.zero_le _) (CN_0 rfl rfl) (Nat.lt_succ_self _) H locs ls hP hS (lv_sub hl [1, 2, 0] rfl)

abbrev rmX8_land : Room := { frames := 6, cells := 0, slots := 0, locals := 128 }
set_option maxRecDepth 100000 in
set_option maxHeartbeats 4000000 in
theorem c_X8_land (l : Launch) (D : va_G) (y : Nat → ClassId) (a : Nat → Nat) (hA : CA a 44) (P X : PT) (row : Value) (x lane i0 n0 : Int32) (hsh : SH P) : CtI l D y yX8_land wsX8_land rmX8_land [.ref (a 0), .int x, .int lane, .int i0, .int n0] (wC y a P X row) (fun (r : Int32) (u : (PT × PT) × Value) => LR P x lane i0 n0 r u.1.1) (fun (u : (PT × PT) × Value) => wC y a u.1.1 u.1.2 u.2) (AC a) := by
  refine mkI (cc := cX8_land) (maxL := 7) (ret := some .int) RX8 rfl (by decide) rfl (Or.inl rfl) (Nat.le_of_ble_eq_true rfl) ?_
  intro p e s m args below meth c Q FX hK hP ret ls hl
  obtain ⟨hx, hb, hml, hown, hts⟩ := id FX
  have hS : va_S (AC a) s.heap s.heap [] := va_S.rf
  have in1 : ∀ w ∈ wsX10, w ∈ wsX8_land := fun _ h => List.mem_cons_of_mem _ (List.mem_append_right _ (h))
  have in2 : ∀ w ∈ wsX20, w ∈ wsX8_land := fun _ h => List.mem_cons_of_mem _ (List.mem_append_left _ (List.mem_append_left _ (List.mem_append_left _ (List.mem_append_right _ (h)))))
  have in3 : ∀ w ∈ wsX30, w ∈ wsX8_land := fun _ h => List.mem_cons_of_mem _ (List.mem_append_left _ (List.mem_append_left _ (List.mem_append_left _ (List.mem_append_left _ (List.mem_append_right _ (h))))))
  have in4 : ∀ w ∈ wsX40, w ∈ wsX8_land := fun _ h => List.mem_cons_of_mem _ (List.mem_append_left _ (List.mem_append_left _ (List.mem_append_right _ (h))))
  have in6 : ∀ w ∈ wsX60, w ∈ wsX8_land := fun _ h => List.mem_cons_of_mem _ (List.mem_append_left _ (List.mem_append_left _ (List.mem_append_left _ (List.mem_append_left _ (List.mem_append_left _ (List.mem_append_right _ (h)))))))
  have in7 : ∀ w ∈ wsX70, w ∈ wsX8_land := fun _ h => List.mem_cons_of_mem _ (List.mem_append_left _ (List.mem_append_right _ (h)))
  have in8 : ∀ w ∈ wsX80, w ∈ wsX8_land := fun _ h => List.mem_cons_of_mem _ (List.mem_append_left _ (List.mem_append_left _ (List.mem_append_left _ (List.mem_append_left _ (List.mem_append_left _ (List.mem_append_left _ (List.mem_append_right _ (h))))))))
  have hl : lv_has ls 7 [(0, .ref (a 0)), (1, .int x), (2, .int lane), (3, .int i0), (4, .int n0)] := hl
  refine lv_aload_n hx hb dX8_land_0 rfl (lv_at hl 0 rfl) ?_
  refine lv_iconst (v := nI 0) hx hb dX8_land_1 rfl ?_
  refine cp8_7 FX hK in8 hP hA hS (List.mem_of_getElem? (i := 1) rfl) dX8_land_2 (fun H locs hP hS => ?_)
  refine lv_iload_n hx hb dX8_land_5 rfl (lv_at hl 1 rfl) ?_
  refine cStI [.int x] [] FX hK (c_X8_isSheet l D y x) (va_cwS 1 hts gX8_land_X8_isSheet rfl rfl rfl (by decide +kernel) ⟨Nat.le_of_ble_eq_true rfl, Nat.le_of_ble_eq_true rfl⟩) rfl rfl hl (Nat.le_of_ble_eq_true rfl) dX8_land_6 ⟨Nat.zero_le _, Nat.zero_le _⟩ hP hS (fun r6 H locs hp6 hP hS => ?_)
  obtain rfl := hp6
  refine xb_ne (tgt := 14) hx hb dX8_land_9 (by decide) (fun c9 => ?_) (fun c9 => ?_)
  · have k9 := c9
    obtain ⟨j, hj, rfl⟩ := c9
    refine lv_iload_n hx hb dX8_land_14 rfl (lv_at hl 2 rfl) ?_
    refine lv_iconst (v := nI 0) hx hb dX8_land_15 rfl ?_
    refine lv_iconst (v := nI 2) hx hb dX8_land_16 rfl ?_
    refine cStI [.int lane, .int (nI 0), .int (nI 2)] [] FX hK (c_X8_isWithin l D y lane (nI 0) (nI 2)) (va_cwS 3 hts gX8_land_X8_isWithin rfl rfl rfl (by decide +kernel) ⟨Nat.le_of_ble_eq_true rfl, Nat.le_of_ble_eq_true rfl⟩) rfl rfl hl (Nat.le_of_ble_eq_true rfl) dX8_land_17 ⟨Nat.zero_le _, Nat.zero_le _⟩ hP hS (fun r17 H locs hp17 hP hS => ?_)
    obtain rfl := hp17
    refine xn_to hx (z := b2 (inR 0 2 lane)) (b2_iff (wth_iff (by omega) (by omega))) ?_
    refine xb_ne (tgt := 26) hx hb dX8_land_20 (by decide) (fun c20 => ?_) (fun c20 => ?_)
    · refine lv_aload_n hx hb dX8_land_26 rfl (lv_at hl 0 rfl) ?_
      refine cg8_0 FX hK in8 hP (List.mem_of_getElem? (i := 2) rfl) dX8_land_27 ?_
      refine lv_iload_n hx hb dX8_land_30 rfl (lv_at hl 1 rfl) ?_
      refine ca1 (i := j) (by omega) FX hK hP dX8_land_31 ?_
      refine lv_astore (lv' := [(5, .ref (a (2 + j))), (0, .ref (a 0)), (1, .int (nI j)), (2, .int lane), (3, .int i0), (4, .int n0)]) hx hb dX8_land_32 hl (by decide) rfl (fun ls hl => ?_)
      refine lv_aload hx hb dX8_land_34 (lv_at hl 0 rfl) ?_
      refine lv_iload_n hx hb dX8_land_36 rfl (lv_at hl 3 rfl) ?_
      refine cViI [.int lane] [] FX hK (c_X4_faultAs l D y a hA (pg P 10 (nI 0)) X row j lane (by omega)) (cwV 1 hts gX8_land_X4_faultAs rfl rfl rfl (by decide +kernel) ⟨Nat.le_of_ble_eq_true rfl, Nat.le_of_ble_eq_true rfl⟩) hP (pre_recv hK hP (ci := 4) (q0 := 2 + j) rfl (wC_sheet y a _ _ _ j (by omega))) rfl rfl hl (Nat.le_of_ble_eq_true rfl) dX8_land_37 ⟨Nat.zero_le _, Nat.zero_le _⟩ hS (fun _ h => h) (fun r37 u37 H locs hp37 hP hS _ _ => ?_)
      obtain rfl := hp37
      refine xn_to hx (z := fas P j lane) rfl ?_
      refine lv_istore (lv' := [(6, .int (fas P j lane)), (5, .ref (a (2 + j))), (0, .ref (a 0)), (1, .int (nI j)), (2, .int lane), (3, .int i0), (4, .int n0)]) hx hb dX8_land_40 hl (by decide) rfl (fun ls hl => ?_)
      refine lv_iload hx hb dX8_land_42 (lv_at hl 0 rfl) ?_
      refine lv_if_ne (tgt := 55) hx hb dX8_land_44 (by decide) (fun c44 => ?_) (fun c44 => ?_)
      · refine lv_iload hx hb dX8_land_55 (lv_at hl 0 rfl) ?_
        refine lv_if_ne (tgt := 74) hx hb dX8_land_57 (by decide) (fun c57 => ?_) (fun c57 => ?_)
        · refine lv_iload hx hb dX8_land_74 (lv_at hl 0 rfl) ?_
          refine lv_if_eq (tgt := 86) hx hb dX8_land_76 (by decide) (fun c76 => ?_) (fun c76 => ?_)
          · exact absurd c76 c44
          · obtain ⟨kf, hkf1, hkf⟩ := fas_nat P j lane
            rw [hkf] at hl
            refine lv_aload_n hx hb dX8_land_79 rfl (lv_at hl 2 rfl) ?_
            refine lv_iload hx hb dX8_land_80 (lv_at hl 0 rfl) ?_
            refine cViI [.int (nI kf)] [] FX hK (c_X8_answerFault l D y a hA (pg P 10 (nI 0)) X row kf) (cwV 1 hts gX8_land_X8_answerFault rfl rfl rfl (by decide +kernel) ⟨Nat.le_of_ble_eq_true rfl, Nat.le_of_ble_eq_true rfl⟩) hP (pre_recv hK hP (ci := 8) (q0 := 0) rfl rfl) rfl rfl hl (Nat.le_of_ble_eq_true rfl) dX8_land_82 ⟨Nat.zero_le _, Nat.zero_le _⟩ hS (fun _ h => h) (fun r82 u82 H locs hp82 hP hS _ _ => ?_)
            obtain rfl := hp82
            exact ret H locs 85 ls ((-10) - nI kf) ((pg (pg P 10 (nI 0)) 10 (nI kf), X), row) dX8_land_85 (Or.inr (Or.inr (Or.inl (by rw [dN_nI (show j < 2 ^ 31 by omega)]; have z9 : nI kf = lfl P j lane i0 n0 := hkf.symm.trans (lfl_1 c44); exact ⟨⟨j, hj, rfl⟩, c20, (fun z => c44 (hkf.trans (z9.trans z))), by rw [← z9], by rw [← z9]; exact pg_pg _ _ _ _⟩)))) hP hS
        · exact absurd c57 c44
      · refine lv_iload hx hb dX8_land_47 (lv_at hl 6 rfl) ?_
        refine lv_if_ge (tgt := 55) hx hb dX8_land_49 (by decide) (fun c49 => ?_) (fun c49 => ?_)
        · refine lv_iload hx hb dX8_land_55 (lv_at hl 0 rfl) ?_
          refine lv_if_ne (tgt := 74) hx hb dX8_land_57 (by decide) (fun c57 => ?_) (fun c57 => ?_)
          · exact absurd c44 c57
          · refine lv_aload hx hb dX8_land_60 (lv_at hl 1 rfl) ?_
            refine lv_iload_n hx hb dX8_land_62 rfl (lv_at hl 5 rfl) ?_
            refine lv_iload hx hb dX8_land_63 (lv_at hl 6 rfl) ?_
            refine cViI [.int i0, .int n0] [] FX hK (c_X4_holdsRun l D y a hA (pg P 10 (nI 0)) X row j i0 n0 (by omega)) (cwV 2 hts gX8_land_X4_holdsRun rfl rfl rfl (by decide +kernel) ⟨Nat.le_of_ble_eq_true rfl, Nat.le_of_ble_eq_true rfl⟩) hP (pre_recv hK hP (ci := 4) (q0 := 2 + j) rfl (wC_sheet y a _ _ _ j (by omega))) rfl rfl hl (Nat.le_of_ble_eq_true rfl) dX8_land_65 ⟨Nat.zero_le _, Nat.zero_le _⟩ hS (fun _ h => h) (fun r65 u65 H locs hp65 hP hS _ _ => ?_)
            obtain rfl := hp65
            refine xn_to hx (z := b2 (inRun i0 n0 (P.2 13 j))) rfl ?_
            refine xb_ne (tgt := 74) hx hb dX8_land_68 (by decide) (fun c68 => ?_) (fun c68 => ?_)
            · have k68 := c68
              obtain ⟨ii, nn, s1, h1, h2, e1, e2, h3⟩ := inRun_nat hsh hj (fas_z c44).1 c68
              subst e1
              subst e2
              refine lv_iload hx hb dX8_land_74 (lv_at hl 0 rfl) ?_
              refine lv_if_eq (tgt := 86) hx hb dX8_land_76 (by decide) (fun c76 => ?_) (fun c76 => ?_)
              · refine lv_aload_n hx hb dX8_land_86 rfl (lv_at hl 2 rfl) ?_
                refine cg8_1 FX hK in8 hP (List.mem_of_getElem? (i := 3) rfl) dX8_land_87 ?_
                refine lv_aload hx hb dX8_land_90 (lv_at hl 1 rfl) ?_
                refine lv_iload_n hx hb dX8_land_92 rfl (lv_at hl 5 rfl) ?_
                refine lv_iload hx hb dX8_land_93 (lv_at hl 6 rfl) ?_
                refine cViI [.ref (a (2 + j)), .int (nI ii), .int (nI nn)] [] FX hK (c_X6_isTaken l D y a hA (pg P 10 (nI 0)) X row j ii nn hj (by omega)) (cwV 3 hts gX8_land_X6_isTaken rfl rfl rfl (by decide +kernel) ⟨Nat.le_of_ble_eq_true rfl, Nat.le_of_ble_eq_true rfl⟩) hP (pre_recv hK hP (ci := 6) (q0 := 10) rfl rfl) rfl rfl hl (Nat.le_of_ble_eq_true rfl) dX8_land_95 ⟨Nat.zero_le _, Nat.zero_le _⟩ hS (fun _ h => h) (fun r95 X1 H locs hp95 hP hS _ _ => ?_)
                obtain ⟨rfl, hTK, hTF⟩ := hp95
                refine xb_ne (tgt := 112) hx hb dX8_land_98 (by decide) (fun c98 => ?_) (fun c98 => ?_)
                · have hdim := TOK_dim c98
                  obtain ⟨hk0, hk1, hk2⟩ := hTK c98
                  refine lv_aload_n hx hb dX8_land_112 rfl (lv_at hl 2 rfl) ?_
                  refine cg8_2 FX hK in8 hP (List.mem_of_getElem? (i := 5) rfl) dX8_land_113 ?_
                  refine lv_aload_n hx hb dX8_land_116 rfl (lv_at hl 2 rfl) ?_
                  refine cg8_1 FX hK in8 hP (List.mem_of_getElem? (i := 3) rfl) dX8_land_117 ?_
                  refine cViV [.ref (a 10)] [] FX hK (c_X2_makeAnew l D y a hA (pg P 10 (nI 0)) X1 (.ref (a (2 + j))) (tf P j ii) nn (dvl (tf P j ii) 2) (dvl (tf P j ii) 1) hdim.2.2.2 hdim.2.1 hk0 hk1 hk2 c98.2.2.2.1) (cwV 1 hts gX8_land_X2_makeAnew rfl rfl rfl (by decide +kernel) ⟨Nat.le_of_ble_eq_true rfl, Nat.le_of_ble_eq_true rfl⟩) hP (pre_recv hK hP (ci := 2) (q0 := 14) rfl rfl) rfl rfl hl (Nat.le_of_ble_eq_true rfl) dX8_land_120 ⟨Nat.zero_le _, Nat.zero_le _⟩ hS (fun _ h => h) (fun P1 H locs hp120 hP hS _ _ => ?_)
                  refine lv_aload_n hx hb dX8_land_123 rfl (lv_at hl 2 rfl) ?_
                  refine cg8_5 FX hK in8 hP (List.mem_of_getElem? (i := 6) rfl) dX8_land_124 ?_
                  refine lv_iconst (v := nI 0) hx hb dX8_land_127 rfl ?_
                  refine cp3_0 FX hK in3 hP hA hS (List.mem_of_getElem? (i := 7) rfl) dX8_land_128 (fun H locs hP hS => ?_)
                  refine lv_aload_n hx hb dX8_land_131 rfl (lv_at hl 2 rfl) ?_
                  refine cg8_2 FX hK in8 hP (List.mem_of_getElem? (i := 5) rfl) dX8_land_132 ?_
                  refine cg2_6 FX hK in2 hP (List.mem_of_getElem? (i := 8) rfl) dX8_land_135 ?_
                  refine xn_to hx (z := nI (dvl (tf P j ii) 1 * dvl (tf P j ii) 2)) ((hp120.2.2.2.1 1 (by decide) (by decide)).trans rfl) ?_
                  exact ret H locs 138 ls (nI (dvl (tf P j ii) 1 * dvl (tf P j ii) 2)) ((pg P1 8 (nI 0), X1), (.ref (a (2 + j)))) dX8_land_138 (Or.inr (Or.inr (Or.inr (Or.inr (by rw [dN_nI (show j < 2 ^ 31 by omega)]; rw [dN_nI (show ii < 2 ^ 31 by omega), dN_nI (show nn < 2 ^ 31 by omega)]; exact ⟨⟨j, hj, rfl⟩, c20, lfl_0 c44 (ge_nlt c49) k68, c98, rfl, hp120.1, (hp120.2.2.2.1 0 (by decide) (by decide)).trans rfl, (hp120.2.2.2.1 1 (by decide) (by decide)).trans rfl, hp120.2.1, hp120.2.2.1, (hp120.2.2.2.1 4 (by decide) (by decide)).trans rfl, (hp120.2.2.2.1 5 (by decide) (by decide)).trans rfl, (hp120.2.2.2.1 6 (by decide) (by decide)).trans rfl, (hp120.2.2.2.1 7 (by decide) (by decide)).trans rfl, rfl, (hp120.2.2.2.1 9 (by decide) (by decide)).trans rfl, (hp120.2.2.2.1 10 (by decide) (by decide)).trans rfl, fun j2 q2 hj2 => hp120.2.2.2.2 j2 q2 (by omega)⟩))))) hP hS
                · obtain ⟨pf, hpf1, hpf2, hpf3⟩ := hTF c98
                  refine lv_bipush (v := (-100)) hx hb dX8_land_101 rfl ?_
                  refine lv_aload_n hx hb dX8_land_103 rfl (lv_at hl 2 rfl) ?_
                  refine cg8_1 FX hK in8 hP (List.mem_of_getElem? (i := 3) rfl) dX8_land_104 ?_
                  refine cg6_5 FX hK in6 hP (List.mem_of_getElem? (i := 4) rfl) dX8_land_107 ?_
                  refine xn_to hx (z := nI pf) hpf2 ?_
                  refine lv_isub hx hb dX8_land_110 ?_
                  exact ret H locs 111 ls ((-100) - (nI pf)) ((pg P 10 (nI 0), X1), (.ref (a (2 + j)))) dX8_land_111 (Or.inr (Or.inr (Or.inr (Or.inl (by rw [dN_nI (show j < 2 ^ 31 by omega)]; rw [dN_nI (show ii < 2 ^ 31 by omega), dN_nI (show nn < 2 ^ 31 by omega)]; exact ⟨⟨j, hj, rfl⟩, c20, lfl_0 c44 (ge_nlt c49) k68, ⟨pf, hpf3, rfl⟩, rfl⟩))))) hP hS
              · exact absurd c44 c76
            · refine lv_iconst (v := nI 3) hx hb dX8_land_71 rfl ?_
              refine lv_istore (lv' := [(6, .int (nI 3)), (5, .ref (a (2 + j))), (0, .ref (a 0)), (1, .int (nI j)), (2, .int lane), (3, .int i0), (4, .int n0)]) hx hb dX8_land_72 hl (by decide) rfl (fun ls hl => ?_)
              refine lv_iload hx hb dX8_land_74 (lv_at hl 0 rfl) ?_
              refine xn_if_eq (tgt := 86) hx hb (by omega) dX8_land_76 (by decide) (fun c76 => ?_) (fun c76 => ?_)
              · exact absurd c76 (by decide)
              · refine lv_aload_n hx hb dX8_land_79 rfl (lv_at hl 2 rfl) ?_
                refine lv_iload hx hb dX8_land_80 (lv_at hl 0 rfl) ?_
                refine cViI [.int (nI 3)] [] FX hK (c_X8_answerFault l D y a hA (pg P 10 (nI 0)) X row 3) (cwV 1 hts gX8_land_X8_answerFault rfl rfl rfl (by decide +kernel) ⟨Nat.le_of_ble_eq_true rfl, Nat.le_of_ble_eq_true rfl⟩) hP (pre_recv hK hP (ci := 8) (q0 := 0) rfl rfl) rfl rfl hl (Nat.le_of_ble_eq_true rfl) dX8_land_82 ⟨Nat.zero_le _, Nat.zero_le _⟩ hS (fun _ h => h) (fun r82 u82 H locs hp82 hP hS _ _ => ?_)
                obtain rfl := hp82
                exact ret H locs 85 ls ((-10) - nI 3) ((pg (pg P 10 (nI 0)) 10 (nI 3), X), row) dX8_land_85 (Or.inr (Or.inr (Or.inl (by rw [dN_nI (show j < 2 ^ 31 by omega)]; have z9 : nI 3 = lfl P j lane i0 n0 := lfl_3 c44 (ge_nlt c49) c68; exact ⟨⟨j, hj, rfl⟩, c20, (fun z => absurd (z9.trans z) (by decide)), by rw [← z9], by rw [← z9]; exact pg_pg _ _ _ _⟩)))) hP hS
        · refine lv_iconst (v := nI 4) hx hb dX8_land_52 rfl ?_
          refine lv_istore (lv' := [(6, .int (nI 4)), (5, .ref (a (2 + j))), (0, .ref (a 0)), (1, .int (nI j)), (2, .int lane), (3, .int i0), (4, .int n0)]) hx hb dX8_land_53 hl (by decide) rfl (fun ls hl => ?_)
          refine lv_iload hx hb dX8_land_55 (lv_at hl 0 rfl) ?_
          refine xn_if_ne (tgt := 74) hx hb (by omega) dX8_land_57 (by decide) (fun c57 => ?_) (fun c57 => ?_)
          · refine lv_iload hx hb dX8_land_74 (lv_at hl 0 rfl) ?_
            refine xn_if_eq (tgt := 86) hx hb (by omega) dX8_land_76 (by decide) (fun c76 => ?_) (fun c76 => ?_)
            · exact absurd c76 (by decide)
            · refine lv_aload_n hx hb dX8_land_79 rfl (lv_at hl 2 rfl) ?_
              refine lv_iload hx hb dX8_land_80 (lv_at hl 0 rfl) ?_
              refine cViI [.int (nI 4)] [] FX hK (c_X8_answerFault l D y a hA (pg P 10 (nI 0)) X row 4) (cwV 1 hts gX8_land_X8_answerFault rfl rfl rfl (by decide +kernel) ⟨Nat.le_of_ble_eq_true rfl, Nat.le_of_ble_eq_true rfl⟩) hP (pre_recv hK hP (ci := 8) (q0 := 0) rfl rfl) rfl rfl hl (Nat.le_of_ble_eq_true rfl) dX8_land_82 ⟨Nat.zero_le _, Nat.zero_le _⟩ hS (fun _ h => h) (fun r82 u82 H locs hp82 hP hS _ _ => ?_)
              obtain rfl := hp82
              exact ret H locs 85 ls ((-10) - nI 4) ((pg (pg P 10 (nI 0)) 10 (nI 4), X), row) dX8_land_85 (Or.inr (Or.inr (Or.inl (by rw [dN_nI (show j < 2 ^ 31 by omega)]; have z9 : nI 4 = lfl P j lane i0 n0 := lfl_4 c44 (nge_lt c49); exact ⟨⟨j, hj, rfl⟩, c20, (fun z => absurd (z9.trans z) (by decide)), by rw [← z9], by rw [← z9]; exact pg_pg _ _ _ _⟩)))) hP hS
          · exact absurd c57 (by decide)
    · refine lv_bipush (v := (-2)) hx hb dX8_land_23 rfl ?_
      exact ret H locs 25 ls (-2) ((pg P 10 (nI 0), X), row) dX8_land_25 (Or.inr (Or.inl ⟨⟨j, hj, rfl⟩, c20, rfl, rfl⟩)) hP hS
  · refine lv_iconst (v := (-1)) hx hb dX8_land_12 rfl ?_
    exact ret H locs 13 ls (-1) ((pg P 10 (nI 0), X), row) dX8_land_13 (Or.inl ⟨c9, rfl, rfl⟩) hP hS
