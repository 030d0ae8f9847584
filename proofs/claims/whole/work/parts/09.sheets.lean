abbrev rmX4_hasRow : Room := { frames := 0, cells := 0, slots := 0, locals := 0 }
set_option maxRecDepth 100000 in
set_option maxHeartbeats 4000000 in
theorem c_X4_hasRow (l : Launch) (D : va_G) (y : Nat → ClassId) (a : Nat → Nat) (hA : CA a 44) (P X : PT) (row : Value) (h : Nat) (hh : h < 4) : CtI l D y yX4_hasRow wsX4_hasRow rmX4_hasRow [.ref (a (2 + h))] (wC y a P X row) (fun r (_ : Unit) => r = b2 (¬ P.2 13 h = -1)) (fun _ => wC y a P X row) (AC a) := by
  refine mkI (cc := cX4_hasRow) (maxL := 1) (ret := some .boolean) RX4 rfl (by decide) rfl (Or.inr ⟨rfl, fun r u h => by rw [h]; exact b2_01 _⟩) (Nat.le_of_ble_eq_true rfl) ?_
  intro p e s m args below meth c Q FX hK hP ret ls hl
  obtain ⟨hx, hb, hml, hown, hts⟩ := id FX
  have hS : va_S (AC a) s.heap s.heap [] := va_S.rf
  have in4 : ∀ w ∈ wsX40, w ∈ wsX4_hasRow := fun _ h => List.mem_cons_of_mem _ (List.mem_append_right _ (h))
  have hl : lv_has ls 1 [(0, .ref (a (2 + h)))] := hl
  refine lv_aload_n hx hb dX4_hasRow_0 rfl (lv_at hl 0 rfl) ?_
  refine cg4_2 (h := h) (by omega) FX hK in4 hP (List.mem_of_getElem? (i := 1) rfl) dX4_hasRow_1 ?_
  refine lv_iconst (v := (-1)) hx hb dX4_hasRow_4 rfl ?_
  refine lv_icmp_eq (tgt := 12) hx hb dX4_hasRow_5 (by decide) (fun c5 => ?_) (fun c5 => ?_)
  · refine lv_iconst (v := nI 0) hx hb dX4_hasRow_12 rfl ?_
    exact ret s.heap [] 13 ls (nI 0) () dX4_hasRow_13 (b2_0 (fun z => z c5)) hP hS
  · refine lv_iconst (v := nI 1) hx hb dX4_hasRow_8 rfl ?_
    refine lv_goto (tgt := 13) hx hb dX4_hasRow_9 (by decide) ?_
    exact ret s.heap [] 13 ls (nI 1) () dX4_hasRow_13 (b2_1 c5) hP hS

abbrev rmX4_dropRow : Room := { frames := 0, cells := 0, slots := 0, locals := 0 }
set_option maxRecDepth 100000 in
set_option maxHeartbeats 4000000 in
theorem c_X4_dropRow (l : Launch) (D : va_G) (y : Nat → ClassId) (a : Nat → Nat) (hA : CA a 44) (P X : PT) (row : Value) (h : Nat) (hh : h < 4) : CtV l D y yX4_dropRow wsX4_dropRow rmX4_dropRow [.ref (a (2 + h))] (wC y a P X row) (fun (_ : Unit) => True) (fun _ => wC y a (pa P 13 h (-1)) X row) (AC a) := by
  refine mkV (cc := cX4_dropRow) (maxL := 1) RX4 rfl (by decide) rfl (Nat.le_of_ble_eq_true rfl) ?_
  intro p e s m args below meth c Q FX hK hP ret ls hl
  obtain ⟨hx, hb, hml, hown, hts⟩ := id FX
  have hS : va_S (AC a) s.heap s.heap [] := va_S.rf
  have in4 : ∀ w ∈ wsX40, w ∈ wsX4_dropRow := fun _ h => List.mem_cons_of_mem _ (List.mem_append_right _ (h))
  have hl : lv_has ls 1 [(0, .ref (a (2 + h)))] := hl
  refine lv_aload_n hx hb dX4_dropRow_0 rfl (lv_at hl 0 rfl) ?_
  refine lv_iconst (v := (-1)) hx hb dX4_dropRow_1 rfl ?_
  refine cp4_2 (h := h) (by omega) FX hK in4 hP hA hS (List.mem_of_getElem? (i := 1) rfl) dX4_dropRow_2 (fun H locs hP hS => ?_)
  exact ret H locs 5 ls () dX4_dropRow_5 trivial hP hS

abbrev rmX4_faultAs : Room := { frames := 1, cells := 0, slots := 0, locals := 20 }
set_option maxRecDepth 100000 in
set_option maxHeartbeats 4000000 in
theorem c_X4_faultAs (l : Launch) (D : va_G) (y : Nat → ClassId) (a : Nat → Nat) (hA : CA a 44) (P X : PT) (row : Value) (h : Nat) (lane : Int32) (hh : h < 4) : CtI l D y yX4_faultAs wsX4_faultAs rmX4_faultAs [.ref (a (2 + h)), .int lane] (wC y a P X row) (fun r (_ : Unit) => r = fas P h lane) (fun _ => wC y a P X row) (AC a) := by
  refine mkI (cc := cX4_faultAs) (maxL := 2) (ret := some .int) RX4 rfl (by decide) rfl (Or.inl rfl) (Nat.le_of_ble_eq_true rfl) ?_
  intro p e s m args below meth c Q FX hK hP ret ls hl
  obtain ⟨hx, hb, hml, hown, hts⟩ := id FX
  have hS : va_S (AC a) s.heap s.heap [] := va_S.rf
  have in4 : ∀ w ∈ wsX40, w ∈ wsX4_faultAs := fun _ h => List.mem_cons_of_mem _ (List.mem_append_right _ (h))
  have hl : lv_has ls 2 [(0, .ref (a (2 + h))), (1, .int lane)] := hl
  refine lv_aload_n hx hb dX4_faultAs_0 rfl (lv_at hl 0 rfl) ?_
  refine cViI [] [] FX hK (c_X4_hasRow l D y a hA P X row h (by omega)) (cwV 0 hts gX4_faultAs_X4_hasRow rfl rfl rfl (by decide +kernel) ⟨Nat.le_of_ble_eq_true rfl, Nat.le_of_ble_eq_true rfl⟩) hP (pre_recv hK hP (ci := 4) (q0 := 2 + h) rfl (wC_sheet y a _ _ _ h (by omega))) rfl rfl hl (Nat.le_of_ble_eq_true rfl) dX4_faultAs_1 ⟨Nat.zero_le _, Nat.zero_le _⟩ hS (fun _ h => h) (fun r1 u1 H locs hp1 hP hS _ _ => ?_)
  obtain rfl := hp1
  refine xb_ne (tgt := 9) hx hb dX4_faultAs_4 (by decide) (fun c4 => ?_) (fun c4 => ?_)
  · refine lv_aload_n hx hb dX4_faultAs_9 rfl (lv_at hl 0 rfl) ?_
    refine cg4_1 (h := h) (by omega) FX hK in4 hP (List.mem_of_getElem? (i := 1) rfl) dX4_faultAs_10 ?_
    refine lv_iload_n hx hb dX4_faultAs_13 rfl (lv_at hl 1 rfl) ?_
    refine lv_icmp_ne (tgt := 21) hx hb dX4_faultAs_14 (by decide) (fun c14 => ?_) (fun c14 => ?_)
    · refine lv_iconst (v := nI 2) hx hb dX4_faultAs_21 rfl ?_
      exact ret H locs 22 ls (nI 2) () dX4_faultAs_22 (by unfold fas; rw [cif_t c4, cif_f c14]) hP hS
    · refine lv_iconst (v := nI 0) hx hb dX4_faultAs_17 rfl ?_
      refine lv_goto (tgt := 22) hx hb dX4_faultAs_18 (by decide) ?_
      exact ret H locs 22 ls (nI 0) () dX4_faultAs_22 (by unfold fas; rw [cif_t c4, cif_t c14]) hP hS
  · refine lv_iconst (v := nI 1) hx hb dX4_faultAs_7 rfl ?_
    exact ret H locs 8 ls (nI 1) () dX4_faultAs_8 (by unfold fas; rw [cif_f c4]) hP hS

abbrev rmX4_holds : Room := { frames := 0, cells := 0, slots := 0, locals := 0 }
set_option maxRecDepth 100000 in
set_option maxHeartbeats 4000000 in
theorem c_X4_holds (l : Launch) (D : va_G) (y : Nat → ClassId) (a : Nat → Nat) (hA : CA a 44) (P X : PT) (row : Value) (h : Nat) (i : Int32) (hh : h < 4) : CtI l D y yX4_holds wsX4_holds rmX4_holds [.ref (a (2 + h)), .int i] (wC y a P X row) (fun r (_ : Unit) => r = b2 (inS i (P.2 13 h))) (fun _ => wC y a P X row) (AC a) := by
  refine mkI (cc := cX4_holds) (maxL := 2) (ret := some .boolean) RX4 rfl (by decide) rfl (Or.inr ⟨rfl, fun r u h => by rw [h]; exact b2_01 _⟩) (Nat.le_of_ble_eq_true rfl) ?_
  intro p e s m args below meth c Q FX hK hP ret ls hl
  obtain ⟨hx, hb, hml, hown, hts⟩ := id FX
  have hS : va_S (AC a) s.heap s.heap [] := va_S.rf
  have in4 : ∀ w ∈ wsX40, w ∈ wsX4_holds := fun _ h => List.mem_cons_of_mem _ (List.mem_append_right _ (h))
  have hl : lv_has ls 2 [(0, .ref (a (2 + h))), (1, .int i)] := hl
  refine lv_iconst (v := nI 0) hx hb dX4_holds_0 rfl ?_
  refine lv_iload_n hx hb dX4_holds_1 rfl (lv_at hl 1 rfl) ?_
  refine lv_icmp_gt (tgt := 17) hx hb dX4_holds_2 (by decide) (fun c2 => ?_) (fun c2 => ?_)
  · refine lv_iconst (v := nI 0) hx hb dX4_holds_17 rfl ?_
    exact ret s.heap [] 18 ls (nI 0) () dX4_holds_18 (by first | exact b2_0 (fun q => q.1 c2) | exact b2_0 (fun q => by have z := q.2; rw [i_lt] at z; rw [i_le] at c10; omega)) hP hS
  · refine lv_iload_n hx hb dX4_holds_5 rfl (lv_at hl 1 rfl) ?_
    refine lv_aload_n hx hb dX4_holds_6 rfl (lv_at hl 0 rfl) ?_
    refine cg4_2 (h := h) (by omega) FX hK in4 hP (List.mem_of_getElem? (i := 1) rfl) dX4_holds_7 ?_
    refine lv_icmp_ge (tgt := 17) hx hb dX4_holds_10 (by decide) (fun c10 => ?_) (fun c10 => ?_)
    · refine lv_iconst (v := nI 0) hx hb dX4_holds_17 rfl ?_
      exact ret s.heap [] 18 ls (nI 0) () dX4_holds_18 (by first | exact b2_0 (fun q => q.1 c2) | exact b2_0 (fun q => by have z := q.2; rw [i_lt] at z; rw [i_le] at c10; omega)) hP hS
    · refine lv_iconst (v := nI 1) hx hb dX4_holds_13 rfl ?_
      refine lv_goto (tgt := 18) hx hb dX4_holds_14 (by decide) ?_
      exact ret s.heap [] 18 ls (nI 1) () dX4_holds_18 (b2_1 ⟨c2, by rw [i_lt]; rw [i_le] at c10; omega⟩) hP hS

abbrev rmX4_holdsRun : Room := { frames := 0, cells := 0, slots := 0, locals := 0 }
set_option maxRecDepth 100000 in
set_option maxHeartbeats 4000000 in
theorem c_X4_holdsRun (l : Launch) (D : va_G) (y : Nat → ClassId) (a : Nat → Nat) (hA : CA a 44) (P X : PT) (row : Value) (h : Nat) (i m0 : Int32) (hh : h < 4) : CtI l D y yX4_holdsRun wsX4_holdsRun rmX4_holdsRun [.ref (a (2 + h)), .int i, .int m0] (wC y a P X row) (fun r (_ : Unit) => r = b2 (inRun i m0 (P.2 13 h))) (fun _ => wC y a P X row) (AC a) := by
  refine mkI (cc := cX4_holdsRun) (maxL := 3) (ret := some .boolean) RX4 rfl (by decide) rfl (Or.inr ⟨rfl, fun r u h => by rw [h]; exact b2_01 _⟩) (Nat.le_of_ble_eq_true rfl) ?_
  intro p e s m args below meth c Q FX hK hP ret ls hl
  obtain ⟨hx, hb, hml, hown, hts⟩ := id FX
  have hS : va_S (AC a) s.heap s.heap [] := va_S.rf
  have in4 : ∀ w ∈ wsX40, w ∈ wsX4_holdsRun := fun _ h => List.mem_cons_of_mem _ (List.mem_append_right _ (h))
  have hl : lv_has ls 3 [(0, .ref (a (2 + h))), (1, .int i), (2, .int m0)] := hl
  refine lv_iload_n hx hb dX4_holdsRun_0 rfl (lv_at hl 1 rfl) ?_
  refine lv_if_lt (tgt := 22) hx hb dX4_holdsRun_1 (by decide) (fun c1 => ?_) (fun c1 => ?_)
  · refine lv_iconst (v := nI 0) hx hb dX4_holdsRun_22 rfl ?_
    exact ret s.heap [] 23 ls (nI 0) () dX4_holdsRun_23 (by first | exact b2_0 (fun q => q.1 c1) | exact b2_0 (fun q => q.2.1 c5) | exact b2_0 (fun q => q.2.2 c15)) hP hS
  · refine lv_iload_n hx hb dX4_holdsRun_4 rfl (lv_at hl 2 rfl) ?_
    refine lv_if_lt (tgt := 22) hx hb dX4_holdsRun_5 (by decide) (fun c5 => ?_) (fun c5 => ?_)
    · refine lv_iconst (v := nI 0) hx hb dX4_holdsRun_22 rfl ?_
      exact ret s.heap [] 23 ls (nI 0) () dX4_holdsRun_23 (by first | exact b2_0 (fun q => q.1 c1) | exact b2_0 (fun q => q.2.1 c5) | exact b2_0 (fun q => q.2.2 c15)) hP hS
    · refine lv_iload_n hx hb dX4_holdsRun_8 rfl (lv_at hl 2 rfl) ?_
      refine lv_aload_n hx hb dX4_holdsRun_9 rfl (lv_at hl 0 rfl) ?_
      refine cg4_2 (h := h) (by omega) FX hK in4 hP (List.mem_of_getElem? (i := 1) rfl) dX4_holdsRun_10 ?_
      refine lv_iload_n hx hb dX4_holdsRun_13 rfl (lv_at hl 1 rfl) ?_
      refine lv_isub hx hb dX4_holdsRun_14 ?_
      refine lv_icmp_gt (tgt := 22) hx hb dX4_holdsRun_15 (by decide) (fun c15 => ?_) (fun c15 => ?_)
      · refine lv_iconst (v := nI 0) hx hb dX4_holdsRun_22 rfl ?_
        exact ret s.heap [] 23 ls (nI 0) () dX4_holdsRun_23 (by first | exact b2_0 (fun q => q.1 c1) | exact b2_0 (fun q => q.2.1 c5) | exact b2_0 (fun q => q.2.2 c15)) hP hS
      · refine lv_iconst (v := nI 1) hx hb dX4_holdsRun_18 rfl ?_
        refine lv_goto (tgt := 23) hx hb dX4_holdsRun_19 (by decide) ?_
        exact ret s.heap [] 23 ls (nI 1) () dX4_holdsRun_23 (b2_1 ⟨c1, c5, c15⟩) hP hS

abbrev rmX4_makeRow : Room := { frames := 0, cells := 0, slots := 0, locals := 0 }
set_option maxRecDepth 100000 in
set_option maxHeartbeats 4000000 in
theorem c_X4_makeRow (l : Launch) (D : va_G) (y : Nat → ClassId) (a : Nat → Nat) (hA : CA a 44) (P X : PT) (row : Value) (h : Nat) (lane : Int32) (m0 : Nat) (hh : h < 4) (hm : m0 ≤ 100) : CtV l D y yX4_makeRow wsX4_makeRow rmX4_makeRow [.ref (a (2 + h)), .int lane, .int (nI m0)] (wC y a P X row) (fun (_ : Unit) => True) (fun _ => wC y a (zf (pa (pa P 12 h lane) 13 h (nI m0)) h m0) X row) (AC a) := by
  refine mkV (cc := cX4_makeRow) (maxL := 4) RX4 rfl (by decide) rfl (Nat.le_of_ble_eq_true rfl) ?_
  intro p e s m args below meth c Q FX hK hP ret ls hl
  obtain ⟨hx, hb, hml, hown, hts⟩ := id FX
  have hS : va_S (AC a) s.heap s.heap [] := va_S.rf
  have in4 : ∀ w ∈ wsX40, w ∈ wsX4_makeRow := fun _ h => List.mem_cons_of_mem _ (List.mem_append_right _ (h))
  have hl : lv_has ls 4 [(0, .ref (a (2 + h))), (1, .int lane), (2, .int (nI m0))] := hl
  refine lv_aload_n hx hb dX4_makeRow_0 rfl (lv_at hl 0 rfl) ?_
  refine lv_iload_n hx hb dX4_makeRow_1 rfl (lv_at hl 1 rfl) ?_
  refine cp4_1 (h := h) (by omega) FX hK in4 hP hA hS (List.mem_of_getElem? (i := 1) rfl) dX4_makeRow_2 (fun H locs hP hS => ?_)
  refine lv_aload_n hx hb dX4_makeRow_5 rfl (lv_at hl 0 rfl) ?_
  refine lv_iload_n hx hb dX4_makeRow_6 rfl (lv_at hl 2 rfl) ?_
  refine cp4_2 (h := h) (by omega) FX hK in4 hP hA hS (List.mem_of_getElem? (i := 2) rfl) dX4_makeRow_7 (fun H locs hP hS => ?_)
  refine lv_iconst (v := nI 0) hx hb dX4_makeRow_10 rfl ?_
  refine lv_istore_n (lv' := [(3, .int (nI 0)), (0, .ref (a (2 + h))), (1, .int lane), (2, .int (nI m0))]) hx hb dX4_makeRow_11 rfl hl (by decide) rfl (fun ls hl => ?_)
  have L12 : ∀ (N : Nat) (i : Nat), (i ≤ m0) → m0 - i < N → ∀ (H : Heap) (locs : List Loc) (ls : Array Slot), va_P D vwCl (wC y a (zf (pa (pa P 12 h lane) 13 h (nI m0)) h i) X row) H → va_S (AC a) s.heap H locs → lv_has ls 4 [(0, .ref (a (2 + h))), (2, .int (nI m0)), (3, .int (nI i))] → W p l e rmX4_makeRow s m args below meth c H locs 0 0 Q (F0 m 12 ls []) := by
    intro N12
    induction N12 with
    | zero => intro i hi hmeas; exact absurd hmeas (Nat.not_lt_zero _)
    | succ N12 ih12 =>
      intro i hi hmeas H locs ls hP hS hl
      refine lv_iload_n hx hb dX4_makeRow_12 rfl (lv_at hl 2 rfl) ?_
      refine lv_iload_n hx hb dX4_makeRow_13 rfl (lv_at hl 1 rfl) ?_
      refine xn_icmp_ge (tgt := 30) hx hb (by omega) (by omega) dX4_makeRow_14 (by decide) (fun c14 => ?_) (fun c14 => ?_)
      · obtain rfl : i = m0 := by omega
        exact ret H locs 30 ls () dX4_makeRow_30 trivial hP hS
      · refine lv_aload_n hx hb dX4_makeRow_17 rfl (lv_at hl 0 rfl) ?_
        refine cg4_0 (h := h) (by omega) FX hK in4 hP (List.mem_of_getElem? (i := 3) rfl) dX4_makeRow_18 ?_
        refine lv_iload_n hx hb dX4_makeRow_21 rfl (lv_at hl 2 rfl) ?_
        refine lv_iconst (v := nI 0) hx hb dX4_makeRow_22 rfl ?_
        refine cs6 (h := h) (by omega) (i := i) (by omega) FX hK hP hA hS dX4_makeRow_23 (fun H locs hP hS => ?_)
        refine lv_iinc (v := nI (i + 1)) (lv' := [(3, .int (nI (i + 1))), (0, .ref (a (2 + h))), (2, .int (nI m0))]) hx hb dX4_makeRow_24 hl (k := 2) rfl (xn_inc i 1) (by decide) rfl (fun ls hl => ?_)
        refine lv_goto (tgt := 12) hx hb dX4_makeRow_27 (by decide) ?_
        rw [zf_s] at hP
        exact ih12 (i + 1) (by omega) (by omega) H locs ls hP hS (lv_sub hl [1, 2, 0] rfl)
  rw [← zf_0 (pa (pa P 12 h lane) 13 h (nI m0)) h] at hP
  exact L12 _ 0 (Nat.zero_le _) (Nat.lt_succ_self _) H locs ls hP hS (lv_sub hl [1, 3, 0] rfl)

abbrev rmX4_write : Room := { frames := 0, cells := 0, slots := 0, locals := 0 }
set_option maxRecDepth 100000 in
set_option maxHeartbeats 4000000 in
theorem c_X4_write (l : Launch) (D : va_G) (y : Nat → ClassId) (a : Nat → Nat) (hA : CA a 44) (P X : PT) (row : Value) (h : Nat) (i : Nat) (v : Int32) (hh : h < 4) (hi : i < 100) : CtV l D y yX4_write wsX4_write rmX4_write [.ref (a (2 + h)), .int (nI i), .int v] (wC y a P X row) (fun (_ : Unit) => True) (fun _ => wC y a (pa P (14 + h) i (cut (P.2 12 h) v)) X row) (AC a) := by
  refine mkV (cc := cX4_write) (maxL := 3) RX4 rfl (by decide) rfl (Nat.le_of_ble_eq_true rfl) ?_
  intro p e s m args below meth c Q FX hK hP ret ls hl
  obtain ⟨hx, hb, hml, hown, hts⟩ := id FX
  have hS : va_S (AC a) s.heap s.heap [] := va_S.rf
  have in4 : ∀ w ∈ wsX40, w ∈ wsX4_write := fun _ h => List.mem_cons_of_mem _ (List.mem_append_right _ (h))
  have hl : lv_has ls 3 [(0, .ref (a (2 + h))), (1, .int (nI i)), (2, .int v)] := hl
  refine lv_aload_n hx hb dX4_write_0 rfl (lv_at hl 0 rfl) ?_
  refine cg4_1 (h := h) (by omega) FX hK in4 hP (List.mem_of_getElem? (i := 1) rfl) dX4_write_1 ?_
  by_cases c4_0 : P.2 12 h = 0
  · refine lv_lookup (off := 28) (tgt := 32) hx hb dX4_write_4 rfl (by rw [c4_0]; rfl) (by decide) ?_
    refine lv_aload_n hx hb dX4_write_32 rfl (lv_at hl 0 rfl) ?_
    refine cg4_0 (h := h) (by omega) FX hK in4 hP (List.mem_of_getElem? (i := 2) rfl) dX4_write_33 ?_
    refine lv_iload_n hx hb dX4_write_36 rfl (lv_at hl 1 rfl) ?_
    refine lv_iload_n hx hb dX4_write_37 rfl (lv_at hl 2 rfl) ?_
    refine lv_i2b hx hb dX4_write_38 rfl ?_
    refine cs6 (h := h) (by omega) (i := i) (by omega) FX hK hP hA hS dX4_write_39 (fun H locs hP hS => ?_)
    refine lv_goto (tgt := 61) hx hb dX4_write_40 (by decide) ?_
    rw [show (v.toInt8.toInt32) = cut (P.2 12 h) v from (by unfold cut; rw [cif_t c4_0])] at hP
    exact ret H locs 61 ls () dX4_write_61 trivial hP hS
  by_cases c4_1 : P.2 12 h = 1
  · refine lv_lookup (off := 39) (tgt := 43) hx hb dX4_write_4 rfl (by rw [c4_1]; rfl) (by decide) ?_
    refine lv_aload_n hx hb dX4_write_43 rfl (lv_at hl 0 rfl) ?_
    refine cg4_0 (h := h) (by omega) FX hK in4 hP (List.mem_of_getElem? (i := 2) rfl) dX4_write_44 ?_
    refine lv_iload_n hx hb dX4_write_47 rfl (lv_at hl 1 rfl) ?_
    refine lv_iload_n hx hb dX4_write_48 rfl (lv_at hl 2 rfl) ?_
    refine lv_i2s hx hb dX4_write_49 rfl ?_
    refine cs6 (h := h) (by omega) (i := i) (by omega) FX hK hP hA hS dX4_write_50 (fun H locs hP hS => ?_)
    refine lv_goto (tgt := 61) hx hb dX4_write_51 (by decide) ?_
    rw [show (v.toInt16.toInt32) = cut (P.2 12 h) v from (by unfold cut; rw [cif_f c4_0, cif_t c4_1])] at hP
    exact ret H locs 61 ls () dX4_write_61 trivial hP hS
  refine lv_lookup (off := 50) (tgt := 54) hx hb dX4_write_4 rfl ((lv_osw (a := 0) c4_0 rfl).trans ((lv_osw (a := 1) c4_1 rfl).trans rfl)) (by decide) ?_
  refine lv_aload_n hx hb dX4_write_54 rfl (lv_at hl 0 rfl) ?_
  refine cg4_0 (h := h) (by omega) FX hK in4 hP (List.mem_of_getElem? (i := 2) rfl) dX4_write_55 ?_
  refine lv_iload_n hx hb dX4_write_58 rfl (lv_at hl 1 rfl) ?_
  refine lv_iload_n hx hb dX4_write_59 rfl (lv_at hl 2 rfl) ?_
  refine cs6 (h := h) (by omega) (i := i) (by omega) FX hK hP hA hS dX4_write_60 (fun H locs hP hS => ?_)
  rw [show v = cut (P.2 12 h) v from (by unfold cut; rw [cif_f c4_0, cif_f c4_1])] at hP
  exact ret H locs 61 ls () dX4_write_61 trivial hP hS

abbrev rmX8_answerFault : Room := { frames := 0, cells := 0, slots := 0, locals := 0 }
set_option maxRecDepth 100000 in
set_option maxHeartbeats 4000000 in
theorem c_X8_answerFault (l : Launch) (D : va_G) (y : Nat → ClassId) (a : Nat → Nat) (hA : CA a 44) (P X : PT) (row : Value) (k : Nat)  : CtI l D y yX8_answerFault wsX8_answerFault rmX8_answerFault [.ref (a 0), .int (nI k)] (wC y a P X row) (fun r (_ : Unit) => r = (-10) - nI k) (fun _ => wC y a (pg P 10 (nI k)) X row) (AC a) := by
  refine mkI (cc := cX8_answerFault) (maxL := 2) (ret := some .int) RX8 rfl (by decide) rfl (Or.inl rfl) (Nat.le_of_ble_eq_true rfl) ?_
  intro p e s m args below meth c Q FX hK hP ret ls hl
  obtain ⟨hx, hb, hml, hown, hts⟩ := id FX
  have hS : va_S (AC a) s.heap s.heap [] := va_S.rf
  have in8 : ∀ w ∈ wsX80, w ∈ wsX8_answerFault := fun _ h => List.mem_cons_of_mem _ (List.mem_append_right _ (h))
  have hl : lv_has ls 2 [(0, .ref (a 0)), (1, .int (nI k))] := hl
  refine lv_aload_n hx hb dX8_answerFault_0 rfl (lv_at hl 0 rfl) ?_
  refine lv_iload_n hx hb dX8_answerFault_1 rfl (lv_at hl 1 rfl) ?_
  refine cp8_7 FX hK in8 hP hA hS (List.mem_of_getElem? (i := 1) rfl) dX8_answerFault_2 (fun H locs hP hS => ?_)
  refine lv_bipush (v := (-10)) hx hb dX8_answerFault_5 rfl ?_
  refine lv_iload_n hx hb dX8_answerFault_7 rfl (lv_at hl 1 rfl) ?_
  refine lv_isub hx hb dX8_answerFault_8 ?_
  exact ret H locs 9 ls ((-10) - (nI k)) () dX8_answerFault_9 rfl hP hS

abbrev rmX8_leaveTrace : Room := { frames := 0, cells := 0, slots := 0, locals := 0 }
set_option maxRecDepth 100000 in
set_option maxHeartbeats 4000000 in
theorem c_X8_leaveTrace (l : Launch) (D : va_G) (y : Nat → ClassId) (a : Nat → Nat) (hA : CA a 44) (P X : PT) (row : Value) (k : Nat)  : CtV l D y yX8_leaveTrace wsX8_leaveTrace rmX8_leaveTrace [.ref (a 0), .int (nI k)] (wC y a P X row) (fun (_ : Unit) => True) (fun _ => wC y a (trc P k) X row) (AC a) := by
  refine mkV (cc := cX8_leaveTrace) (maxL := 2) RX8 rfl (by decide) rfl (Nat.le_of_ble_eq_true rfl) ?_
  intro p e s m args below meth c Q FX hK hP ret ls hl
  obtain ⟨hx, hb, hml, hown, hts⟩ := id FX
  have hS : va_S (AC a) s.heap s.heap [] := va_S.rf
  have in8 : ∀ w ∈ wsX80, w ∈ wsX8_leaveTrace := fun _ h => List.mem_cons_of_mem _ (List.mem_append_right _ (h))
  have hl : lv_has ls 2 [(0, .ref (a 0)), (1, .int (nI k))] := hl
  refine lv_aload_n hx hb dX8_leaveTrace_0 rfl (lv_at hl 0 rfl) ?_
  refine lv_bipush (v := nI 31) hx hb dX8_leaveTrace_1 rfl ?_
  refine lv_aload_n hx hb dX8_leaveTrace_3 rfl (lv_at hl 0 rfl) ?_
  refine cg8_6 FX hK in8 hP (List.mem_of_getElem? (i := 1) rfl) dX8_leaveTrace_4 ?_
  refine lv_imul hx hb dX8_leaveTrace_7 ?_
  refine lv_iload_n hx hb dX8_leaveTrace_8 rfl (lv_at hl 1 rfl) ?_
  refine lv_iadd hx hb dX8_leaveTrace_9 ?_
  refine cp8_6 FX hK in8 hP hA hS (List.mem_of_getElem? (i := 1) rfl) dX8_leaveTrace_10 (fun H locs hP hS => ?_)
  exact ret H locs 13 ls () dX8_leaveTrace_13 trivial hP hS

abbrev rmX8_houseTells : Room := { frames := 1, cells := 0, slots := 0, locals := 21 }
set_option maxRecDepth 100000 in
set_option maxHeartbeats 4000000 in
theorem c_X8_houseTells (l : Launch) (D : va_G) (y : Nat → ClassId) (a : Nat → Nat) (hA : CA a 44) (P X : PT) (row : Value) (h : Nat) (hh : h < 8) : CtI l D y yX8_houseTells wsX8_houseTells rmX8_houseTells [.ref (a 0), .ref (a (20 + h))] (wC y a P X row) (fun r (_ : Unit) => r = P.2 5 h) (fun _ => wC y a (trc P 1) X row) (AC a) := by
  refine mkI (cc := cX8_houseTells) (maxL := 2) (ret := some .int) RX8 rfl (by decide) rfl (Or.inl rfl) (Nat.le_of_ble_eq_true rfl) ?_
  intro p e s m args below meth c Q FX hK hP ret ls hl
  obtain ⟨hx, hb, hml, hown, hts⟩ := id FX
  have hS : va_S (AC a) s.heap s.heap [] := va_S.rf
  have in1 : ∀ w ∈ wsX10, w ∈ wsX8_houseTells := fun _ h => List.mem_cons_of_mem _ (List.mem_append_left _ (List.mem_append_right _ (h)))
  have in8 : ∀ w ∈ wsX80, w ∈ wsX8_houseTells := fun _ h => List.mem_cons_of_mem _ (List.mem_append_right _ (h))
  have hl : lv_has ls 2 [(0, .ref (a 0)), (1, .ref (a (20 + h)))] := hl
  refine lv_aload_n hx hb dX8_houseTells_0 rfl (lv_at hl 0 rfl) ?_
  refine lv_iconst (v := nI 1) hx hb dX8_houseTells_1 rfl ?_
  refine cViV [.int (nI 1)] [] FX hK (c_X8_leaveTrace l D y a hA P X row 1) (cwV 1 hts gX8_houseTells_X8_leaveTrace rfl rfl rfl (by decide +kernel) ⟨Nat.le_of_ble_eq_true rfl, Nat.le_of_ble_eq_true rfl⟩) hP (pre_recv hK hP (ci := 8) (q0 := 0) rfl rfl) rfl rfl hl (Nat.le_of_ble_eq_true rfl) dX8_houseTells_2 ⟨Nat.zero_le _, Nat.zero_le _⟩ hS (fun _ h => h) (fun u2 H locs hp2 hP hS _ _ => ?_)
  refine lv_aload_n hx hb dX8_houseTells_5 rfl (lv_at hl 1 rfl) ?_
  refine cg1_2 (h := h) (by omega) FX hK in1 hP (List.mem_of_getElem? (i := 1) rfl) dX8_houseTells_6 ?_
  exact ret H locs 9 ls ((trc P 1).2 5 h) () dX8_houseTells_9 rfl hP hS

abbrev rmX8_chimneyTells : Room := { frames := 2, cells := 0, slots := 0, locals := 42 }
set_option maxRecDepth 100000 in
set_option maxHeartbeats 4000000 in
theorem c_X8_chimneyTells (l : Launch) (D : va_G) (y : Nat → ClassId) (a : Nat → Nat) (hA : CA a 44) (P X : PT) (row : Value) (h : Nat) (hh : h < 8) : CtI l D y yX8_chimneyTells wsX8_chimneyTells rmX8_chimneyTells [.ref (a 0), .ref (a (20 + h))] (wC y a P X row) (fun r (_ : Unit) => r = P.2 5 h + nI 100) (fun _ => wC y a (trc (trc P 2) 1) X row) (AC a) := by
  refine mkI (cc := cX8_chimneyTells) (maxL := 2) (ret := some .int) RX8 rfl (by decide) rfl (Or.inl rfl) (Nat.le_of_ble_eq_true rfl) ?_
  intro p e s m args below meth c Q FX hK hP ret ls hl
  obtain ⟨hx, hb, hml, hown, hts⟩ := id FX
  have hS : va_S (AC a) s.heap s.heap [] := va_S.rf
  have in1 : ∀ w ∈ wsX10, w ∈ wsX8_chimneyTells := fun _ h => List.mem_cons_of_mem _ (List.mem_append_right _ (h))
  have in8 : ∀ w ∈ wsX80, w ∈ wsX8_chimneyTells := fun _ h => List.mem_cons_of_mem _ (List.mem_append_left _ (List.mem_append_right _ (h)))
  have hl : lv_has ls 2 [(0, .ref (a 0)), (1, .ref (a (20 + h)))] := hl
  refine lv_aload_n hx hb dX8_chimneyTells_0 rfl (lv_at hl 0 rfl) ?_
  refine lv_iconst (v := nI 2) hx hb dX8_chimneyTells_1 rfl ?_
  refine cViV [.int (nI 2)] [] FX hK (c_X8_leaveTrace l D y a hA P X row 2) (cwV 1 hts gX8_chimneyTells_X8_leaveTrace rfl rfl rfl (by decide +kernel) ⟨Nat.le_of_ble_eq_true rfl, Nat.le_of_ble_eq_true rfl⟩) hP (pre_recv hK hP (ci := 8) (q0 := 0) rfl rfl) rfl rfl hl (Nat.le_of_ble_eq_true rfl) dX8_chimneyTells_2 ⟨Nat.zero_le _, Nat.zero_le _⟩ hS (fun _ h => h) (fun u2 H locs hp2 hP hS _ _ => ?_)
  refine lv_aload_n hx hb dX8_chimneyTells_5 rfl (lv_at hl 0 rfl) ?_
  refine lv_aload_n hx hb dX8_chimneyTells_6 rfl (lv_at hl 1 rfl) ?_
  refine cViI [.ref (a (20 + h))] [] FX hK (c_X8_houseTells l D y a hA (trc P 2) X row h (by omega)) (cwV 1 hts gX8_chimneyTells_X8_houseTells rfl rfl rfl (by decide +kernel) ⟨Nat.le_of_ble_eq_true rfl, Nat.le_of_ble_eq_true rfl⟩) hP (pre_recv hK hP (ci := 8) (q0 := 0) rfl rfl) rfl rfl hl (Nat.le_of_ble_eq_true rfl) dX8_chimneyTells_7 ⟨Nat.zero_le _, Nat.zero_le _⟩ hS (fun _ h => h) (fun r7 u7 H locs hp7 hP hS _ _ => ?_)
  obtain rfl := hp7
  refine lv_bipush (v := nI 100) hx hb dX8_chimneyTells_10 rfl ?_
  refine lv_iadd hx hb dX8_chimneyTells_12 ?_
  exact ret H locs 13 ls (((trc P 2).2 5 h) + (nI 100)) () dX8_chimneyTells_13 rfl hP hS

abbrev rmX8_towerTells : Room := { frames := 3, cells := 0, slots := 0, locals := 63 }
set_option maxRecDepth 100000 in
set_option maxHeartbeats 4000000 in
theorem c_X8_towerTells (l : Launch) (D : va_G) (y : Nat → ClassId) (a : Nat → Nat) (hA : CA a 44) (P X : PT) (row : Value) (h : Nat) (hh : h < 8) : CtI l D y yX8_towerTells wsX8_towerTells rmX8_towerTells [.ref (a 0), .ref (a (20 + h))] (wC y a P X row) (fun r (_ : Unit) => r = P.2 5 h + nI 100 + P.2 5 h) (fun _ => wC y a (trc (trc (trc (trc P 3) 2) 1) 1) X row) (AC a) := by
  refine mkI (cc := cX8_towerTells) (maxL := 3) (ret := some .int) RX8 rfl (by decide) rfl (Or.inl rfl) (Nat.le_of_ble_eq_true rfl) ?_
  intro p e s m args below meth c Q FX hK hP ret ls hl
  obtain ⟨hx, hb, hml, hown, hts⟩ := id FX
  have hS : va_S (AC a) s.heap s.heap [] := va_S.rf
  have in1 : ∀ w ∈ wsX10, w ∈ wsX8_towerTells := fun _ h => List.mem_cons_of_mem _ (List.mem_append_right _ (h))
  have in8 : ∀ w ∈ wsX80, w ∈ wsX8_towerTells := fun _ h => List.mem_cons_of_mem _ (List.mem_append_left _ (List.mem_append_right _ (h)))
  have hl : lv_has ls 3 [(0, .ref (a 0)), (1, .ref (a (20 + h)))] := hl
  refine lv_aload_n hx hb dX8_towerTells_0 rfl (lv_at hl 0 rfl) ?_
  refine lv_iconst (v := nI 3) hx hb dX8_towerTells_1 rfl ?_
  refine cViV [.int (nI 3)] [] FX hK (c_X8_leaveTrace l D y a hA P X row 3) (cwV 1 hts gX8_towerTells_X8_leaveTrace rfl rfl rfl (by decide +kernel) ⟨Nat.le_of_ble_eq_true rfl, Nat.le_of_ble_eq_true rfl⟩) hP (pre_recv hK hP (ci := 8) (q0 := 0) rfl rfl) rfl rfl hl (Nat.le_of_ble_eq_true rfl) dX8_towerTells_2 ⟨Nat.zero_le _, Nat.zero_le _⟩ hS (fun _ h => h) (fun u2 H locs hp2 hP hS _ _ => ?_)
  refine lv_aload_n hx hb dX8_towerTells_5 rfl (lv_at hl 0 rfl) ?_
  refine lv_aload_n hx hb dX8_towerTells_6 rfl (lv_at hl 1 rfl) ?_
  refine cViI [.ref (a (20 + h))] [] FX hK (c_X8_chimneyTells l D y a hA (trc P 3) X row h (by omega)) (cwV 1 hts gX8_towerTells_X8_chimneyTells rfl rfl rfl (by decide +kernel) ⟨Nat.le_of_ble_eq_true rfl, Nat.le_of_ble_eq_true rfl⟩) hP (pre_recv hK hP (ci := 8) (q0 := 0) rfl rfl) rfl rfl hl (Nat.le_of_ble_eq_true rfl) dX8_towerTells_7 ⟨Nat.zero_le _, Nat.zero_le _⟩ hS (fun _ h => h) (fun r7 u7 H locs hp7 hP hS _ _ => ?_)
  obtain rfl := hp7
  refine lv_istore_n (lv' := [(2, .int ((trc P 3).2 5 h + nI 100)), (0, .ref (a 0)), (1, .ref (a (20 + h)))]) hx hb dX8_towerTells_10 rfl hl (by decide) rfl (fun ls hl => ?_)
  refine lv_iload_n hx hb dX8_towerTells_11 rfl (lv_at hl 0 rfl) ?_
  refine lv_aload_n hx hb dX8_towerTells_12 rfl (lv_at hl 1 rfl) ?_
  refine lv_aload_n hx hb dX8_towerTells_13 rfl (lv_at hl 2 rfl) ?_
  refine cViI [.ref (a (20 + h))] [.int ((trc P 3).2 5 h + nI 100)] FX hK (c_X8_houseTells l D y a hA (trc (trc (trc P 3) 2) 1) X row h (by omega)) (cwV 1 hts gX8_towerTells_X8_houseTells rfl rfl rfl (by decide +kernel) ⟨Nat.le_of_ble_eq_true rfl, Nat.le_of_ble_eq_true rfl⟩) hP (pre_recv hK hP (ci := 8) (q0 := 0) rfl rfl) rfl rfl hl (Nat.le_of_ble_eq_true rfl) dX8_towerTells_14 ⟨Nat.zero_le _, Nat.zero_le _⟩ hS (fun _ h => h) (fun r14 u14 H locs hp14 hP hS _ _ => ?_)
  obtain rfl := hp14
  refine lv_iadd hx hb dX8_towerTells_17 ?_
  exact ret H locs 18 ls (((trc P 3).2 5 h + nI 100) + ((trc (trc (trc P 3) 2) 1).2 5 h)) () dX8_towerTells_18 rfl hP hS
