abbrev rmX9_in : Room := { frames := 0, cells := 0, slots := 0, locals := 0 }
set_option maxRecDepth 100000 in
set_option maxHeartbeats 4000000 in
theorem c_X9_in (l : Launch) (D : va_G) (y : Nat → ClassId) (v lo hi : Int64)  : CtI l D y yX9_in wsX9_in rmX9_in [.long v, .long lo, .long hi] ([]) (fun r (_ : Unit) => r = b2 (¬ lg_cmp v lo < 0 ∧ ¬ 0 < lg_cmp v hi)) (fun _ => []) ((fun _ => False)) := by
  refine mkI (cc := cX9_in) (maxL := 6) (ret := some .boolean) RX9 rfl (by decide) rfl (Or.inr ⟨rfl, fun r u h => by rw [h]; exact b2_01 _⟩) (Nat.le_of_ble_eq_true rfl) ?_
  intro p e s m args below meth c Q FX hK hP ret ls hl
  obtain ⟨hx, hb, hml, hown, hts⟩ := id FX
  have hS : va_S (fun _ => False) s.heap s.heap [] := va_S.rf
  have hl : lv_has ls 6 [(0, .long v), (2, .long lo), (4, .long hi)] := hl
  refine lv_lload_n hx hb dX9_in_0 rfl (lv_at hl 0 rfl) ?_
  refine lv_lload_n hx hb dX9_in_1 rfl (lv_at hl 1 rfl) ?_
  refine W.lcmp hx hb dX9_in_2 ?_
  refine lv_if_lt (tgt := 17) hx hb dX9_in_3 (by decide) (fun c3 => ?_) (fun c3 => ?_)
  · refine lv_iconst (v := nI 0) hx hb dX9_in_17 rfl ?_
    exact ret s.heap [] 18 ls (nI 0) () dX9_in_18 (by first | exact b2_0 (fun q => q.2 c10) | exact b2_0 (fun q => q.1 c3)) hP hS
  · refine lv_lload_n hx hb dX9_in_6 rfl (lv_at hl 0 rfl) ?_
    refine lv_lload hx hb dX9_in_7 (lv_at hl 2 rfl) ?_
    refine W.lcmp hx hb dX9_in_9 ?_
    refine lv_if_gt (tgt := 17) hx hb dX9_in_10 (by decide) (fun c10 => ?_) (fun c10 => ?_)
    · refine lv_iconst (v := nI 0) hx hb dX9_in_17 rfl ?_
      exact ret s.heap [] 18 ls (nI 0) () dX9_in_18 (by first | exact b2_0 (fun q => q.2 c10) | exact b2_0 (fun q => q.1 c3)) hP hS
    · refine lv_iconst (v := nI 1) hx hb dX9_in_13 rfl ?_
      refine lv_goto (tgt := 18) hx hb dX9_in_14 (by decide) ?_
      exact ret s.heap [] 18 ls (nI 1) () dX9_in_18 (b2_1 ⟨c3, c10⟩) hP hS

abbrev rmX9_lost : Room := { frames := 0, cells := 0, slots := 0, locals := 0 }
set_option maxRecDepth 100000 in
set_option maxHeartbeats 4000000 in
theorem c_X9_lost (l : Launch) (D : va_G) (y : Nat → ClassId)   : CtL l D y yX9_lost wsX9_lost rmX9_lost [] ([]) (fun r (_ : Unit) => r = LOST) (fun _ => []) ((fun _ => False)) := by
  refine mkL (cc := cX9_lost) (maxL := 0) RX9 rfl (by decide) rfl (Nat.le_of_ble_eq_true rfl) ?_
  intro p e s m args below meth c Q FX hK hP ret ls hl
  obtain ⟨hx, hb, hml, hown, hts⟩ := id FX
  have hS : va_S (fun _ => False) s.heap s.heap [] := va_S.rf
  have hl : lv_has ls 0 [] := hl
  refine lv_ldc2 hx hb hown (hts _ (List.mem_of_getElem? (i := 1) rfl)) dX9_lost_0 ?_
  exact ret s.heap [] 3 ls (-9223372036854775808) () dX9_lost_3 rfl hP hS

abbrev rmX9_far : Room := { frames := 0, cells := 0, slots := 0, locals := 0 }
set_option maxRecDepth 100000 in
set_option maxHeartbeats 4000000 in
theorem c_X9_far (l : Launch) (D : va_G) (y : Nat → ClassId) (x z : Int32)  : CtI l D y yX9_far wsX9_far rmX9_far [.int x, .int z] ([]) (fun r (_ : Unit) => r = farE x z) (fun _ => []) ((fun _ => False)) := by
  refine mkI (cc := cX9_far) (maxL := 2) (ret := some .int) RX9 rfl (by decide) rfl (Or.inl rfl) (Nat.le_of_ble_eq_true rfl) ?_
  intro p e s m args below meth c Q FX hK hP ret ls hl
  obtain ⟨hx, hb, hml, hown, hts⟩ := id FX
  have hS : va_S (fun _ => False) s.heap s.heap [] := va_S.rf
  have hl : lv_has ls 2 [(0, .int x), (1, .int z)] := hl
  refine lv_iload_n hx hb dX9_far_0 rfl (lv_at hl 0 rfl) ?_
  refine lv_iload_n hx hb dX9_far_1 rfl (lv_at hl 1 rfl) ?_
  refine lv_icmp_ge (tgt := 11) hx hb dX9_far_2 (by decide) (fun c2 => ?_) (fun c2 => ?_)
  · refine lv_iload_n hx hb dX9_far_11 rfl (lv_at hl 0 rfl) ?_
    refine lv_iload_n hx hb dX9_far_12 rfl (lv_at hl 1 rfl) ?_
    refine lv_isub hx hb dX9_far_13 ?_
    exact ret s.heap [] 14 ls (x - z) () dX9_far_14 (by unfold farE; first | rw [if_neg (by rw [i_lt]; rw [i_le] at c2; omega)] | rw [if_pos (by rw [i_lt]; rw [i_le] at c2; omega)]) hP hS
  · refine lv_iload_n hx hb dX9_far_5 rfl (lv_at hl 1 rfl) ?_
    refine lv_iload_n hx hb dX9_far_6 rfl (lv_at hl 0 rfl) ?_
    refine lv_isub hx hb dX9_far_7 ?_
    refine lv_goto (tgt := 14) hx hb dX9_far_8 (by decide) ?_
    exact ret s.heap [] 14 ls (z - x) () dX9_far_14 (by unfold farE; first | rw [if_neg (by rw [i_lt]; rw [i_le] at c2; omega)] | rw [if_pos (by rw [i_lt]; rw [i_le] at c2; omega)]) hP hS

abbrev rmX9_common : Room := { frames := 0, cells := 0, slots := 0, locals := 0 }
set_option maxRecDepth 100000 in
set_option maxHeartbeats 4000000 in
theorem c_X9_common (l : Launch) (D : va_G) (y : Nat → ClassId) (n1 n2 : Nat) (h1 : n1 < 2 ^ 31) (h2 : n2 < 2 ^ 31) : CtI l D y yX9_common wsX9_common rmX9_common [.int (nI n1), .int (nI n2)] ([]) (fun r (_ : Unit) => r = nI (Nat.gcd n1 n2)) (fun _ => []) ((fun _ => False)) := by
  refine mkI (cc := cX9_common) (maxL := 5) (ret := some .int) RX9 rfl (by decide) rfl (Or.inl rfl) (Nat.le_of_ble_eq_true rfl) ?_
  intro p e s m args below meth c Q FX hK hP ret ls hl
  obtain ⟨hx, hb, hml, hown, hts⟩ := id FX
  have hS : va_S (fun _ => False) s.heap s.heap [] := va_S.rf
  have hl : lv_has ls 5 [(0, .int (nI n1)), (1, .int (nI n2))] := hl
  refine lv_iload_n hx hb dX9_common_0 rfl (lv_at hl 0 rfl) ?_
  refine lv_istore_n (lv' := [(2, .int (nI n1)), (0, .int (nI n1)), (1, .int (nI n2))]) hx hb dX9_common_1 rfl hl (by decide) rfl (fun ls hl => ?_)
  refine lv_iload_n hx hb dX9_common_2 rfl (lv_at hl 2 rfl) ?_
  refine lv_istore_n (lv' := [(3, .int (nI n2)), (2, .int (nI n1)), (0, .int (nI n1)), (1, .int (nI n2))]) hx hb dX9_common_3 rfl hl (by decide) rfl (fun ls hl => ?_)
  have L4 : ∀ (N : Nat) (u v : Nat), (u < 2 ^ 31) → (v < 2 ^ 31) → (Nat.gcd v u = Nat.gcd n1 n2) → v < N → ∀ (H : Heap) (locs : List Loc) (ls : Array Slot), va_P D vwCl ([]) H → va_S (fun _ => False) s.heap H locs → lv_has ls 5 [(2, .int (nI u)), (3, .int (nI v))] → W p l e rmX9_common s m args below meth c H locs 0 0 Q (F0 m 4 ls []) := by
    intro N4
    induction N4 with
    | zero => intro u v hu hv hg hmeas; exact absurd hmeas (Nat.not_lt_zero _)
    | succ N4 ih4 =>
      intro u v hu hv hg hmeas H locs ls hP hS hl
      refine lv_iload_n hx hb dX9_common_4 rfl (lv_at hl 1 rfl) ?_
      refine xn_if_eq (tgt := 21) hx hb (by omega) dX9_common_5 (by decide) (fun c5 => ?_) (fun c5 => ?_)
      · refine lv_iload_n hx hb dX9_common_21 rfl (lv_at hl 0 rfl) ?_
        exact ret H locs 22 ls (nI u) () dX9_common_22 (by rw [← hg, c5, Nat.gcd_zero_left]) hP hS
      · refine lv_iload_n hx hb dX9_common_8 rfl (lv_at hl 0 rfl) ?_
        refine lv_iload_n hx hb dX9_common_9 rfl (lv_at hl 1 rfl) ?_
        refine xn_irem (a := u) (b := v) hx hb (by omega) (by omega) (by omega) dX9_common_10 ?_
        refine lv_istore (lv' := [(4, .int (nI (u % v))), (2, .int (nI u)), (3, .int (nI v))]) hx hb dX9_common_11 hl (by decide) rfl (fun ls hl => ?_)
        have hlt : u % v < v := Nat.mod_lt _ c5
        refine lv_iload_n hx hb dX9_common_13 rfl (lv_at hl 2 rfl) ?_
        refine lv_istore_n (lv' := [(2, .int (nI v)), (4, .int (nI (u % v))), (3, .int (nI v))]) hx hb dX9_common_14 rfl hl (by decide) rfl (fun ls hl => ?_)
        refine lv_iload hx hb dX9_common_15 (lv_at hl 1 rfl) ?_
        refine lv_istore_n (lv' := [(3, .int (nI (u % v))), (2, .int (nI v)), (4, .int (nI (u % v)))]) hx hb dX9_common_17 rfl hl (by decide) rfl (fun ls hl => ?_)
        refine lv_goto (tgt := 4) hx hb dX9_common_18 (by decide) ?_
        exact ih4 v (u % v) hv (Nat.lt_of_le_of_lt (Nat.mod_le _ _) hu) (by rw [← hg]; exact (Nat.gcd_rec v u).symm) (by omega) H locs ls hP hS (lv_sub hl [1, 0] rfl)
  exact L4 _ n1 n2 h1 h2 (Nat.gcd_comm _ _) (Nat.lt_succ_self _) s.heap [] ls hP hS (lv_sub hl [1, 0] rfl)

abbrev rmX9_isIn : Room := { frames := 0, cells := 0, slots := 0, locals := 0 }
set_option maxRecDepth 100000 in
set_option maxHeartbeats 4000000 in
theorem c_X9_isIn (l : Launch) (D : va_G) (y : Nat → ClassId) (set k : Int32)  : CtI l D y yX9_isIn wsX9_isIn rmX9_isIn [.int set, .int k] ([]) (fun r (_ : Unit) => r = b2 (tbI set k)) (fun _ => []) ((fun _ => False)) := by
  refine mkI (cc := cX9_isIn) (maxL := 2) (ret := some .boolean) RX9 rfl (by decide) rfl (Or.inr ⟨rfl, fun r u h => by rw [h]; exact b2_01 _⟩) (Nat.le_of_ble_eq_true rfl) ?_
  intro p e s m args below meth c Q FX hK hP ret ls hl
  obtain ⟨hx, hb, hml, hown, hts⟩ := id FX
  have hS : va_S (fun _ => False) s.heap s.heap [] := va_S.rf
  have hl : lv_has ls 2 [(0, .int set), (1, .int k)] := hl
  refine lv_iload_n hx hb dX9_isIn_0 rfl (lv_at hl 0 rfl) ?_
  refine lv_iload_n hx hb dX9_isIn_1 rfl (lv_at hl 1 rfl) ?_
  refine lv_ishr hx hb dX9_isIn_2 ?_
  refine lv_iconst (v := nI 1) hx hb dX9_isIn_3 rfl ?_
  refine lv_iand hx hb dX9_isIn_4 ?_
  refine lv_iconst (v := nI 1) hx hb dX9_isIn_5 rfl ?_
  refine lv_icmp_ne (tgt := 13) hx hb dX9_isIn_6 (by decide) (fun c6 => ?_) (fun c6 => ?_)
  · refine lv_iconst (v := nI 0) hx hb dX9_isIn_13 rfl ?_
    exact ret s.heap [] 14 ls (nI 0) () dX9_isIn_14 (b2_0 c6) hP hS
  · refine lv_iconst (v := nI 1) hx hb dX9_isIn_9 rfl ?_
    refine lv_goto (tgt := 14) hx hb dX9_isIn_10 (by decide) ?_
    exact ret s.heap [] 14 ls (nI 1) () dX9_isIn_14 (b2_1 c6) hP hS

abbrev rmX9_bits : Room := { frames := 0, cells := 0, slots := 0, locals := 0 }
set_option maxRecDepth 100000 in
set_option maxHeartbeats 4000000 in
theorem c_X9_bits (l : Launch) (D : va_G) (y : Nat → ClassId) (m0 : Nat) (hm : m0 < 256) : CtI l D y yX9_bits wsX9_bits rmX9_bits [.int (nI m0)] ([]) (fun r (_ : Unit) => r = nI (pcn m0)) (fun _ => []) ((fun _ => False)) := by
  refine mkI (cc := cX9_bits) (maxL := 3) (ret := some .int) RX9 rfl (by decide) rfl (Or.inl rfl) (Nat.le_of_ble_eq_true rfl) ?_
  intro p e s m args below meth c Q FX hK hP ret ls hl
  obtain ⟨hx, hb, hml, hown, hts⟩ := id FX
  have hS : va_S (fun _ => False) s.heap s.heap [] := va_S.rf
  have hl : lv_has ls 3 [(0, .int (nI m0))] := hl
  refine lv_iconst (v := nI 0) hx hb dX9_bits_0 rfl ?_
  refine lv_istore_n (lv' := [(1, .int (nI 0)), (0, .int (nI m0))]) hx hb dX9_bits_1 rfl hl (by decide) rfl (fun ls hl => ?_)
  refine lv_iload_n hx hb dX9_bits_2 rfl (lv_at hl 1 rfl) ?_
  refine lv_istore_n (lv' := [(2, .int (nI m0)), (1, .int (nI 0)), (0, .int (nI m0))]) hx hb dX9_bits_3 rfl hl (by decide) rfl (fun ls hl => ?_)
  have L4 : ∀ (N : Nat) (u v : Nat), (v < 256) → (u + pcn v = pcn m0) → v < N → ∀ (H : Heap) (locs : List Loc) (ls : Array Slot), va_P D vwCl ([]) H → va_S (fun _ => False) s.heap H locs → lv_has ls 3 [(1, .int (nI u)), (2, .int (nI v))] → W p l e rmX9_bits s m args below meth c H locs 0 0 Q (F0 m 4 ls []) := by
    intro N4
    induction N4 with
    | zero => intro u v hv hs hmeas; exact absurd hmeas (Nat.not_lt_zero _)
    | succ N4 ih4 =>
      intro u v hv hs hmeas H locs ls hP hS hl
      refine lv_iload_n hx hb dX9_bits_4 rfl (lv_at hl 1 rfl) ?_
      refine xn_if_le (tgt := 21) hx hb (by omega) dX9_bits_5 (by decide) (fun c5 => ?_) (fun c5 => ?_)
      · refine lv_iload_n hx hb dX9_bits_21 rfl (lv_at hl 0 rfl) ?_
        exact ret H locs 22 ls (nI u) () dX9_bits_22 (by rw [← hs, c5]; rfl) hP hS
      · refine lv_iload_n hx hb dX9_bits_8 rfl (lv_at hl 0 rfl) ?_
        refine lv_iload_n hx hb dX9_bits_9 rfl (lv_at hl 1 rfl) ?_
        refine lv_iconst (v := nI 1) hx hb dX9_bits_10 rfl ?_
        refine lv_iand hx hb dX9_bits_11 ?_
        refine xn_to hx (z := nI (v % 2)) (and1 (by omega)) ?_
        refine xn_iadd (a := u) (b := v % 2) hx hb dX9_bits_12 ?_
        refine lv_istore_n (lv' := [(1, .int (nI (u + (v % 2)))), (2, .int (nI v))]) hx hb dX9_bits_13 rfl hl (by decide) rfl (fun ls hl => ?_)
        refine lv_iload_n hx hb dX9_bits_14 rfl (lv_at hl 1 rfl) ?_
        refine lv_iconst (v := nI 1) hx hb dX9_bits_15 rfl ?_
        refine lv_ishr hx hb dX9_bits_16 ?_
        refine xn_to hx (z := nI (v / 2)) (shr1 (by omega)) ?_
        refine lv_istore_n (lv' := [(2, .int (nI (v / 2))), (1, .int (nI (u + (v % 2))))]) hx hb dX9_bits_17 rfl hl (by decide) rfl (fun ls hl => ?_)
        refine lv_goto (tgt := 4) hx hb dX9_bits_18 (by decide) ?_
        exact ih4 (u + v % 2) (v / 2) (by omega) (by rw [← hs, pcn_half v hv]; omega) (by omega) H locs ls hP hS (lv_sub hl [1, 0] rfl)
  exact L4 _ 0 m0 hm (Nat.zero_add _) (Nat.lt_succ_self _) s.heap [] ls hP hS (lv_sub hl [1, 0] rfl)

abbrev rmX9_refused : Room := { frames := 0, cells := 0, slots := 0, locals := 0 }
set_option maxRecDepth 100000 in
set_option maxHeartbeats 4000000 in
theorem c_X9_refused (l : Launch) (D : va_G) (y : Nat → ClassId) (a : Nat → Nat) (hA : CA a 26) (P : PT) (v : Int32)  : CtI l D y yX9_refused wsX9_refused rmX9_refused [.ref (a 0), .int v] (wM y a P) (fun r (_ : Unit) => r = v) (fun _ => wM y a (pg P 10 (nI 0))) (AM a) := by
  refine mkI (cc := cX9_refused) (maxL := 2) (ret := some .int) RX9 rfl (by decide) rfl (Or.inl rfl) (Nat.le_of_ble_eq_true rfl) ?_
  intro p e s m args below meth c Q FX hK hP ret ls hl
  obtain ⟨hx, hb, hml, hown, hts⟩ := id FX
  have hS : va_S (AM a) s.heap s.heap [] := va_S.rf
  have in9 : ∀ w ∈ wsX90, w ∈ wsX9_refused := fun _ h => List.mem_cons_of_mem _ (List.mem_append_right _ (h))
  have hl : lv_has ls 2 [(0, .ref (a 0)), (1, .int v)] := hl
  refine lv_aload_n hx hb dX9_refused_0 rfl (lv_at hl 0 rfl) ?_
  refine lv_iconst (v := nI 0) hx hb dX9_refused_1 rfl ?_
  refine mp_0 FX hK in9 hP hA hS (List.mem_of_getElem? (i := 1) rfl) dX9_refused_2 (fun H locs hP hS => ?_)
  refine lv_iload_n hx hb dX9_refused_5 rfl (lv_at hl 1 rfl) ?_
  exact ret H locs 6 ls v () dX9_refused_6 rfl hP hS

abbrev rmX9_failed : Room := { frames := 0, cells := 0, slots := 0, locals := 0 }
set_option maxRecDepth 100000 in
set_option maxHeartbeats 4000000 in
theorem c_X9_failed (l : Launch) (D : va_G) (y : Nat → ClassId) (a : Nat → Nat) (hA : CA a 26) (P : PT) (k : Int32)  : CtI l D y yX9_failed wsX9_failed rmX9_failed [.ref (a 0), .int k] (wM y a P) (fun r (_ : Unit) => r = (-10) - k) (fun _ => wM y a (pg P 10 k)) (AM a) := by
  refine mkI (cc := cX9_failed) (maxL := 2) (ret := some .int) RX9 rfl (by decide) rfl (Or.inl rfl) (Nat.le_of_ble_eq_true rfl) ?_
  intro p e s m args below meth c Q FX hK hP ret ls hl
  obtain ⟨hx, hb, hml, hown, hts⟩ := id FX
  have hS : va_S (AM a) s.heap s.heap [] := va_S.rf
  have in9 : ∀ w ∈ wsX90, w ∈ wsX9_failed := fun _ h => List.mem_cons_of_mem _ (List.mem_append_right _ (h))
  have hl : lv_has ls 2 [(0, .ref (a 0)), (1, .int k)] := hl
  refine lv_aload_n hx hb dX9_failed_0 rfl (lv_at hl 0 rfl) ?_
  refine lv_iload_n hx hb dX9_failed_1 rfl (lv_at hl 1 rfl) ?_
  refine mp_0 FX hK in9 hP hA hS (List.mem_of_getElem? (i := 1) rfl) dX9_failed_2 (fun H locs hP hS => ?_)
  refine lv_bipush (v := (-10)) hx hb dX9_failed_5 rfl ?_
  refine lv_iload_n hx hb dX9_failed_7 rfl (lv_at hl 1 rfl) ?_
  refine lv_isub hx hb dX9_failed_8 ?_
  exact ret H locs 9 ls ((-10) - k) () dX9_failed_9 rfl hP hS

abbrev rmX9_cells : Room := { frames := 0, cells := 0, slots := 0, locals := 0 }
set_option maxRecDepth 100000 in
set_option maxHeartbeats 4000000 in
theorem c_X9_cells (l : Launch) (D : va_G) (y : Nat → ClassId) (a : Nat → Nat) (hA : CA a 26) (P : PT) (w hi : Nat) (hw : P.1 0 = nI w) (hh : P.1 11 = nI hi) : CtI l D y yX9_cells wsX9_cells rmX9_cells [.ref (a 0)] (wM y a P) (fun r (_ : Unit) => r = nI (hi * w)) (fun _ => wM y a P) (AM a) := by
  refine mkI (cc := cX9_cells) (maxL := 1) (ret := some .int) RX9 rfl (by decide) rfl (Or.inl rfl) (Nat.le_of_ble_eq_true rfl) ?_
  intro p e s m args below meth c Q FX hK hP ret ls hl
  obtain ⟨hx, hb, hml, hown, hts⟩ := id FX
  have hS : va_S (AM a) s.heap s.heap [] := va_S.rf
  have in9 : ∀ w ∈ wsX90, w ∈ wsX9_cells := fun _ h => List.mem_cons_of_mem _ (List.mem_append_right _ (h))
  have hl : lv_has ls 1 [(0, .ref (a 0))] := hl
  refine lv_aload_n hx hb dX9_cells_0 rfl (lv_at hl 0 rfl) ?_
  refine mg_1 FX hK in9 hP (List.mem_of_getElem? (i := 1) rfl) dX9_cells_1 ?_
  refine xn_to hx (z := nI hi) hh ?_
  refine lv_aload_n hx hb dX9_cells_4 rfl (lv_at hl 0 rfl) ?_
  refine mg_2 FX hK in9 hP (List.mem_of_getElem? (i := 2) rfl) dX9_cells_5 ?_
  refine xn_to hx (z := nI w) hw ?_
  refine xn_imul (a := hi) (b := w) hx hb dX9_cells_8 ?_
  exact ret s.heap [] 9 ls (nI (hi * w)) () dX9_cells_9 rfl hP hS

abbrev rmX9_noCell : Room := { frames := 1, cells := 0, slots := 0, locals := 25 }
set_option maxRecDepth 100000 in
set_option maxHeartbeats 4000000 in
theorem c_X9_noCell (l : Launch) (D : va_G) (y : Nat → ClassId) (a : Nat → Nat) (hA : CA a 26) (P : PT) (w cN n t hi : Nat) (x : Int32) (hI : IQ P w cN n t hi) : CtI l D y yX9_noCell wsX9_noCell rmX9_noCell [.ref (a 0), .int x] (wM y a P) (fun r (_ : Unit) => r = b2 (¬ inN cN x)) (fun _ => wM y a P) (AM a) := by
  refine mkI (cc := cX9_noCell) (maxL := 2) (ret := some .boolean) RX9 rfl (by decide) rfl (Or.inr ⟨rfl, fun r u h => by rw [h]; exact b2_01 _⟩) (Nat.le_of_ble_eq_true rfl) ?_
  intro p e s m args below meth c Q FX hK hP ret ls hl
  obtain ⟨hx, hb, hml, hown, hts⟩ := id FX
  have hS : va_S (AM a) s.heap s.heap [] := va_S.rf
  have in9 : ∀ w ∈ wsX90, w ∈ wsX9_noCell := fun _ h => List.mem_cons_of_mem _ (List.mem_append_right _ (h))
  have hl : lv_has ls 2 [(0, .ref (a 0)), (1, .int x)] := hl
  have hcl := hI.c30
  refine lv_iload_n hx hb dX9_noCell_0 rfl (lv_at hl 1 rfl) ?_
  refine lv_i2l hx hb dX9_noCell_1 rfl ?_
  refine lv_lconst (v := 0) hx hb dX9_noCell_2 rfl ?_
  refine lv_aload_n hx hb dX9_noCell_3 rfl (lv_at hl 0 rfl) ?_
  refine cViI [] [.long 0, .long (x.toInt64)] FX hK (c_X9_cells l D y a hA P w hi hI.ww hI.hh) (cwV 0 hts gX9_noCell_X9_cells rfl rfl rfl (by decide +kernel) ⟨Nat.le_of_ble_eq_true rfl, Nat.le_of_ble_eq_true rfl⟩) hP (pre_recv hK hP (ci := 9) (q0 := 0) rfl rfl) rfl rfl hl (Nat.le_of_ble_eq_true rfl) dX9_noCell_4 ⟨Nat.zero_le _, Nat.zero_le _⟩ hS (fun _ h => h) (fun r4 u4 H locs hp4 hP hS _ _ => ?_)
  obtain rfl := hp4
  refine xn_to hx (z := nI cN) (by rw [← hI.cc]) ?_
  refine lv_i2l hx hb dX9_noCell_7 rfl ?_
  refine lv_lconst (v := 1) hx hb dX9_noCell_8 rfl ?_
  refine lv_lsub hx hb dX9_noCell_9 ?_
  refine cStI [.long (x.toInt64), .long 0, .long (((nI cN).toInt64) - 1)] [] FX hK (c_X9_in l D y (x.toInt64) 0 (((nI cN).toInt64) - 1)) (va_cwS 3 hts gX9_noCell_X9_in rfl rfl rfl (by decide +kernel) ⟨Nat.le_of_ble_eq_true rfl, Nat.le_of_ble_eq_true rfl⟩) rfl rfl hl (Nat.le_of_ble_eq_true rfl) dX9_noCell_10 ⟨Nat.zero_le _, Nat.zero_le _⟩ hP hS (fun r10 H locs hp10 hP hS => ?_)
  obtain rfl := hp10
  refine xn_to hx (z := b2 (inN cN x)) (b2_iff (in_N (by omega))) ?_
  refine xb_ne (tgt := 20) hx hb dX9_noCell_13 (by decide) (fun c13 => ?_) (fun c13 => ?_)
  · refine lv_iconst (v := nI 0) hx hb dX9_noCell_20 rfl ?_
    exact ret H locs 21 ls (nI 0) () dX9_noCell_21 (b2_0 (fun z => z c13)) hP hS
  · refine lv_iconst (v := nI 1) hx hb dX9_noCell_16 rfl ?_
    refine lv_goto (tgt := 21) hx hb dX9_noCell_17 (by decide) ?_
    exact ret H locs 21 ls (nI 1) () dX9_noCell_21 (b2_1 c13) hP hS

abbrev rmX9_noHouse : Room := { frames := 1, cells := 0, slots := 0, locals := 25 }
set_option maxRecDepth 100000 in
set_option maxHeartbeats 4000000 in
theorem c_X9_noHouse (l : Launch) (D : va_G) (y : Nat → ClassId) (a : Nat → Nat) (hA : CA a 26) (P : PT) (k : Nat) (x : Int32) (hk : P.1 2 = nI k) (hk9 : k ≤ 9) : CtI l D y yX9_noHouse wsX9_noHouse rmX9_noHouse [.ref (a 0), .int x] (wM y a P) (fun r (_ : Unit) => r = b2 (¬ inN k x)) (fun _ => wM y a P) (AM a) := by
  refine mkI (cc := cX9_noHouse) (maxL := 2) (ret := some .boolean) RX9 rfl (by decide) rfl (Or.inr ⟨rfl, fun r u h => by rw [h]; exact b2_01 _⟩) (Nat.le_of_ble_eq_true rfl) ?_
  intro p e s m args below meth c Q FX hK hP ret ls hl
  obtain ⟨hx, hb, hml, hown, hts⟩ := id FX
  have hS : va_S (AM a) s.heap s.heap [] := va_S.rf
  have in9 : ∀ w ∈ wsX90, w ∈ wsX9_noHouse := fun _ h => List.mem_cons_of_mem _ (List.mem_append_right _ (h))
  have hl : lv_has ls 2 [(0, .ref (a 0)), (1, .int x)] := hl
  refine lv_iload_n hx hb dX9_noHouse_0 rfl (lv_at hl 1 rfl) ?_
  refine lv_i2l hx hb dX9_noHouse_1 rfl ?_
  refine lv_lconst (v := 0) hx hb dX9_noHouse_2 rfl ?_
  refine lv_aload_n hx hb dX9_noHouse_3 rfl (lv_at hl 0 rfl) ?_
  refine mg_6 FX hK in9 hP (List.mem_of_getElem? (i := 1) rfl) dX9_noHouse_4 ?_
  refine xn_to hx (z := nI k) hk ?_
  refine lv_i2l hx hb dX9_noHouse_7 rfl ?_
  refine lv_lconst (v := 1) hx hb dX9_noHouse_8 rfl ?_
  refine lv_lsub hx hb dX9_noHouse_9 ?_
  refine cStI [.long (x.toInt64), .long 0, .long (((nI k).toInt64) - 1)] [] FX hK (c_X9_in l D y (x.toInt64) 0 (((nI k).toInt64) - 1)) (va_cwS 3 hts gX9_noHouse_X9_in rfl rfl rfl (by decide +kernel) ⟨Nat.le_of_ble_eq_true rfl, Nat.le_of_ble_eq_true rfl⟩) rfl rfl hl (Nat.le_of_ble_eq_true rfl) dX9_noHouse_10 ⟨Nat.zero_le _, Nat.zero_le _⟩ hP hS (fun r10 H locs hp10 hP hS => ?_)
  obtain rfl := hp10
  refine xn_to hx (z := b2 (inN k x)) (b2_iff (in_N (by omega))) ?_
  refine xb_ne (tgt := 20) hx hb dX9_noHouse_13 (by decide) (fun c13 => ?_) (fun c13 => ?_)
  · refine lv_iconst (v := nI 0) hx hb dX9_noHouse_20 rfl ?_
    exact ret H locs 21 ls (nI 0) () dX9_noHouse_21 (b2_0 (fun z => z c13)) hP hS
  · refine lv_iconst (v := nI 1) hx hb dX9_noHouse_16 rfl ?_
    refine lv_goto (tgt := 21) hx hb dX9_noHouse_17 (by decide) ?_
    exact ret H locs 21 ls (nI 1) () dX9_noHouse_21 (b2_1 c13) hP hS

abbrev rmX9_noTree : Room := { frames := 1, cells := 0, slots := 0, locals := 25 }
set_option maxRecDepth 100000 in
set_option maxHeartbeats 4000000 in
theorem c_X9_noTree (l : Launch) (D : va_G) (y : Nat → ClassId) (a : Nat → Nat) (hA : CA a 26) (P : PT) (k : Nat) (x : Int32) (hk : P.1 3 = nI k) (hk9 : k ≤ 9) : CtI l D y yX9_noTree wsX9_noTree rmX9_noTree [.ref (a 0), .int x] (wM y a P) (fun r (_ : Unit) => r = b2 (¬ inN k x)) (fun _ => wM y a P) (AM a) := by
  refine mkI (cc := cX9_noTree) (maxL := 2) (ret := some .boolean) RX9 rfl (by decide) rfl (Or.inr ⟨rfl, fun r u h => by rw [h]; exact b2_01 _⟩) (Nat.le_of_ble_eq_true rfl) ?_
  intro p e s m args below meth c Q FX hK hP ret ls hl
  obtain ⟨hx, hb, hml, hown, hts⟩ := id FX
  have hS : va_S (AM a) s.heap s.heap [] := va_S.rf
  have in9 : ∀ w ∈ wsX90, w ∈ wsX9_noTree := fun _ h => List.mem_cons_of_mem _ (List.mem_append_right _ (h))
  have hl : lv_has ls 2 [(0, .ref (a 0)), (1, .int x)] := hl
  refine lv_iload_n hx hb dX9_noTree_0 rfl (lv_at hl 1 rfl) ?_
  refine lv_i2l hx hb dX9_noTree_1 rfl ?_
  refine lv_lconst (v := 0) hx hb dX9_noTree_2 rfl ?_
  refine lv_aload_n hx hb dX9_noTree_3 rfl (lv_at hl 0 rfl) ?_
  refine mg_11 FX hK in9 hP (List.mem_of_getElem? (i := 1) rfl) dX9_noTree_4 ?_
  refine xn_to hx (z := nI k) hk ?_
  refine lv_i2l hx hb dX9_noTree_7 rfl ?_
  refine lv_lconst (v := 1) hx hb dX9_noTree_8 rfl ?_
  refine lv_lsub hx hb dX9_noTree_9 ?_
  refine cStI [.long (x.toInt64), .long 0, .long (((nI k).toInt64) - 1)] [] FX hK (c_X9_in l D y (x.toInt64) 0 (((nI k).toInt64) - 1)) (va_cwS 3 hts gX9_noTree_X9_in rfl rfl rfl (by decide +kernel) ⟨Nat.le_of_ble_eq_true rfl, Nat.le_of_ble_eq_true rfl⟩) rfl rfl hl (Nat.le_of_ble_eq_true rfl) dX9_noTree_10 ⟨Nat.zero_le _, Nat.zero_le _⟩ hP hS (fun r10 H locs hp10 hP hS => ?_)
  obtain rfl := hp10
  refine xn_to hx (z := b2 (inN k x)) (b2_iff (in_N (by omega))) ?_
  refine xb_ne (tgt := 20) hx hb dX9_noTree_13 (by decide) (fun c13 => ?_) (fun c13 => ?_)
  · refine lv_iconst (v := nI 0) hx hb dX9_noTree_20 rfl ?_
    exact ret H locs 21 ls (nI 0) () dX9_noTree_21 (b2_0 (fun z => z c13)) hP hS
  · refine lv_iconst (v := nI 1) hx hb dX9_noTree_16 rfl ?_
    refine lv_goto (tgt := 21) hx hb dX9_noTree_17 (by decide) ?_
    exact ret H locs 21 ls (nI 1) () dX9_noTree_21 (b2_1 c13) hP hS

abbrev rmX9_isNumber : Room := { frames := 1, cells := 0, slots := 0, locals := 25 }
set_option maxRecDepth 100000 in
set_option maxHeartbeats 4000000 in
theorem c_X9_isNumber (l : Launch) (D : va_G) (y : Nat → ClassId) (x : Int32)  : CtI l D y yX9_isNumber wsX9_isNumber rmX9_isNumber [.int x] ([]) (fun r (_ : Unit) => r = b2 (inR 0 7 x)) (fun _ => []) ((fun _ => False)) := by
  refine mkI (cc := cX9_isNumber) (maxL := 1) (ret := some .boolean) RX9 rfl (by decide) rfl (Or.inr ⟨rfl, fun r u h => by rw [h]; exact b2_01 _⟩) (Nat.le_of_ble_eq_true rfl) ?_
  intro p e s m args below meth c Q FX hK hP ret ls hl
  obtain ⟨hx, hb, hml, hown, hts⟩ := id FX
  have hS : va_S (fun _ => False) s.heap s.heap [] := va_S.rf
  have hl : lv_has ls 1 [(0, .int x)] := hl
  refine lv_iload_n hx hb dX9_isNumber_0 rfl (lv_at hl 0 rfl) ?_
  refine lv_i2l hx hb dX9_isNumber_1 rfl ?_
  refine lv_lconst (v := 0) hx hb dX9_isNumber_2 rfl ?_
  refine lv_ldc2 hx hb hown (hts _ (List.mem_of_getElem? (i := 1) rfl)) dX9_isNumber_3 ?_
  refine cStI [.long (x.toInt64), .long 0, .long (7)] [] FX hK (c_X9_in l D y (x.toInt64) 0 (7)) (va_cwS 3 hts gX9_isNumber_X9_in rfl rfl rfl (by decide +kernel) ⟨Nat.le_of_ble_eq_true rfl, Nat.le_of_ble_eq_true rfl⟩) rfl rfl hl (Nat.le_of_ble_eq_true rfl) dX9_isNumber_6 ⟨Nat.zero_le _, Nat.zero_le _⟩ hP hS (fun r6 H locs hp6 hP hS => ?_)
  obtain rfl := hp6
  refine xn_to hx (z := b2 (inR 0 7 x)) (b2_iff (in_R (lo := 0) (hi := 7) rfl rfl (by decide))) ?_
  exact ret H locs 9 ls (b2 (inR 0 7 x)) () dX9_isNumber_9 rfl hP hS

abbrev rmX9_noSheet : Room := { frames := 1, cells := 0, slots := 0, locals := 25 }
set_option maxRecDepth 100000 in
set_option maxHeartbeats 4000000 in
theorem c_X9_noSheet (l : Launch) (D : va_G) (y : Nat → ClassId) (x : Int32)  : CtI l D y yX9_noSheet wsX9_noSheet rmX9_noSheet [.int x] ([]) (fun r (_ : Unit) => r = b2 (¬ inN 4 x)) (fun _ => []) ((fun _ => False)) := by
  refine mkI (cc := cX9_noSheet) (maxL := 1) (ret := some .boolean) RX9 rfl (by decide) rfl (Or.inr ⟨rfl, fun r u h => by rw [h]; exact b2_01 _⟩) (Nat.le_of_ble_eq_true rfl) ?_
  intro p e s m args below meth c Q FX hK hP ret ls hl
  obtain ⟨hx, hb, hml, hown, hts⟩ := id FX
  have hS : va_S (fun _ => False) s.heap s.heap [] := va_S.rf
  have hl : lv_has ls 1 [(0, .int x)] := hl
  refine lv_iload_n hx hb dX9_noSheet_0 rfl (lv_at hl 0 rfl) ?_
  refine lv_i2l hx hb dX9_noSheet_1 rfl ?_
  refine lv_lconst (v := 0) hx hb dX9_noSheet_2 rfl ?_
  refine lv_ldc2 hx hb hown (hts _ (List.mem_of_getElem? (i := 1) rfl)) dX9_noSheet_3 ?_
  refine cStI [.long (x.toInt64), .long 0, .long (3)] [] FX hK (c_X9_in l D y (x.toInt64) 0 (3)) (va_cwS 3 hts gX9_noSheet_X9_in rfl rfl rfl (by decide +kernel) ⟨Nat.le_of_ble_eq_true rfl, Nat.le_of_ble_eq_true rfl⟩) rfl rfl hl (Nat.le_of_ble_eq_true rfl) dX9_noSheet_6 ⟨Nat.zero_le _, Nat.zero_le _⟩ hP hS (fun r6 H locs hp6 hP hS => ?_)
  obtain rfl := hp6
  refine xn_to hx (z := b2 (inR 0 3 x)) (b2_iff (in_R (lo := 0) (hi := 3) rfl rfl (by decide))) ?_
  refine xb_ne (tgt := 16) hx hb dX9_noSheet_9 (by decide) (fun c9 => ?_) (fun c9 => ?_)
  · refine lv_iconst (v := nI 0) hx hb dX9_noSheet_16 rfl ?_
    exact ret H locs 17 ls (nI 0) () dX9_noSheet_17 (b2_0 (fun z => z (inR_0.mp c9))) hP hS
  · refine lv_iconst (v := nI 1) hx hb dX9_noSheet_12 rfl ?_
    refine lv_goto (tgt := 17) hx hb dX9_noSheet_13 (by decide) ?_
    exact ret H locs 17 ls (nI 1) () dX9_noSheet_17 (b2_1 (fun z => c9 (inR_0.mpr z))) hP hS

abbrev rmX9_houseTall : Room := { frames := 0, cells := 0, slots := 0, locals := 0 }
set_option maxRecDepth 100000 in
set_option maxHeartbeats 4000000 in
theorem c_X9_houseTall (l : Launch) (D : va_G) (y : Nat → ClassId) (a : Nat → Nat) (hA : CA a 26) (P : PT) (h : Nat) (hh : h < 9) : CtI l D y yX9_houseTall wsX9_houseTall rmX9_houseTall [.ref (a 0), .int (nI h)] (wM y a P) (fun r (_ : Unit) => r = sHt P h (P.2 6 h)) (fun _ => wM y a P) (AM a) := by
  refine mkI (cc := cX9_houseTall) (maxL := 3) (ret := some .int) RX9 rfl (by decide) rfl (Or.inl rfl) (Nat.le_of_ble_eq_true rfl) ?_
  intro p e s m args below meth c Q FX hK hP ret ls hl
  obtain ⟨hx, hb, hml, hown, hts⟩ := id FX
  have hS : va_S (AM a) s.heap s.heap [] := va_S.rf
  have in9 : ∀ w ∈ wsX90, w ∈ wsX9_houseTall := fun _ h => List.mem_cons_of_mem _ (List.mem_append_right _ (h))
  have hl : lv_has ls 3 [(0, .ref (a 0)), (1, .int (nI h))] := hl
  refine lv_aload_n hx hb dX9_houseTall_0 rfl (lv_at hl 0 rfl) ?_
  refine mg_9 FX hK in9 hP (List.mem_of_getElem? (i := 1) rfl) dX9_houseTall_1 ?_
  refine lv_iload_n hx hb dX9_houseTall_4 rfl (lv_at hl 1 rfl) ?_
  refine ma6 (i := h) (by omega) FX hK hP dX9_houseTall_5 ?_
  refine lv_aload_n hx hb dX9_houseTall_6 rfl (lv_at hl 0 rfl) ?_
  refine mg_10 FX hK in9 hP (List.mem_of_getElem? (i := 2) rfl) dX9_houseTall_7 ?_
  refine lv_iload_n hx hb dX9_houseTall_10 rfl (lv_at hl 1 rfl) ?_
  refine ma7 (i := h) (by omega) FX hK hP dX9_houseTall_11 ?_
  refine lv_iadd hx hb dX9_houseTall_12 ?_
  refine lv_istore_n (lv' := [(2, .int ((P.2 5 h) + (P.2 6 h))), (0, .ref (a 0)), (1, .int (nI h))]) hx hb dX9_houseTall_13 rfl hl (by decide) rfl (fun ls hl => ?_)
  refine lv_iload_n hx hb dX9_houseTall_14 rfl (lv_at hl 0 rfl) ?_
  refine lv_aload_n hx hb dX9_houseTall_15 rfl (lv_at hl 1 rfl) ?_
  refine mg_7 FX hK in9 hP (List.mem_of_getElem? (i := 3) rfl) dX9_houseTall_16 ?_
  refine lv_iload_n hx hb dX9_houseTall_19 rfl (lv_at hl 2 rfl) ?_
  refine ma4 (i := h) (by omega) FX hK hP dX9_houseTall_20 ?_
  refine lv_if_le (tgt := 31) hx hb dX9_houseTall_21 (by decide) (fun c21 => ?_) (fun c21 => ?_)
  · have e1 : ¬ nI 0 < P.2 3 h := fun q => by rw [i_lt] at q; rw [i_le] at c21; have z : (nI 0).toInt = (0 : Int32).toInt := rfl; omega
    refine lv_iconst (v := nI 0) hx hb dX9_houseTall_31 rfl ?_
    refine lv_iadd hx hb dX9_houseTall_32 ?_
    refine lv_istore_n (lv' := [(2, .int (((P.2 5 h) + (P.2 6 h)) + (nI 0))), (0, .ref (a 0)), (1, .int (nI h))]) hx hb dX9_houseTall_33 rfl hl (by decide) rfl (fun ls hl => ?_)
    refine lv_aload_n hx hb dX9_houseTall_34 rfl (lv_at hl 1 rfl) ?_
    refine mg_7 FX hK in9 hP (List.mem_of_getElem? (i := 3) rfl) dX9_houseTall_35 ?_
    refine lv_iload_n hx hb dX9_houseTall_38 rfl (lv_at hl 2 rfl) ?_
    refine ma4 (i := h) (by omega) FX hK hP dX9_houseTall_39 ?_
    refine lv_iconst (v := nI 1) hx hb dX9_houseTall_40 rfl ?_
    refine lv_icmp_le (tgt := 50) hx hb dX9_houseTall_41 (by decide) (fun c41 => ?_) (fun c41 => ?_)
    · have e2 : ¬ nI 1 < P.2 3 h := fun q => by rw [i_lt] at q; rw [i_le] at c41; omega
      refine lv_iload_n hx hb dX9_houseTall_50 rfl (lv_at hl 0 rfl) ?_
      exact ret s.heap [] 51 ls (((P.2 5 h) + (P.2 6 h)) + (nI 0)) () dX9_houseTall_51 (by simp only [sHt, e1, e2, cif_true, cif_false, add_nI0]) hP hS
    · have e2 : nI 1 < P.2 3 h := by rw [i_lt]; rw [i_le] at c41; omega
      refine lv_iload_n hx hb dX9_houseTall_44 rfl (lv_at hl 0 rfl) ?_
      refine lv_iconst (v := nI 3) hx hb dX9_houseTall_45 rfl ?_
      refine lv_iadd hx hb dX9_houseTall_46 ?_
      refine lv_goto (tgt := 51) hx hb dX9_houseTall_47 (by decide) ?_
      exact ret s.heap [] 51 ls ((((P.2 5 h) + (P.2 6 h)) + (nI 0)) + (nI 3)) () dX9_houseTall_51 (by simp only [sHt, e1, e2, cif_true, cif_false, add_nI0]) hP hS
  · have e1 : nI 0 < P.2 3 h := by rw [i_lt]; rw [i_le] at c21; have z : (nI 0).toInt = (0 : Int32).toInt := rfl; omega
    refine lv_aload_n hx hb dX9_houseTall_24 rfl (lv_at hl 1 rfl) ?_
    refine mg_17 FX hK in9 hP (List.mem_of_getElem? (i := 4) rfl) dX9_houseTall_25 ?_
    refine lv_goto (tgt := 32) hx hb dX9_houseTall_28 (by decide) ?_
    refine lv_iadd hx hb dX9_houseTall_32 ?_
    refine lv_istore_n (lv' := [(2, .int (((P.2 5 h) + (P.2 6 h)) + (P.1 7))), (0, .ref (a 0)), (1, .int (nI h))]) hx hb dX9_houseTall_33 rfl hl (by decide) rfl (fun ls hl => ?_)
    refine lv_aload_n hx hb dX9_houseTall_34 rfl (lv_at hl 1 rfl) ?_
    refine mg_7 FX hK in9 hP (List.mem_of_getElem? (i := 3) rfl) dX9_houseTall_35 ?_
    refine lv_iload_n hx hb dX9_houseTall_38 rfl (lv_at hl 2 rfl) ?_
    refine ma4 (i := h) (by omega) FX hK hP dX9_houseTall_39 ?_
    refine lv_iconst (v := nI 1) hx hb dX9_houseTall_40 rfl ?_
    refine lv_icmp_le (tgt := 50) hx hb dX9_houseTall_41 (by decide) (fun c41 => ?_) (fun c41 => ?_)
    · have e2 : ¬ nI 1 < P.2 3 h := fun q => by rw [i_lt] at q; rw [i_le] at c41; omega
      refine lv_iload_n hx hb dX9_houseTall_50 rfl (lv_at hl 0 rfl) ?_
      exact ret s.heap [] 51 ls (((P.2 5 h) + (P.2 6 h)) + (P.1 7)) () dX9_houseTall_51 (by simp only [sHt, e1, e2, cif_true, cif_false, add_nI0]) hP hS
    · have e2 : nI 1 < P.2 3 h := by rw [i_lt]; rw [i_le] at c41; omega
      refine lv_iload_n hx hb dX9_houseTall_44 rfl (lv_at hl 0 rfl) ?_
      refine lv_iconst (v := nI 3) hx hb dX9_houseTall_45 rfl ?_
      refine lv_iadd hx hb dX9_houseTall_46 ?_
      refine lv_goto (tgt := 51) hx hb dX9_houseTall_47 (by decide) ?_
      exact ret s.heap [] 51 ls ((((P.2 5 h) + (P.2 6 h)) + (P.1 7)) + (nI 3)) () dX9_houseTall_51 (by simp only [sHt, e1, e2, cif_true, cif_false, add_nI0]) hP hS

abbrev rmX9_treeNow : Room := { frames := 0, cells := 0, slots := 0, locals := 0 }
set_option maxRecDepth 100000 in
set_option maxHeartbeats 4000000 in
theorem c_X9_treeNow (l : Launch) (D : va_G) (y : Nat → ClassId) (a : Nat → Nat) (hA : CA a 26) (P : PT) (k : Nat) (hk : k < 8) : CtI l D y yX9_treeNow wsX9_treeNow rmX9_treeNow [.ref (a 0), .int (nI k)] (wM y a P) (fun r (_ : Unit) => r = sTr P k (P.1 5) (flQ P k)) (fun _ => wM y a P) (AM a) := by
  refine mkI (cc := cX9_treeNow) (maxL := 2) (ret := some .int) RX9 rfl (by decide) rfl (Or.inl rfl) (Nat.le_of_ble_eq_true rfl) ?_
  intro p e s m args below meth c Q FX hK hP ret ls hl
  obtain ⟨hx, hb, hml, hown, hts⟩ := id FX
  have hS : va_S (AM a) s.heap s.heap [] := va_S.rf
  have in9 : ∀ w ∈ wsX90, w ∈ wsX9_treeNow := fun _ h => List.mem_cons_of_mem _ (List.mem_append_right _ (h))
  have hl : lv_has ls 2 [(0, .ref (a 0)), (1, .int (nI k))] := hl
  refine lv_aload_n hx hb dX9_treeNow_0 rfl (lv_at hl 0 rfl) ?_
  refine mg_14 FX hK in9 hP (List.mem_of_getElem? (i := 1) rfl) dX9_treeNow_1 ?_
  refine lv_iload_n hx hb dX9_treeNow_4 rfl (lv_at hl 1 rfl) ?_
  refine ma10 (i := k) (by omega) FX hK hP dX9_treeNow_5 ?_
  refine lv_if_eq (tgt := 13) hx hb dX9_treeNow_6 (by decide) (fun c6 => ?_) (fun c6 => ?_)
  · refine lv_aload_n hx hb dX9_treeNow_13 rfl (lv_at hl 0 rfl) ?_
    refine mg_13 FX hK in9 hP (List.mem_of_getElem? (i := 2) rfl) dX9_treeNow_14 ?_
    refine lv_iload_n hx hb dX9_treeNow_17 rfl (lv_at hl 1 rfl) ?_
    refine ma9 (i := k) (by omega) FX hK hP dX9_treeNow_18 ?_
    refine lv_aload_n hx hb dX9_treeNow_19 rfl (lv_at hl 0 rfl) ?_
    refine mg_15 FX hK in9 hP (List.mem_of_getElem? (i := 3) rfl) dX9_treeNow_20 ?_
    refine lv_iconst (v := nI 2) hx hb dX9_treeNow_23 rfl ?_
    refine lv_idiv hx hb dX9_treeNow_24 (by decide) ?_
    refine lv_iadd hx hb dX9_treeNow_25 ?_
    exact ret s.heap [] 26 ls ((P.2 8 k) + ((P.1 5) / (nI 2))) () dX9_treeNow_26 (by unfold sTr; rw [cif_f (fun z => z c6)]) hP hS
  · refine lv_iconst (v := nI 0) hx hb dX9_treeNow_9 rfl ?_
    refine lv_goto (tgt := 26) hx hb dX9_treeNow_10 (by decide) ?_
    exact ret s.heap [] 26 ls (nI 0) () dX9_treeNow_26 (by unfold sTr; rw [cif_t c6]) hP hS

abbrev rmX9_topOf : Room := { frames := 1, cells := 0, slots := 0, locals := 22 }
set_option maxRecDepth 100000 in
set_option maxHeartbeats 4000000 in
theorem c_X9_topOf (l : Launch) (D : va_G) (y : Nat → ClassId) (a : Nat → Nat) (hA : CA a 26) (P : PT) (q cN : Nat) (hq : q < cN) (hcl : cN ≤ 30) (hv : VT P cN 9) : CtI l D y yX9_topOf wsX9_topOf rmX9_topOf [.ref (a 0), .int (nI q)] (wM y a P) (fun r (_ : Unit) => r = sTop P (P.1 5) (flQ P) q) (fun _ => wM y a P) (AM a) := by
  refine mkI (cc := cX9_topOf) (maxL := 3) (ret := some .int) RX9 rfl (by decide) rfl (Or.inl rfl) (Nat.le_of_ble_eq_true rfl) ?_
  intro p e s m args below meth c Q FX hK hP ret ls hl
  obtain ⟨hx, hb, hml, hown, hts⟩ := id FX
  have hS : va_S (AM a) s.heap s.heap [] := va_S.rf
  have in9 : ∀ w ∈ wsX90, w ∈ wsX9_topOf := fun _ h => List.mem_cons_of_mem _ (List.mem_append_right _ (h))
  have hl : lv_has ls 3 [(0, .ref (a 0)), (1, .int (nI q))] := hl
  obtain ⟨tn, htn, htv⟩ : ∃ tn, P.2 2 q = nI tn ∧ (tn = 0 ∨ (10 ≤ tn ∧ tn < 19) ∨ (20 ≤ tn ∧ tn < 28)) := by
    rcases hv q hq with h | ⟨h, h1, h2⟩ | ⟨h, h1, h2⟩
    · exact ⟨0, h, Or.inl rfl⟩
    · exact ⟨_, h2, by omega⟩
    · exact ⟨_, h2, by omega⟩
  have hth : thN P q = tn := thN_of htn (by omega)
  refine lv_aload_n hx hb dX9_topOf_0 rfl (lv_at hl 0 rfl) ?_
  refine mg_4 FX hK in9 hP (List.mem_of_getElem? (i := 1) rfl) dX9_topOf_1 ?_
  refine lv_iload_n hx hb dX9_topOf_4 rfl (lv_at hl 1 rfl) ?_
  refine ma2 (i := q) (by omega) FX hK hP dX9_topOf_5 ?_
  refine xn_to hx (z := nI tn) htn ?_
  refine xn_if_ne (tgt := 18) hx hb (by omega) dX9_topOf_6 (by decide) (fun c6 => ?_) (fun c6 => ?_)
  · refine lv_aload_n hx hb dX9_topOf_18 rfl (lv_at hl 0 rfl) ?_
    refine mg_4 FX hK in9 hP (List.mem_of_getElem? (i := 1) rfl) dX9_topOf_19 ?_
    refine lv_iload_n hx hb dX9_topOf_22 rfl (lv_at hl 1 rfl) ?_
    refine ma2 (i := q) (by omega) FX hK hP dX9_topOf_23 ?_
    refine xn_to hx (z := nI tn) htn ?_
    refine lv_bipush (v := nI 20) hx hb dX9_topOf_24 rfl ?_
    refine xn_icmp_ge (tgt := 45) hx hb (by omega) (by omega) dX9_topOf_26 (by decide) (fun c26 => ?_) (fun c26 => ?_)
    · refine lv_aload_n hx hb dX9_topOf_45 rfl (lv_at hl 0 rfl) ?_
      refine lv_aload_n hx hb dX9_topOf_46 rfl (lv_at hl 0 rfl) ?_
      refine mg_4 FX hK in9 hP (List.mem_of_getElem? (i := 1) rfl) dX9_topOf_47 ?_
      refine lv_iload_n hx hb dX9_topOf_50 rfl (lv_at hl 1 rfl) ?_
      refine ma2 (i := q) (by omega) FX hK hP dX9_topOf_51 ?_
      refine xn_to hx (z := nI tn) htn ?_
      refine lv_bipush (v := nI 20) hx hb dX9_topOf_52 rfl ?_
      refine xn_isub (a := tn) (b := 20) hx hb (by omega) dX9_topOf_54 ?_
      refine cViI [.int (nI (tn - 20))] [] FX hK (c_X9_treeNow l D y a hA P (tn - 20) (by omega)) (cwV 1 hts gX9_topOf_X9_treeNow rfl rfl rfl (by decide +kernel) ⟨Nat.le_of_ble_eq_true rfl, Nat.le_of_ble_eq_true rfl⟩) hP (pre_recv hK hP (ci := 9) (q0 := 0) rfl rfl) rfl rfl hl (Nat.le_of_ble_eq_true rfl) dX9_topOf_55 ⟨Nat.zero_le _, Nat.zero_le _⟩ hS (fun _ h => h) (fun r55 u55 H locs hp55 hP hS _ _ => ?_)
      obtain rfl := hp55
      refine lv_istore_n (lv' := [(2, .int (sTr P (tn - 20) (P.1 5) (flQ P (tn - 20)))), (0, .ref (a 0)), (1, .int (nI q))]) hx hb dX9_topOf_58 rfl hl (by decide) rfl (fun ls hl => ?_)
      refine lv_aload_n hx hb dX9_topOf_59 rfl (lv_at hl 1 rfl) ?_
      refine mg_3 FX hK in9 hP (List.mem_of_getElem? (i := 3) rfl) dX9_topOf_60 ?_
      refine lv_iload_n hx hb dX9_topOf_63 rfl (lv_at hl 2 rfl) ?_
      refine ma1 (i := q) (by omega) FX hK hP dX9_topOf_64 ?_
      refine lv_iload_n hx hb dX9_topOf_65 rfl (lv_at hl 0 rfl) ?_
      refine lv_iadd hx hb dX9_topOf_66 ?_
      exact ret H locs 67 ls ((P.2 0 q) + (sTr P (tn - 20) (P.1 5) (flQ P (tn - 20)))) () dX9_topOf_67 (by simp only [sTop, sOn, hth, cif_f (show ¬ tn = 0 by omega), cif_f (show ¬ tn < 20 by omega)]) hP hS
    · refine lv_aload_n hx hb dX9_topOf_29 rfl (lv_at hl 0 rfl) ?_
      refine lv_aload_n hx hb dX9_topOf_30 rfl (lv_at hl 0 rfl) ?_
      refine mg_4 FX hK in9 hP (List.mem_of_getElem? (i := 1) rfl) dX9_topOf_31 ?_
      refine lv_iload_n hx hb dX9_topOf_34 rfl (lv_at hl 1 rfl) ?_
      refine ma2 (i := q) (by omega) FX hK hP dX9_topOf_35 ?_
      refine xn_to hx (z := nI tn) htn ?_
      refine lv_bipush (v := nI 10) hx hb dX9_topOf_36 rfl ?_
      refine xn_isub (a := tn) (b := 10) hx hb (by omega) dX9_topOf_38 ?_
      refine cViI [.int (nI (tn - 10))] [] FX hK (c_X9_houseTall l D y a hA P (tn - 10) (by omega)) (cwV 1 hts gX9_topOf_X9_houseTall rfl rfl rfl (by decide +kernel) ⟨Nat.le_of_ble_eq_true rfl, Nat.le_of_ble_eq_true rfl⟩) hP (pre_recv hK hP (ci := 9) (q0 := 0) rfl rfl) rfl rfl hl (Nat.le_of_ble_eq_true rfl) dX9_topOf_39 ⟨Nat.zero_le _, Nat.zero_le _⟩ hS (fun _ h => h) (fun r39 u39 H locs hp39 hP hS _ _ => ?_)
      obtain rfl := hp39
      refine lv_goto (tgt := 58) hx hb dX9_topOf_42 (by decide) ?_
      refine lv_istore_n (lv' := [(2, .int (sHt P (tn - 10) (P.2 6 (tn - 10)))), (0, .ref (a 0)), (1, .int (nI q))]) hx hb dX9_topOf_58 rfl hl (by decide) rfl (fun ls hl => ?_)
      refine lv_aload_n hx hb dX9_topOf_59 rfl (lv_at hl 1 rfl) ?_
      refine mg_3 FX hK in9 hP (List.mem_of_getElem? (i := 3) rfl) dX9_topOf_60 ?_
      refine lv_iload_n hx hb dX9_topOf_63 rfl (lv_at hl 2 rfl) ?_
      refine ma1 (i := q) (by omega) FX hK hP dX9_topOf_64 ?_
      refine lv_iload_n hx hb dX9_topOf_65 rfl (lv_at hl 0 rfl) ?_
      refine lv_iadd hx hb dX9_topOf_66 ?_
      exact ret H locs 67 ls ((P.2 0 q) + (sHt P (tn - 10) (P.2 6 (tn - 10)))) () dX9_topOf_67 (by simp only [sTop, sOn, hth, cif_f (show ¬ tn = 0 by omega), cif_t (show tn < 20 by omega)]) hP hS
  · refine lv_aload_n hx hb dX9_topOf_9 rfl (lv_at hl 0 rfl) ?_
    refine mg_5 FX hK in9 hP (List.mem_of_getElem? (i := 2) rfl) dX9_topOf_10 ?_
    refine lv_iload_n hx hb dX9_topOf_13 rfl (lv_at hl 1 rfl) ?_
    refine ma3 (i := q) (by omega) FX hK hP dX9_topOf_14 ?_
    refine lv_goto (tgt := 58) hx hb dX9_topOf_15 (by decide) ?_
    refine lv_istore_n (lv' := [(2, .int (P.2 1 q)), (0, .ref (a 0)), (1, .int (nI q))]) hx hb dX9_topOf_58 rfl hl (by decide) rfl (fun ls hl => ?_)
    refine lv_aload_n hx hb dX9_topOf_59 rfl (lv_at hl 1 rfl) ?_
    refine mg_3 FX hK in9 hP (List.mem_of_getElem? (i := 3) rfl) dX9_topOf_60 ?_
    refine lv_iload_n hx hb dX9_topOf_63 rfl (lv_at hl 2 rfl) ?_
    refine ma1 (i := q) (by omega) FX hK hP dX9_topOf_64 ?_
    refine lv_iload_n hx hb dX9_topOf_65 rfl (lv_at hl 0 rfl) ?_
    refine lv_iadd hx hb dX9_topOf_66 ?_
    exact ret s.heap [] 67 ls ((P.2 0 q) + (P.2 1 q)) () dX9_topOf_67 (by simp only [sTop, sOn, hth, cif_t (show tn = 0 by omega)]) hP hS

abbrev rmX9_doSee : Room := { frames := 2, cells := 0, slots := 0, locals := 44 }
set_option maxRecDepth 100000 in
set_option maxHeartbeats 4000000 in
theorem c_X9_doSee (l : Launch) (D : va_G) (y : Nat → ClassId) (a : Nat → Nat) (hA : CA a 26) (P : PT) (w cN n t hi : Nat) (h o : Nat) (hI : IQ P w cN n t hi) (hh : h < n) (ho : o < n) (hne : ¬ o = h) : CtI l D y yX9_doSee wsX9_doSee rmX9_doSee [.ref (a 0), .int (nI h), .int (nI o)] (wM y a P) (fun r (_ : Unit) => r = b2 (sClr w (P.1 6) (sTop P (P.1 5) (flQ P)) (plN P h) (plN P o))) (fun _ => wM y a P) (AM a) := by
  refine mkI (cc := cX9_doSee) (maxL := 12) (ret := some .boolean) RX9 rfl (by decide) rfl (Or.inr ⟨rfl, fun r u h => by rw [h]; exact b2_01 _⟩) (Nat.le_of_ble_eq_true rfl) ?_
  intro p e s m args below meth c Q FX hK hP ret ls hl
  obtain ⟨hx, hb, hml, hown, hts⟩ := id FX
  have hS : va_S (AM a) s.heap s.heap [] := va_S.rf
  have in9 : ∀ w ∈ wsX90, w ∈ wsX9_doSee := fun _ h => List.mem_cons_of_mem _ (List.mem_append_right _ (h))
  have hl : lv_has ls 12 [(0, .ref (a 0)), (1, .int (nI h)), (2, .int (nI o))] := hl
  have hcl := hI.c30
  have hnl := hI.n9
  obtain ⟨ha1, ha2⟩ := hI.2.2.1 h hh
  obtain ⟨hb1, hb2⟩ := hI.2.2.1 o ho
  have hvw := hI.2.1 (by omega)
  have hw2 := hvw.1
  have hw6 := hvw.2.1
  have hab : (plN P h) ≠ (plN P o) := fun z => hne (hI.2.2.2.1 o h ho hh z.symm)
  have q1 : (plN P h) / w ≤ (plN P h) := Nat.div_le_self _ _
  have q2 : (plN P o) / w ≤ (plN P o) := Nat.div_le_self _ _
  have q3 : (plN P h) % w < w := Nat.mod_lt _ (by omega)
  have q4 : (plN P o) % w < w := Nat.mod_lt _ (by omega)
  have q5 : (plN P h) / w < 5 := by obtain ⟨hi, g1, g2, g3⟩ := hvw.2.2; exact Nat.lt_of_lt_of_le ((Nat.div_lt_iff_lt_mul (by omega)).mpr (by rw [← g3]; exact ha2)) g2
  have q6 : (plN P o) / w < 5 := by obtain ⟨hi, g1, g2, g3⟩ := hvw.2.2; exact Nat.lt_of_lt_of_le ((Nat.div_lt_iff_lt_mul (by omega)).mpr (by rw [← g3]; exact hb2)) g2
  have e1 : (dst ((plN P o) / w) ((plN P h) / w)) < 6 := dst_lt (by omega) (by omega)
  have e2 : (dst ((plN P o) % w) ((plN P h) % w)) < 6 := dst_lt (by omega) (by omega)
  have e3 : (gcS (dst ((plN P o) / w) ((plN P h) / w)) (dst ((plN P o) % w) ((plN P h) % w))) < 6 := gcS_le e1 e2 (by decide)
  have e4 : 0 < (gcS (dst ((plN P o) / w) ((plN P h) / w)) (dst ((plN P o) % w) ((plN P h) % w))) := gcS_pos _ _
  have e5 := dst_dm (w := w) hab
  have e6 := gcS_dvd e5
  refine lv_aload_n hx hb dX9_doSee_0 rfl (lv_at hl 0 rfl) ?_
  refine mg_8 FX hK in9 hP (List.mem_of_getElem? (i := 1) rfl) dX9_doSee_1 ?_
  refine lv_iload_n hx hb dX9_doSee_4 rfl (lv_at hl 1 rfl) ?_
  refine ma5 (i := h) (by omega) FX hK hP dX9_doSee_5 ?_
  refine xn_to hx (z := nI (plN P h)) ha1 ?_
  refine lv_istore_n (lv' := [(3, .int (nI (plN P h))), (0, .ref (a 0)), (1, .int (nI h)), (2, .int (nI o))]) hx hb dX9_doSee_6 rfl hl (by decide) rfl (fun ls hl => ?_)
  refine lv_aload_n hx hb dX9_doSee_7 rfl (lv_at hl 1 rfl) ?_
  refine mg_8 FX hK in9 hP (List.mem_of_getElem? (i := 1) rfl) dX9_doSee_8 ?_
  refine lv_iload_n hx hb dX9_doSee_11 rfl (lv_at hl 3 rfl) ?_
  refine ma5 (i := o) (by omega) FX hK hP dX9_doSee_12 ?_
  refine xn_to hx (z := nI (plN P o)) hb1 ?_
  refine lv_aload_n hx hb dX9_doSee_13 rfl (lv_at hl 1 rfl) ?_
  refine mg_2 FX hK in9 hP (List.mem_of_getElem? (i := 2) rfl) dX9_doSee_14 ?_
  refine xn_to hx (z := nI w) hI.ww ?_
  refine xn_idiv (a := plN P o) (b := w) hx hb (by omega) (by omega) (by omega) dX9_doSee_17 ?_
  refine lv_iload_n hx hb dX9_doSee_18 rfl (lv_at hl 0 rfl) ?_
  refine lv_aload_n hx hb dX9_doSee_19 rfl (lv_at hl 1 rfl) ?_
  refine mg_2 FX hK in9 hP (List.mem_of_getElem? (i := 2) rfl) dX9_doSee_20 ?_
  refine xn_to hx (z := nI w) hI.ww ?_
  refine xn_idiv (a := plN P h) (b := w) hx hb (by omega) (by omega) (by omega) dX9_doSee_23 ?_
  refine lv_isub hx hb dX9_doSee_24 ?_
  refine lv_istore (lv' := [(4, .int ((nI ((plN P o) / w)) - (nI ((plN P h) / w)))), (3, .int (nI (plN P h))), (0, .ref (a 0)), (1, .int (nI h)), (2, .int (nI o))]) hx hb dX9_doSee_25 hl (by decide) rfl (fun ls hl => ?_)
  refine lv_aload_n hx hb dX9_doSee_27 rfl (lv_at hl 2 rfl) ?_
  refine mg_8 FX hK in9 hP (List.mem_of_getElem? (i := 1) rfl) dX9_doSee_28 ?_
  refine lv_iload_n hx hb dX9_doSee_31 rfl (lv_at hl 4 rfl) ?_
  refine ma5 (i := o) (by omega) FX hK hP dX9_doSee_32 ?_
  refine xn_to hx (z := nI (plN P o)) hb1 ?_
  refine lv_aload_n hx hb dX9_doSee_33 rfl (lv_at hl 2 rfl) ?_
  refine mg_2 FX hK in9 hP (List.mem_of_getElem? (i := 2) rfl) dX9_doSee_34 ?_
  refine xn_to hx (z := nI w) hI.ww ?_
  refine xn_irem (a := plN P o) (b := w) hx hb (by omega) (by omega) (by omega) dX9_doSee_37 ?_
  refine lv_iload_n hx hb dX9_doSee_38 rfl (lv_at hl 1 rfl) ?_
  refine lv_aload_n hx hb dX9_doSee_39 rfl (lv_at hl 2 rfl) ?_
  refine mg_2 FX hK in9 hP (List.mem_of_getElem? (i := 2) rfl) dX9_doSee_40 ?_
  refine xn_to hx (z := nI w) hI.ww ?_
  refine xn_irem (a := plN P h) (b := w) hx hb (by omega) (by omega) (by omega) dX9_doSee_43 ?_
  refine lv_isub hx hb dX9_doSee_44 ?_
  refine lv_istore (lv' := [(5, .int ((nI ((plN P o) % w)) - (nI ((plN P h) % w)))), (4, .int ((nI ((plN P o) / w)) - (nI ((plN P h) / w)))), (3, .int (nI (plN P h))), (0, .ref (a 0)), (1, .int (nI h)), (2, .int (nI o))]) hx hb dX9_doSee_45 hl (by decide) rfl (fun ls hl => ?_)
  refine lv_iload hx hb dX9_doSee_47 (lv_at hl 1 rfl) ?_
  refine lv_iconst (v := nI 0) hx hb dX9_doSee_49 rfl ?_
  refine cStI [.int ((nI ((plN P o) / w)) - (nI ((plN P h) / w))), .int (nI 0)] [] FX hK (c_X9_far l D y ((nI ((plN P o) / w)) - (nI ((plN P h) / w))) (nI 0)) (va_cwS 2 hts gX9_doSee_X9_far rfl rfl rfl (by decide +kernel) ⟨Nat.le_of_ble_eq_true rfl, Nat.le_of_ble_eq_true rfl⟩) rfl rfl hl (Nat.le_of_ble_eq_true rfl) dX9_doSee_50 ⟨Nat.zero_le _, Nat.zero_le _⟩ hP hS (fun r50 H locs hp50 hP hS => ?_)
  obtain rfl := hp50
  refine xn_to hx (z := nI (dst ((plN P o) / w) ((plN P h) / w))) (far_dst (by omega) (by omega)) ?_
  refine lv_iload hx hb dX9_doSee_53 (lv_at hl 0 rfl) ?_
  refine lv_iconst (v := nI 0) hx hb dX9_doSee_55 rfl ?_
  refine cStI [.int ((nI ((plN P o) % w)) - (nI ((plN P h) % w))), .int (nI 0)] [.int (nI (dst ((plN P o) / w) ((plN P h) / w)))] FX hK (c_X9_far l D y ((nI ((plN P o) % w)) - (nI ((plN P h) % w))) (nI 0)) (va_cwS 2 hts gX9_doSee_X9_far rfl rfl rfl (by decide +kernel) ⟨Nat.le_of_ble_eq_true rfl, Nat.le_of_ble_eq_true rfl⟩) rfl rfl hl (Nat.le_of_ble_eq_true rfl) dX9_doSee_56 ⟨Nat.zero_le _, Nat.zero_le _⟩ hP hS (fun r56 H locs hp56 hP hS => ?_)
  obtain rfl := hp56
  refine xn_to hx (z := nI (dst ((plN P o) % w) ((plN P h) % w))) (far_dst (by omega) (by omega)) ?_
  refine cStI [.int (nI (dst ((plN P o) / w) ((plN P h) / w))), .int (nI (dst ((plN P o) % w) ((plN P h) % w)))] [] FX hK (c_X9_common l D y (dst ((plN P o) / w) ((plN P h) / w)) (dst ((plN P o) % w) ((plN P h) % w)) (by omega) (by omega)) (va_cwS 2 hts gX9_doSee_X9_common rfl rfl rfl (by decide +kernel) ⟨Nat.le_of_ble_eq_true rfl, Nat.le_of_ble_eq_true rfl⟩) rfl rfl hl (Nat.le_of_ble_eq_true rfl) dX9_doSee_59 ⟨Nat.zero_le _, Nat.zero_le _⟩ hP hS (fun r59 H locs hp59 hP hS => ?_)
  obtain rfl := hp59
  refine xn_to hx (z := nI (gcS (dst ((plN P o) / w) ((plN P h) / w)) (dst ((plN P o) % w) ((plN P h) % w)))) (by rw [gcd_gcS e5]) ?_
  refine lv_istore (lv' := [(6, .int (nI (gcS (dst ((plN P o) / w) ((plN P h) / w)) (dst ((plN P o) % w) ((plN P h) % w))))), (5, .int ((nI ((plN P o) % w)) - (nI ((plN P h) % w)))), (4, .int ((nI ((plN P o) / w)) - (nI ((plN P h) / w)))), (3, .int (nI (plN P h))), (0, .ref (a 0)), (1, .int (nI h)), (2, .int (nI o))]) hx hb dX9_doSee_62 hl (by decide) rfl (fun ls hl => ?_)
  refine lv_aload_n hx hb dX9_doSee_64 rfl (lv_at hl 4 rfl) ?_
  refine lv_iload_n hx hb dX9_doSee_65 rfl (lv_at hl 3 rfl) ?_
  refine cViI [.int (nI (plN P h))] [] FX hK (c_X9_topOf l D y a hA P (plN P h) cN (by omega) hI.c30 hI.2.2.2.2) (cwV 1 hts gX9_doSee_X9_topOf rfl rfl rfl (by decide +kernel) ⟨Nat.le_of_ble_eq_true rfl, Nat.le_of_ble_eq_true rfl⟩) hP (pre_recv hK hP (ci := 9) (q0 := 0) rfl rfl) rfl rfl hl (Nat.le_of_ble_eq_true rfl) dX9_doSee_66 ⟨Nat.zero_le _, Nat.zero_le _⟩ hS (fun _ h => h) (fun r66 u66 H locs hp66 hP hS _ _ => ?_)
  obtain rfl := hp66
  refine lv_istore (lv' := [(7, .int (sTop P (P.1 5) (flQ P) (plN P h))), (6, .int (nI (gcS (dst ((plN P o) / w) ((plN P h) / w)) (dst ((plN P o) % w) ((plN P h) % w))))), (5, .int ((nI ((plN P o) % w)) - (nI ((plN P h) % w)))), (4, .int ((nI ((plN P o) / w)) - (nI ((plN P h) / w)))), (3, .int (nI (plN P h))), (0, .ref (a 0)), (1, .int (nI h)), (2, .int (nI o))]) hx hb dX9_doSee_69 hl (by decide) rfl (fun ls hl => ?_)
  refine lv_aload_n hx hb dX9_doSee_71 rfl (lv_at hl 5 rfl) ?_
  refine lv_aload_n hx hb dX9_doSee_72 rfl (lv_at hl 5 rfl) ?_
  refine mg_8 FX hK in9 hP (List.mem_of_getElem? (i := 1) rfl) dX9_doSee_73 ?_
  refine lv_iload_n hx hb dX9_doSee_76 rfl (lv_at hl 7 rfl) ?_
  refine ma5 (i := o) (by omega) FX hK hP dX9_doSee_77 ?_
  refine xn_to hx (z := nI (plN P o)) hb1 ?_
  refine cViI [.int (nI (plN P o))] [] FX hK (c_X9_topOf l D y a hA P (plN P o) cN (by omega) hI.c30 hI.2.2.2.2) (cwV 1 hts gX9_doSee_X9_topOf rfl rfl rfl (by decide +kernel) ⟨Nat.le_of_ble_eq_true rfl, Nat.le_of_ble_eq_true rfl⟩) hP (pre_recv hK hP (ci := 9) (q0 := 0) rfl rfl) rfl rfl hl (Nat.le_of_ble_eq_true rfl) dX9_doSee_78 ⟨Nat.zero_le _, Nat.zero_le _⟩ hS (fun _ h => h) (fun r78 u78 H locs hp78 hP hS _ _ => ?_)
  obtain rfl := hp78
  refine lv_istore (lv' := [(8, .int (sTop P (P.1 5) (flQ P) (plN P o))), (7, .int (sTop P (P.1 5) (flQ P) (plN P h))), (6, .int (nI (gcS (dst ((plN P o) / w) ((plN P h) / w)) (dst ((plN P o) % w) ((plN P h) % w))))), (5, .int ((nI ((plN P o) % w)) - (nI ((plN P h) % w)))), (4, .int ((nI ((plN P o) / w)) - (nI ((plN P h) / w)))), (3, .int (nI (plN P h))), (0, .ref (a 0)), (1, .int (nI h)), (2, .int (nI o))]) hx hb dX9_doSee_81 hl (by decide) rfl (fun ls hl => ?_)
  refine lv_iload hx hb dX9_doSee_83 (lv_at hl 4 rfl) ?_
  refine lv_iconst (v := nI 0) hx hb dX9_doSee_85 rfl ?_
  refine cStI [.int ((nI ((plN P o) / w)) - (nI ((plN P h) / w))), .int (nI 0)] [] FX hK (c_X9_far l D y ((nI ((plN P o) / w)) - (nI ((plN P h) / w))) (nI 0)) (va_cwS 2 hts gX9_doSee_X9_far rfl rfl rfl (by decide +kernel) ⟨Nat.le_of_ble_eq_true rfl, Nat.le_of_ble_eq_true rfl⟩) rfl rfl hl (Nat.le_of_ble_eq_true rfl) dX9_doSee_86 ⟨Nat.zero_le _, Nat.zero_le _⟩ hP hS (fun r86 H locs hp86 hP hS => ?_)
  obtain rfl := hp86
  refine xn_to hx (z := nI (dst ((plN P o) / w) ((plN P h) / w))) (far_dst (by omega) (by omega)) ?_
  refine lv_aload_n hx hb dX9_doSee_89 rfl (lv_at hl 6 rfl) ?_
  refine mg_16 FX hK in9 hP (List.mem_of_getElem? (i := 3) rfl) dX9_doSee_90 ?_
  refine lv_icmp_gt (tgt := 113) hx hb dX9_doSee_93 (by decide) (fun c93 => ?_) (fun c93 => ?_)
  · refine lv_iconst (v := nI 0) hx hb dX9_doSee_113 rfl ?_
    refine xn_to hx (z := b2 False) (b2_0 (fun z => z)) ?_
    refine lv_istore (lv' := [(9, .int (b2 False)), (8, .int (sTop P (P.1 5) (flQ P) (plN P o))), (7, .int (sTop P (P.1 5) (flQ P) (plN P h))), (6, .int (nI (gcS (dst ((plN P o) / w) ((plN P h) / w)) (dst ((plN P o) % w) ((plN P h) % w))))), (5, .int ((nI ((plN P o) % w)) - (nI ((plN P h) % w)))), (4, .int ((nI ((plN P o) / w)) - (nI ((plN P h) / w)))), (3, .int (nI (plN P h))), (0, .ref (a 0)), (1, .int (nI h)), (2, .int (nI o))]) hx hb dX9_doSee_114 hl (by decide) rfl (fun ls hl => ?_)
    refine lv_iconst (v := nI 1) hx hb dX9_doSee_116 rfl ?_
    refine lv_istore (lv' := [(10, .int (nI 1)), (9, .int (b2 False)), (8, .int (sTop P (P.1 5) (flQ P) (plN P o))), (7, .int (sTop P (P.1 5) (flQ P) (plN P h))), (6, .int (nI (gcS (dst ((plN P o) / w) ((plN P h) / w)) (dst ((plN P o) % w) ((plN P h) % w))))), (5, .int ((nI ((plN P o) % w)) - (nI ((plN P h) % w)))), (4, .int ((nI ((plN P o) / w)) - (nI ((plN P h) / w)))), (3, .int (nI (plN P h))), (0, .ref (a 0)), (1, .int (nI h)), (2, .int (nI o))]) hx hb dX9_doSee_117 hl (by decide) rfl (fun ls hl => ?_)
    have L119 : ∀ (N : Nat) (g : Prop) (m' : Nat), (g ↔ (nI (max (dst ((plN P o) / w) ((plN P h) / w)) (dst ((plN P o) % w) ((plN P h) % w))) ≤ P.1 6 ∧ ∀ k, 0 < k → k < m' → (sTop P (P.1 5) (flQ P)) (pos (plN P h) (plN P o) (gcS (dst ((plN P o) / w) ((plN P h) / w)) (dst ((plN P o) % w) ((plN P h) % w))) k) * nI (gcS (dst ((plN P o) / w) ((plN P h) / w)) (dst ((plN P o) % w) ((plN P h) % w))) < (sTop P (P.1 5) (flQ P)) (plN P h) * nI (gcS (dst ((plN P o) / w) ((plN P h) / w)) (dst ((plN P o) % w) ((plN P h) % w))) + nI k * ((sTop P (P.1 5) (flQ P)) (plN P o) - (sTop P (P.1 5) (flQ P)) (plN P h)))) → (0 < m') → (m' ≤ (gcS (dst ((plN P o) / w) ((plN P h) / w)) (dst ((plN P o) % w) ((plN P h) % w)))) → (gcS (dst ((plN P o) / w) ((plN P h) / w)) (dst ((plN P o) % w) ((plN P h) % w))) - m' < N → ∀ (H : Heap) (locs : List Loc) (ls : Array Slot), va_P D vwCl (wM y a P) H → va_S (AM a) s.heap H locs → lv_has ls 12 [(0, .ref (a 0)), (3, .int (nI (plN P h))), (4, .int (nI ((plN P o) / w) - nI ((plN P h) / w))), (5, .int (nI ((plN P o) % w) - nI ((plN P h) % w))), (6, .int (nI (gcS (dst ((plN P o) / w) ((plN P h) / w)) (dst ((plN P o) % w) ((plN P h) % w))))), (7, .int ((sTop P (P.1 5) (flQ P)) (plN P h))), (8, .int ((sTop P (P.1 5) (flQ P)) (plN P o))), (9, .int (b2 g)), (10, .int (nI m'))] → W p l e rmX9_doSee s m args below meth c H locs 0 0 Q (F0 m 119 ls []) := by
      intro N119
      induction N119 with
      | zero => intro g m' hg hm hm2 hmeas; exact absurd hmeas (Nat.not_lt_zero _)
      | succ N119 ih119 =>
        intro g m' hg hm hm2 hmeas H locs ls hP hS hl
        refine lv_iload hx hb dX9_doSee_119 (lv_at hl 8 rfl) ?_
        refine lv_iload hx hb dX9_doSee_121 (lv_at hl 4 rfl) ?_
        refine xn_icmp_ge (tgt := 196) hx hb (by omega) (by omega) dX9_doSee_123 (by decide) (fun c123 => ?_) (fun c123 => ?_)
        · refine lv_iload hx hb dX9_doSee_196 (lv_at hl 7 rfl) ?_
          exact ret H locs 198 ls (b2 g) () dX9_doSee_198 (b2_iff (mclr_end rfl rfl rfl hm2 hg (by first | exact Or.inl c123 | exact Or.inr c128))) hP hS
        · refine lv_iload hx hb dX9_doSee_126 (lv_at hl 7 rfl) ?_
          refine xb_eq (tgt := 196) hx hb dX9_doSee_128 (by decide) (fun c128 => ?_) (fun c128 => ?_)
          · refine lv_iload hx hb dX9_doSee_196 (lv_at hl 7 rfl) ?_
            exact ret H locs 198 ls (b2 g) () dX9_doSee_198 (b2_iff (mclr_end rfl rfl rfl hm2 hg (by first | exact Or.inl c123 | exact Or.inr c128))) hP hS
          · refine lv_iload_n hx hb dX9_doSee_131 rfl (lv_at hl 1 rfl) ?_
            refine lv_iload hx hb dX9_doSee_132 (lv_at hl 2 rfl) ?_
            refine lv_iload hx hb dX9_doSee_134 (lv_at hl 4 rfl) ?_
            refine lv_idiv hx hb dX9_doSee_136 (nI_ne0 e4 (by omega)) ?_
            refine lv_iload hx hb dX9_doSee_137 (lv_at hl 8 rfl) ?_
            refine lv_imul hx hb dX9_doSee_139 ?_
            refine lv_aload_n hx hb dX9_doSee_140 rfl (lv_at hl 0 rfl) ?_
            refine mg_2 FX hK in9 hP (List.mem_of_getElem? (i := 2) rfl) dX9_doSee_141 ?_
            refine xn_to hx (z := nI w) hI.ww ?_
            refine lv_imul hx hb dX9_doSee_144 ?_
            refine lv_iadd hx hb dX9_doSee_145 ?_
            refine lv_iload hx hb dX9_doSee_146 (lv_at hl 3 rfl) ?_
            refine lv_iload hx hb dX9_doSee_148 (lv_at hl 4 rfl) ?_
            refine lv_idiv hx hb dX9_doSee_150 (nI_ne0 e4 (by omega)) ?_
            refine lv_iload hx hb dX9_doSee_151 (lv_at hl 8 rfl) ?_
            refine lv_imul hx hb dX9_doSee_153 ?_
            refine lv_iadd hx hb dX9_doSee_154 ?_
            refine xn_to hx (z := nI (pos (plN P h) (plN P o) (gcS (dst ((plN P o) / w) ((plN P h) / w)) (dst ((plN P o) % w) ((plN P h) % w))) m')) (posM (by omega) hw2 (by omega) (by omega) e3 e6.1 e6.2 c123) ?_
            refine lv_istore (lv' := [(11, .int (nI (pos (plN P h) (plN P o) (gcS (dst ((plN P o) / w) ((plN P h) / w)) (dst ((plN P o) % w) ((plN P h) % w))) m'))), (0, .ref (a 0)), (3, .int (nI (plN P h))), (4, .int (nI ((plN P o) / w) - nI ((plN P h) / w))), (5, .int (nI ((plN P o) % w) - nI ((plN P h) % w))), (6, .int (nI (gcS (dst ((plN P o) / w) ((plN P h) / w)) (dst ((plN P o) % w) ((plN P h) % w))))), (7, .int ((sTop P (P.1 5) (flQ P)) (plN P h))), (8, .int ((sTop P (P.1 5) (flQ P)) (plN P o))), (9, .int (b2 g)), (10, .int (nI m'))]) hx hb dX9_doSee_155 hl (by decide) rfl (fun ls hl => ?_)
            refine lv_aload_n hx hb dX9_doSee_157 rfl (lv_at hl 1 rfl) ?_
            refine lv_iload hx hb dX9_doSee_158 (lv_at hl 0 rfl) ?_
            refine cViI [.int (nI (pos (plN P h) (plN P o) (gcS (dst ((plN P o) / w) ((plN P h) / w)) (dst ((plN P o) % w) ((plN P h) % w))) m'))] [] FX hK (c_X9_topOf l D y a hA P (pos (plN P h) (plN P o) (gcS (dst ((plN P o) / w) ((plN P h) / w)) (dst ((plN P o) % w) ((plN P h) % w))) m') cN (pos_lt ha2 hb2 c123) hI.c30 hI.2.2.2.2) (cwV 1 hts gX9_doSee_X9_topOf rfl rfl rfl (by decide +kernel) ⟨Nat.le_of_ble_eq_true rfl, Nat.le_of_ble_eq_true rfl⟩) hP (pre_recv hK hP (ci := 9) (q0 := 0) rfl rfl) rfl rfl hl (Nat.le_of_ble_eq_true rfl) dX9_doSee_160 ⟨Nat.zero_le _, Nat.zero_le _⟩ hS (fun _ h => h) (fun r160 u160 H locs hp160 hP hS _ _ => ?_)
            obtain rfl := hp160
            refine lv_iload hx hb dX9_doSee_163 (lv_at hl 5 rfl) ?_
            refine lv_imul hx hb dX9_doSee_165 ?_
            refine lv_iload hx hb dX9_doSee_166 (lv_at hl 6 rfl) ?_
            refine lv_iload hx hb dX9_doSee_168 (lv_at hl 5 rfl) ?_
            refine lv_imul hx hb dX9_doSee_170 ?_
            refine lv_iload hx hb dX9_doSee_171 (lv_at hl 9 rfl) ?_
            refine lv_iload hx hb dX9_doSee_173 (lv_at hl 7 rfl) ?_
            refine lv_iload hx hb dX9_doSee_175 (lv_at hl 6 rfl) ?_
            refine lv_isub hx hb dX9_doSee_177 ?_
            refine lv_imul hx hb dX9_doSee_178 ?_
            refine lv_iadd hx hb dX9_doSee_179 ?_
            refine lv_icmp_ge (tgt := 187) hx hb dX9_doSee_180 (by decide) (fun c180 => ?_) (fun c180 => ?_)
            · refine lv_iconst (v := nI 0) hx hb dX9_doSee_187 rfl ?_
              refine xn_to hx (z := b2 False) (b2_0 (fun z => z)) ?_
              refine lv_istore (lv' := [(9, .int (b2 False)), (11, .int (nI (pos (plN P h) (plN P o) (gcS (dst ((plN P o) / w) ((plN P h) / w)) (dst ((plN P o) % w) ((plN P h) % w))) m'))), (0, .ref (a 0)), (3, .int (nI (plN P h))), (4, .int (nI ((plN P o) / w) - nI ((plN P h) / w))), (5, .int (nI ((plN P o) % w) - nI ((plN P h) % w))), (6, .int (nI (gcS (dst ((plN P o) / w) ((plN P h) / w)) (dst ((plN P o) % w) ((plN P h) % w))))), (7, .int ((sTop P (P.1 5) (flQ P)) (plN P h))), (8, .int ((sTop P (P.1 5) (flQ P)) (plN P o))), (10, .int (nI m'))]) hx hb dX9_doSee_188 hl (by decide) rfl (fun ls hl => ?_)
              refine lv_iinc (v := nI (m' + 1)) (lv' := [(10, .int (nI (m' + 1))), (9, .int (b2 False)), (11, .int (nI (pos (plN P h) (plN P o) (gcS (dst ((plN P o) / w) ((plN P h) / w)) (dst ((plN P o) % w) ((plN P h) % w))) m'))), (0, .ref (a 0)), (3, .int (nI (plN P h))), (4, .int (nI ((plN P o) / w) - nI ((plN P h) / w))), (5, .int (nI ((plN P o) % w) - nI ((plN P h) % w))), (6, .int (nI (gcS (dst ((plN P o) / w) ((plN P h) / w)) (dst ((plN P o) % w) ((plN P h) % w))))), (7, .int ((sTop P (P.1 5) (flQ P)) (plN P h))), (8, .int ((sTop P (P.1 5) (flQ P)) (plN P o)))]) hx hb dX9_doSee_190 hl (k := 9) rfl (xn_inc m' 1) (by decide) rfl (fun ls hl => ?_)
              refine lv_goto (tgt := 119) hx hb dX9_doSee_193 (by decide) ?_
              exact ih119 False (m' + 1) (⟨fun z => z.elim, fun z => absurd c180 ((mstep hg c128 rfl rfl hm).mpr z)⟩) (by omega) (by omega) (by omega) H locs ls hP hS (lv_sub hl [3, 4, 5, 6, 7, 8, 9, 1, 0] rfl)
            · refine lv_iconst (v := nI 1) hx hb dX9_doSee_183 rfl ?_
              refine lv_goto (tgt := 188) hx hb dX9_doSee_184 (by decide) ?_
              refine xn_to hx (z := b2 True) (b2_1 trivial) ?_
              refine lv_istore (lv' := [(9, .int (b2 True)), (11, .int (nI (pos (plN P h) (plN P o) (gcS (dst ((plN P o) / w) ((plN P h) / w)) (dst ((plN P o) % w) ((plN P h) % w))) m'))), (0, .ref (a 0)), (3, .int (nI (plN P h))), (4, .int (nI ((plN P o) / w) - nI ((plN P h) / w))), (5, .int (nI ((plN P o) % w) - nI ((plN P h) % w))), (6, .int (nI (gcS (dst ((plN P o) / w) ((plN P h) / w)) (dst ((plN P o) % w) ((plN P h) % w))))), (7, .int ((sTop P (P.1 5) (flQ P)) (plN P h))), (8, .int ((sTop P (P.1 5) (flQ P)) (plN P o))), (10, .int (nI m'))]) hx hb dX9_doSee_188 hl (by decide) rfl (fun ls hl => ?_)
              refine lv_iinc (v := nI (m' + 1)) (lv' := [(10, .int (nI (m' + 1))), (9, .int (b2 True)), (11, .int (nI (pos (plN P h) (plN P o) (gcS (dst ((plN P o) / w) ((plN P h) / w)) (dst ((plN P o) % w) ((plN P h) % w))) m'))), (0, .ref (a 0)), (3, .int (nI (plN P h))), (4, .int (nI ((plN P o) / w) - nI ((plN P h) / w))), (5, .int (nI ((plN P o) % w) - nI ((plN P h) % w))), (6, .int (nI (gcS (dst ((plN P o) / w) ((plN P h) / w)) (dst ((plN P o) % w) ((plN P h) % w))))), (7, .int ((sTop P (P.1 5) (flQ P)) (plN P h))), (8, .int ((sTop P (P.1 5) (flQ P)) (plN P o)))]) hx hb dX9_doSee_190 hl (k := 9) rfl (xn_inc m' 1) (by decide) rfl (fun ls hl => ?_)
              refine lv_goto (tgt := 119) hx hb dX9_doSee_193 (by decide) ?_
              exact ih119 True (m' + 1) (⟨fun _ => (mstep hg c128 rfl rfl hm).mp c180, fun _ => trivial⟩) (by omega) (by omega) (by omega) H locs ls hP hS (lv_sub hl [3, 4, 5, 6, 7, 8, 9, 1, 0] rfl)
    exact L119 _ False 1 (⟨fun z => z.elim, fun z => (by first | exact max_nle (by omega) (by omega) (Or.inl c93) z.1 | exact max_nle (by omega) (by omega) (Or.inr c106) z.1)⟩) (by omega) (by omega) (Nat.lt_succ_self _) H locs ls hP hS (lv_sub hl [8, 7, 6, 5, 4, 3, 2, 1, 0] rfl)
  · refine lv_iload hx hb dX9_doSee_96 (lv_at hl 3 rfl) ?_
    refine lv_iconst (v := nI 0) hx hb dX9_doSee_98 rfl ?_
    refine cStI [.int ((nI ((plN P o) % w)) - (nI ((plN P h) % w))), .int (nI 0)] [] FX hK (c_X9_far l D y ((nI ((plN P o) % w)) - (nI ((plN P h) % w))) (nI 0)) (va_cwS 2 hts gX9_doSee_X9_far rfl rfl rfl (by decide +kernel) ⟨Nat.le_of_ble_eq_true rfl, Nat.le_of_ble_eq_true rfl⟩) rfl rfl hl (Nat.le_of_ble_eq_true rfl) dX9_doSee_99 ⟨Nat.zero_le _, Nat.zero_le _⟩ hP hS (fun r99 H locs hp99 hP hS => ?_)
    obtain rfl := hp99
    refine xn_to hx (z := nI (dst ((plN P o) % w) ((plN P h) % w))) (far_dst (by omega) (by omega)) ?_
    refine lv_aload_n hx hb dX9_doSee_102 rfl (lv_at hl 6 rfl) ?_
    refine mg_16 FX hK in9 hP (List.mem_of_getElem? (i := 3) rfl) dX9_doSee_103 ?_
    refine lv_icmp_gt (tgt := 113) hx hb dX9_doSee_106 (by decide) (fun c106 => ?_) (fun c106 => ?_)
    · refine lv_iconst (v := nI 0) hx hb dX9_doSee_113 rfl ?_
      refine xn_to hx (z := b2 False) (b2_0 (fun z => z)) ?_
      refine lv_istore (lv' := [(9, .int (b2 False)), (8, .int (sTop P (P.1 5) (flQ P) (plN P o))), (7, .int (sTop P (P.1 5) (flQ P) (plN P h))), (6, .int (nI (gcS (dst ((plN P o) / w) ((plN P h) / w)) (dst ((plN P o) % w) ((plN P h) % w))))), (5, .int ((nI ((plN P o) % w)) - (nI ((plN P h) % w)))), (4, .int ((nI ((plN P o) / w)) - (nI ((plN P h) / w)))), (3, .int (nI (plN P h))), (0, .ref (a 0)), (1, .int (nI h)), (2, .int (nI o))]) hx hb dX9_doSee_114 hl (by decide) rfl (fun ls hl => ?_)
      refine lv_iconst (v := nI 1) hx hb dX9_doSee_116 rfl ?_
      refine lv_istore (lv' := [(10, .int (nI 1)), (9, .int (b2 False)), (8, .int (sTop P (P.1 5) (flQ P) (plN P o))), (7, .int (sTop P (P.1 5) (flQ P) (plN P h))), (6, .int (nI (gcS (dst ((plN P o) / w) ((plN P h) / w)) (dst ((plN P o) % w) ((plN P h) % w))))), (5, .int ((nI ((plN P o) % w)) - (nI ((plN P h) % w)))), (4, .int ((nI ((plN P o) / w)) - (nI ((plN P h) / w)))), (3, .int (nI (plN P h))), (0, .ref (a 0)), (1, .int (nI h)), (2, .int (nI o))]) hx hb dX9_doSee_117 hl (by decide) rfl (fun ls hl => ?_)
      have L119 : ∀ (N : Nat) (g : Prop) (m' : Nat), (g ↔ (nI (max (dst ((plN P o) / w) ((plN P h) / w)) (dst ((plN P o) % w) ((plN P h) % w))) ≤ P.1 6 ∧ ∀ k, 0 < k → k < m' → (sTop P (P.1 5) (flQ P)) (pos (plN P h) (plN P o) (gcS (dst ((plN P o) / w) ((plN P h) / w)) (dst ((plN P o) % w) ((plN P h) % w))) k) * nI (gcS (dst ((plN P o) / w) ((plN P h) / w)) (dst ((plN P o) % w) ((plN P h) % w))) < (sTop P (P.1 5) (flQ P)) (plN P h) * nI (gcS (dst ((plN P o) / w) ((plN P h) / w)) (dst ((plN P o) % w) ((plN P h) % w))) + nI k * ((sTop P (P.1 5) (flQ P)) (plN P o) - (sTop P (P.1 5) (flQ P)) (plN P h)))) → (0 < m') → (m' ≤ (gcS (dst ((plN P o) / w) ((plN P h) / w)) (dst ((plN P o) % w) ((plN P h) % w)))) → (gcS (dst ((plN P o) / w) ((plN P h) / w)) (dst ((plN P o) % w) ((plN P h) % w))) - m' < N → ∀ (H : Heap) (locs : List Loc) (ls : Array Slot), va_P D vwCl (wM y a P) H → va_S (AM a) s.heap H locs → lv_has ls 12 [(0, .ref (a 0)), (3, .int (nI (plN P h))), (4, .int (nI ((plN P o) / w) - nI ((plN P h) / w))), (5, .int (nI ((plN P o) % w) - nI ((plN P h) % w))), (6, .int (nI (gcS (dst ((plN P o) / w) ((plN P h) / w)) (dst ((plN P o) % w) ((plN P h) % w))))), (7, .int ((sTop P (P.1 5) (flQ P)) (plN P h))), (8, .int ((sTop P (P.1 5) (flQ P)) (plN P o))), (9, .int (b2 g)), (10, .int (nI m'))] → W p l e rmX9_doSee s m args below meth c H locs 0 0 Q (F0 m 119 ls []) := by
        intro N119
        induction N119 with
        | zero => intro g m' hg hm hm2 hmeas; exact absurd hmeas (Nat.not_lt_zero _)
        | succ N119 ih119 =>
          intro g m' hg hm hm2 hmeas H locs ls hP hS hl
          refine lv_iload hx hb dX9_doSee_119 (lv_at hl 8 rfl) ?_
          refine lv_iload hx hb dX9_doSee_121 (lv_at hl 4 rfl) ?_
          refine xn_icmp_ge (tgt := 196) hx hb (by omega) (by omega) dX9_doSee_123 (by decide) (fun c123 => ?_) (fun c123 => ?_)
          · refine lv_iload hx hb dX9_doSee_196 (lv_at hl 7 rfl) ?_
            exact ret H locs 198 ls (b2 g) () dX9_doSee_198 (b2_iff (mclr_end rfl rfl rfl hm2 hg (by first | exact Or.inl c123 | exact Or.inr c128))) hP hS
          · refine lv_iload hx hb dX9_doSee_126 (lv_at hl 7 rfl) ?_
            refine xb_eq (tgt := 196) hx hb dX9_doSee_128 (by decide) (fun c128 => ?_) (fun c128 => ?_)
            · refine lv_iload hx hb dX9_doSee_196 (lv_at hl 7 rfl) ?_
              exact ret H locs 198 ls (b2 g) () dX9_doSee_198 (b2_iff (mclr_end rfl rfl rfl hm2 hg (by first | exact Or.inl c123 | exact Or.inr c128))) hP hS
            · refine lv_iload_n hx hb dX9_doSee_131 rfl (lv_at hl 1 rfl) ?_
              refine lv_iload hx hb dX9_doSee_132 (lv_at hl 2 rfl) ?_
              refine lv_iload hx hb dX9_doSee_134 (lv_at hl 4 rfl) ?_
              refine lv_idiv hx hb dX9_doSee_136 (nI_ne0 e4 (by omega)) ?_
              refine lv_iload hx hb dX9_doSee_137 (lv_at hl 8 rfl) ?_
              refine lv_imul hx hb dX9_doSee_139 ?_
              refine lv_aload_n hx hb dX9_doSee_140 rfl (lv_at hl 0 rfl) ?_
              refine mg_2 FX hK in9 hP (List.mem_of_getElem? (i := 2) rfl) dX9_doSee_141 ?_
              refine xn_to hx (z := nI w) hI.ww ?_
              refine lv_imul hx hb dX9_doSee_144 ?_
              refine lv_iadd hx hb dX9_doSee_145 ?_
              refine lv_iload hx hb dX9_doSee_146 (lv_at hl 3 rfl) ?_
              refine lv_iload hx hb dX9_doSee_148 (lv_at hl 4 rfl) ?_
              refine lv_idiv hx hb dX9_doSee_150 (nI_ne0 e4 (by omega)) ?_
              refine lv_iload hx hb dX9_doSee_151 (lv_at hl 8 rfl) ?_
              refine lv_imul hx hb dX9_doSee_153 ?_
              refine lv_iadd hx hb dX9_doSee_154 ?_
              refine xn_to hx (z := nI (pos (plN P h) (plN P o) (gcS (dst ((plN P o) / w) ((plN P h) / w)) (dst ((plN P o) % w) ((plN P h) % w))) m')) (posM (by omega) hw2 (by omega) (by omega) e3 e6.1 e6.2 c123) ?_
              refine lv_istore (lv' := [(11, .int (nI (pos (plN P h) (plN P o) (gcS (dst ((plN P o) / w) ((plN P h) / w)) (dst ((plN P o) % w) ((plN P h) % w))) m'))), (0, .ref (a 0)), (3, .int (nI (plN P h))), (4, .int (nI ((plN P o) / w) - nI ((plN P h) / w))), (5, .int (nI ((plN P o) % w) - nI ((plN P h) % w))), (6, .int (nI (gcS (dst ((plN P o) / w) ((plN P h) / w)) (dst ((plN P o) % w) ((plN P h) % w))))), (7, .int ((sTop P (P.1 5) (flQ P)) (plN P h))), (8, .int ((sTop P (P.1 5) (flQ P)) (plN P o))), (9, .int (b2 g)), (10, .int (nI m'))]) hx hb dX9_doSee_155 hl (by decide) rfl (fun ls hl => ?_)
              refine lv_aload_n hx hb dX9_doSee_157 rfl (lv_at hl 1 rfl) ?_
              refine lv_iload hx hb dX9_doSee_158 (lv_at hl 0 rfl) ?_
              refine cViI [.int (nI (pos (plN P h) (plN P o) (gcS (dst ((plN P o) / w) ((plN P h) / w)) (dst ((plN P o) % w) ((plN P h) % w))) m'))] [] FX hK (c_X9_topOf l D y a hA P (pos (plN P h) (plN P o) (gcS (dst ((plN P o) / w) ((plN P h) / w)) (dst ((plN P o) % w) ((plN P h) % w))) m') cN (pos_lt ha2 hb2 c123) hI.c30 hI.2.2.2.2) (cwV 1 hts gX9_doSee_X9_topOf rfl rfl rfl (by decide +kernel) ⟨Nat.le_of_ble_eq_true rfl, Nat.le_of_ble_eq_true rfl⟩) hP (pre_recv hK hP (ci := 9) (q0 := 0) rfl rfl) rfl rfl hl (Nat.le_of_ble_eq_true rfl) dX9_doSee_160 ⟨Nat.zero_le _, Nat.zero_le _⟩ hS (fun _ h => h) (fun r160 u160 H locs hp160 hP hS _ _ => ?_)
              obtain rfl := hp160
              refine lv_iload hx hb dX9_doSee_163 (lv_at hl 5 rfl) ?_
              refine lv_imul hx hb dX9_doSee_165 ?_
              refine lv_iload hx hb dX9_doSee_166 (lv_at hl 6 rfl) ?_
              refine lv_iload hx hb dX9_doSee_168 (lv_at hl 5 rfl) ?_
              refine lv_imul hx hb dX9_doSee_170 ?_
              refine lv_iload hx hb dX9_doSee_171 (lv_at hl 9 rfl) ?_
              refine lv_iload hx hb dX9_doSee_173 (lv_at hl 7 rfl) ?_
              refine lv_iload hx hb dX9_doSee_175 (lv_at hl 6 rfl) ?_
              refine lv_isub hx hb dX9_doSee_177 ?_
              refine lv_imul hx hb dX9_doSee_178 ?_
              refine lv_iadd hx hb dX9_doSee_179 ?_
              refine lv_icmp_ge (tgt := 187) hx hb dX9_doSee_180 (by decide) (fun c180 => ?_) (fun c180 => ?_)
              · refine lv_iconst (v := nI 0) hx hb dX9_doSee_187 rfl ?_
                refine xn_to hx (z := b2 False) (b2_0 (fun z => z)) ?_
                refine lv_istore (lv' := [(9, .int (b2 False)), (11, .int (nI (pos (plN P h) (plN P o) (gcS (dst ((plN P o) / w) ((plN P h) / w)) (dst ((plN P o) % w) ((plN P h) % w))) m'))), (0, .ref (a 0)), (3, .int (nI (plN P h))), (4, .int (nI ((plN P o) / w) - nI ((plN P h) / w))), (5, .int (nI ((plN P o) % w) - nI ((plN P h) % w))), (6, .int (nI (gcS (dst ((plN P o) / w) ((plN P h) / w)) (dst ((plN P o) % w) ((plN P h) % w))))), (7, .int ((sTop P (P.1 5) (flQ P)) (plN P h))), (8, .int ((sTop P (P.1 5) (flQ P)) (plN P o))), (10, .int (nI m'))]) hx hb dX9_doSee_188 hl (by decide) rfl (fun ls hl => ?_)
                refine lv_iinc (v := nI (m' + 1)) (lv' := [(10, .int (nI (m' + 1))), (9, .int (b2 False)), (11, .int (nI (pos (plN P h) (plN P o) (gcS (dst ((plN P o) / w) ((plN P h) / w)) (dst ((plN P o) % w) ((plN P h) % w))) m'))), (0, .ref (a 0)), (3, .int (nI (plN P h))), (4, .int (nI ((plN P o) / w) - nI ((plN P h) / w))), (5, .int (nI ((plN P o) % w) - nI ((plN P h) % w))), (6, .int (nI (gcS (dst ((plN P o) / w) ((plN P h) / w)) (dst ((plN P o) % w) ((plN P h) % w))))), (7, .int ((sTop P (P.1 5) (flQ P)) (plN P h))), (8, .int ((sTop P (P.1 5) (flQ P)) (plN P o)))]) hx hb dX9_doSee_190 hl (k := 9) rfl (xn_inc m' 1) (by decide) rfl (fun ls hl => ?_)
                refine lv_goto (tgt := 119) hx hb dX9_doSee_193 (by decide) ?_
                exact ih119 False (m' + 1) (⟨fun z => z.elim, fun z => absurd c180 ((mstep hg c128 rfl rfl hm).mpr z)⟩) (by omega) (by omega) (by omega) H locs ls hP hS (lv_sub hl [3, 4, 5, 6, 7, 8, 9, 1, 0] rfl)
              · refine lv_iconst (v := nI 1) hx hb dX9_doSee_183 rfl ?_
                refine lv_goto (tgt := 188) hx hb dX9_doSee_184 (by decide) ?_
                refine xn_to hx (z := b2 True) (b2_1 trivial) ?_
                refine lv_istore (lv' := [(9, .int (b2 True)), (11, .int (nI (pos (plN P h) (plN P o) (gcS (dst ((plN P o) / w) ((plN P h) / w)) (dst ((plN P o) % w) ((plN P h) % w))) m'))), (0, .ref (a 0)), (3, .int (nI (plN P h))), (4, .int (nI ((plN P o) / w) - nI ((plN P h) / w))), (5, .int (nI ((plN P o) % w) - nI ((plN P h) % w))), (6, .int (nI (gcS (dst ((plN P o) / w) ((plN P h) / w)) (dst ((plN P o) % w) ((plN P h) % w))))), (7, .int ((sTop P (P.1 5) (flQ P)) (plN P h))), (8, .int ((sTop P (P.1 5) (flQ P)) (plN P o))), (10, .int (nI m'))]) hx hb dX9_doSee_188 hl (by decide) rfl (fun ls hl => ?_)
                refine lv_iinc (v := nI (m' + 1)) (lv' := [(10, .int (nI (m' + 1))), (9, .int (b2 True)), (11, .int (nI (pos (plN P h) (plN P o) (gcS (dst ((plN P o) / w) ((plN P h) / w)) (dst ((plN P o) % w) ((plN P h) % w))) m'))), (0, .ref (a 0)), (3, .int (nI (plN P h))), (4, .int (nI ((plN P o) / w) - nI ((plN P h) / w))), (5, .int (nI ((plN P o) % w) - nI ((plN P h) % w))), (6, .int (nI (gcS (dst ((plN P o) / w) ((plN P h) / w)) (dst ((plN P o) % w) ((plN P h) % w))))), (7, .int ((sTop P (P.1 5) (flQ P)) (plN P h))), (8, .int ((sTop P (P.1 5) (flQ P)) (plN P o)))]) hx hb dX9_doSee_190 hl (k := 9) rfl (xn_inc m' 1) (by decide) rfl (fun ls hl => ?_)
                refine lv_goto (tgt := 119) hx hb dX9_doSee_193 (by decide) ?_
                exact ih119 True (m' + 1) (⟨fun _ => (mstep hg c128 rfl rfl hm).mp c180, fun _ => trivial⟩) (by omega) (by omega) (by omega) H locs ls hP hS (lv_sub hl [3, 4, 5, 6, 7, 8, 9, 1, 0] rfl)
      exact L119 _ False 1 (⟨fun z => z.elim, fun z => (by first | exact max_nle (by omega) (by omega) (Or.inl c93) z.1 | exact max_nle (by omega) (by omega) (Or.inr c106) z.1)⟩) (by omega) (by omega) (Nat.lt_succ_self _) H locs ls hP hS (lv_sub hl [8, 7, 6, 5, 4, 3, 2, 1, 0] rfl)
    · refine lv_iconst (v := nI 1) hx hb dX9_doSee_109 rfl ?_
      refine lv_goto (tgt := 114) hx hb dX9_doSee_110 (by decide) ?_
      refine xn_to hx (z := b2 True) (b2_1 trivial) ?_
      refine lv_istore (lv' := [(9, .int (b2 True)), (8, .int (sTop P (P.1 5) (flQ P) (plN P o))), (7, .int (sTop P (P.1 5) (flQ P) (plN P h))), (6, .int (nI (gcS (dst ((plN P o) / w) ((plN P h) / w)) (dst ((plN P o) % w) ((plN P h) % w))))), (5, .int ((nI ((plN P o) % w)) - (nI ((plN P h) % w)))), (4, .int ((nI ((plN P o) / w)) - (nI ((plN P h) / w)))), (3, .int (nI (plN P h))), (0, .ref (a 0)), (1, .int (nI h)), (2, .int (nI o))]) hx hb dX9_doSee_114 hl (by decide) rfl (fun ls hl => ?_)
      refine lv_iconst (v := nI 1) hx hb dX9_doSee_116 rfl ?_
      refine lv_istore (lv' := [(10, .int (nI 1)), (9, .int (b2 True)), (8, .int (sTop P (P.1 5) (flQ P) (plN P o))), (7, .int (sTop P (P.1 5) (flQ P) (plN P h))), (6, .int (nI (gcS (dst ((plN P o) / w) ((plN P h) / w)) (dst ((plN P o) % w) ((plN P h) % w))))), (5, .int ((nI ((plN P o) % w)) - (nI ((plN P h) % w)))), (4, .int ((nI ((plN P o) / w)) - (nI ((plN P h) / w)))), (3, .int (nI (plN P h))), (0, .ref (a 0)), (1, .int (nI h)), (2, .int (nI o))]) hx hb dX9_doSee_117 hl (by decide) rfl (fun ls hl => ?_)
      have L119 : ∀ (N : Nat) (g : Prop) (m' : Nat), (g ↔ (nI (max (dst ((plN P o) / w) ((plN P h) / w)) (dst ((plN P o) % w) ((plN P h) % w))) ≤ P.1 6 ∧ ∀ k, 0 < k → k < m' → (sTop P (P.1 5) (flQ P)) (pos (plN P h) (plN P o) (gcS (dst ((plN P o) / w) ((plN P h) / w)) (dst ((plN P o) % w) ((plN P h) % w))) k) * nI (gcS (dst ((plN P o) / w) ((plN P h) / w)) (dst ((plN P o) % w) ((plN P h) % w))) < (sTop P (P.1 5) (flQ P)) (plN P h) * nI (gcS (dst ((plN P o) / w) ((plN P h) / w)) (dst ((plN P o) % w) ((plN P h) % w))) + nI k * ((sTop P (P.1 5) (flQ P)) (plN P o) - (sTop P (P.1 5) (flQ P)) (plN P h)))) → (0 < m') → (m' ≤ (gcS (dst ((plN P o) / w) ((plN P h) / w)) (dst ((plN P o) % w) ((plN P h) % w)))) → (gcS (dst ((plN P o) / w) ((plN P h) / w)) (dst ((plN P o) % w) ((plN P h) % w))) - m' < N → ∀ (H : Heap) (locs : List Loc) (ls : Array Slot), va_P D vwCl (wM y a P) H → va_S (AM a) s.heap H locs → lv_has ls 12 [(0, .ref (a 0)), (3, .int (nI (plN P h))), (4, .int (nI ((plN P o) / w) - nI ((plN P h) / w))), (5, .int (nI ((plN P o) % w) - nI ((plN P h) % w))), (6, .int (nI (gcS (dst ((plN P o) / w) ((plN P h) / w)) (dst ((plN P o) % w) ((plN P h) % w))))), (7, .int ((sTop P (P.1 5) (flQ P)) (plN P h))), (8, .int ((sTop P (P.1 5) (flQ P)) (plN P o))), (9, .int (b2 g)), (10, .int (nI m'))] → W p l e rmX9_doSee s m args below meth c H locs 0 0 Q (F0 m 119 ls []) := by
        intro N119
        induction N119 with
        | zero => intro g m' hg hm hm2 hmeas; exact absurd hmeas (Nat.not_lt_zero _)
        | succ N119 ih119 =>
          intro g m' hg hm hm2 hmeas H locs ls hP hS hl
          refine lv_iload hx hb dX9_doSee_119 (lv_at hl 8 rfl) ?_
          refine lv_iload hx hb dX9_doSee_121 (lv_at hl 4 rfl) ?_
          refine xn_icmp_ge (tgt := 196) hx hb (by omega) (by omega) dX9_doSee_123 (by decide) (fun c123 => ?_) (fun c123 => ?_)
          · refine lv_iload hx hb dX9_doSee_196 (lv_at hl 7 rfl) ?_
            exact ret H locs 198 ls (b2 g) () dX9_doSee_198 (b2_iff (mclr_end rfl rfl rfl hm2 hg (by first | exact Or.inl c123 | exact Or.inr c128))) hP hS
          · refine lv_iload hx hb dX9_doSee_126 (lv_at hl 7 rfl) ?_
            refine xb_eq (tgt := 196) hx hb dX9_doSee_128 (by decide) (fun c128 => ?_) (fun c128 => ?_)
            · refine lv_iload hx hb dX9_doSee_196 (lv_at hl 7 rfl) ?_
              exact ret H locs 198 ls (b2 g) () dX9_doSee_198 (b2_iff (mclr_end rfl rfl rfl hm2 hg (by first | exact Or.inl c123 | exact Or.inr c128))) hP hS
            · refine lv_iload_n hx hb dX9_doSee_131 rfl (lv_at hl 1 rfl) ?_
              refine lv_iload hx hb dX9_doSee_132 (lv_at hl 2 rfl) ?_
              refine lv_iload hx hb dX9_doSee_134 (lv_at hl 4 rfl) ?_
              refine lv_idiv hx hb dX9_doSee_136 (nI_ne0 e4 (by omega)) ?_
              refine lv_iload hx hb dX9_doSee_137 (lv_at hl 8 rfl) ?_
              refine lv_imul hx hb dX9_doSee_139 ?_
              refine lv_aload_n hx hb dX9_doSee_140 rfl (lv_at hl 0 rfl) ?_
              refine mg_2 FX hK in9 hP (List.mem_of_getElem? (i := 2) rfl) dX9_doSee_141 ?_
              refine xn_to hx (z := nI w) hI.ww ?_
              refine lv_imul hx hb dX9_doSee_144 ?_
              refine lv_iadd hx hb dX9_doSee_145 ?_
              refine lv_iload hx hb dX9_doSee_146 (lv_at hl 3 rfl) ?_
              refine lv_iload hx hb dX9_doSee_148 (lv_at hl 4 rfl) ?_
              refine lv_idiv hx hb dX9_doSee_150 (nI_ne0 e4 (by omega)) ?_
              refine lv_iload hx hb dX9_doSee_151 (lv_at hl 8 rfl) ?_
              refine lv_imul hx hb dX9_doSee_153 ?_
              refine lv_iadd hx hb dX9_doSee_154 ?_
              refine xn_to hx (z := nI (pos (plN P h) (plN P o) (gcS (dst ((plN P o) / w) ((plN P h) / w)) (dst ((plN P o) % w) ((plN P h) % w))) m')) (posM (by omega) hw2 (by omega) (by omega) e3 e6.1 e6.2 c123) ?_
              refine lv_istore (lv' := [(11, .int (nI (pos (plN P h) (plN P o) (gcS (dst ((plN P o) / w) ((plN P h) / w)) (dst ((plN P o) % w) ((plN P h) % w))) m'))), (0, .ref (a 0)), (3, .int (nI (plN P h))), (4, .int (nI ((plN P o) / w) - nI ((plN P h) / w))), (5, .int (nI ((plN P o) % w) - nI ((plN P h) % w))), (6, .int (nI (gcS (dst ((plN P o) / w) ((plN P h) / w)) (dst ((plN P o) % w) ((plN P h) % w))))), (7, .int ((sTop P (P.1 5) (flQ P)) (plN P h))), (8, .int ((sTop P (P.1 5) (flQ P)) (plN P o))), (9, .int (b2 g)), (10, .int (nI m'))]) hx hb dX9_doSee_155 hl (by decide) rfl (fun ls hl => ?_)
              refine lv_aload_n hx hb dX9_doSee_157 rfl (lv_at hl 1 rfl) ?_
              refine lv_iload hx hb dX9_doSee_158 (lv_at hl 0 rfl) ?_
              refine cViI [.int (nI (pos (plN P h) (plN P o) (gcS (dst ((plN P o) / w) ((plN P h) / w)) (dst ((plN P o) % w) ((plN P h) % w))) m'))] [] FX hK (c_X9_topOf l D y a hA P (pos (plN P h) (plN P o) (gcS (dst ((plN P o) / w) ((plN P h) / w)) (dst ((plN P o) % w) ((plN P h) % w))) m') cN (pos_lt ha2 hb2 c123) hI.c30 hI.2.2.2.2) (cwV 1 hts gX9_doSee_X9_topOf rfl rfl rfl (by decide +kernel) ⟨Nat.le_of_ble_eq_true rfl, Nat.le_of_ble_eq_true rfl⟩) hP (pre_recv hK hP (ci := 9) (q0 := 0) rfl rfl) rfl rfl hl (Nat.le_of_ble_eq_true rfl) dX9_doSee_160 ⟨Nat.zero_le _, Nat.zero_le _⟩ hS (fun _ h => h) (fun r160 u160 H locs hp160 hP hS _ _ => ?_)
              obtain rfl := hp160
              refine lv_iload hx hb dX9_doSee_163 (lv_at hl 5 rfl) ?_
              refine lv_imul hx hb dX9_doSee_165 ?_
              refine lv_iload hx hb dX9_doSee_166 (lv_at hl 6 rfl) ?_
              refine lv_iload hx hb dX9_doSee_168 (lv_at hl 5 rfl) ?_
              refine lv_imul hx hb dX9_doSee_170 ?_
              refine lv_iload hx hb dX9_doSee_171 (lv_at hl 9 rfl) ?_
              refine lv_iload hx hb dX9_doSee_173 (lv_at hl 7 rfl) ?_
              refine lv_iload hx hb dX9_doSee_175 (lv_at hl 6 rfl) ?_
              refine lv_isub hx hb dX9_doSee_177 ?_
              refine lv_imul hx hb dX9_doSee_178 ?_
              refine lv_iadd hx hb dX9_doSee_179 ?_
              refine lv_icmp_ge (tgt := 187) hx hb dX9_doSee_180 (by decide) (fun c180 => ?_) (fun c180 => ?_)
              · refine lv_iconst (v := nI 0) hx hb dX9_doSee_187 rfl ?_
                refine xn_to hx (z := b2 False) (b2_0 (fun z => z)) ?_
                refine lv_istore (lv' := [(9, .int (b2 False)), (11, .int (nI (pos (plN P h) (plN P o) (gcS (dst ((plN P o) / w) ((plN P h) / w)) (dst ((plN P o) % w) ((plN P h) % w))) m'))), (0, .ref (a 0)), (3, .int (nI (plN P h))), (4, .int (nI ((plN P o) / w) - nI ((plN P h) / w))), (5, .int (nI ((plN P o) % w) - nI ((plN P h) % w))), (6, .int (nI (gcS (dst ((plN P o) / w) ((plN P h) / w)) (dst ((plN P o) % w) ((plN P h) % w))))), (7, .int ((sTop P (P.1 5) (flQ P)) (plN P h))), (8, .int ((sTop P (P.1 5) (flQ P)) (plN P o))), (10, .int (nI m'))]) hx hb dX9_doSee_188 hl (by decide) rfl (fun ls hl => ?_)
                refine lv_iinc (v := nI (m' + 1)) (lv' := [(10, .int (nI (m' + 1))), (9, .int (b2 False)), (11, .int (nI (pos (plN P h) (plN P o) (gcS (dst ((plN P o) / w) ((plN P h) / w)) (dst ((plN P o) % w) ((plN P h) % w))) m'))), (0, .ref (a 0)), (3, .int (nI (plN P h))), (4, .int (nI ((plN P o) / w) - nI ((plN P h) / w))), (5, .int (nI ((plN P o) % w) - nI ((plN P h) % w))), (6, .int (nI (gcS (dst ((plN P o) / w) ((plN P h) / w)) (dst ((plN P o) % w) ((plN P h) % w))))), (7, .int ((sTop P (P.1 5) (flQ P)) (plN P h))), (8, .int ((sTop P (P.1 5) (flQ P)) (plN P o)))]) hx hb dX9_doSee_190 hl (k := 9) rfl (xn_inc m' 1) (by decide) rfl (fun ls hl => ?_)
                refine lv_goto (tgt := 119) hx hb dX9_doSee_193 (by decide) ?_
                exact ih119 False (m' + 1) (⟨fun z => z.elim, fun z => absurd c180 ((mstep hg c128 rfl rfl hm).mpr z)⟩) (by omega) (by omega) (by omega) H locs ls hP hS (lv_sub hl [3, 4, 5, 6, 7, 8, 9, 1, 0] rfl)
              · refine lv_iconst (v := nI 1) hx hb dX9_doSee_183 rfl ?_
                refine lv_goto (tgt := 188) hx hb dX9_doSee_184 (by decide) ?_
                refine xn_to hx (z := b2 True) (b2_1 trivial) ?_
                refine lv_istore (lv' := [(9, .int (b2 True)), (11, .int (nI (pos (plN P h) (plN P o) (gcS (dst ((plN P o) / w) ((plN P h) / w)) (dst ((plN P o) % w) ((plN P h) % w))) m'))), (0, .ref (a 0)), (3, .int (nI (plN P h))), (4, .int (nI ((plN P o) / w) - nI ((plN P h) / w))), (5, .int (nI ((plN P o) % w) - nI ((plN P h) % w))), (6, .int (nI (gcS (dst ((plN P o) / w) ((plN P h) / w)) (dst ((plN P o) % w) ((plN P h) % w))))), (7, .int ((sTop P (P.1 5) (flQ P)) (plN P h))), (8, .int ((sTop P (P.1 5) (flQ P)) (plN P o))), (10, .int (nI m'))]) hx hb dX9_doSee_188 hl (by decide) rfl (fun ls hl => ?_)
                refine lv_iinc (v := nI (m' + 1)) (lv' := [(10, .int (nI (m' + 1))), (9, .int (b2 True)), (11, .int (nI (pos (plN P h) (plN P o) (gcS (dst ((plN P o) / w) ((plN P h) / w)) (dst ((plN P o) % w) ((plN P h) % w))) m'))), (0, .ref (a 0)), (3, .int (nI (plN P h))), (4, .int (nI ((plN P o) / w) - nI ((plN P h) / w))), (5, .int (nI ((plN P o) % w) - nI ((plN P h) % w))), (6, .int (nI (gcS (dst ((plN P o) / w) ((plN P h) / w)) (dst ((plN P o) % w) ((plN P h) % w))))), (7, .int ((sTop P (P.1 5) (flQ P)) (plN P h))), (8, .int ((sTop P (P.1 5) (flQ P)) (plN P o)))]) hx hb dX9_doSee_190 hl (k := 9) rfl (xn_inc m' 1) (by decide) rfl (fun ls hl => ?_)
                refine lv_goto (tgt := 119) hx hb dX9_doSee_193 (by decide) ?_
                exact ih119 True (m' + 1) (⟨fun _ => (mstep hg c128 rfl rfl hm).mp c180, fun _ => trivial⟩) (by omega) (by omega) (by omega) H locs ls hP hS (lv_sub hl [3, 4, 5, 6, 7, 8, 9, 1, 0] rfl)
      exact L119 _ True 1 (⟨fun _ => ⟨max_le (by omega) (by omega) c93 c106, fun k h1 h2 => by omega⟩, fun _ => trivial⟩) (by omega) (by omega) (Nat.lt_succ_self _) H locs ls hP hS (lv_sub hl [8, 7, 6, 5, 4, 3, 2, 1, 0] rfl)

abbrev rmX9_numberOf : Room := { frames := 3, cells := 0, slots := 0, locals := 75 }
set_option maxRecDepth 100000 in
set_option maxHeartbeats 4000000 in
theorem c_X9_numberOf (l : Launch) (D : va_G) (y : Nat → ClassId) (a : Nat → Nat) (hA : CA a 26) (P : PT) (w cN n t hi : Nat) (h : Nat) (hI : IQ P w cN n t hi) (hh : h < n) : CtI l D y yX9_numberOf wsX9_numberOf rmX9_numberOf [.ref (a 0), .int (nI h)] (wM y a P) (fun r (_ : Unit) => r = nI (mNum P w n h)) (fun _ => wM y a P) (AM a) := by
  refine mkI (cc := cX9_numberOf) (maxL := 4) (ret := some .int) RX9 rfl (by decide) rfl (Or.inl rfl) (Nat.le_of_ble_eq_true rfl) ?_
  intro p e s m args below meth c Q FX hK hP ret ls hl
  obtain ⟨hx, hb, hml, hown, hts⟩ := id FX
  have hS : va_S (AM a) s.heap s.heap [] := va_S.rf
  have in9 : ∀ w ∈ wsX90, w ∈ wsX9_numberOf := fun _ h => List.mem_cons_of_mem _ (List.mem_append_right _ (h))
  have hl : lv_has ls 4 [(0, .ref (a 0)), (1, .int (nI h))] := hl
  have hnl := hI.n9
  have hcn := cn_le (mfp P w h)
  refine lv_iconst (v := nI 0) hx hb dX9_numberOf_0 rfl ?_
  refine lv_istore_n (lv' := [(2, .int (nI 0)), (0, .ref (a 0)), (1, .int (nI h))]) hx hb dX9_numberOf_1 rfl hl (by decide) rfl (fun ls hl => ?_)
  refine lv_iconst (v := nI 0) hx hb dX9_numberOf_2 rfl ?_
  refine lv_istore_n (lv' := [(3, .int (nI 0)), (2, .int (nI 0)), (0, .ref (a 0)), (1, .int (nI h))]) hx hb dX9_numberOf_3 rfl hl (by decide) rfl (fun ls hl => ?_)
  have L4 : ∀ (N : Nat) (i : Nat), (i ≤ n) → n - i < N → ∀ (H : Heap) (locs : List Loc) (ls : Array Slot), va_P D vwCl (wM y a P) H → va_S (AM a) s.heap H locs → lv_has ls 4 [(0, .ref (a 0)), (1, .int (nI h)), (2, .int (nI (cn (mfp P w h) i))), (3, .int (nI i))] → W p l e rmX9_numberOf s m args below meth c H locs 0 0 Q (F0 m 4 ls []) := by
    intro N4
    induction N4 with
    | zero => intro i hi9 hmeas; exact absurd hmeas (Nat.not_lt_zero _)
    | succ N4 ih4 =>
      intro i hi9 hmeas H locs ls hP hS hl
      refine lv_iload_n hx hb dX9_numberOf_4 rfl (lv_at hl 3 rfl) ?_
      refine lv_aload_n hx hb dX9_numberOf_5 rfl (lv_at hl 0 rfl) ?_
      refine mg_6 FX hK in9 hP (List.mem_of_getElem? (i := 1) rfl) dX9_numberOf_6 ?_
      refine xn_to hx (z := nI n) hI.nn ?_
      refine xn_icmp_ge (tgt := 40) hx hb (by omega) (by omega) dX9_numberOf_9 (by decide) (fun c9 => ?_) (fun c9 => ?_)
      · refine lv_iload_n hx hb dX9_numberOf_40 rfl (lv_at hl 2 rfl) ?_
        exact ret H locs 41 ls (nI (cn (mfp P w h) i)) () dX9_numberOf_41 (by rw [show n = i by omega]; rfl) hP hS
      · refine lv_iload_n hx hb dX9_numberOf_12 rfl (lv_at hl 2 rfl) ?_
        refine lv_iload_n hx hb dX9_numberOf_13 rfl (lv_at hl 3 rfl) ?_
        refine lv_iload_n hx hb dX9_numberOf_14 rfl (lv_at hl 1 rfl) ?_
        refine xn_icmp_eq (tgt := 31) hx hb (by omega) (by omega) dX9_numberOf_15 (by decide) (fun c15 => ?_) (fun c15 => ?_)
        · refine lv_iconst (v := nI 0) hx hb dX9_numberOf_31 rfl ?_
          refine xn_iadd (a := cn (mfp P w h) i) (b := 0) hx hb dX9_numberOf_32 ?_
          refine lv_istore_n (lv' := [(2, .int (nI ((cn (mfp P w h) i) + 0))), (0, .ref (a 0)), (1, .int (nI h)), (3, .int (nI i))]) hx hb dX9_numberOf_33 rfl hl (by decide) rfl (fun ls hl => ?_)
          refine lv_iinc (v := nI (i + 1)) (lv' := [(3, .int (nI (i + 1))), (2, .int (nI ((cn (mfp P w h) i) + 0))), (0, .ref (a 0)), (1, .int (nI h))]) hx hb dX9_numberOf_34 hl (k := 3) rfl (xn_inc i 1) (by decide) rfl (fun ls hl => ?_)
          refine lv_goto (tgt := 4) hx hb dX9_numberOf_37 (by decide) ?_
          rw [Nat.add_zero] at hl
          rw [← cn_f (p := (mfp P w h)) (n := i) (by first | exact (fun z => z.1 c15) | exact (fun z => c24 z.2))] at hl
          exact ih4 (i + 1) (by omega) (by omega) H locs ls hP hS (lv_sub hl [2, 3, 1, 0] rfl)
        · refine lv_aload_n hx hb dX9_numberOf_18 rfl (lv_at hl 0 rfl) ?_
          refine lv_iload_n hx hb dX9_numberOf_19 rfl (lv_at hl 1 rfl) ?_
          refine lv_iload_n hx hb dX9_numberOf_20 rfl (lv_at hl 3 rfl) ?_
          refine cViI [.int (nI h), .int (nI i)] [.int (nI (cn (mfp P w h) i))] FX hK (c_X9_doSee l D y a hA P w cN n t hi h i hI (by omega) (by omega) (by omega)) (cwV 2 hts gX9_numberOf_X9_doSee rfl rfl rfl (by decide +kernel) ⟨Nat.le_of_ble_eq_true rfl, Nat.le_of_ble_eq_true rfl⟩) hP (pre_recv hK hP (ci := 9) (q0 := 0) rfl rfl) rfl rfl hl (Nat.le_of_ble_eq_true rfl) dX9_numberOf_21 ⟨Nat.zero_le _, Nat.zero_le _⟩ hS (fun _ h => h) (fun r21 u21 H locs hp21 hP hS _ _ => ?_)
          obtain rfl := hp21
          refine xb_eq (tgt := 31) hx hb dX9_numberOf_24 (by decide) (fun c24 => ?_) (fun c24 => ?_)
          · refine lv_iconst (v := nI 0) hx hb dX9_numberOf_31 rfl ?_
            refine xn_iadd (a := cn (mfp P w h) i) (b := 0) hx hb dX9_numberOf_32 ?_
            refine lv_istore_n (lv' := [(2, .int (nI ((cn (mfp P w h) i) + 0))), (0, .ref (a 0)), (1, .int (nI h)), (3, .int (nI i))]) hx hb dX9_numberOf_33 rfl hl (by decide) rfl (fun ls hl => ?_)
            refine lv_iinc (v := nI (i + 1)) (lv' := [(3, .int (nI (i + 1))), (2, .int (nI ((cn (mfp P w h) i) + 0))), (0, .ref (a 0)), (1, .int (nI h))]) hx hb dX9_numberOf_34 hl (k := 3) rfl (xn_inc i 1) (by decide) rfl (fun ls hl => ?_)
            refine lv_goto (tgt := 4) hx hb dX9_numberOf_37 (by decide) ?_
            rw [Nat.add_zero] at hl
            rw [← cn_f (p := (mfp P w h)) (n := i) (by first | exact (fun z => z.1 c15) | exact (fun z => c24 z.2))] at hl
            exact ih4 (i + 1) (by omega) (by omega) H locs ls hP hS (lv_sub hl [2, 3, 1, 0] rfl)
          · refine lv_iconst (v := nI 1) hx hb dX9_numberOf_27 rfl ?_
            refine lv_goto (tgt := 32) hx hb dX9_numberOf_28 (by decide) ?_
            refine xn_iadd (a := cn (mfp P w h) i) (b := 1) hx hb dX9_numberOf_32 ?_
            refine lv_istore_n (lv' := [(2, .int (nI ((cn (mfp P w h) i) + 1))), (0, .ref (a 0)), (1, .int (nI h)), (3, .int (nI i))]) hx hb dX9_numberOf_33 rfl hl (by decide) rfl (fun ls hl => ?_)
            refine lv_iinc (v := nI (i + 1)) (lv' := [(3, .int (nI (i + 1))), (2, .int (nI ((cn (mfp P w h) i) + 1))), (0, .ref (a 0)), (1, .int (nI h))]) hx hb dX9_numberOf_34 hl (k := 3) rfl (xn_inc i 1) (by decide) rfl (fun ls hl => ?_)
            refine lv_goto (tgt := 4) hx hb dX9_numberOf_37 (by decide) ?_
            rw [← cn_t (p := (mfp P w h)) (n := i) ⟨c15, c24⟩] at hl
            exact ih4 (i + 1) (by omega) (by omega) H locs ls hP hS (lv_sub hl [2, 3, 1, 0] rfl)
  exact L4 _ 0 (Nat.zero_le _) (Nat.lt_succ_self _) s.heap [] ls hP hS (lv_sub hl [2, 3, 1, 0] rfl)

abbrev rmX9_havingNow : Room := { frames := 4, cells := 0, slots := 0, locals := 98 }
set_option maxRecDepth 100000 in
set_option maxHeartbeats 4000000 in
theorem c_X9_havingNow (l : Launch) (D : va_G) (y : Nat → ClassId) (a : Nat → Nat) (hA : CA a 26) (P : PT) (w cN n t hi : Nat) (v : Int32) (hI : IQ P w cN n t hi) : CtI l D y yX9_havingNow wsX9_havingNow rmX9_havingNow [.ref (a 0), .int v] (wM y a P) (fun r (_ : Unit) => r = mHav P w n v) (fun _ => wM y a P) (AM a) := by
  refine mkI (cc := cX9_havingNow) (maxL := 4) (ret := some .int) RX9 rfl (by decide) rfl (Or.inl rfl) (Nat.le_of_ble_eq_true rfl) ?_
  intro p e s m args below meth c Q FX hK hP ret ls hl
  obtain ⟨hx, hb, hml, hown, hts⟩ := id FX
  have hS : va_S (AM a) s.heap s.heap [] := va_S.rf
  have in9 : ∀ w ∈ wsX90, w ∈ wsX9_havingNow := fun _ h => List.mem_cons_of_mem _ (List.mem_append_right _ (h))
  have hl : lv_has ls 4 [(0, .ref (a 0)), (1, .int v)] := hl
  have hnl := hI.n9
  refine lv_iconst (v := nI 0) hx hb dX9_havingNow_0 rfl ?_
  refine lv_istore_n (lv' := [(2, .int (nI 0)), (0, .ref (a 0)), (1, .int v)]) hx hb dX9_havingNow_1 rfl hl (by decide) rfl (fun ls hl => ?_)
  refine lv_iconst (v := nI 0) hx hb dX9_havingNow_2 rfl ?_
  refine lv_istore_n (lv' := [(3, .int (nI 0)), (2, .int (nI 0)), (0, .ref (a 0)), (1, .int v)]) hx hb dX9_havingNow_3 rfl hl (by decide) rfl (fun ls hl => ?_)
  have L4 : ∀ (N : Nat) (i : Nat), (i ≤ n) → n - i < N → ∀ (H : Heap) (locs : List Loc) (ls : Array Slot), va_P D vwCl (wM y a P) H → va_S (AM a) s.heap H locs → lv_has ls 4 [(0, .ref (a 0)), (1, .int v), (2, .int (msk (fun h => nI (mNum P w n h) = v) i)), (3, .int (nI i))] → W p l e rmX9_havingNow s m args below meth c H locs 0 0 Q (F0 m 4 ls []) := by
    intro N4
    induction N4 with
    | zero => intro i hi9 hmeas; exact absurd hmeas (Nat.not_lt_zero _)
    | succ N4 ih4 =>
      intro i hi9 hmeas H locs ls hP hS hl
      refine lv_iload_n hx hb dX9_havingNow_4 rfl (lv_at hl 3 rfl) ?_
      refine lv_aload_n hx hb dX9_havingNow_5 rfl (lv_at hl 0 rfl) ?_
      refine mg_6 FX hK in9 hP (List.mem_of_getElem? (i := 1) rfl) dX9_havingNow_6 ?_
      refine xn_to hx (z := nI n) hI.nn ?_
      refine xn_icmp_ge (tgt := 37) hx hb (by omega) (by omega) dX9_havingNow_9 (by decide) (fun c9 => ?_) (fun c9 => ?_)
      · refine lv_iload_n hx hb dX9_havingNow_37 rfl (lv_at hl 2 rfl) ?_
        exact ret H locs 38 ls (msk (fun h => nI (mNum P w n h) = v) i) () dX9_havingNow_38 (by rw [show n = i by omega]; rfl) hP hS
      · refine lv_iload_n hx hb dX9_havingNow_12 rfl (lv_at hl 2 rfl) ?_
        refine lv_aload_n hx hb dX9_havingNow_13 rfl (lv_at hl 0 rfl) ?_
        refine lv_iload_n hx hb dX9_havingNow_14 rfl (lv_at hl 3 rfl) ?_
        refine cViI [.int (nI i)] [.int (msk (fun h => nI (mNum P w n h) = v) i)] FX hK (c_X9_numberOf l D y a hA P w cN n t hi i hI (by omega)) (cwV 1 hts gX9_havingNow_X9_numberOf rfl rfl rfl (by decide +kernel) ⟨Nat.le_of_ble_eq_true rfl, Nat.le_of_ble_eq_true rfl⟩) hP (pre_recv hK hP (ci := 9) (q0 := 0) rfl rfl) rfl rfl hl (Nat.le_of_ble_eq_true rfl) dX9_havingNow_15 ⟨Nat.zero_le _, Nat.zero_le _⟩ hS (fun _ h => h) (fun r15 u15 H locs hp15 hP hS _ _ => ?_)
        obtain rfl := hp15
        refine lv_iload_n hx hb dX9_havingNow_18 rfl (lv_at hl 1 rfl) ?_
        refine lv_icmp_ne (tgt := 28) hx hb dX9_havingNow_19 (by decide) (fun c19 => ?_) (fun c19 => ?_)
        · refine lv_iconst (v := nI 0) hx hb dX9_havingNow_28 rfl ?_
          refine lv_ior hx hb dX9_havingNow_29 ?_
          refine lv_istore_n (lv' := [(2, .int ((msk (fun h => nI (mNum P w n h) = v) i) ||| (nI 0))), (0, .ref (a 0)), (1, .int v), (3, .int (nI i))]) hx hb dX9_havingNow_30 rfl hl (by decide) rfl (fun ls hl => ?_)
          refine lv_iinc (v := nI (i + 1)) (lv' := [(3, .int (nI (i + 1))), (2, .int ((msk (fun h => nI (mNum P w n h) = v) i) ||| (nI 0))), (0, .ref (a 0)), (1, .int v)]) hx hb dX9_havingNow_31 hl (k := 3) rfl (xn_inc i 1) (by decide) rfl (fun ls hl => ?_)
          refine lv_goto (tgt := 4) hx hb dX9_havingNow_34 (by decide) ?_
          rw [or_nI0] at hl
          rw [← msk_f (p := (fun h => nI (mNum P w n h) = v)) (n := i) c19] at hl
          exact ih4 (i + 1) (by omega) (by omega) H locs ls hP hS (lv_sub hl [2, 3, 1, 0] rfl)
        · refine lv_iconst (v := nI 1) hx hb dX9_havingNow_22 rfl ?_
          refine lv_iload_n hx hb dX9_havingNow_23 rfl (lv_at hl 3 rfl) ?_
          refine lv_ishl hx hb dX9_havingNow_24 ?_
          refine lv_goto (tgt := 29) hx hb dX9_havingNow_25 (by decide) ?_
          refine lv_ior hx hb dX9_havingNow_29 ?_
          refine lv_istore_n (lv' := [(2, .int ((msk (fun h => nI (mNum P w n h) = v) i) ||| ((nI 1) <<< ((nI i) &&& 31)))), (0, .ref (a 0)), (1, .int v), (3, .int (nI i))]) hx hb dX9_havingNow_30 rfl hl (by decide) rfl (fun ls hl => ?_)
          refine lv_iinc (v := nI (i + 1)) (lv' := [(3, .int (nI (i + 1))), (2, .int ((msk (fun h => nI (mNum P w n h) = v) i) ||| ((nI 1) <<< ((nI i) &&& 31)))), (0, .ref (a 0)), (1, .int v)]) hx hb dX9_havingNow_31 hl (k := 3) rfl (xn_inc i 1) (by decide) rfl (fun ls hl => ?_)
          refine lv_goto (tgt := 4) hx hb dX9_havingNow_34 (by decide) ?_
          rw [← msk_t (p := (fun h => nI (mNum P w n h) = v)) (n := i) c19] at hl
          exact ih4 (i + 1) (by omega) (by omega) H locs ls hP hS (lv_sub hl [2, 3, 1, 0] rfl)
  exact L4 _ 0 (Nat.zero_le _) (Nat.lt_succ_self _) s.heap [] ls hP hS (lv_sub hl [2, 3, 1, 0] rfl)

abbrev rmX9_fellAll : Room := { frames := 1, cells := 0, slots := 0, locals := 21 }
set_option maxRecDepth 100000 in
set_option maxHeartbeats 4000000 in
theorem c_X9_fellAll (l : Launch) (D : va_G) (y : Nat → ClassId) (a : Nat → Nat) (hA : CA a 26) (P : PT) (t : Nat) (set is : Int32) (ht : P.1 3 = nI t) (ht8 : t ≤ 8) (hfb : FB P) (his : is = nI 0 ∨ is = nI 1) : CtV l D y yX9_fellAll wsX9_fellAll rmX9_fellAll [.ref (a 0), .int set, .int is] (wM y a P) (fun (_ : Unit) => True) (fun _ => wM y a (fA P set is t)) (AM a) := by
  refine mkV (cc := cX9_fellAll) (maxL := 4) RX9 rfl (by decide) rfl (Nat.le_of_ble_eq_true rfl) ?_
  intro p e s m args below meth c Q FX hK hP ret ls hl
  obtain ⟨hx, hb, hml, hown, hts⟩ := id FX
  have hS : va_S (AM a) s.heap s.heap [] := va_S.rf
  have in9 : ∀ w ∈ wsX90, w ∈ wsX9_fellAll := fun _ h => List.mem_cons_of_mem _ (List.mem_append_right _ (h))
  have hl : lv_has ls 4 [(0, .ref (a 0)), (1, .int set), (2, .int is)] := hl
  refine lv_iconst (v := nI 0) hx hb dX9_fellAll_0 rfl ?_
  refine lv_istore_n (lv' := [(3, .int (nI 0)), (0, .ref (a 0)), (1, .int set), (2, .int is)]) hx hb dX9_fellAll_1 rfl hl (by decide) rfl (fun ls hl => ?_)
  have L2 : ∀ (N : Nat) (i : Nat), (i ≤ t) → t - i < N → ∀ (H : Heap) (locs : List Loc) (ls : Array Slot), va_P D vwCl (wM y a (fA P set is i)) H → va_S (AM a) s.heap H locs → lv_has ls 4 [(0, .ref (a 0)), (1, .int set), (2, .int is), (3, .int (nI i))] → W p l e rmX9_fellAll s m args below meth c H locs 0 0 Q (F0 m 2 ls []) := by
    intro N2
    induction N2 with
    | zero => intro i hi9 hmeas; exact absurd hmeas (Nat.not_lt_zero _)
    | succ N2 ih2 =>
      intro i hi9 hmeas H locs ls hP hS hl
      refine lv_iload_n hx hb dX9_fellAll_2 rfl (lv_at hl 3 rfl) ?_
      refine lv_aload_n hx hb dX9_fellAll_3 rfl (lv_at hl 0 rfl) ?_
      refine mg_11 FX hK in9 hP (List.mem_of_getElem? (i := 1) rfl) dX9_fellAll_4 ?_
      refine xn_to hx (z := nI t) ht ?_
      refine xn_icmp_ge (tgt := 40) hx hb (by omega) (by omega) dX9_fellAll_7 (by decide) (fun c7 => ?_) (fun c7 => ?_)
      · obtain rfl : i = t := by omega
        exact ret H locs 40 ls () dX9_fellAll_40 trivial hP hS
      · refine lv_aload_n hx hb dX9_fellAll_10 rfl (lv_at hl 0 rfl) ?_
        refine mg_14 FX hK in9 hP (List.mem_of_getElem? (i := 2) rfl) dX9_fellAll_11 ?_
        refine lv_iload_n hx hb dX9_fellAll_14 rfl (lv_at hl 3 rfl) ?_
        refine lv_iload_n hx hb dX9_fellAll_15 rfl (lv_at hl 1 rfl) ?_
        refine lv_iload_n hx hb dX9_fellAll_16 rfl (lv_at hl 3 rfl) ?_
        refine cStI [.int set, .int (nI i)] [.int (nI i), .ref (a 10)] FX hK (c_X9_isIn l D y set (nI i)) (va_cwS 2 hts gX9_fellAll_X9_isIn rfl rfl rfl (by decide +kernel) ⟨Nat.le_of_ble_eq_true rfl, Nat.le_of_ble_eq_true rfl⟩) rfl rfl hl (Nat.le_of_ble_eq_true rfl) dX9_fellAll_17 ⟨Nat.zero_le _, Nat.zero_le _⟩ hP hS (fun r17 H locs hp17 hP hS => ?_)
        obtain rfl := hp17
        refine xb_eq (tgt := 27) hx hb dX9_fellAll_20 (by decide) (fun c20 => ?_) (fun c20 => ?_)
        · refine lv_aload_n hx hb dX9_fellAll_27 rfl (lv_at hl 0 rfl) ?_
          refine mg_14 FX hK in9 hP (List.mem_of_getElem? (i := 2) rfl) dX9_fellAll_28 ?_
          refine lv_iload_n hx hb dX9_fellAll_31 rfl (lv_at hl 3 rfl) ?_
          refine ma10 (i := i) (by omega) FX hK hP dX9_fellAll_32 ?_
          refine ms10 (i := i) (by omega) FX hK hP hA hS dX9_fellAll_33 (fun H locs hP hS => ?_)
          refine lv_iinc (v := nI (i + 1)) (lv' := [(3, .int (nI (i + 1))), (0, .ref (a 0)), (1, .int set), (2, .int is)]) hx hb dX9_fellAll_34 hl (k := 3) rfl (xn_inc i 1) (by decide) rfl (fun ls hl => ?_)
          refine lv_goto (tgt := 2) hx hb dX9_fellAll_37 (by decide) ?_
          rw [fA_s P set is i (by first | rw [cif_t c20] | (rw [cif_f c20]; rw [fA_at, cif_f (fun z => absurd z.1 (Nat.lt_irrefl _))])) (by first | exact his | exact fA_FB hfb his _ _ _ (by omega))] at hP
          exact ih2 (i + 1) (by omega) (by omega) H locs ls hP hS (lv_sub hl [1, 2, 3, 0] rfl)
        · refine lv_iload_n hx hb dX9_fellAll_23 rfl (lv_at hl 2 rfl) ?_
          refine lv_goto (tgt := 33) hx hb dX9_fellAll_24 (by decide) ?_
          refine ms10 (i := i) (by omega) FX hK hP hA hS dX9_fellAll_33 (fun H locs hP hS => ?_)
          refine lv_iinc (v := nI (i + 1)) (lv' := [(3, .int (nI (i + 1))), (0, .ref (a 0)), (1, .int set), (2, .int is)]) hx hb dX9_fellAll_34 hl (k := 3) rfl (xn_inc i 1) (by decide) rfl (fun ls hl => ?_)
          refine lv_goto (tgt := 2) hx hb dX9_fellAll_37 (by decide) ?_
          rw [fA_s P set is i (by first | rw [cif_t c20] | (rw [cif_f c20]; rw [fA_at, cif_f (fun z => absurd z.1 (Nat.lt_irrefl _))])) (by first | exact his | exact fA_FB hfb his _ _ _ (by omega))] at hP
          exact ih2 (i + 1) (by omega) (by omega) H locs ls hP hS (lv_sub hl [1, 2, 3, 0] rfl)
  rw [← fA_0 P set is] at hP
  exact L2 _ 0 (Nat.zero_le _) (Nat.lt_succ_self _) s.heap [] ls hP hS (lv_sub hl [1, 2, 3, 0] rfl)

abbrev rmX9_felledNow : Room := { frames := 0, cells := 0, slots := 0, locals := 0 }
set_option maxRecDepth 100000 in
set_option maxHeartbeats 4000000 in
theorem c_X9_felledNow (l : Launch) (D : va_G) (y : Nat → ClassId) (a : Nat → Nat) (hA : CA a 26) (P : PT) (t : Nat) (ht : P.1 3 = nI t) (ht8 : t ≤ 8) : CtI l D y yX9_felledNow wsX9_felledNow rmX9_felledNow [.ref (a 0)] (wM y a P) (fun r (_ : Unit) => r = msk (flQ P) t) (fun _ => wM y a P) (AM a) := by
  refine mkI (cc := cX9_felledNow) (maxL := 3) (ret := some .int) RX9 rfl (by decide) rfl (Or.inl rfl) (Nat.le_of_ble_eq_true rfl) ?_
  intro p e s m args below meth c Q FX hK hP ret ls hl
  obtain ⟨hx, hb, hml, hown, hts⟩ := id FX
  have hS : va_S (AM a) s.heap s.heap [] := va_S.rf
  have in9 : ∀ w ∈ wsX90, w ∈ wsX9_felledNow := fun _ h => List.mem_cons_of_mem _ (List.mem_append_right _ (h))
  have hl : lv_has ls 3 [(0, .ref (a 0))] := hl
  refine lv_iconst (v := nI 0) hx hb dX9_felledNow_0 rfl ?_
  refine lv_istore_n (lv' := [(1, .int (nI 0)), (0, .ref (a 0))]) hx hb dX9_felledNow_1 rfl hl (by decide) rfl (fun ls hl => ?_)
  refine lv_iconst (v := nI 0) hx hb dX9_felledNow_2 rfl ?_
  refine lv_istore_n (lv' := [(2, .int (nI 0)), (1, .int (nI 0)), (0, .ref (a 0))]) hx hb dX9_felledNow_3 rfl hl (by decide) rfl (fun ls hl => ?_)
  have L4 : ∀ (N : Nat) (i : Nat), (i ≤ t) → t - i < N → ∀ (H : Heap) (locs : List Loc) (ls : Array Slot), va_P D vwCl (wM y a P) H → va_S (AM a) s.heap H locs → lv_has ls 3 [(0, .ref (a 0)), (1, .int (msk (flQ P) i)), (2, .int (nI i))] → W p l e rmX9_felledNow s m args below meth c H locs 0 0 Q (F0 m 4 ls []) := by
    intro N4
    induction N4 with
    | zero => intro i hi9 hmeas; exact absurd hmeas (Nat.not_lt_zero _)
    | succ N4 ih4 =>
      intro i hi9 hmeas H locs ls hP hS hl
      refine lv_iload_n hx hb dX9_felledNow_4 rfl (lv_at hl 2 rfl) ?_
      refine lv_aload_n hx hb dX9_felledNow_5 rfl (lv_at hl 0 rfl) ?_
      refine mg_11 FX hK in9 hP (List.mem_of_getElem? (i := 1) rfl) dX9_felledNow_6 ?_
      refine xn_to hx (z := nI t) ht ?_
      refine xn_icmp_ge (tgt := 37) hx hb (by omega) (by omega) dX9_felledNow_9 (by decide) (fun c9 => ?_) (fun c9 => ?_)
      · refine lv_iload_n hx hb dX9_felledNow_37 rfl (lv_at hl 1 rfl) ?_
        exact ret H locs 38 ls (msk (flQ P) i) () dX9_felledNow_38 (by rw [show t = i by omega]) hP hS
      · refine lv_iload_n hx hb dX9_felledNow_12 rfl (lv_at hl 1 rfl) ?_
        refine lv_aload_n hx hb dX9_felledNow_13 rfl (lv_at hl 0 rfl) ?_
        refine mg_14 FX hK in9 hP (List.mem_of_getElem? (i := 2) rfl) dX9_felledNow_14 ?_
        refine lv_iload_n hx hb dX9_felledNow_17 rfl (lv_at hl 2 rfl) ?_
        refine ma10 (i := i) (by omega) FX hK hP dX9_felledNow_18 ?_
        refine lv_if_eq (tgt := 28) hx hb dX9_felledNow_19 (by decide) (fun c19 => ?_) (fun c19 => ?_)
        · refine lv_iconst (v := nI 0) hx hb dX9_felledNow_28 rfl ?_
          refine lv_ior hx hb dX9_felledNow_29 ?_
          refine lv_istore_n (lv' := [(1, .int ((msk (flQ P) i) ||| (nI 0))), (0, .ref (a 0)), (2, .int (nI i))]) hx hb dX9_felledNow_30 rfl hl (by decide) rfl (fun ls hl => ?_)
          refine lv_iinc (v := nI (i + 1)) (lv' := [(2, .int (nI (i + 1))), (1, .int ((msk (flQ P) i) ||| (nI 0))), (0, .ref (a 0))]) hx hb dX9_felledNow_31 hl (k := 2) rfl (xn_inc i 1) (by decide) rfl (fun ls hl => ?_)
          refine lv_goto (tgt := 4) hx hb dX9_felledNow_34 (by decide) ?_
          rw [or_nI0] at hl
          rw [← msk_f (p := flQ P) (n := i) (fun z => z c19)] at hl
          exact ih4 (i + 1) (by omega) (by omega) H locs ls hP hS (lv_sub hl [2, 1, 0] rfl)
        · refine lv_iconst (v := nI 1) hx hb dX9_felledNow_22 rfl ?_
          refine lv_iload_n hx hb dX9_felledNow_23 rfl (lv_at hl 2 rfl) ?_
          refine lv_ishl hx hb dX9_felledNow_24 ?_
          refine lv_goto (tgt := 29) hx hb dX9_felledNow_25 (by decide) ?_
          refine lv_ior hx hb dX9_felledNow_29 ?_
          refine lv_istore_n (lv' := [(1, .int ((msk (flQ P) i) ||| ((nI 1) <<< ((nI i) &&& 31)))), (0, .ref (a 0)), (2, .int (nI i))]) hx hb dX9_felledNow_30 rfl hl (by decide) rfl (fun ls hl => ?_)
          refine lv_iinc (v := nI (i + 1)) (lv' := [(2, .int (nI (i + 1))), (1, .int ((msk (flQ P) i) ||| ((nI 1) <<< ((nI i) &&& 31)))), (0, .ref (a 0))]) hx hb dX9_felledNow_31 hl (k := 2) rfl (xn_inc i 1) (by decide) rfl (fun ls hl => ?_)
          refine lv_goto (tgt := 4) hx hb dX9_felledNow_34 (by decide) ?_
          rw [← msk_t (p := flQ P) (n := i) c19] at hl
          exact ih4 (i + 1) (by omega) (by omega) H locs ls hP hS (lv_sub hl [2, 1, 0] rfl)
  exact L4 _ 0 (Nat.zero_le _) (Nat.lt_succ_self _) s.heap [] ls hP hS (lv_sub hl [2, 1, 0] rfl)

abbrev rmX9_traced : Room := { frames := 0, cells := 0, slots := 0, locals := 0 }
set_option maxRecDepth 100000 in
set_option maxHeartbeats 4000000 in
theorem c_X9_traced (l : Launch) (D : va_G) (y : Nat → ClassId) (a : Nat → Nat) (hA : CA a 26) (P : PT) (k : Nat)  : CtV l D y yX9_traced wsX9_traced rmX9_traced [.ref (a 0), .int (nI k)] (wM y a P) (fun (_ : Unit) => True) (fun _ => wM y a (trc P k)) (AM a) := by
  refine mkV (cc := cX9_traced) (maxL := 2) RX9 rfl (by decide) rfl (Nat.le_of_ble_eq_true rfl) ?_
  intro p e s m args below meth c Q FX hK hP ret ls hl
  obtain ⟨hx, hb, hml, hown, hts⟩ := id FX
  have hS : va_S (AM a) s.heap s.heap [] := va_S.rf
  have in9 : ∀ w ∈ wsX90, w ∈ wsX9_traced := fun _ h => List.mem_cons_of_mem _ (List.mem_append_right _ (h))
  have hl : lv_has ls 2 [(0, .ref (a 0)), (1, .int (nI k))] := hl
  refine lv_aload_n hx hb dX9_traced_0 rfl (lv_at hl 0 rfl) ?_
  refine lv_bipush (v := nI 31) hx hb dX9_traced_1 rfl ?_
  refine lv_aload_n hx hb dX9_traced_3 rfl (lv_at hl 0 rfl) ?_
  refine mg_40 FX hK in9 hP (List.mem_of_getElem? (i := 1) rfl) dX9_traced_4 ?_
  refine lv_imul hx hb dX9_traced_7 ?_
  refine lv_iload_n hx hb dX9_traced_8 rfl (lv_at hl 1 rfl) ?_
  refine lv_iadd hx hb dX9_traced_9 ?_
  refine mp_40 FX hK in9 hP hA hS (List.mem_of_getElem? (i := 1) rfl) dX9_traced_10 (fun H locs hP hS => ?_)
  exact ret H locs 13 ls () dX9_traced_13 trivial hP hS
