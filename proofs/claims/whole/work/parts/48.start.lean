set_option maxRecDepth 100000 in
set_option maxHeartbeats 4000000 in
theorem law_known {s : State} {args : Array Value} (hts : ∀ w ∈ lw_tbl, w.before args s = true) : ∃ (D : va_G) (y : Nat → ClassId), KA D y s := by
  obtain ⟨c0, i0, h0⟩ := u_known (C := RX0) (T := TX0) (N := 2) (n := 2) hts inT_X0 (hts _ (inIns _ (List.mem_of_getElem? (i := 0) rfl)))
  obtain ⟨c1, i1, h1⟩ := u_known (C := RX1) (T := TX1) (N := 4) (n := 4) hts inT_X1 (hts _ (inIns _ (List.mem_of_getElem? (i := 1) rfl)))
  obtain ⟨c2, i2, h2⟩ := u_known (C := RX2) (T := TX2) (N := 13) (n := 13) hts inT_X2 (hts _ (inIns _ (List.mem_of_getElem? (i := 2) rfl)))
  obtain ⟨c3, i3, h3⟩ := u_known (C := RX3) (T := TX3) (N := 6) (n := 6) hts inT_X3 (hts _ (inIns _ (List.mem_of_getElem? (i := 3) rfl)))
  obtain ⟨c4, i4, h4⟩ := u_known (C := RX4) (T := TX4) (N := 3) (n := 3) hts inT_X4 (hts _ (inIns _ (List.mem_of_getElem? (i := 4) rfl)))
  obtain ⟨c5, i5, h5⟩ := u_known (C := RX5) (T := TX5) (N := 4) (n := 4) hts inT_X5 (hts _ (inIns _ (List.mem_of_getElem? (i := 5) rfl)))
  obtain ⟨c6, i6, h6⟩ := u_known (C := RX6) (T := TX6) (N := 11) (n := 11) hts inT_X6 (hts _ (inIns _ (List.mem_of_getElem? (i := 6) rfl)))
  obtain ⟨c7, i7, h7⟩ := u_known (C := RX7) (T := TX7) (N := 2) (n := 2) hts inT_X7 (hts _ (inIns _ (List.mem_of_getElem? (i := 7) rfl)))
  obtain ⟨c8, i8, h8⟩ := u_known (C := RX8) (T := TX8) (N := 8) (n := 8) hts inT_X8 (hts _ (inIns _ (List.mem_of_getElem? (i := 8) rfl)))
  obtain ⟨c9, i9, h9⟩ := u_known (C := RX9) (T := TX9) (N := 41) (n := 41) hts inT_X9 (hts _ (inIns _ (List.mem_of_getElem? (i := 9) rfl)))
  obtain ⟨y0, e0⟩ := arr_int (t := .int) (fun C h => by cases h) (hts _ (inArr _ (List.mem_of_getElem? (i := 0) rfl)))
  obtain ⟨y1, e1⟩ := arr_int (t := .boolean) (fun C h => by cases h) (hts _ (inArr _ (List.mem_of_getElem? (i := 1) rfl)))
  obtain ⟨y2, e2⟩ := arr_obj (C := "SeenNumbers$House") (hts _ (inArr _ (List.mem_of_getElem? (i := 2) rfl)))
  obtain ⟨y3, e3⟩ := arr_obj (C := "SeenNumbers$Tree") (hts _ (inArr _ (List.mem_of_getElem? (i := 3) rfl)))
  obtain ⟨y4, e4⟩ := arr_obj (C := "SeenNumbers$Sheet") (hts _ (inArr _ (List.mem_of_getElem? (i := 4) rfl)))
  have hKc : ∀ (k : Nat) (q : vw_C), vwCl[k]? = some q → u_Kn s q.1 q.2.1 q.2.2 ((([c0, c1, c2, c3, c4, c5, c6, c7, c8, c9] : List ClassId).getD k c0)) ((([i0, i1, i2, i3, i4, i5, i6, i7, i8, i9] : List (Nat → Nat)).getD k i0)) := by
    intro k q hq
    match k, hq with
    | 0, hq => cases hq; exact h0
    | 1, hq => cases hq; exact h1
    | 2, hq => cases hq; exact h2
    | 3, hq => cases hq; exact h3
    | 4, hq => cases hq; exact h4
    | 5, hq => cases hq; exact h5
    | 6, hq => cases hq; exact h6
    | 7, hq => cases hq; exact h7
    | 8, hq => cases hq; exact h8
    | 9, hq => cases hq; exact h9
    | k + 10, hq => simp [vwCl] at hq
  have hT : ∀ (k : Nat) (q : ClassId × FieldType), (tysG (fun k => ([y0, y1, y2, y3, y4] : List ClassId).getD k y0))[k]? = some q → ArrOfT s q.1 q.2 ∧ va_RA s q.1 q.2 := by
    intro k q hq
    match k, hq with
    | 0, hq => cases hq; exact e0
    | 1, hq => cases hq; exact e1
    | 2, hq => cases hq; exact e2
    | 3, hq => cases hq; exact e3
    | 4, hq => cases hq; exact e4
    | k + 5, hq => simp [tysG] at hq
  have hK : va_K (fun k => ([c0, c1, c2, c3, c4, c5, c6, c7, c8, c9] : List ClassId).getD k c0, fun k => ([i0, i1, i2, i3, i4, i5, i6, i7, i8, i9] : List (Nat → Nat)).getD k i0) vwCl (tysG (fun k => ([y0, y1, y2, y3, y4] : List ClassId).getD k y0)) s := ⟨hKc, hT⟩
  exact ⟨_, _, KK_of hK hts, va_AO.of (hts _ (inArr _ (List.mem_of_getElem? (i := 4) rfl))), va_AO.of (hts _ (inArr _ (List.mem_of_getElem? (i := 2) rfl))), va_AO.of (hts _ (inArr _ (List.mem_of_getElem? (i := 3) rfl)))⟩
set_option maxRecDepth 100000 in
set_option maxHeartbeats 4000000 in
theorem whole_start {p : Program} {e : Env} {s : State} {m : MethodId} {below : List Frame} {meth : Method} {c : Code} (l : Launch) (hflags : l.flags = flags0) {b L : Nat} {xs : Nat → Int32} (hL : L ≤ 3072) (C0 : lw_At p s m meth c b L xs) : W p l e room_1 s m #[Value.ref b] below meth c s.heap [] 0 0 (lw_Z below #[Value.ref b] s) (entryFrame m ([Value.ref b] : List Value).toArray 4) := by
  obtain ⟨hx, hb, hr, hml, hown, hts, hX, hbl, hlocks, hgv⟩ := id C0
  have hA : ∀ q : Nat, s.heap.size ≤ q → (fun q : Nat => s.heap.size ≤ q) q := fun _ h => h
  obtain ⟨D, y, hK⟩ := law_known hts
  have FX : CallFix p m c cL_law 4 s #[Value.ref b] lw_tbl RL := ⟨hx, hb, hml, hown, hts⟩
  have hS : va_S (fun q : Nat => s.heap.size ≤ q) s.heap s.heap [] := va_S.rf
  have hP : va_P D vwCl [] s.heap := fun k q h => by simp at h
  have hD : va_D (fun q : Nat => s.heap.size ≤ q) [] := ⟨fun i j p q h => by simp at h, fun k q h => by simp at h⟩
  have hl := lv_entry ([.ref b]) (n := 4) (Nat.le_of_ble_eq_true rfl)
  rw [lg_entry_eq]
  generalize (lg_sl ([.ref b]) ++ List.replicate (4 - (lg_sl ([.ref b])).length) Slot.unset).toArray = ls at hl ⊢
  have hl : lv_has ls 4 [(0, .ref b)] := hl
  refine va_new (D := D) (ci := 8) (fs := [.null, .null, .null, .null, .null, .null, .int 0, .int 0]) (C := RX8) (T := TX8) (N := 8) hx hb hts inT_X8 tyX8 tyX8_ok hown (hts _ mw_1_0) (hts _ mw_1_1) (hts _ mw_1_2) hK.1.1 hP hD hS hA rfl (fun j hj => by rcases (show j = 0 ∨ j = 1 ∨ j = 2 ∨ j = 3 ∨ j = 4 ∨ j = 5 ∨ j = 6 ∨ j = 7 by omega) with rfl | rfl | rfl | rfl | rfl | rfl | rfl | rfl <;> rfl) (Nat.le_of_ble_eq_true rfl) (Nat.le_of_ble_eq_true rfl) dL_law_0 (fun h0 H hP hD hS => ?_)
  have hP : va_P D vwCl [(h0, .inr (8, [.null, .null, .null, .null, .null, .null, .int 0, .int 0]))] H := hP
  have hD : va_D (fun q : Nat => s.heap.size ≤ q) [(h0, .inr (8, [.null, .null, .null, .null, .null, .null, .int 0, .int 0]))] := hD
  refine W.widen (k := 1) (n := 8) (Nat.le_of_ble_eq_true rfl) (Nat.le_of_ble_eq_true rfl) ?_
  refine lv_dup hx hb dL_law_3 rfl ?_
  refine nCallI (wr := []) (rest := [.ref h0]) [] FX hK (c_X8_init l D y h0 H.size) (cwI 0 hts ggL_X8_init rfl rfl rfl (hts _ mw_1_2) (hts _ mw_1_6) (hts _ mw_1_7) rfl (by decide +kernel) ⟨(Nat.le_of_ble_eq_true rfl), (Nat.le_of_ble_eq_true rfl)⟩) hP hD hS hA [0] [] rfl rfl (by decide) rfl (by decide) (by decide) rfl rfl hl (Nat.le_of_ble_eq_true rfl) dL_law_4 ⟨(Nat.le_of_ble_eq_true rfl), (Nat.le_of_ble_eq_true rfl)⟩ (fun g0 H locs hP hD hS => ?_)
  obtain ⟨a, ea⟩ : ∃ a : Nat → Nat, a = ctA h0 g0 := ⟨_, rfl⟩
  have ea0 : h0 = a 0 := by rw [ea]; rfl
  have hP : va_P D vwCl (wC y a P00 X00 .null) H := by rw [ea]; exact hP
  have hD : va_D (fun q : Nat => s.heap.size ≤ q) (wC y a P00 X00 .null) := by rw [ea]; exact hD
  refine W.widen (k := 44) (n := 766) (Nat.le_of_ble_eq_true rfl) (Nat.le_of_ble_eq_true rfl) ?_
  rw [ea0]
  refine lv_astore_n (lv' := [(1, .ref (a 0)), (0, .ref b)]) hx hb dL_law_7 rfl hl (by decide) rfl (fun ls hl => ?_)
  refine va_new (D := D) (ci := 9) (fs := [.int 0, .int 0, .int 0, .null, .null, .null, .int 0, .null, .null, .null, .null, .int 0, .null, .null, .null, .int 0, .int 0, .int 0, .int 0, .int 0, .int 0, .int 0, .int 0, .null, .null, .null, .null, .null, .null, .null, .null, .int 0, .int 0, .null, .null, .null, .null, .null, .null, .null, .int 0]) (C := RX9) (T := TX9) (N := 41) hx hb hts inT_X9 tyX9 tyX9_ok hown (hts _ mw_1_3) (hts _ mw_1_4) (hts _ mw_1_5) hK.1.1 hP hD hS hA rfl (fun j hj => by rcases (show j = 0 ∨ j = 1 ∨ j = 2 ∨ j = 3 ∨ j = 4 ∨ j = 5 ∨ j = 6 ∨ j = 7 ∨ j = 8 ∨ j = 9 ∨ j = 10 ∨ j = 11 ∨ j = 12 ∨ j = 13 ∨ j = 14 ∨ j = 15 ∨ j = 16 ∨ j = 17 ∨ j = 18 ∨ j = 19 ∨ j = 20 ∨ j = 21 ∨ j = 22 ∨ j = 23 ∨ j = 24 ∨ j = 25 ∨ j = 26 ∨ j = 27 ∨ j = 28 ∨ j = 29 ∨ j = 30 ∨ j = 31 ∨ j = 32 ∨ j = 33 ∨ j = 34 ∨ j = 35 ∨ j = 36 ∨ j = 37 ∨ j = 38 ∨ j = 39 ∨ j = 40 by omega) with rfl | rfl | rfl | rfl | rfl | rfl | rfl | rfl | rfl | rfl | rfl | rfl | rfl | rfl | rfl | rfl | rfl | rfl | rfl | rfl | rfl | rfl | rfl | rfl | rfl | rfl | rfl | rfl | rfl | rfl | rfl | rfl | rfl | rfl | rfl | rfl | rfl | rfl | rfl | rfl | rfl <;> rfl) (Nat.le_of_ble_eq_true rfl) (Nat.le_of_ble_eq_true rfl) dL_law_8 (fun k0 H hP hD hS => ?_)
  refine W.widen (k := 45) (n := 807) (Nat.le_of_ble_eq_true rfl) (Nat.le_of_ble_eq_true rfl) ?_
  refine lv_dup hx hb dL_law_11 rfl ?_
  refine nCallI (wr := wC y a P00 X00 .null) (rest := [.ref k0]) [] FX hK (c_X9_init l D y k0 H.size) (cwI 0 hts ggL_X9_init rfl rfl rfl (hts _ mw_1_5) (hts _ mw_4_19) (hts _ mw_4_20) rfl (by decide +kernel) ⟨(Nat.le_of_ble_eq_true rfl), (Nat.le_of_ble_eq_true rfl)⟩) hP hD hS hA [44] [0, 1, 2, 3, 4, 5, 6, 7, 8, 9, 10, 11, 12, 13, 14, 15, 16, 17, 18, 19, 20, 21, 22, 23, 24, 25, 26, 27, 28, 29, 30, 31, 32, 33, 34, 35, 36, 37, 38, 39, 40, 41, 42, 43] rfl rfl (by decide) rfl (by decide) (by decide) rfl rfl hl (Nat.le_of_ble_eq_true rfl) dL_law_12 ⟨(Nat.le_of_ble_eq_true rfl), (Nat.le_of_ble_eq_true rfl)⟩ (fun g0 H locs hP hD hS => ?_)
  obtain ⟨g, eg⟩ : ∃ g : Nat → Nat, g = ctA k0 g0 := ⟨_, rfl⟩
  have eg0 : k0 = g 0 := by rw [eg]; rfl
  have hP : va_P D vwCl (wC y a P00 X00 .null ++ wM y g M00) H := by rw [eg]; exact hP
  have hD : va_D (fun q : Nat => s.heap.size ≤ q) (wC y a P00 X00 .null ++ wM y g M00) := by rw [eg]; exact hD
  refine W.widen (k := 70) (n := 1597) (Nat.le_of_ble_eq_true rfl) (Nat.le_of_ble_eq_true rfl) ?_
  rw [eg0]
  refine lv_astore_n (lv' := [(2, .ref (g 0)), (1, .ref (a 0)), (0, .ref b)]) hx hb dL_law_15 rfl hl (by decide) rfl (fun ls hl => ?_)
  refine lv_iconst (v := nI 0) hx hb dL_law_16 rfl ?_
  refine lv_istore_n (lv' := [(3, .int (nI 0)), (2, .ref (g 0)), (1, .ref (a 0)), (0, .ref b)]) hx hb dL_law_17 rfl hl (by decide) rfl (fun ls hl => ?_)
  exact law_loop FX hK.1 hX hbl hL (CA_of (n := 44) rfl (vD_l hD)) (CA_of (n := 26) rfl (vD_r hD)) (in_of (n := 44) rfl (vD_l hD)) (in_of (n := 26) rfl (vD_r hD)) (ap_of (n := 44) (k := 26) rfl rfl hD) hr hlocks (L + 1) 0 (Nat.zero_le L) (by omega) P00 X00 M00 .null H locs ls (vP_l hP) (vP_r hP) hS rq_0 inv_0.ine (lv_sub hl [0, 3, 2, 1] rfl)
