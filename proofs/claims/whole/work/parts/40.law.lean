theorem lgc_self (x : Int64) : lg_cmp x x = 0 := by
  unfold lg_cmp
  rw [if_neg (fun h => absurd h (Int64.lt_irrefl)), if_pos rfl]
set_option maxRecDepth 100000 in
set_option maxHeartbeats 4000000 in
theorem law_0 {p : Program} {l : Launch} {e : Env} {s : State} {m : MethodId} {below : List Frame} {meth : Method} {c : Code} {Q : State → Prop} {b L : Nat} {xs : Nat → Int32} {D : va_G} {y : Nat → ClassId} {a g : Nat → Nat} {H : Heap} {locs : List Loc} {ls : Array Slot} {P X M : PT} {row : Value} {i : Nat}
    (FX : CallFix p m c cL_law 4 s #[Value.ref b] lw_tbl RL) (hK : KK D y s) (hX : va_X b L xs s s.heap) (hbl : b < s.heap.size) (hL : L ≤ 3072) (hA : CA a 44) (hB : CA g 26) (hAx : ∀ q, AC a q → s.heap.size ≤ q) (hBx : ∀ q, AM g q → s.heap.size ≤ q) (hAB : ∀ q, AM g q → ¬ AC a q) (hi : i + 6 ≤ L)
    (hP : va_P D vwCl (wC y a P X row) H) (hM : va_P D vwCl (wM y g M) H) (hS : va_S (fun q => s.heap.size ≤ q) s.heap H locs) (hR : RQ P M) (hI : INE P) (hl : lv_has ls 4 [(3, .int (nI i)), (0, .ref b), (1, .ref (a 0)), (2, .ref (g 0))])
    (kk : ∀ (P' X' M' : PT) (row' : Value) (H' : Heap) (locs' : List Loc), va_P D vwCl (wC y a P' X' row') H' → va_P D vwCl (wM y g M') H' → va_S (fun q => s.heap.size ≤ q) s.heap H' locs' → RQ P' M' → INE P' → W p l e room_1 s m #[Value.ref b] below meth c H' locs' 70 1597 Q (F0 m 1292 ls [])) : W p l e room_1 s m #[Value.ref b] below meth c H locs 70 1597 Q (F0 m 188 ls []) := by
  obtain ⟨hx, hb, hml, hown, hts⟩ := id FX
  have hbA : ¬ (fun q : Nat => s.heap.size ≤ q) b := Nat.not_le.mpr hbl
  obtain ⟨w, cN, n, t, rd, yr, f, hI0⟩ := id hI
  obtain ⟨hIP, hc1, hrd, hsh, hkd, hyr, hwl, hff⟩ := id hI0
  have hin : ∀ j, j < 6 → vp_in (nI (i + j)) L := fun j hj => vp_in_nI (by omega) (by omega)
  refine lv_aload_n hx hb dL_law_188 rfl (lv_at hl 2 rfl) ?_
  refine lv_aload_n hx hb dL_law_189 rfl (lv_at hl 1 rfl) ?_
  refine lv_iload_n hx hb dL_law_190 rfl (lv_at hl 0 rfl) ?_
  refine lv_iconst (v := nI 1) hx hb dL_law_191 rfl ?_
  refine xn_iadd (a := i) (b := 1) hx hb dL_law_192 ?_
  refine va_sld hx hb hX hbl hbA hS (hin 1 (by decide)) dL_law_193 ?_
  refine lv_aload_n hx hb dL_law_194 rfl (lv_at hl 1 rfl) ?_
  refine lv_iload_n hx hb dL_law_195 rfl (lv_at hl 0 rfl) ?_
  refine lv_iconst (v := nI 2) hx hb dL_law_196 rfl ?_
  refine xn_iadd (a := i) (b := 2) hx hb dL_law_197 ?_
  refine va_sld hx hb hX hbl hbA hS (hin 2 (by decide)) dL_law_198 ?_
  refine lv_aload_n hx hb dL_law_199 rfl (lv_at hl 1 rfl) ?_
  refine lv_iload_n hx hb dL_law_200 rfl (lv_at hl 0 rfl) ?_
  refine lv_iconst (v := nI 3) hx hb dL_law_201 rfl ?_
  refine xn_iadd (a := i) (b := 3) hx hb dL_law_202 ?_
  refine va_sld hx hb hX hbl hbA hS (hin 3 (by decide)) dL_law_203 ?_
  refine lv_aload_n hx hb dL_law_204 rfl (lv_at hl 1 rfl) ?_
  refine lv_iload_n hx hb dL_law_205 rfl (lv_at hl 0 rfl) ?_
  refine lv_iconst (v := nI 4) hx hb dL_law_206 rfl ?_
  refine xn_iadd (a := i) (b := 4) hx hb dL_law_207 ?_
  refine va_sld hx hb hX hbl hbA hS (hin 4 (by decide)) dL_law_208 ?_
  refine cViI [.int (xs (nI (i + 1)).toNatClampNeg), .int (xs (nI (i + 2)).toNatClampNeg), .int (xs (nI (i + 3)).toNatClampNeg), .int (xs (nI (i + 4)).toNatClampNeg)] [] FX hK (c_X8_land l D y a hA P X row (xs (nI (i + 1)).toNatClampNeg) (xs (nI (i + 2)).toNatClampNeg) (xs (nI (i + 3)).toNatClampNeg) (xs (nI (i + 4)).toNatClampNeg) hsh) (cwV 4 hts gL_X8_land rfl rfl rfl (by decide +kernel) ⟨(Nat.le_of_ble_eq_true rfl), (Nat.le_of_ble_eq_true rfl)⟩) hP (pre_recv hK hP (ci := 8) (q0 := 0) rfl rfl) rfl rfl hl (Nat.le_of_ble_eq_true rfl) dL_law_209 ⟨(Nat.le_of_ble_eq_true rfl), (Nat.le_of_ble_eq_true rfl)⟩ hS hAx (fun r8 u8 H8 locs8 hp8 hw8 hS8 hk8 _ => ?_)
  have hw8 : va_P D vwCl (wC y a u8.1.1 u8.1.2 u8.2) H8 := hw8
  have hM8 : va_P D vwCl (wM y g M) H8 := hM.kept (fun k q hq => hk8 q.1 (hM k q hq).lt (hAB q.1 ((wM_D hB).2 k q hq)))
  refine lv_aload_n hx hb dL_law_212 rfl (lv_at hl 3 rfl) ?_
  refine lv_aload_n hx hb dL_law_213 rfl (lv_at hl 1 rfl) ?_
  refine lv_iload_n hx hb dL_law_214 rfl (lv_at hl 0 rfl) ?_
  refine lv_iconst (v := nI 1) hx hb dL_law_215 rfl ?_
  refine xn_iadd (a := i) (b := 1) hx hb dL_law_216 ?_
  refine va_sld hx hb hX hbl hbA hS8 (hin 1 (by decide)) dL_law_217 ?_
  refine lv_aload_n hx hb dL_law_218 rfl (lv_at hl 1 rfl) ?_
  refine lv_iload_n hx hb dL_law_219 rfl (lv_at hl 0 rfl) ?_
  refine lv_iconst (v := nI 2) hx hb dL_law_220 rfl ?_
  refine xn_iadd (a := i) (b := 2) hx hb dL_law_221 ?_
  refine va_sld hx hb hX hbl hbA hS8 (hin 2 (by decide)) dL_law_222 ?_
  refine lv_aload_n hx hb dL_law_223 rfl (lv_at hl 1 rfl) ?_
  refine lv_iload_n hx hb dL_law_224 rfl (lv_at hl 0 rfl) ?_
  refine lv_iconst (v := nI 3) hx hb dL_law_225 rfl ?_
  refine xn_iadd (a := i) (b := 3) hx hb dL_law_226 ?_
  refine va_sld hx hb hX hbl hbA hS8 (hin 3 (by decide)) dL_law_227 ?_
  refine lv_aload_n hx hb dL_law_228 rfl (lv_at hl 1 rfl) ?_
  refine lv_iload_n hx hb dL_law_229 rfl (lv_at hl 0 rfl) ?_
  refine lv_iconst (v := nI 4) hx hb dL_law_230 rfl ?_
  refine xn_iadd (a := i) (b := 4) hx hb dL_law_231 ?_
  refine va_sld hx hb hX hbl hbA hS8 (hin 4 (by decide)) dL_law_232 ?_
  refine cViI [.int (xs (nI (i + 1)).toNatClampNeg), .int (xs (nI (i + 2)).toNatClampNeg), .int (xs (nI (i + 3)).toNatClampNeg), .int (xs (nI (i + 4)).toNatClampNeg)] [.int r8] FX hK (c_X9_land l D y g hB M P (xs (nI (i + 1)).toNatClampNeg) (xs (nI (i + 2)).toNatClampNeg) (xs (nI (i + 3)).toNatClampNeg) (xs (nI (i + 4)).toNatClampNeg) hR hsh) (cwV 4 hts gL_X9_land rfl rfl rfl (by decide +kernel) ⟨(Nat.le_of_ble_eq_true rfl), (Nat.le_of_ble_eq_true rfl)⟩) hM8 (pre_recv hK hM8 (ci := 9) (q0 := 0) rfl rfl) rfl rfl hl (Nat.le_of_ble_eq_true rfl) dL_law_233 ⟨(Nat.le_of_ble_eq_true rfl), (Nat.le_of_ble_eq_true rfl)⟩ hS8 hBx (fun r9 u9 H9 locs9 hp9 hw9 hS9 hk9 _ => ?_)
  have hw9 : va_P D vwCl (wM y g u9) H9 := hw9
  have hP9 : va_P D vwCl (wC y a u8.1.1 u8.1.2 u8.2) H9 := hw8.kept (fun k q hq => hk9 q.1 (hw8 k q hq).lt (fun z => hAB q.1 z ((wC_D hA).2 k q hq)))
  obtain ⟨he, hRn⟩ := hp9 _ _ hp8
  have e : r8 = r9 := he.symm
  have hIn : INE u8.1.1 := ine_land hI0 hp8
  refine lv_icmp_eq (tgt := 1292) hx hb dL_law_236 (by decide) (fun _ => ?_) (fun h => by first | exact absurd e h | exact absurd e.symm h)
  exact kk _ _ _ _ _ _ hP9 hw9 hS9 hRn hIn

set_option maxRecDepth 100000 in
set_option maxHeartbeats 4000000 in
theorem law_1 {p : Program} {l : Launch} {e : Env} {s : State} {m : MethodId} {below : List Frame} {meth : Method} {c : Code} {Q : State → Prop} {b L : Nat} {xs : Nat → Int32} {D : va_G} {y : Nat → ClassId} {a g : Nat → Nat} {H : Heap} {locs : List Loc} {ls : Array Slot} {P X M : PT} {row : Value} {i : Nat}
    (FX : CallFix p m c cL_law 4 s #[Value.ref b] lw_tbl RL) (hK : KK D y s) (hX : va_X b L xs s s.heap) (hbl : b < s.heap.size) (hL : L ≤ 3072) (hA : CA a 44) (hB : CA g 26) (hAx : ∀ q, AC a q → s.heap.size ≤ q) (hBx : ∀ q, AM g q → s.heap.size ≤ q) (hAB : ∀ q, AM g q → ¬ AC a q) (hi : i + 6 ≤ L)
    (hP : va_P D vwCl (wC y a P X row) H) (hM : va_P D vwCl (wM y g M) H) (hS : va_S (fun q => s.heap.size ≤ q) s.heap H locs) (hR : RQ P M) (hI : INE P) (hl : lv_has ls 4 [(3, .int (nI i)), (0, .ref b), (1, .ref (a 0)), (2, .ref (g 0))])
    (kk : ∀ (P' X' M' : PT) (row' : Value) (H' : Heap) (locs' : List Loc), va_P D vwCl (wC y a P' X' row') H' → va_P D vwCl (wM y g M') H' → va_S (fun q => s.heap.size ≤ q) s.heap H' locs' → RQ P' M' → INE P' → W p l e room_1 s m #[Value.ref b] below meth c H' locs' 70 1597 Q (F0 m 1292 ls [])) : W p l e room_1 s m #[Value.ref b] below meth c H locs 70 1597 Q (F0 m 241 ls []) := by
  obtain ⟨hx, hb, hml, hown, hts⟩ := id FX
  have hbA : ¬ (fun q : Nat => s.heap.size ≤ q) b := Nat.not_le.mpr hbl
  obtain ⟨w, cN, n, t, rd, yr, f, hI0⟩ := id hI
  obtain ⟨hIP, hc1, hrd, hsh, hkd, hyr, hwl, hff⟩ := id hI0
  have hin : ∀ j, j < 6 → vp_in (nI (i + j)) L := fun j hj => vp_in_nI (by omega) (by omega)
  refine lv_aload_n hx hb dL_law_241 rfl (lv_at hl 2 rfl) ?_
  refine lv_aload_n hx hb dL_law_242 rfl (lv_at hl 1 rfl) ?_
  refine lv_iload_n hx hb dL_law_243 rfl (lv_at hl 0 rfl) ?_
  refine lv_iconst (v := nI 1) hx hb dL_law_244 rfl ?_
  refine xn_iadd (a := i) (b := 1) hx hb dL_law_245 ?_
  refine va_sld hx hb hX hbl hbA hS (hin 1 (by decide)) dL_law_246 ?_
  refine lv_aload_n hx hb dL_law_247 rfl (lv_at hl 1 rfl) ?_
  refine lv_iload_n hx hb dL_law_248 rfl (lv_at hl 0 rfl) ?_
  refine lv_iconst (v := nI 2) hx hb dL_law_249 rfl ?_
  refine xn_iadd (a := i) (b := 2) hx hb dL_law_250 ?_
  refine va_sld hx hb hX hbl hbA hS (hin 2 (by decide)) dL_law_251 ?_
  refine cViI [.int (xs (nI (i + 1)).toNatClampNeg), .int (xs (nI (i + 2)).toNatClampNeg)] [] FX hK (c_X8_ofCell l D y a hA P X row w cN n t rd (xs (nI (i + 1)).toNatClampNeg) (xs (nI (i + 2)).toNatClampNeg) hIP hc1 hrd) (cwV 2 hts gL_X8_ofCell rfl rfl rfl (by decide +kernel) ⟨(Nat.le_of_ble_eq_true rfl), (Nat.le_of_ble_eq_true rfl)⟩) hP (pre_recv hK hP (ci := 8) (q0 := 0) rfl rfl) rfl rfl hl (Nat.le_of_ble_eq_true rfl) dL_law_252 ⟨(Nat.le_of_ble_eq_true rfl), (Nat.le_of_ble_eq_true rfl)⟩ hS hAx (fun r8 u8 H8 locs8 hp8 hw8 hS8 hk8 _ => ?_)
  have hw8 : va_P D vwCl (wC y a u8.1 u8.2 row) H8 := hw8
  have hM8 : va_P D vwCl (wM y g M) H8 := hM.kept (fun k q hq => hk8 q.1 (hM k q hq).lt (hAB q.1 ((wM_D hB).2 k q hq)))
  refine lv_aload_n hx hb dL_law_255 rfl (lv_at hl 3 rfl) ?_
  refine lv_aload_n hx hb dL_law_256 rfl (lv_at hl 1 rfl) ?_
  refine lv_iload_n hx hb dL_law_257 rfl (lv_at hl 0 rfl) ?_
  refine lv_iconst (v := nI 1) hx hb dL_law_258 rfl ?_
  refine xn_iadd (a := i) (b := 1) hx hb dL_law_259 ?_
  refine va_sld hx hb hX hbl hbA hS8 (hin 1 (by decide)) dL_law_260 ?_
  refine lv_aload_n hx hb dL_law_261 rfl (lv_at hl 1 rfl) ?_
  refine lv_iload_n hx hb dL_law_262 rfl (lv_at hl 0 rfl) ?_
  refine lv_iconst (v := nI 2) hx hb dL_law_263 rfl ?_
  refine xn_iadd (a := i) (b := 2) hx hb dL_law_264 ?_
  refine va_sld hx hb hX hbl hbA hS8 (hin 2 (by decide)) dL_law_265 ?_
  refine cViI [.int (xs (nI (i + 1)).toNatClampNeg), .int (xs (nI (i + 2)).toNatClampNeg)] [.int r8] FX hK (c_X9_ofCell l D y g hB M P w cN n t rd (xs (nI (i + 1)).toNatClampNeg) (xs (nI (i + 2)).toNatClampNeg) hR hIP hc1 hrd) (cwV 2 hts gL_X9_ofCell rfl rfl rfl (by decide +kernel) ⟨(Nat.le_of_ble_eq_true rfl), (Nat.le_of_ble_eq_true rfl)⟩) hM8 (pre_recv hK hM8 (ci := 9) (q0 := 0) rfl rfl) rfl rfl hl (Nat.le_of_ble_eq_true rfl) dL_law_266 ⟨(Nat.le_of_ble_eq_true rfl), (Nat.le_of_ble_eq_true rfl)⟩ hS8 hBx (fun r9 u9 H9 locs9 hp9 hw9 hS9 hk9 _ => ?_)
  have hw9 : va_P D vwCl (wM y g u9) H9 := hw9
  have hP9 : va_P D vwCl (wC y a u8.1 u8.2 row) H9 := hw8.kept (fun k q hq => hk9 q.1 (hw8 k q hq).lt (fun z => hAB q.1 z ((wC_D hA).2 k q hq)))
  have e : r8 = r9 := (congrArg Prod.fst hp8).trans hp9.1.symm
  have eP := congrArg Prod.snd hp8
  have hIn : INE u8.1 := by
    rw [show u8.1 = _ from eP, s_ofCell]; exact hI
  have hRn : RQ u8.1 u9 := (show u8.1 = _ from eP) ▸ hp9.2
  refine lv_icmp_eq (tgt := 1292) hx hb dL_law_269 (by decide) (fun _ => ?_) (fun h => by first | exact absurd e h | exact absurd e.symm h)
  exact kk _ _ _ _ _ _ hP9 hw9 hS9 hRn hIn

set_option maxRecDepth 100000 in
set_option maxHeartbeats 4000000 in
theorem law_2 {p : Program} {l : Launch} {e : Env} {s : State} {m : MethodId} {below : List Frame} {meth : Method} {c : Code} {Q : State → Prop} {b L : Nat} {xs : Nat → Int32} {D : va_G} {y : Nat → ClassId} {a g : Nat → Nat} {H : Heap} {locs : List Loc} {ls : Array Slot} {P X M : PT} {row : Value} {i : Nat}
    (FX : CallFix p m c cL_law 4 s #[Value.ref b] lw_tbl RL) (hK : KK D y s) (hX : va_X b L xs s s.heap) (hbl : b < s.heap.size) (hL : L ≤ 3072) (hA : CA a 44) (hB : CA g 26) (hAx : ∀ q, AC a q → s.heap.size ≤ q) (hBx : ∀ q, AM g q → s.heap.size ≤ q) (hAB : ∀ q, AM g q → ¬ AC a q) (hi : i + 6 ≤ L)
    (hP : va_P D vwCl (wC y a P X row) H) (hM : va_P D vwCl (wM y g M) H) (hS : va_S (fun q => s.heap.size ≤ q) s.heap H locs) (hR : RQ P M) (hI : INE P) (hl : lv_has ls 4 [(3, .int (nI i)), (0, .ref b), (1, .ref (a 0)), (2, .ref (g 0))])
    (kk : ∀ (P' X' M' : PT) (row' : Value) (H' : Heap) (locs' : List Loc), va_P D vwCl (wC y a P' X' row') H' → va_P D vwCl (wM y g M') H' → va_S (fun q => s.heap.size ≤ q) s.heap H' locs' → RQ P' M' → INE P' → W p l e room_1 s m #[Value.ref b] below meth c H' locs' 70 1597 Q (F0 m 1292 ls [])) : W p l e room_1 s m #[Value.ref b] below meth c H locs 70 1597 Q (F0 m 274 ls []) := by
  obtain ⟨hx, hb, hml, hown, hts⟩ := id FX
  have hbA : ¬ (fun q : Nat => s.heap.size ≤ q) b := Nat.not_le.mpr hbl
  obtain ⟨w, cN, n, t, rd, yr, f, hI0⟩ := id hI
  obtain ⟨hIP, hc1, hrd, hsh, hkd, hyr, hwl, hff⟩ := id hI0
  have hin : ∀ j, j < 6 → vp_in (nI (i + j)) L := fun j hj => vp_in_nI (by omega) (by omega)
  refine lv_aload_n hx hb dL_law_274 rfl (lv_at hl 2 rfl) ?_
  refine lv_aload_n hx hb dL_law_275 rfl (lv_at hl 1 rfl) ?_
  refine lv_iload_n hx hb dL_law_276 rfl (lv_at hl 0 rfl) ?_
  refine lv_iconst (v := nI 1) hx hb dL_law_277 rfl ?_
  refine xn_iadd (a := i) (b := 1) hx hb dL_law_278 ?_
  refine va_sld hx hb hX hbl hbA hS (hin 1 (by decide)) dL_law_279 ?_
  refine lv_aload_n hx hb dL_law_280 rfl (lv_at hl 1 rfl) ?_
  refine lv_iload_n hx hb dL_law_281 rfl (lv_at hl 0 rfl) ?_
  refine lv_iconst (v := nI 2) hx hb dL_law_282 rfl ?_
  refine xn_iadd (a := i) (b := 2) hx hb dL_law_283 ?_
  refine va_sld hx hb hX hbl hbA hS (hin 2 (by decide)) dL_law_284 ?_
  refine cViI [.int (xs (nI (i + 1)).toNatClampNeg), .int (xs (nI (i + 2)).toNatClampNeg)] [] FX hK (c_X8_ofHouse l D y a hA P X row w cN n t rd (xs (nI (i + 1)).toNatClampNeg) (xs (nI (i + 2)).toNatClampNeg) hIP hc1 hrd) (cwV 2 hts gL_X8_ofHouse rfl rfl rfl (by decide +kernel) ⟨(Nat.le_of_ble_eq_true rfl), (Nat.le_of_ble_eq_true rfl)⟩) hP (pre_recv hK hP (ci := 8) (q0 := 0) rfl rfl) rfl rfl hl (Nat.le_of_ble_eq_true rfl) dL_law_285 ⟨(Nat.le_of_ble_eq_true rfl), (Nat.le_of_ble_eq_true rfl)⟩ hS hAx (fun r8 u8 H8 locs8 hp8 hw8 hS8 hk8 _ => ?_)
  have hw8 : va_P D vwCl (wC y a u8.1 u8.2 row) H8 := hw8
  have hM8 : va_P D vwCl (wM y g M) H8 := hM.kept (fun k q hq => hk8 q.1 (hM k q hq).lt (hAB q.1 ((wM_D hB).2 k q hq)))
  refine lv_aload_n hx hb dL_law_288 rfl (lv_at hl 3 rfl) ?_
  refine lv_aload_n hx hb dL_law_289 rfl (lv_at hl 1 rfl) ?_
  refine lv_iload_n hx hb dL_law_290 rfl (lv_at hl 0 rfl) ?_
  refine lv_iconst (v := nI 1) hx hb dL_law_291 rfl ?_
  refine xn_iadd (a := i) (b := 1) hx hb dL_law_292 ?_
  refine va_sld hx hb hX hbl hbA hS8 (hin 1 (by decide)) dL_law_293 ?_
  refine lv_aload_n hx hb dL_law_294 rfl (lv_at hl 1 rfl) ?_
  refine lv_iload_n hx hb dL_law_295 rfl (lv_at hl 0 rfl) ?_
  refine lv_iconst (v := nI 2) hx hb dL_law_296 rfl ?_
  refine xn_iadd (a := i) (b := 2) hx hb dL_law_297 ?_
  refine va_sld hx hb hX hbl hbA hS8 (hin 2 (by decide)) dL_law_298 ?_
  refine cViI [.int (xs (nI (i + 1)).toNatClampNeg), .int (xs (nI (i + 2)).toNatClampNeg)] [.int r8] FX hK (c_X9_ofHouse l D y g hB M P w cN n t rd (xs (nI (i + 1)).toNatClampNeg) (xs (nI (i + 2)).toNatClampNeg) hR hIP hc1 hrd) (cwV 2 hts gL_X9_ofHouse rfl rfl rfl (by decide +kernel) ⟨(Nat.le_of_ble_eq_true rfl), (Nat.le_of_ble_eq_true rfl)⟩) hM8 (pre_recv hK hM8 (ci := 9) (q0 := 0) rfl rfl) rfl rfl hl (Nat.le_of_ble_eq_true rfl) dL_law_299 ⟨(Nat.le_of_ble_eq_true rfl), (Nat.le_of_ble_eq_true rfl)⟩ hS8 hBx (fun r9 u9 H9 locs9 hp9 hw9 hS9 hk9 _ => ?_)
  have hw9 : va_P D vwCl (wM y g u9) H9 := hw9
  have hP9 : va_P D vwCl (wC y a u8.1 u8.2 row) H9 := hw8.kept (fun k q hq => hk9 q.1 (hw8 k q hq).lt (fun z => hAB q.1 z ((wC_D hA).2 k q hq)))
  have e : r8 = r9 := (congrArg Prod.fst hp8).trans hp9.1.symm
  have eP := congrArg Prod.snd hp8
  have hIn : INE u8.1 := by
    rw [show u8.1 = _ from eP, s_ofHouse]; exact hI
  have hRn : RQ u8.1 u9 := (show u8.1 = _ from eP) ▸ hp9.2
  refine lv_icmp_eq (tgt := 1292) hx hb dL_law_302 (by decide) (fun _ => ?_) (fun h => by first | exact absurd e h | exact absurd e.symm h)
  exact kk _ _ _ _ _ _ hP9 hw9 hS9 hRn hIn

set_option maxRecDepth 100000 in
set_option maxHeartbeats 4000000 in
theorem law_3 {p : Program} {l : Launch} {e : Env} {s : State} {m : MethodId} {below : List Frame} {meth : Method} {c : Code} {Q : State → Prop} {b L : Nat} {xs : Nat → Int32} {D : va_G} {y : Nat → ClassId} {a g : Nat → Nat} {H : Heap} {locs : List Loc} {ls : Array Slot} {P X M : PT} {row : Value} {i : Nat}
    (FX : CallFix p m c cL_law 4 s #[Value.ref b] lw_tbl RL) (hK : KK D y s) (hX : va_X b L xs s s.heap) (hbl : b < s.heap.size) (hL : L ≤ 3072) (hA : CA a 44) (hB : CA g 26) (hAx : ∀ q, AC a q → s.heap.size ≤ q) (hBx : ∀ q, AM g q → s.heap.size ≤ q) (hAB : ∀ q, AM g q → ¬ AC a q) (hi : i + 6 ≤ L)
    (hP : va_P D vwCl (wC y a P X row) H) (hM : va_P D vwCl (wM y g M) H) (hS : va_S (fun q => s.heap.size ≤ q) s.heap H locs) (hR : RQ P M) (hI : INE P) (hl : lv_has ls 4 [(3, .int (nI i)), (0, .ref b), (1, .ref (a 0)), (2, .ref (g 0))])
    (kk : ∀ (P' X' M' : PT) (row' : Value) (H' : Heap) (locs' : List Loc), va_P D vwCl (wC y a P' X' row') H' → va_P D vwCl (wM y g M') H' → va_S (fun q => s.heap.size ≤ q) s.heap H' locs' → RQ P' M' → INE P' → W p l e room_1 s m #[Value.ref b] below meth c H' locs' 70 1597 Q (F0 m 1292 ls [])) : W p l e room_1 s m #[Value.ref b] below meth c H locs 70 1597 Q (F0 m 307 ls []) := by
  obtain ⟨hx, hb, hml, hown, hts⟩ := id FX
  have hbA : ¬ (fun q : Nat => s.heap.size ≤ q) b := Nat.not_le.mpr hbl
  obtain ⟨w, cN, n, t, rd, yr, f, hI0⟩ := id hI
  obtain ⟨hIP, hc1, hrd, hsh, hkd, hyr, hwl, hff⟩ := id hI0
  have hin : ∀ j, j < 6 → vp_in (nI (i + j)) L := fun j hj => vp_in_nI (by omega) (by omega)
  refine lv_aload_n hx hb dL_law_307 rfl (lv_at hl 2 rfl) ?_
  refine lv_aload_n hx hb dL_law_308 rfl (lv_at hl 1 rfl) ?_
  refine lv_iload_n hx hb dL_law_309 rfl (lv_at hl 0 rfl) ?_
  refine lv_iconst (v := nI 1) hx hb dL_law_310 rfl ?_
  refine xn_iadd (a := i) (b := 1) hx hb dL_law_311 ?_
  refine va_sld hx hb hX hbl hbA hS (hin 1 (by decide)) dL_law_312 ?_
  refine lv_aload_n hx hb dL_law_313 rfl (lv_at hl 1 rfl) ?_
  refine lv_iload_n hx hb dL_law_314 rfl (lv_at hl 0 rfl) ?_
  refine lv_iconst (v := nI 2) hx hb dL_law_315 rfl ?_
  refine xn_iadd (a := i) (b := 2) hx hb dL_law_316 ?_
  refine va_sld hx hb hX hbl hbA hS (hin 2 (by decide)) dL_law_317 ?_
  refine cViI [.int (xs (nI (i + 1)).toNatClampNeg), .int (xs (nI (i + 2)).toNatClampNeg)] [] FX hK (c_X8_ofTree l D y a hA P X row w cN n t rd (xs (nI (i + 1)).toNatClampNeg) (xs (nI (i + 2)).toNatClampNeg) hIP hc1 hrd) (cwV 2 hts gL_X8_ofTree rfl rfl rfl (by decide +kernel) ⟨(Nat.le_of_ble_eq_true rfl), (Nat.le_of_ble_eq_true rfl)⟩) hP (pre_recv hK hP (ci := 8) (q0 := 0) rfl rfl) rfl rfl hl (Nat.le_of_ble_eq_true rfl) dL_law_318 ⟨(Nat.le_of_ble_eq_true rfl), (Nat.le_of_ble_eq_true rfl)⟩ hS hAx (fun r8 u8 H8 locs8 hp8 hw8 hS8 hk8 _ => ?_)
  have hw8 : va_P D vwCl (wC y a u8.1 u8.2 row) H8 := hw8
  have hM8 : va_P D vwCl (wM y g M) H8 := hM.kept (fun k q hq => hk8 q.1 (hM k q hq).lt (hAB q.1 ((wM_D hB).2 k q hq)))
  refine lv_aload_n hx hb dL_law_321 rfl (lv_at hl 3 rfl) ?_
  refine lv_aload_n hx hb dL_law_322 rfl (lv_at hl 1 rfl) ?_
  refine lv_iload_n hx hb dL_law_323 rfl (lv_at hl 0 rfl) ?_
  refine lv_iconst (v := nI 1) hx hb dL_law_324 rfl ?_
  refine xn_iadd (a := i) (b := 1) hx hb dL_law_325 ?_
  refine va_sld hx hb hX hbl hbA hS8 (hin 1 (by decide)) dL_law_326 ?_
  refine lv_aload_n hx hb dL_law_327 rfl (lv_at hl 1 rfl) ?_
  refine lv_iload_n hx hb dL_law_328 rfl (lv_at hl 0 rfl) ?_
  refine lv_iconst (v := nI 2) hx hb dL_law_329 rfl ?_
  refine xn_iadd (a := i) (b := 2) hx hb dL_law_330 ?_
  refine va_sld hx hb hX hbl hbA hS8 (hin 2 (by decide)) dL_law_331 ?_
  refine cViI [.int (xs (nI (i + 1)).toNatClampNeg), .int (xs (nI (i + 2)).toNatClampNeg)] [.int r8] FX hK (c_X9_ofTree l D y g hB M P w cN n t rd (xs (nI (i + 1)).toNatClampNeg) (xs (nI (i + 2)).toNatClampNeg) hR hIP hc1 hrd) (cwV 2 hts gL_X9_ofTree rfl rfl rfl (by decide +kernel) ⟨(Nat.le_of_ble_eq_true rfl), (Nat.le_of_ble_eq_true rfl)⟩) hM8 (pre_recv hK hM8 (ci := 9) (q0 := 0) rfl rfl) rfl rfl hl (Nat.le_of_ble_eq_true rfl) dL_law_332 ⟨(Nat.le_of_ble_eq_true rfl), (Nat.le_of_ble_eq_true rfl)⟩ hS8 hBx (fun r9 u9 H9 locs9 hp9 hw9 hS9 hk9 _ => ?_)
  have hw9 : va_P D vwCl (wM y g u9) H9 := hw9
  have hP9 : va_P D vwCl (wC y a u8.1 u8.2 row) H9 := hw8.kept (fun k q hq => hk9 q.1 (hw8 k q hq).lt (fun z => hAB q.1 z ((wC_D hA).2 k q hq)))
  have e : r8 = r9 := (congrArg Prod.fst hp8).trans hp9.1.symm
  have eP := congrArg Prod.snd hp8
  have hIn : INE u8.1 := by
    rw [show u8.1 = _ from eP, s_ofTree]; exact hI
  have hRn : RQ u8.1 u9 := (show u8.1 = _ from eP) ▸ hp9.2
  refine lv_icmp_eq (tgt := 1292) hx hb dL_law_335 (by decide) (fun _ => ?_) (fun h => by first | exact absurd e h | exact absurd e.symm h)
  exact kk _ _ _ _ _ _ hP9 hw9 hS9 hRn hIn

set_option maxRecDepth 100000 in
set_option maxHeartbeats 4000000 in
theorem law_4 {p : Program} {l : Launch} {e : Env} {s : State} {m : MethodId} {below : List Frame} {meth : Method} {c : Code} {Q : State → Prop} {b L : Nat} {xs : Nat → Int32} {D : va_G} {y : Nat → ClassId} {a g : Nat → Nat} {H : Heap} {locs : List Loc} {ls : Array Slot} {P X M : PT} {row : Value} {i : Nat}
    (FX : CallFix p m c cL_law 4 s #[Value.ref b] lw_tbl RL) (hK : KK D y s) (hX : va_X b L xs s s.heap) (hbl : b < s.heap.size) (hL : L ≤ 3072) (hA : CA a 44) (hB : CA g 26) (hAx : ∀ q, AC a q → s.heap.size ≤ q) (hBx : ∀ q, AM g q → s.heap.size ≤ q) (hAB : ∀ q, AM g q → ¬ AC a q) (hi : i + 6 ≤ L)
    (hP : va_P D vwCl (wC y a P X row) H) (hM : va_P D vwCl (wM y g M) H) (hS : va_S (fun q => s.heap.size ≤ q) s.heap H locs) (hR : RQ P M) (hI : INE P) (hl : lv_has ls 4 [(3, .int (nI i)), (0, .ref b), (1, .ref (a 0)), (2, .ref (g 0))])
    (kk : ∀ (P' X' M' : PT) (row' : Value) (H' : Heap) (locs' : List Loc), va_P D vwCl (wC y a P' X' row') H' → va_P D vwCl (wM y g M') H' → va_S (fun q => s.heap.size ≤ q) s.heap H' locs' → RQ P' M' → INE P' → W p l e room_1 s m #[Value.ref b] below meth c H' locs' 70 1597 Q (F0 m 1292 ls [])) : W p l e room_1 s m #[Value.ref b] below meth c H locs 70 1597 Q (F0 m 340 ls []) := by
  obtain ⟨hx, hb, hml, hown, hts⟩ := id FX
  have hbA : ¬ (fun q : Nat => s.heap.size ≤ q) b := Nat.not_le.mpr hbl
  obtain ⟨w, cN, n, t, rd, yr, f, hI0⟩ := id hI
  obtain ⟨hIP, hc1, hrd, hsh, hkd, hyr, hwl, hff⟩ := id hI0
  have hin : ∀ j, j < 6 → vp_in (nI (i + j)) L := fun j hj => vp_in_nI (by omega) (by omega)
  refine lv_aload_n hx hb dL_law_340 rfl (lv_at hl 2 rfl) ?_
  refine lv_aload_n hx hb dL_law_341 rfl (lv_at hl 1 rfl) ?_
  refine lv_iload_n hx hb dL_law_342 rfl (lv_at hl 0 rfl) ?_
  refine lv_iconst (v := nI 1) hx hb dL_law_343 rfl ?_
  refine xn_iadd (a := i) (b := 1) hx hb dL_law_344 ?_
  refine va_sld hx hb hX hbl hbA hS (hin 1 (by decide)) dL_law_345 ?_
  refine lv_aload_n hx hb dL_law_346 rfl (lv_at hl 1 rfl) ?_
  refine lv_iload_n hx hb dL_law_347 rfl (lv_at hl 0 rfl) ?_
  refine lv_iconst (v := nI 2) hx hb dL_law_348 rfl ?_
  refine xn_iadd (a := i) (b := 2) hx hb dL_law_349 ?_
  refine va_sld hx hb hX hbl hbA hS (hin 2 (by decide)) dL_law_350 ?_
  refine lv_aload_n hx hb dL_law_351 rfl (lv_at hl 1 rfl) ?_
  refine lv_iload_n hx hb dL_law_352 rfl (lv_at hl 0 rfl) ?_
  refine lv_iconst (v := nI 3) hx hb dL_law_353 rfl ?_
  refine xn_iadd (a := i) (b := 3) hx hb dL_law_354 ?_
  refine va_sld hx hb hX hbl hbA hS (hin 3 (by decide)) dL_law_355 ?_
  refine cViI [.int (xs (nI (i + 1)).toNatClampNeg), .int (xs (nI (i + 2)).toNatClampNeg), .int (xs (nI (i + 3)).toNatClampNeg)] [] FX hK (c_X8_times l D y a hA P X row w cN n t rd (xs (nI (i + 1)).toNatClampNeg) (xs (nI (i + 2)).toNatClampNeg) (xs (nI (i + 3)).toNatClampNeg) hIP hc1 hrd) (cwV 3 hts gL_X8_times rfl rfl rfl (by decide +kernel) ⟨(Nat.le_of_ble_eq_true rfl), (Nat.le_of_ble_eq_true rfl)⟩) hP (pre_recv hK hP (ci := 8) (q0 := 0) rfl rfl) rfl rfl hl (Nat.le_of_ble_eq_true rfl) dL_law_356 ⟨(Nat.le_of_ble_eq_true rfl), (Nat.le_of_ble_eq_true rfl)⟩ hS hAx (fun r8 u8 H8 locs8 hp8 hw8 hS8 hk8 _ => ?_)
  have hw8 : va_P D vwCl (wC y a u8.1 u8.2 row) H8 := hw8
  have hM8 : va_P D vwCl (wM y g M) H8 := hM.kept (fun k q hq => hk8 q.1 (hM k q hq).lt (hAB q.1 ((wM_D hB).2 k q hq)))
  refine lv_aload_n hx hb dL_law_359 rfl (lv_at hl 3 rfl) ?_
  refine lv_aload_n hx hb dL_law_360 rfl (lv_at hl 1 rfl) ?_
  refine lv_iload_n hx hb dL_law_361 rfl (lv_at hl 0 rfl) ?_
  refine lv_iconst (v := nI 1) hx hb dL_law_362 rfl ?_
  refine xn_iadd (a := i) (b := 1) hx hb dL_law_363 ?_
  refine va_sld hx hb hX hbl hbA hS8 (hin 1 (by decide)) dL_law_364 ?_
  refine lv_aload_n hx hb dL_law_365 rfl (lv_at hl 1 rfl) ?_
  refine lv_iload_n hx hb dL_law_366 rfl (lv_at hl 0 rfl) ?_
  refine lv_iconst (v := nI 2) hx hb dL_law_367 rfl ?_
  refine xn_iadd (a := i) (b := 2) hx hb dL_law_368 ?_
  refine va_sld hx hb hX hbl hbA hS8 (hin 2 (by decide)) dL_law_369 ?_
  refine lv_aload_n hx hb dL_law_370 rfl (lv_at hl 1 rfl) ?_
  refine lv_iload_n hx hb dL_law_371 rfl (lv_at hl 0 rfl) ?_
  refine lv_iconst (v := nI 3) hx hb dL_law_372 rfl ?_
  refine xn_iadd (a := i) (b := 3) hx hb dL_law_373 ?_
  refine va_sld hx hb hX hbl hbA hS8 (hin 3 (by decide)) dL_law_374 ?_
  refine cViI [.int (xs (nI (i + 1)).toNatClampNeg), .int (xs (nI (i + 2)).toNatClampNeg), .int (xs (nI (i + 3)).toNatClampNeg)] [.int r8] FX hK (c_X9_times l D y g hB M P w cN n t rd (xs (nI (i + 1)).toNatClampNeg) (xs (nI (i + 2)).toNatClampNeg) (xs (nI (i + 3)).toNatClampNeg) hR hIP hc1 hrd) (cwV 3 hts gL_X9_times rfl rfl rfl (by decide +kernel) ⟨(Nat.le_of_ble_eq_true rfl), (Nat.le_of_ble_eq_true rfl)⟩) hM8 (pre_recv hK hM8 (ci := 9) (q0 := 0) rfl rfl) rfl rfl hl (Nat.le_of_ble_eq_true rfl) dL_law_375 ⟨(Nat.le_of_ble_eq_true rfl), (Nat.le_of_ble_eq_true rfl)⟩ hS8 hBx (fun r9 u9 H9 locs9 hp9 hw9 hS9 hk9 _ => ?_)
  have hw9 : va_P D vwCl (wM y g u9) H9 := hw9
  have hP9 : va_P D vwCl (wC y a u8.1 u8.2 row) H9 := hw8.kept (fun k q hq => hk9 q.1 (hw8 k q hq).lt (fun z => hAB q.1 z ((wC_D hA).2 k q hq)))
  have e : r8 = r9 := (congrArg Prod.fst hp8).trans hp9.1.symm
  have eP := congrArg Prod.snd hp8
  have hIn : INE u8.1 := (show u8.1 = _ from eP) ▸ ine_times hI0 (xs (nI (i + 1)).toNatClampNeg) (xs (nI (i + 2)).toNatClampNeg) (xs (nI (i + 3)).toNatClampNeg)
  have hRn : RQ u8.1 u9 := (show u8.1 = _ from eP) ▸ hp9.2
  refine lv_icmp_eq (tgt := 1292) hx hb dL_law_378 (by decide) (fun _ => ?_) (fun h => by first | exact absurd e h | exact absurd e.symm h)
  exact kk _ _ _ _ _ _ hP9 hw9 hS9 hRn hIn

set_option maxRecDepth 100000 in
set_option maxHeartbeats 4000000 in
theorem law_5 {p : Program} {l : Launch} {e : Env} {s : State} {m : MethodId} {below : List Frame} {meth : Method} {c : Code} {Q : State → Prop} {b L : Nat} {xs : Nat → Int32} {D : va_G} {y : Nat → ClassId} {a g : Nat → Nat} {H : Heap} {locs : List Loc} {ls : Array Slot} {P X M : PT} {row : Value} {i : Nat}
    (FX : CallFix p m c cL_law 4 s #[Value.ref b] lw_tbl RL) (hK : KK D y s) (hX : va_X b L xs s s.heap) (hbl : b < s.heap.size) (hL : L ≤ 3072) (hA : CA a 44) (hB : CA g 26) (hAx : ∀ q, AC a q → s.heap.size ≤ q) (hBx : ∀ q, AM g q → s.heap.size ≤ q) (hAB : ∀ q, AM g q → ¬ AC a q) (hi : i + 6 ≤ L)
    (hP : va_P D vwCl (wC y a P X row) H) (hM : va_P D vwCl (wM y g M) H) (hS : va_S (fun q => s.heap.size ≤ q) s.heap H locs) (hR : RQ P M) (hI : INE P) (hl : lv_has ls 4 [(3, .int (nI i)), (0, .ref b), (1, .ref (a 0)), (2, .ref (g 0))])
    (kk : ∀ (P' X' M' : PT) (row' : Value) (H' : Heap) (locs' : List Loc), va_P D vwCl (wC y a P' X' row') H' → va_P D vwCl (wM y g M') H' → va_S (fun q => s.heap.size ≤ q) s.heap H' locs' → RQ P' M' → INE P' → W p l e room_1 s m #[Value.ref b] below meth c H' locs' 70 1597 Q (F0 m 1292 ls [])) : W p l e room_1 s m #[Value.ref b] below meth c H locs 70 1597 Q (F0 m 383 ls []) := by
  obtain ⟨hx, hb, hml, hown, hts⟩ := id FX
  have hbA : ¬ (fun q : Nat => s.heap.size ≤ q) b := Nat.not_le.mpr hbl
  obtain ⟨w, cN, n, t, rd, yr, f, hI0⟩ := id hI
  obtain ⟨hIP, hc1, hrd, hsh, hkd, hyr, hwl, hff⟩ := id hI0
  have hin : ∀ j, j < 6 → vp_in (nI (i + j)) L := fun j hj => vp_in_nI (by omega) (by omega)
  refine lv_aload_n hx hb dL_law_383 rfl (lv_at hl 2 rfl) ?_
  refine lv_aload_n hx hb dL_law_384 rfl (lv_at hl 1 rfl) ?_
  refine lv_iload_n hx hb dL_law_385 rfl (lv_at hl 0 rfl) ?_
  refine lv_iconst (v := nI 1) hx hb dL_law_386 rfl ?_
  refine xn_iadd (a := i) (b := 1) hx hb dL_law_387 ?_
  refine va_sld hx hb hX hbl hbA hS (hin 1 (by decide)) dL_law_388 ?_
  refine lv_aload_n hx hb dL_law_389 rfl (lv_at hl 1 rfl) ?_
  refine lv_iload_n hx hb dL_law_390 rfl (lv_at hl 0 rfl) ?_
  refine lv_iconst (v := nI 2) hx hb dL_law_391 rfl ?_
  refine xn_iadd (a := i) (b := 2) hx hb dL_law_392 ?_
  refine va_sld hx hb hX hbl hbA hS (hin 2 (by decide)) dL_law_393 ?_
  refine cViI [.int (xs (nI (i + 1)).toNatClampNeg), .int (xs (nI (i + 2)).toNatClampNeg)] [] FX hK (c_X8_wall l D y a hA P X row w cN n t rd (xs (nI (i + 1)).toNatClampNeg) (xs (nI (i + 2)).toNatClampNeg) hIP hc1 hrd) (cwV 2 hts gL_X8_wall rfl rfl rfl (by decide +kernel) ⟨(Nat.le_of_ble_eq_true rfl), (Nat.le_of_ble_eq_true rfl)⟩) hP (pre_recv hK hP (ci := 8) (q0 := 0) rfl rfl) rfl rfl hl (Nat.le_of_ble_eq_true rfl) dL_law_394 ⟨(Nat.le_of_ble_eq_true rfl), (Nat.le_of_ble_eq_true rfl)⟩ hS hAx (fun r8 u8 H8 locs8 hp8 hw8 hS8 hk8 _ => ?_)
  have hw8 : va_P D vwCl (wC y a u8.1 u8.2 row) H8 := hw8
  have hM8 : va_P D vwCl (wM y g M) H8 := hM.kept (fun k q hq => hk8 q.1 (hM k q hq).lt (hAB q.1 ((wM_D hB).2 k q hq)))
  refine lv_aload_n hx hb dL_law_397 rfl (lv_at hl 3 rfl) ?_
  refine lv_aload_n hx hb dL_law_398 rfl (lv_at hl 1 rfl) ?_
  refine lv_iload_n hx hb dL_law_399 rfl (lv_at hl 0 rfl) ?_
  refine lv_iconst (v := nI 1) hx hb dL_law_400 rfl ?_
  refine xn_iadd (a := i) (b := 1) hx hb dL_law_401 ?_
  refine va_sld hx hb hX hbl hbA hS8 (hin 1 (by decide)) dL_law_402 ?_
  refine lv_aload_n hx hb dL_law_403 rfl (lv_at hl 1 rfl) ?_
  refine lv_iload_n hx hb dL_law_404 rfl (lv_at hl 0 rfl) ?_
  refine lv_iconst (v := nI 2) hx hb dL_law_405 rfl ?_
  refine xn_iadd (a := i) (b := 2) hx hb dL_law_406 ?_
  refine va_sld hx hb hX hbl hbA hS8 (hin 2 (by decide)) dL_law_407 ?_
  refine cViI [.int (xs (nI (i + 1)).toNatClampNeg), .int (xs (nI (i + 2)).toNatClampNeg)] [.int r8] FX hK (c_X9_wall l D y g hB M P w cN n t rd (xs (nI (i + 1)).toNatClampNeg) (xs (nI (i + 2)).toNatClampNeg) hR hIP hc1 hrd) (cwV 2 hts gL_X9_wall rfl rfl rfl (by decide +kernel) ⟨(Nat.le_of_ble_eq_true rfl), (Nat.le_of_ble_eq_true rfl)⟩) hM8 (pre_recv hK hM8 (ci := 9) (q0 := 0) rfl rfl) rfl rfl hl (Nat.le_of_ble_eq_true rfl) dL_law_408 ⟨(Nat.le_of_ble_eq_true rfl), (Nat.le_of_ble_eq_true rfl)⟩ hS8 hBx (fun r9 u9 H9 locs9 hp9 hw9 hS9 hk9 _ => ?_)
  have hw9 : va_P D vwCl (wM y g u9) H9 := hw9
  have hP9 : va_P D vwCl (wC y a u8.1 u8.2 row) H9 := hw8.kept (fun k q hq => hk9 q.1 (hw8 k q hq).lt (fun z => hAB q.1 z ((wC_D hA).2 k q hq)))
  have e : r8 = r9 := (congrArg Prod.fst hp8).trans hp9.1.symm
  have eP := congrArg Prod.snd hp8
  have hIn : INE u8.1 := (show u8.1 = _ from eP) ▸ ine_wall hI0 (xs (nI (i + 1)).toNatClampNeg) (xs (nI (i + 2)).toNatClampNeg)
  have hRn : RQ u8.1 u9 := (show u8.1 = _ from eP) ▸ hp9.2
  refine lv_icmp_eq (tgt := 1292) hx hb dL_law_411 (by decide) (fun _ => ?_) (fun h => by first | exact absurd e h | exact absurd e.symm h)
  exact kk _ _ _ _ _ _ hP9 hw9 hS9 hRn hIn

set_option maxRecDepth 100000 in
set_option maxHeartbeats 4000000 in
theorem law_6 {p : Program} {l : Launch} {e : Env} {s : State} {m : MethodId} {below : List Frame} {meth : Method} {c : Code} {Q : State → Prop} {b L : Nat} {xs : Nat → Int32} {D : va_G} {y : Nat → ClassId} {a g : Nat → Nat} {H : Heap} {locs : List Loc} {ls : Array Slot} {P X M : PT} {row : Value} {i : Nat}
    (FX : CallFix p m c cL_law 4 s #[Value.ref b] lw_tbl RL) (hK : KK D y s) (hX : va_X b L xs s s.heap) (hbl : b < s.heap.size) (hL : L ≤ 3072) (hA : CA a 44) (hB : CA g 26) (hAx : ∀ q, AC a q → s.heap.size ≤ q) (hBx : ∀ q, AM g q → s.heap.size ≤ q) (hAB : ∀ q, AM g q → ¬ AC a q) (hi : i + 6 ≤ L)
    (hP : va_P D vwCl (wC y a P X row) H) (hM : va_P D vwCl (wM y g M) H) (hS : va_S (fun q => s.heap.size ≤ q) s.heap H locs) (hR : RQ P M) (hI : INE P) (hl : lv_has ls 4 [(3, .int (nI i)), (0, .ref b), (1, .ref (a 0)), (2, .ref (g 0))])
    (kk : ∀ (P' X' M' : PT) (row' : Value) (H' : Heap) (locs' : List Loc), va_P D vwCl (wC y a P' X' row') H' → va_P D vwCl (wM y g M') H' → va_S (fun q => s.heap.size ≤ q) s.heap H' locs' → RQ P' M' → INE P' → W p l e room_1 s m #[Value.ref b] below meth c H' locs' 70 1597 Q (F0 m 1292 ls [])) : W p l e room_1 s m #[Value.ref b] below meth c H locs 70 1597 Q (F0 m 416 ls []) := by
  obtain ⟨hx, hb, hml, hown, hts⟩ := id FX
  have hbA : ¬ (fun q : Nat => s.heap.size ≤ q) b := Nat.not_le.mpr hbl
  obtain ⟨w, cN, n, t, rd, yr, f, hI0⟩ := id hI
  obtain ⟨hIP, hc1, hrd, hsh, hkd, hyr, hwl, hff⟩ := id hI0
  have hin : ∀ j, j < 6 → vp_in (nI (i + j)) L := fun j hj => vp_in_nI (by omega) (by omega)
  refine lv_aload_n hx hb dL_law_416 rfl (lv_at hl 2 rfl) ?_
  refine lv_aload_n hx hb dL_law_417 rfl (lv_at hl 1 rfl) ?_
  refine lv_iload_n hx hb dL_law_418 rfl (lv_at hl 0 rfl) ?_
  refine lv_iconst (v := nI 1) hx hb dL_law_419 rfl ?_
  refine xn_iadd (a := i) (b := 1) hx hb dL_law_420 ?_
  refine va_sld hx hb hX hbl hbA hS (hin 1 (by decide)) dL_law_421 ?_
  refine lv_aload_n hx hb dL_law_422 rfl (lv_at hl 1 rfl) ?_
  refine lv_iload_n hx hb dL_law_423 rfl (lv_at hl 0 rfl) ?_
  refine lv_iconst (v := nI 2) hx hb dL_law_424 rfl ?_
  refine xn_iadd (a := i) (b := 2) hx hb dL_law_425 ?_
  refine va_sld hx hb hX hbl hbA hS (hin 2 (by decide)) dL_law_426 ?_
  refine cViI [.int (xs (nI (i + 1)).toNatClampNeg), .int (xs (nI (i + 2)).toNatClampNeg)] [] FX hK (c_X8_floors l D y a hA P X row w cN n t rd (xs (nI (i + 1)).toNatClampNeg) (xs (nI (i + 2)).toNatClampNeg) hIP hc1 hrd) (cwV 2 hts gL_X8_floors rfl rfl rfl (by decide +kernel) ⟨(Nat.le_of_ble_eq_true rfl), (Nat.le_of_ble_eq_true rfl)⟩) hP (pre_recv hK hP (ci := 8) (q0 := 0) rfl rfl) rfl rfl hl (Nat.le_of_ble_eq_true rfl) dL_law_427 ⟨(Nat.le_of_ble_eq_true rfl), (Nat.le_of_ble_eq_true rfl)⟩ hS hAx (fun r8 u8 H8 locs8 hp8 hw8 hS8 hk8 _ => ?_)
  have hw8 : va_P D vwCl (wC y a u8.1 u8.2 row) H8 := hw8
  have hM8 : va_P D vwCl (wM y g M) H8 := hM.kept (fun k q hq => hk8 q.1 (hM k q hq).lt (hAB q.1 ((wM_D hB).2 k q hq)))
  refine lv_aload_n hx hb dL_law_430 rfl (lv_at hl 3 rfl) ?_
  refine lv_aload_n hx hb dL_law_431 rfl (lv_at hl 1 rfl) ?_
  refine lv_iload_n hx hb dL_law_432 rfl (lv_at hl 0 rfl) ?_
  refine lv_iconst (v := nI 1) hx hb dL_law_433 rfl ?_
  refine xn_iadd (a := i) (b := 1) hx hb dL_law_434 ?_
  refine va_sld hx hb hX hbl hbA hS8 (hin 1 (by decide)) dL_law_435 ?_
  refine lv_aload_n hx hb dL_law_436 rfl (lv_at hl 1 rfl) ?_
  refine lv_iload_n hx hb dL_law_437 rfl (lv_at hl 0 rfl) ?_
  refine lv_iconst (v := nI 2) hx hb dL_law_438 rfl ?_
  refine xn_iadd (a := i) (b := 2) hx hb dL_law_439 ?_
  refine va_sld hx hb hX hbl hbA hS8 (hin 2 (by decide)) dL_law_440 ?_
  refine cViI [.int (xs (nI (i + 1)).toNatClampNeg), .int (xs (nI (i + 2)).toNatClampNeg)] [.int r8] FX hK (c_X9_floors l D y g hB M P w cN n t rd (xs (nI (i + 1)).toNatClampNeg) (xs (nI (i + 2)).toNatClampNeg) hR hIP hc1 hrd) (cwV 2 hts gL_X9_floors rfl rfl rfl (by decide +kernel) ⟨(Nat.le_of_ble_eq_true rfl), (Nat.le_of_ble_eq_true rfl)⟩) hM8 (pre_recv hK hM8 (ci := 9) (q0 := 0) rfl rfl) rfl rfl hl (Nat.le_of_ble_eq_true rfl) dL_law_441 ⟨(Nat.le_of_ble_eq_true rfl), (Nat.le_of_ble_eq_true rfl)⟩ hS8 hBx (fun r9 u9 H9 locs9 hp9 hw9 hS9 hk9 _ => ?_)
  have hw9 : va_P D vwCl (wM y g u9) H9 := hw9
  have hP9 : va_P D vwCl (wC y a u8.1 u8.2 row) H9 := hw8.kept (fun k q hq => hk9 q.1 (hw8 k q hq).lt (fun z => hAB q.1 z ((wC_D hA).2 k q hq)))
  have e : r8 = r9 := (congrArg Prod.fst hp8).trans hp9.1.symm
  have eP := congrArg Prod.snd hp8
  have hIn : INE u8.1 := (show u8.1 = _ from eP) ▸ ine_floors hI0 (xs (nI (i + 1)).toNatClampNeg) (xs (nI (i + 2)).toNatClampNeg)
  have hRn : RQ u8.1 u9 := (show u8.1 = _ from eP) ▸ hp9.2
  refine lv_icmp_eq (tgt := 1292) hx hb dL_law_444 (by decide) (fun _ => ?_) (fun h => by first | exact absurd e h | exact absurd e.symm h)
  exact kk _ _ _ _ _ _ hP9 hw9 hS9 hRn hIn

set_option maxRecDepth 100000 in
set_option maxHeartbeats 4000000 in
theorem law_7 {p : Program} {l : Launch} {e : Env} {s : State} {m : MethodId} {below : List Frame} {meth : Method} {c : Code} {Q : State → Prop} {b L : Nat} {xs : Nat → Int32} {D : va_G} {y : Nat → ClassId} {a g : Nat → Nat} {H : Heap} {locs : List Loc} {ls : Array Slot} {P X M : PT} {row : Value} {i : Nat}
    (FX : CallFix p m c cL_law 4 s #[Value.ref b] lw_tbl RL) (hK : KK D y s) (hX : va_X b L xs s s.heap) (hbl : b < s.heap.size) (hL : L ≤ 3072) (hA : CA a 44) (hB : CA g 26) (hAx : ∀ q, AC a q → s.heap.size ≤ q) (hBx : ∀ q, AM g q → s.heap.size ≤ q) (hAB : ∀ q, AM g q → ¬ AC a q) (hi : i + 6 ≤ L)
    (hP : va_P D vwCl (wC y a P X row) H) (hM : va_P D vwCl (wM y g M) H) (hS : va_S (fun q => s.heap.size ≤ q) s.heap H locs) (hR : RQ P M) (hI : INE P) (hl : lv_has ls 4 [(3, .int (nI i)), (0, .ref b), (1, .ref (a 0)), (2, .ref (g 0))])
    (kk : ∀ (P' X' M' : PT) (row' : Value) (H' : Heap) (locs' : List Loc), va_P D vwCl (wC y a P' X' row') H' → va_P D vwCl (wM y g M') H' → va_S (fun q => s.heap.size ≤ q) s.heap H' locs' → RQ P' M' → INE P' → W p l e room_1 s m #[Value.ref b] below meth c H' locs' 70 1597 Q (F0 m 1292 ls [])) : W p l e room_1 s m #[Value.ref b] below meth c H locs 70 1597 Q (F0 m 449 ls []) := by
  obtain ⟨hx, hb, hml, hown, hts⟩ := id FX
  have hbA : ¬ (fun q : Nat => s.heap.size ≤ q) b := Nat.not_le.mpr hbl
  obtain ⟨w, cN, n, t, rd, yr, f, hI0⟩ := id hI
  obtain ⟨hIP, hc1, hrd, hsh, hkd, hyr, hwl, hff⟩ := id hI0
  have hin : ∀ j, j < 6 → vp_in (nI (i + j)) L := fun j hj => vp_in_nI (by omega) (by omega)
  refine lv_aload_n hx hb dL_law_449 rfl (lv_at hl 2 rfl) ?_
  refine lv_aload_n hx hb dL_law_450 rfl (lv_at hl 1 rfl) ?_
  refine lv_iload_n hx hb dL_law_451 rfl (lv_at hl 0 rfl) ?_
  refine lv_iconst (v := nI 1) hx hb dL_law_452 rfl ?_
  refine xn_iadd (a := i) (b := 1) hx hb dL_law_453 ?_
  refine va_sld hx hb hX hbl hbA hS (hin 1 (by decide)) dL_law_454 ?_
  refine lv_aload_n hx hb dL_law_455 rfl (lv_at hl 1 rfl) ?_
  refine lv_iload_n hx hb dL_law_456 rfl (lv_at hl 0 rfl) ?_
  refine lv_iconst (v := nI 2) hx hb dL_law_457 rfl ?_
  refine xn_iadd (a := i) (b := 2) hx hb dL_law_458 ?_
  refine va_sld hx hb hX hbl hbA hS (hin 2 (by decide)) dL_law_459 ?_
  refine lv_if_eq (tgt := 467) hx hb dL_law_460 (by decide) (fun e460 => ?_) (fun e460 => ?_)
  · skip
    refine lv_iconst (v := nI 0) hx hb dL_law_467 rfl ?_
    refine cViI [.int (xs (nI (i + 1)).toNatClampNeg), .int (nI 0)] [] FX hK (c_X8_fell l D y a hA P X row w cN n t rd (xs (nI (i + 1)).toNatClampNeg) (nI 0) hIP hc1 hrd) (cwV 2 hts gL_X8_fell rfl rfl rfl (by decide +kernel) ⟨(Nat.le_of_ble_eq_true rfl), (Nat.le_of_ble_eq_true rfl)⟩) hP (pre_recv hK hP (ci := 8) (q0 := 0) rfl rfl) rfl rfl hl (Nat.le_of_ble_eq_true rfl) dL_law_468 ⟨(Nat.le_of_ble_eq_true rfl), (Nat.le_of_ble_eq_true rfl)⟩ hS hAx (fun r8 u8 H8 locs8 hp8 hw8 hS8 hk8 _ => ?_)
    have hw8 : va_P D vwCl (wC y a u8.1 u8.2 row) H8 := hw8
    have hM8 : va_P D vwCl (wM y g M) H8 := hM.kept (fun k q hq => hk8 q.1 (hM k q hq).lt (hAB q.1 ((wM_D hB).2 k q hq)))
    refine lv_aload_n hx hb dL_law_471 rfl (lv_at hl 3 rfl) ?_
    refine lv_aload_n hx hb dL_law_472 rfl (lv_at hl 1 rfl) ?_
    refine lv_iload_n hx hb dL_law_473 rfl (lv_at hl 0 rfl) ?_
    refine lv_iconst (v := nI 1) hx hb dL_law_474 rfl ?_
    refine xn_iadd (a := i) (b := 1) hx hb dL_law_475 ?_
    refine va_sld hx hb hX hbl hbA hS8 (hin 1 (by decide)) dL_law_476 ?_
    refine lv_aload_n hx hb dL_law_477 rfl (lv_at hl 1 rfl) ?_
    refine lv_iload_n hx hb dL_law_478 rfl (lv_at hl 0 rfl) ?_
    refine lv_iconst (v := nI 2) hx hb dL_law_479 rfl ?_
    refine xn_iadd (a := i) (b := 2) hx hb dL_law_480 ?_
    refine va_sld hx hb hX hbl hbA hS8 (hin 2 (by decide)) dL_law_481 ?_
    refine lv_if_eq (tgt := 489) hx hb dL_law_482 (by decide) (fun e482 => ?_) (fun e482 => ?_)
    · skip
      refine lv_iconst (v := nI 0) hx hb dL_law_489 rfl ?_
      refine cViI [.int (xs (nI (i + 1)).toNatClampNeg), .int (nI 0)] [.int r8] FX hK (c_X9_fell l D y g hB M P w cN n t rd (xs (nI (i + 1)).toNatClampNeg) (nI 0) hR hIP hc1 hrd (Or.inl rfl)) (cwV 2 hts gL_X9_fell rfl rfl rfl (by decide +kernel) ⟨(Nat.le_of_ble_eq_true rfl), (Nat.le_of_ble_eq_true rfl)⟩) hM8 (pre_recv hK hM8 (ci := 9) (q0 := 0) rfl rfl) rfl rfl hl (Nat.le_of_ble_eq_true rfl) dL_law_490 ⟨(Nat.le_of_ble_eq_true rfl), (Nat.le_of_ble_eq_true rfl)⟩ hS8 hBx (fun r9 u9 H9 locs9 hp9 hw9 hS9 hk9 _ => ?_)
      have hw9 : va_P D vwCl (wM y g u9) H9 := hw9
      have hP9 : va_P D vwCl (wC y a u8.1 u8.2 row) H9 := hw8.kept (fun k q hq => hk9 q.1 (hw8 k q hq).lt (fun z => hAB q.1 z ((wC_D hA).2 k q hq)))
      have e : r8 = r9 := (congrArg Prod.fst hp8).trans hp9.1.symm
      have eP := congrArg Prod.snd hp8
      have hIn : INE u8.1 := (show u8.1 = _ from eP) ▸ ine_fell hI0 (xs (nI (i + 1)).toNatClampNeg) (nI 0)
      have hRn : RQ u8.1 u9 := (show u8.1 = _ from eP) ▸ hp9.2
      refine lv_icmp_eq (tgt := 1292) hx hb dL_law_493 (by decide) (fun _ => ?_) (fun h => by first | exact absurd e h | exact absurd e.symm h)
      exact kk _ _ _ _ _ _ hP9 hw9 hS9 hRn hIn
    · exact absurd e460 e482
  · skip
    refine lv_iconst (v := nI 1) hx hb dL_law_463 rfl ?_
    refine lv_goto (tgt := 468) hx hb dL_law_464 (by decide) ?_
    refine cViI [.int (xs (nI (i + 1)).toNatClampNeg), .int (nI 1)] [] FX hK (c_X8_fell l D y a hA P X row w cN n t rd (xs (nI (i + 1)).toNatClampNeg) (nI 1) hIP hc1 hrd) (cwV 2 hts gL_X8_fell rfl rfl rfl (by decide +kernel) ⟨(Nat.le_of_ble_eq_true rfl), (Nat.le_of_ble_eq_true rfl)⟩) hP (pre_recv hK hP (ci := 8) (q0 := 0) rfl rfl) rfl rfl hl (Nat.le_of_ble_eq_true rfl) dL_law_468 ⟨(Nat.le_of_ble_eq_true rfl), (Nat.le_of_ble_eq_true rfl)⟩ hS hAx (fun r8 u8 H8 locs8 hp8 hw8 hS8 hk8 _ => ?_)
    have hw8 : va_P D vwCl (wC y a u8.1 u8.2 row) H8 := hw8
    have hM8 : va_P D vwCl (wM y g M) H8 := hM.kept (fun k q hq => hk8 q.1 (hM k q hq).lt (hAB q.1 ((wM_D hB).2 k q hq)))
    refine lv_aload_n hx hb dL_law_471 rfl (lv_at hl 3 rfl) ?_
    refine lv_aload_n hx hb dL_law_472 rfl (lv_at hl 1 rfl) ?_
    refine lv_iload_n hx hb dL_law_473 rfl (lv_at hl 0 rfl) ?_
    refine lv_iconst (v := nI 1) hx hb dL_law_474 rfl ?_
    refine xn_iadd (a := i) (b := 1) hx hb dL_law_475 ?_
    refine va_sld hx hb hX hbl hbA hS8 (hin 1 (by decide)) dL_law_476 ?_
    refine lv_aload_n hx hb dL_law_477 rfl (lv_at hl 1 rfl) ?_
    refine lv_iload_n hx hb dL_law_478 rfl (lv_at hl 0 rfl) ?_
    refine lv_iconst (v := nI 2) hx hb dL_law_479 rfl ?_
    refine xn_iadd (a := i) (b := 2) hx hb dL_law_480 ?_
    refine va_sld hx hb hX hbl hbA hS8 (hin 2 (by decide)) dL_law_481 ?_
    refine lv_if_eq (tgt := 489) hx hb dL_law_482 (by decide) (fun e482 => ?_) (fun e482 => ?_)
    · exact absurd e482 e460
    · skip
      refine lv_iconst (v := nI 1) hx hb dL_law_485 rfl ?_
      refine lv_goto (tgt := 490) hx hb dL_law_486 (by decide) ?_
      refine cViI [.int (xs (nI (i + 1)).toNatClampNeg), .int (nI 1)] [.int r8] FX hK (c_X9_fell l D y g hB M P w cN n t rd (xs (nI (i + 1)).toNatClampNeg) (nI 1) hR hIP hc1 hrd (Or.inr rfl)) (cwV 2 hts gL_X9_fell rfl rfl rfl (by decide +kernel) ⟨(Nat.le_of_ble_eq_true rfl), (Nat.le_of_ble_eq_true rfl)⟩) hM8 (pre_recv hK hM8 (ci := 9) (q0 := 0) rfl rfl) rfl rfl hl (Nat.le_of_ble_eq_true rfl) dL_law_490 ⟨(Nat.le_of_ble_eq_true rfl), (Nat.le_of_ble_eq_true rfl)⟩ hS8 hBx (fun r9 u9 H9 locs9 hp9 hw9 hS9 hk9 _ => ?_)
      have hw9 : va_P D vwCl (wM y g u9) H9 := hw9
      have hP9 : va_P D vwCl (wC y a u8.1 u8.2 row) H9 := hw8.kept (fun k q hq => hk9 q.1 (hw8 k q hq).lt (fun z => hAB q.1 z ((wC_D hA).2 k q hq)))
      have e : r8 = r9 := (congrArg Prod.fst hp8).trans hp9.1.symm
      have eP := congrArg Prod.snd hp8
      have hIn : INE u8.1 := (show u8.1 = _ from eP) ▸ ine_fell hI0 (xs (nI (i + 1)).toNatClampNeg) (nI 1)
      have hRn : RQ u8.1 u9 := (show u8.1 = _ from eP) ▸ hp9.2
      refine lv_icmp_eq (tgt := 1292) hx hb dL_law_493 (by decide) (fun _ => ?_) (fun h => by first | exact absurd e h | exact absurd e.symm h)
      exact kk _ _ _ _ _ _ hP9 hw9 hS9 hRn hIn

set_option maxRecDepth 100000 in
set_option maxHeartbeats 4000000 in
theorem law_8 {p : Program} {l : Launch} {e : Env} {s : State} {m : MethodId} {below : List Frame} {meth : Method} {c : Code} {Q : State → Prop} {b L : Nat} {xs : Nat → Int32} {D : va_G} {y : Nat → ClassId} {a g : Nat → Nat} {H : Heap} {locs : List Loc} {ls : Array Slot} {P X M : PT} {row : Value} {i : Nat}
    (FX : CallFix p m c cL_law 4 s #[Value.ref b] lw_tbl RL) (hK : KK D y s) (hX : va_X b L xs s s.heap) (hbl : b < s.heap.size) (hL : L ≤ 3072) (hA : CA a 44) (hB : CA g 26) (hAx : ∀ q, AC a q → s.heap.size ≤ q) (hBx : ∀ q, AM g q → s.heap.size ≤ q) (hAB : ∀ q, AM g q → ¬ AC a q) (hi : i + 6 ≤ L)
    (hP : va_P D vwCl (wC y a P X row) H) (hM : va_P D vwCl (wM y g M) H) (hS : va_S (fun q => s.heap.size ≤ q) s.heap H locs) (hR : RQ P M) (hI : INE P) (hl : lv_has ls 4 [(3, .int (nI i)), (0, .ref b), (1, .ref (a 0)), (2, .ref (g 0))])
    (kk : ∀ (P' X' M' : PT) (row' : Value) (H' : Heap) (locs' : List Loc), va_P D vwCl (wC y a P' X' row') H' → va_P D vwCl (wM y g M') H' → va_S (fun q => s.heap.size ≤ q) s.heap H' locs' → RQ P' M' → INE P' → W p l e room_1 s m #[Value.ref b] below meth c H' locs' 70 1597 Q (F0 m 1292 ls [])) : W p l e room_1 s m #[Value.ref b] below meth c H locs 70 1597 Q (F0 m 498 ls []) := by
  obtain ⟨hx, hb, hml, hown, hts⟩ := id FX
  have hbA : ¬ (fun q : Nat => s.heap.size ≤ q) b := Nat.not_le.mpr hbl
  obtain ⟨w, cN, n, t, rd, yr, f, hI0⟩ := id hI
  obtain ⟨hIP, hc1, hrd, hsh, hkd, hyr, hwl, hff⟩ := id hI0
  have hin : ∀ j, j < 6 → vp_in (nI (i + j)) L := fun j hj => vp_in_nI (by omega) (by omega)
  refine lv_aload_n hx hb dL_law_498 rfl (lv_at hl 2 rfl) ?_
  refine lv_aload_n hx hb dL_law_499 rfl (lv_at hl 1 rfl) ?_
  refine lv_iload_n hx hb dL_law_500 rfl (lv_at hl 0 rfl) ?_
  refine lv_iconst (v := nI 1) hx hb dL_law_501 rfl ?_
  refine xn_iadd (a := i) (b := 1) hx hb dL_law_502 ?_
  refine va_sld hx hb hX hbl hbA hS (hin 1 (by decide)) dL_law_503 ?_
  refine lv_aload_n hx hb dL_law_504 rfl (lv_at hl 1 rfl) ?_
  refine lv_iload_n hx hb dL_law_505 rfl (lv_at hl 0 rfl) ?_
  refine lv_iconst (v := nI 2) hx hb dL_law_506 rfl ?_
  refine xn_iadd (a := i) (b := 2) hx hb dL_law_507 ?_
  refine va_sld hx hb hX hbl hbA hS (hin 2 (by decide)) dL_law_508 ?_
  refine cViI [.int (xs (nI (i + 1)).toNatClampNeg), .int (xs (nI (i + 2)).toNatClampNeg)] [] FX hK (c_X8_see l D y a hA P X row w cN n t rd (xs (nI (i + 1)).toNatClampNeg) (xs (nI (i + 2)).toNatClampNeg) hIP hc1 hrd) (cwV 2 hts gL_X8_see rfl rfl rfl (by decide +kernel) ⟨(Nat.le_of_ble_eq_true rfl), (Nat.le_of_ble_eq_true rfl)⟩) hP (pre_recv hK hP (ci := 8) (q0 := 0) rfl rfl) rfl rfl hl (Nat.le_of_ble_eq_true rfl) dL_law_509 ⟨(Nat.le_of_ble_eq_true rfl), (Nat.le_of_ble_eq_true rfl)⟩ hS hAx (fun r8 u8 H8 locs8 hp8 hw8 hS8 hk8 _ => ?_)
  have hw8 : va_P D vwCl (wC y a u8.1 u8.2 row) H8 := hw8
  have hM8 : va_P D vwCl (wM y g M) H8 := hM.kept (fun k q hq => hk8 q.1 (hM k q hq).lt (hAB q.1 ((wM_D hB).2 k q hq)))
  refine lv_aload_n hx hb dL_law_512 rfl (lv_at hl 3 rfl) ?_
  refine lv_aload_n hx hb dL_law_513 rfl (lv_at hl 1 rfl) ?_
  refine lv_iload_n hx hb dL_law_514 rfl (lv_at hl 0 rfl) ?_
  refine lv_iconst (v := nI 1) hx hb dL_law_515 rfl ?_
  refine xn_iadd (a := i) (b := 1) hx hb dL_law_516 ?_
  refine va_sld hx hb hX hbl hbA hS8 (hin 1 (by decide)) dL_law_517 ?_
  refine lv_aload_n hx hb dL_law_518 rfl (lv_at hl 1 rfl) ?_
  refine lv_iload_n hx hb dL_law_519 rfl (lv_at hl 0 rfl) ?_
  refine lv_iconst (v := nI 2) hx hb dL_law_520 rfl ?_
  refine xn_iadd (a := i) (b := 2) hx hb dL_law_521 ?_
  refine va_sld hx hb hX hbl hbA hS8 (hin 2 (by decide)) dL_law_522 ?_
  refine cViI [.int (xs (nI (i + 1)).toNatClampNeg), .int (xs (nI (i + 2)).toNatClampNeg)] [.int r8] FX hK (c_X9_see l D y g hB M P w cN n t rd (xs (nI (i + 1)).toNatClampNeg) (xs (nI (i + 2)).toNatClampNeg) hR hIP hc1 hrd) (cwV 2 hts gL_X9_see rfl rfl rfl (by decide +kernel) ⟨(Nat.le_of_ble_eq_true rfl), (Nat.le_of_ble_eq_true rfl)⟩) hM8 (pre_recv hK hM8 (ci := 9) (q0 := 0) rfl rfl) rfl rfl hl (Nat.le_of_ble_eq_true rfl) dL_law_523 ⟨(Nat.le_of_ble_eq_true rfl), (Nat.le_of_ble_eq_true rfl)⟩ hS8 hBx (fun r9 u9 H9 locs9 hp9 hw9 hS9 hk9 _ => ?_)
  have hw9 : va_P D vwCl (wM y g u9) H9 := hw9
  have hP9 : va_P D vwCl (wC y a u8.1 u8.2 row) H9 := hw8.kept (fun k q hq => hk9 q.1 (hw8 k q hq).lt (fun z => hAB q.1 z ((wC_D hA).2 k q hq)))
  have e : r8 = r9 := (congrArg Prod.fst hp8).trans hp9.1.symm
  have eP := congrArg Prod.snd hp8
  have hIn : INE u8.1 := by
    rw [show u8.1 = _ from eP, s_see]; exact hI
  have hRn : RQ u8.1 u9 := (show u8.1 = _ from eP) ▸ hp9.2
  refine lv_icmp_eq (tgt := 1292) hx hb dL_law_526 (by decide) (fun _ => ?_) (fun h => by first | exact absurd e h | exact absurd e.symm h)
  exact kk _ _ _ _ _ _ hP9 hw9 hS9 hRn hIn

