section RQ6
variable {C Q : PT}
theorem RQ.w18 {C' Q' : PT} (h : RQ C Q) (c1 : C'.1 = C.1) (q1 : Q'.1 = Q.1) (c2 : ∀ j k, j < 14 → C'.2 j k = C.2 j k) (q2 : ∀ j k, ¬ j = 18 → j < 20 → Q'.2 j k = Q.2 j k) (hv : ∀ k i, k < 4 → i < 100 → Q'.2 18 (100 * k + i) = C'.2 (14 + k) i) : RQ C' Q' := by
  obtain ⟨h1, h2, h3, h4, h5, h6, h7, h8, h9, h10⟩ := h
  refine ⟨fun k hk => by rw [c1, q1]; exact h1 k hk, by rw [c1, q1]; exact h2, fun j k a b => ?_, fun j k a b d => ?_, fun j k a b d => ?_, fun q d => ?_, fun j k a b d => ?_, fun j k a b d => ?_, hv, fun k d => ?_⟩
  · rw [c1] at b
    exact (q2 _ _ (by omega) (by omega)).trans ((h3 j k a b).trans (c2 _ _ (by omega)).symm)
  · rw [c1] at d
    exact (q2 _ _ (by omega) (by omega)).trans ((h4 j k a b d).trans (c2 _ _ (by omega)).symm)
  · rw [c1] at d
    exact (q2 _ _ (by omega) (by omega)).trans ((h5 j k a b d).trans (c2 _ _ (by omega)).symm)
  · rw [c1] at d
    show Q'.2 19 q = b2 (tbI (C'.1 4) (nI q))
    rw [c1, q2 _ _ (by omega) (by omega)]; exact h6 q d
  · rw [c1] at d
    exact (q2 _ _ (by omega) (by omega)).trans ((h7 j k a b d).trans (c2 _ _ (by omega)).symm)
  · exact (q2 _ _ (by omega) (by omega)).trans ((h8 j k a b d).trans (c2 _ _ (by omega)).symm)
  · rw [q2 _ _ (by omega) (by omega)]; exact h10 k d
theorem RQ.shv (h : RQ C Q) {k q : Nat} (hq : q < 4) (h1 : 12 ≤ k) (h2 : k < 14) : Q.2 k q = C.2 k q := h.2.2.2.2.2.2.2.1 k q h1 h2 hq
theorem RQ.shc (h : RQ C Q) {k i : Nat} (hk : k < 4) (hi : i < 100) : Q.2 18 (100 * k + i) = C.2 (14 + k) i := h.2.2.2.2.2.2.2.2.1 k i hk hi
theorem RQ.wsh (h : RQ C Q) {k i : Nat} (hk : k < 4) (hi : i < 100) (v : Int32) : RQ (pa C (14 + k) i v) (pa Q 18 (100 * k + i) v) := by
  refine h.w18 rfl rfl (fun j q z => by rw [pa_val, if_neg (by omega)]) (fun j q z z2 => by rw [pa_val, if_neg (by omega)]) (fun j q hj hq => ?_)
  rw [pa_val, pa_val, h.shc hj hq]
  by_cases e : 14 + j = 14 + k ∧ q = i
  · rw [if_pos e, if_pos (by omega)]
  · rw [if_neg e, if_neg (by omega)]
def zq (P : PT) (k m : Nat) : PT := (P.1, fun j => if j = 18 then (fun i => if 100 * k ≤ i ∧ i < 100 * k + m then nI 0 else P.2 18 i) else P.2 j)
theorem zq_v (P : PT) (k m j i : Nat) : (zq P k m).2 j i = if j = 18 ∧ (100 * k ≤ i ∧ i < 100 * k + m) then nI 0 else P.2 j i := by
  show (if j = 18 then (fun i => if 100 * k ≤ i ∧ i < 100 * k + m then nI 0 else P.2 18 i) else P.2 j) i = _
  by_cases h : j = 18
  · subst h
    rw [if_pos rfl]
    by_cases e : 100 * k ≤ i ∧ i < 100 * k + m
    · exact (if_pos e).trans (if_pos (⟨rfl, e⟩ : _ ∧ _)).symm
    · exact (if_neg e).trans (if_neg (fun z => e z.2)).symm
  · rw [if_neg h, if_neg (fun z => h z.1)]
theorem zq_0 (P : PT) (k : Nat) : zq P k 0 = P := PT_ext rfl (fun j i => by rw [zq_v, if_neg (by omega)])
theorem zq_s (P : PT) (k i : Nat) : pa (zq P k i) 18 (100 * k + i) (nI 0) = zq P k (i + 1) := PT_ext rfl (fun j q => by
  rw [pa_val, zq_v, zq_v]
  by_cases e : j = 18 ∧ q = 100 * k + i
  · rw [if_pos e, if_pos (by omega)]
  · rw [if_neg e]
    by_cases e2 : j = 18 ∧ (100 * k ≤ q ∧ q < 100 * k + i)
    · rw [if_pos e2, if_pos (by omega)]
    · rw [if_neg e2, if_neg (by omega)])
theorem zf_v (P : PT) (k m j i : Nat) : (zf P k m).2 j i = if j = 14 + k ∧ i < m then nI 0 else P.2 j i := by
  show (if j = 14 + k then (fun i => if i < m then nI 0 else P.2 (14 + k) i) else P.2 j) i = _
  by_cases h : j = 14 + k
  · subst h
    rw [if_pos rfl]
    by_cases e : i < m
    · exact (if_pos e).trans (if_pos (⟨rfl, e⟩ : _ ∧ _)).symm
    · exact (if_neg e).trans (if_neg (fun z => e z.2)).symm
  · rw [if_neg h, if_neg (fun z => h z.1)]
theorem RQ.zero (h : RQ C Q) {k m : Nat} (hk : k < 4) (hm : m ≤ 100) : RQ (zf C k m) (zq Q k m) := by
  refine h.w18 rfl rfl (fun j q z => by rw [zf_v, if_neg (by omega)]) (fun j q z z2 => by rw [zq_v, if_neg (by omega)]) (fun j q hj hq => ?_)
  rw [zf_v, zq_v, h.shc hj hq]
  by_cases e : 14 + j = 14 + k ∧ q < m
  · rw [if_pos e, if_pos (by omega)]
  · rw [if_neg e, if_neg (by omega)]
def cq (P : PT) (o jj m : Nat) : PT := (P.1, fun j => if j = 18 then (fun i => if 100 * o + jj ≤ i ∧ i < 100 * o + jj + m then P.2 28 (i - (100 * o + jj)) else P.2 18 i) else P.2 j)
theorem cq_v (P : PT) (o jj m j i : Nat) : (cq P o jj m).2 j i = if j = 18 ∧ (100 * o + jj ≤ i ∧ i < 100 * o + jj + m) then P.2 28 (i - (100 * o + jj)) else P.2 j i := by
  show (if j = 18 then (fun i => if 100 * o + jj ≤ i ∧ i < 100 * o + jj + m then P.2 28 (i - (100 * o + jj)) else P.2 18 i) else P.2 j) i = _
  by_cases h : j = 18
  · subst h
    rw [if_pos rfl]
    by_cases e : 100 * o + jj ≤ i ∧ i < 100 * o + jj + m
    · exact (if_pos e).trans (if_pos (⟨rfl, e⟩ : _ ∧ _)).symm
    · exact (if_neg e).trans (if_neg (fun z => e z.2)).symm
  · rw [if_neg h, if_neg (fun z => h z.1)]
theorem cq_0 (P : PT) (o jj : Nat) : cq P o jj 0 = P := PT_ext rfl (fun j i => by rw [cq_v, if_neg (by omega)])
theorem cq_s (P : PT) (o jj i : Nat) : pa (cq P o jj i) 18 (100 * o + jj + i) (P.2 28 i) = cq P o jj (i + 1) := PT_ext rfl (fun j q => by
  rw [pa_val, cq_v, cq_v]
  by_cases e : j = 18 ∧ q = 100 * o + jj + i
  · rw [if_pos e, if_pos (by omega), show q - (100 * o + jj) = i by omega]
  · rw [if_neg e]
    by_cases e2 : j = 18 ∧ (100 * o + jj ≤ q ∧ q < 100 * o + jj + i)
    · rw [if_pos e2, if_pos (by omega)]
    · rw [if_neg e2, if_neg (by omega)])
theorem cpy_v (P : PT) (k i o j n x z : Nat) : (cpy P k i o j n).2 x z = if x = 14 + o ∧ (j ≤ z ∧ z < j + n) then P.2 (14 + k) (i + (z - j)) else P.2 x z := by
  show (if x = 14 + o then va_cpy (P.2 (14 + k)) (P.2 (14 + o)) i j n else P.2 x) z = _
  by_cases h : x = 14 + o
  · subst h
    rw [if_pos rfl]; unfold va_cpy
    by_cases e : j ≤ z ∧ z < j + n
    · rw [if_pos e, if_pos ⟨rfl, e⟩]
    · rw [if_neg e, if_neg (fun y => e y.2)]
  · rw [if_neg h, if_neg (fun y => h y.1)]
theorem RQ.copy (h : RQ C Q) {k o ii jj m : Nat} (hk : k < 4) (ho : o < 4) (hj : jj + m ≤ 100) (hh : ∀ x, x < m → Q.2 28 x = C.2 (14 + k) (ii + x)) : RQ (cpy C k ii o jj m) (cq Q o jj m) := by
  refine h.w18 rfl rfl (fun j q z => by rw [cpy_v, if_neg (by omega)]) (fun j q z z2 => by rw [cq_v, if_neg (by omega)]) (fun j q hj hq => ?_)
  rw [cpy_v, cq_v, h.shc hj hq]
  by_cases e : 14 + j = 14 + o ∧ (jj ≤ q ∧ q < jj + m)
  · rw [if_pos e, if_pos (by omega), hh _ (by omega), show 100 * j + q - (100 * o + jj) = q - jj by omega]
  · rw [if_neg e, if_neg (by omega)]
/-! sizes -/
theorem m1_I : (-1 : Int32).toInt = -1 := rfl
theorem z_I : (0 : Int32).toInt = 0 := rfl
theorem nI_m1 {m : Nat} (h : m < 2 ^ 31) : ¬ nI m = -1 := by
  rw [i_eq, nI_toInt h, m1_I]; omega
theorem sh_nn (h : SH C) {k : Nat} (hk : k < 4) (hr : ¬ C.2 13 k = -1) : ∃ m, m ≤ 100 ∧ C.2 13 k = nI m := (h k hk).resolve_left hr
theorem sh_ne {x : Int32} (h : ¬ x < 0) : ¬ x = -1 := fun e => h (by rw [e]; decide)
theorem sh_ge0 {x : Int32} (h : 0 ≤ x) : ¬ x = -1 := fun e => by rw [e] at h; exact absurd h (by decide)
theorem sh_lt0 (h : SH C) {k : Nat} (hk : k < 4) (hr : C.2 13 k < 0) : C.2 13 k = -1 := by
  rcases h k hk with e | ⟨m, hm, e⟩
  · exact e
  · rw [e] at hr; exact absurd hr (nI_pos (by omega))
theorem sh_lt (h : SH C) {k : Nat} (hk : k < 4) (hr : ¬ 0 ≤ C.2 13 k) : C.2 13 k = -1 := by
  rcases h k hk with e | ⟨m, hm, e⟩
  · exact e
  · rw [e] at hr; exact absurd (nI_pos' (by omega)) hr
theorem inS_N {x : Int32} {m : Nat} (hm : m < 2 ^ 31) : inS x (nI m) ↔ inN m x := by
  constructor
  · rintro ⟨h0, h1⟩
    rw [i_lt] at h0 h1
    have z : (nI 0).toInt = 0 := rfl
    obtain ⟨j, hj, rfl⟩ := i_of (x := x) (by omega)
    rw [nI_toInt hj, nI_toInt hm] at h1
    exact ⟨j, by omega, rfl⟩
  · rintro ⟨j, hj, rfl⟩
    exact ⟨nI_pos (by omega), (nI_ltI (by omega) hm).mpr hj⟩
noncomputable def ncS (C : PT) (k : Nat) (x : Int32) : Int32 := cif (¬ C.2 13 k = -1) (cif (inS x (C.2 13 k)) (nI 0) (nI 3)) (nI 1)
theorem ncS_1 {k : Nat} {x : Int32} (h : C.2 13 k = -1) : nI 1 = ncS C k x := by unfold ncS; rw [cif_f (fun z => z h)]
theorem ncS_z {k m : Nat} {x : Int32} (h : C.2 13 k = nI m) (hm : m ≤ 100) (hx : inN m x) : nI 0 = ncS C k x := by
  unfold ncS; rw [cif_t (by rw [h]; exact nI_m1 (by omega)), cif_t (by rw [h]; exact (inS_N (by omega)).mpr hx)]
theorem ncS_3 {k m : Nat} {x : Int32} (h : C.2 13 k = nI m) (hm : m ≤ 100) (hx : ¬ inN m x) : nI 3 = ncS C k x := by
  unfold ncS; rw [cif_t (by rw [h]; exact nI_m1 (by omega)), cif_f (fun z => by rw [h] at z; exact hx ((inS_N (by omega)).mp z))]
theorem ncS_le {k : Nat} {x : Int32} (h : ncS C k x ≤ 0) : ¬ C.2 13 k = -1 ∧ inS x (C.2 13 k) := by
  unfold ncS at h
  by_cases e : C.2 13 k = -1
  · rw [cif_f (fun z => z e)] at h; exact absurd h (by decide)
  · refine ⟨e, ?_⟩
    rw [cif_t e] at h
    by_cases e2 : inS x (C.2 13 k)
    · exact e2
    · rw [cif_f e2] at h; exact absurd h (by decide)
theorem ansPut_bad {j : Nat} (hj : j < 4) {x v : Int32} (h : ¬ ncS C j x ≤ 0) : ansPut C (nI j) x v = ((-10) - ncS C j x, pg C 10 (ncS C j x)) := by
  unfold ansPut
  rw [cif_t ⟨j, hj, rfl⟩, dN_nI (by omega)]
  unfold ncS at h ⊢
  by_cases e : C.2 13 j = -1
  · rw [cif_f (fun z => z e), cif_f (fun z => z e), pg_pg]; rfl
  · rw [cif_t e] at h ⊢
    rw [cif_t e]
    by_cases e2 : inS x (C.2 13 j)
    · rw [cif_t e2] at h; exact absurd (by decide) h
    · rw [cif_f e2, cif_f e2, pg_pg]; rfl
theorem ansCell_cast {j : Nat} (hj : j < 4) {x lane : Int32} (hl : inR 0 2 lane) (h1 : ¬ C.2 13 j = -1) (h2 : ¬ C.2 12 j = lane) : ansCell C (nI j) x lane = (LOST, pg C 10 (nI 2)) := by
  have hf : fas C j lane = nI 2 := by unfold fas; rw [cif_t h1, cif_f h2]
  unfold ansCell
  rw [cif_t ⟨j, hj, rfl⟩, dN_nI (by omega), cif_t hl, hf, cif_f (by decide), pg_pg]
theorem ansCell_bad {j : Nat} (hj : j < 4) {x lane : Int32} (hl : inR 0 2 lane) (h1 : C.2 13 j = -1 ∨ C.2 12 j = lane) (h : ¬ ncS C j x ≤ 0) : ansCell C (nI j) x lane = (LOST, pg C 10 (ncS C j x)) := by
  unfold ansCell
  rw [cif_t ⟨j, hj, rfl⟩, dN_nI (by omega), cif_t hl]
  by_cases e : C.2 13 j = -1
  · have hf : fas C j lane = nI 1 := by unfold fas; rw [cif_f (fun z => z e)]
    rw [hf, cif_f (by decide), pg_pg, ← ncS_1 e]
  · have hf : fas C j lane = nI 0 := by unfold fas; rw [cif_t e, cif_t (h1.resolve_left e)]
    rw [hf, cif_t (show nI 0 = 0 from rfl)]
    unfold ncS at h ⊢
    rw [cif_t e] at h ⊢
    by_cases e2 : inS x (C.2 13 j)
    · rw [cif_t e2] at h; exact absurd (by decide) h
    · rw [cif_f e2, cif_f e2, pg_pg, pg_pg]
theorem ansCell_ok {j ii : Nat} (hj : j < 4) (hii : ii < 100) {lane : Int32} (hl : inR 0 2 lane) (h1 : ¬ C.2 13 j = -1) (h2 : C.2 12 j = lane) (h3 : inS (nI ii) (C.2 13 j)) : ansCell C (nI j) (nI ii) lane = ((C.2 (14 + j) ii).toInt64, pg C 10 (nI 0)) := by
  have hf : fas C j lane = nI 0 := by unfold fas; rw [cif_t h1, cif_t h2]
  unfold ansCell
  rw [cif_t ⟨j, hj, rfl⟩, dN_nI (by omega), cif_t hl, hf, cif_t (show nI 0 = 0 from rfl), cif_t h3, dN_nI (by omega), pg_pg]
theorem beyond_iff {x n : Int32} {m : Nat} (hm : m ≤ 100) (h0 : ¬ x < 0) (h1 : ¬ n < 0) : lg_cmp (x.toInt64 + n.toInt64) (nI m).toInt64 ≤ 0 ↔ ¬ nI m - x < n := by
  rw [i_lt, z_I] at h0 h1
  have r1 := i_rng x
  have r2 := i_rng n
  rw [lg_cmp_le, Int64.le_iff_toInt_le, Int64.toInt_add, Int32.toInt_toInt64, Int32.toInt_toInt64, Int32.toInt_toInt64, nI_toInt (by omega), i_lt, Int32.toInt_sub, nI_toInt (by omega)]
  have b1 : (x.toInt + n.toInt).bmod (2 ^ 64) = x.toInt + n.toInt := by apply Int.bmod_eq_of_le <;> omega
  have b2 : ((m : Int) - x.toInt).bmod (2 ^ 32) = (m : Int) - x.toInt := by apply Int.bmod_eq_of_le <;> omega
  rw [b1, b2]; omega
theorem neg_L {n : Int32} : lg_cmp n.toInt64 0 < 0 ↔ n < 0 := by
  rw [lg_cmp_lt, Int64.lt_iff_toInt_lt, Int32.toInt_toInt64, i_lt, z_I]; exact Iff.rfl
theorem sheet_eq (P : PT) (k m : Nat) (u v z : Int32) : zf (pa (pa (pg P 10 z) 12 k u) 13 k v) k m = pg (zf (pa (pa P 13 k v) 12 k u) k m) 10 z := by
  rw [pa_comm P (k := 13) (j := 12) k k v u (by decide)]; rfl
theorem RQ.lose (h : RQ C Q) {k : Nat} : RQ (pa C 13 k (-1)) (pa Q 13 k (-1)) := h.wpa (by decide) k (-1)
end RQ6
