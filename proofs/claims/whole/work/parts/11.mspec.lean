/-! the reference's own words -/
theorem in_iff {x : Int32} {lo hi : Int64} {a b : Int} (h1 : lo.toInt = a) (h2 : hi.toInt = b) : (¬ lg_cmp x.toInt64 lo < 0 ∧ ¬ 0 < lg_cmp x.toInt64 hi) ↔ a ≤ x.toInt ∧ x.toInt ≤ b := by
  rw [lg_cmp_lt, lg_cmp_gt, Int64.lt_iff_toInt_lt, Int64.lt_iff_toInt_lt, Int32.toInt_toInt64, h1, h2]
  omega
theorem rngI {x : Int32} {n : Nat} (hn : n < 2 ^ 31) : ((0 : Int) ≤ x.toInt ∧ x.toInt ≤ (n : Int) - 1) ↔ inN n x := by
  constructor
  · intro h
    obtain ⟨j, hj, rfl⟩ := i_of (x := x) (by omega)
    have := nI_toInt hj
    exact ⟨j, by omega, rfl⟩
  · rintro ⟨j, hj, rfl⟩
    have := nI_toInt (n := j) (by omega)
    omega
theorem rngR {x : Int32} {lo hi : Nat} (h2 : hi < 2 ^ 31) : ((lo : Int) ≤ x.toInt ∧ x.toInt ≤ (hi : Int)) ↔ inR lo hi x := by
  constructor
  · intro h
    obtain ⟨j, hj, rfl⟩ := i_of (x := x) (by omega)
    have := nI_toInt hj
    exact ⟨j, by omega, by omega, rfl⟩
  · rintro ⟨j, h3, h4, rfl⟩
    have := nI_toInt (n := j) (by omega)
    omega
theorem l_sub1 {n : Nat} (hn : n < 2 ^ 31) : ((nI n).toInt64 - 1).toInt = (n : Int) - 1 := by
  rw [Int64.toInt_sub, Int32.toInt_toInt64, nI_toInt hn]
  have e : (1 : Int64).toInt = 1 := rfl
  rw [e]
  apply Int.bmod_eq_of_le <;> omega
theorem in_N {x : Int32} {n : Nat} (hn : n < 2 ^ 31) : (¬ lg_cmp x.toInt64 0 < 0 ∧ ¬ 0 < lg_cmp x.toInt64 ((nI n).toInt64 - 1)) ↔ inN n x := (in_iff (a := 0) rfl (l_sub1 hn)).trans (rngI hn)
theorem in_R {x : Int32} {L M : Int64} {lo hi : Nat} (h1 : L.toInt = lo) (h2 : M.toInt = hi) (h3 : hi < 2 ^ 31) : (¬ lg_cmp x.toInt64 L < 0 ∧ ¬ 0 < lg_cmp x.toInt64 M) ↔ inR lo hi x := (in_iff h1 h2).trans (rngR h3)
def farE (x z : Int32) : Int32 := if x < z then z - x else x - z
theorem far_dst {a b : Nat} (ha : a < 2 ^ 30) (hb : b < 2 ^ 30) : farE (nI a - nI b) (nI 0) = nI (dst a b) := by
  have e := pk_sub_toInt ha hb
  have z : (nI 0).toInt = 0 := rfl
  unfold farE
  by_cases h : b ≤ a
  · rw [if_neg (by rw [i_lt, e, z]; omega), pk_sub h]
    unfold dst; rw [show b - a = 0 by omega]
    show nI (a - b) - nI 0 = nI (a - b + 0)
    rw [pk_sub (Nat.zero_le _)]; rfl
  · rw [if_pos (by rw [i_lt, e, z]; omega)]
    show (0 : Int32) - (nI a - nI b) = _
    rw [Int32.zero_sub, Int32.neg_sub, pk_sub (by omega)]; unfold dst; rw [show a - b = 0 by omega, Nat.zero_add]
theorem gcd_gcS {a b : Nat} (h : ¬ (a = 0 ∧ b = 0)) : Nat.gcd a b = gcS a b := by
  unfold gcS
  rw [if_neg (fun q => h (Nat.gcd_eq_zero_iff.mp q))]
def chkM (w a b : Nat) : Bool := (List.range 6).all fun M => !(decide (dst (b / w) (a / w) % M = 0) && decide (dst (b % w) (a % w) % M = 0)) || (List.range M).all fun m => decide (nI a + (nI (b / w) - nI (a / w)) / nI M * nI m * nI w + (nI (b % w) - nI (a % w)) / nI M * nI m = nI ((a * (M - m) + b * m) / M))
def chkW (w : Nat) : Bool := (List.range 30).all fun a => (List.range 30).all fun b => chkM w a b
theorem chkW_2 : chkW 2 = true := by decide +kernel
theorem chkW_3 : chkW 3 = true := by decide +kernel
theorem chkW_4 : chkW 4 = true := by decide +kernel
theorem chkW_5 : chkW 5 = true := by decide +kernel
theorem chkW_6 : chkW 6 = true := by decide +kernel
theorem posM_tab {w : Nat} (hw : w < 7) (hw2 : 2 ≤ w) {a b M m : Nat} (ha : a < 30) (hb : b < 30) (hM : M < 6) (h1 : dst (b / w) (a / w) % M = 0) (h2 : dst (b % w) (a % w) % M = 0) (hm : m < M) : nI a + (nI (b / w) - nI (a / w)) / nI M * nI m * nI w + (nI (b % w) - nI (a % w)) / nI M * nI m = nI ((a * (M - m) + b * m) / M) := by
  have h : chkW w = true := by
    rcases (show w = 2 ∨ w = 3 ∨ w = 4 ∨ w = 5 ∨ w = 6 by omega) with e | e | e | e | e <;> subst e
    · exact chkW_2
    · exact chkW_3
    · exact chkW_4
    · exact chkW_5
    · exact chkW_6
  have h3 := List.all_eq_true.mp (List.all_eq_true.mp h a (List.mem_range.mpr ha)) b (List.mem_range.mpr hb)
  have h4 := List.all_eq_true.mp h3 M (List.mem_range.mpr hM)
  simp only [h1, h2, decide_true, Bool.and_self, Bool.not_true, Bool.false_or] at h4
  exact of_decide_eq_true (List.all_eq_true.mp h4 m (List.mem_range.mpr hm))
theorem posM {w a b M m : Nat} (hw : w < 7) (hw2 : 2 ≤ w) (ha : a < 30) (hb : b < 30) (hM : M < 6) (h1 : M ∣ dst (b / w) (a / w)) (h2 : M ∣ dst (b % w) (a % w)) (hm : m < M) : nI a + (nI (b / w) - nI (a / w)) / nI M * nI m * nI w + (nI (b % w) - nI (a % w)) / nI M * nI m = nI (pos a b M m) :=
  posM_tab hw hw2 ha hb hM (Nat.mod_eq_zero_of_dvd h1) (Nat.mod_eq_zero_of_dvd h2) hm
theorem or_nI0 (x : Int32) : x ||| nI 0 = x := Int32.or_zero
theorem and1 {b : Nat} (h : b < 2 ^ 31) : nI b &&& nI 1 = nI (b % 2) := pk_andN (by omega) 1 rfl
theorem shr1 {b : Nat} (h : b < 2 ^ 31) : nI b >>> (nI 1 &&& 31) = nI (b / 2) := pk_shrN h _ 1 rfl
theorem pcn_half (b : Nat) (h : b < 256) : pcn b = b % 2 + pcn (b / 2) := by unfold pcn; omega
/-- the reference's state is sound: w wide, c cells, n houses, t trees, hi high -/
abbrev flQ (P : PT) : Nat → Prop := fun k => ¬ P.2 19 k = 0
def IQ (P : PT) (w c n t hi : Nat) : Prop :=
  (P.1 0 = nI w ∧ P.1 2 = nI n ∧ P.1 3 = nI t ∧ P.1 11 = nI hi ∧ c = hi * w ∧ n ≤ 9 ∧ t ≤ 8 ∧ c ≤ 30) ∧ (0 < c → VW w c) ∧
  (∀ h, h < n → P.2 4 h = nI (plN P h) ∧ plN P h < c) ∧ (∀ i j, i < n → j < n → plN P i = plN P j → i = j) ∧ VT P c 9
section IQS
variable {P : PT} {w c n t hi : Nat}
theorem IQ.ww (h : IQ P w c n t hi) : P.1 0 = nI w := h.1.1
theorem IQ.nn (h : IQ P w c n t hi) : P.1 2 = nI n := h.1.2.1
theorem IQ.tt (h : IQ P w c n t hi) : P.1 3 = nI t := h.1.2.2.1
theorem IQ.hh (h : IQ P w c n t hi) : P.1 11 = nI hi := h.1.2.2.2.1
theorem IQ.cc (h : IQ P w c n t hi) : c = hi * w := h.1.2.2.2.2.1
theorem IQ.n9 (h : IQ P w c n t hi) : n ≤ 9 := h.1.2.2.2.2.2.1
theorem IQ.t8 (h : IQ P w c n t hi) : t ≤ 8 := h.1.2.2.2.2.2.2.1
theorem IQ.c30 (h : IQ P w c n t hi) : c ≤ 30 := h.1.2.2.2.2.2.2.2
end IQS
/-- how many houses a house sees, by the reference -/
abbrev mfp (P : PT) (w h : Nat) : Nat → Prop := fun o => ¬ o = h ∧ sClr w (P.1 6) (sTop P (P.1 5) (flQ P)) (plN P h) (plN P o)
noncomputable def mNum (P : PT) (w n h : Nat) : Nat := cn (mfp P w h) n
theorem mNum_le (P : PT) (w n h : Nat) : mNum P w n h ≤ n := cn_le _ _
noncomputable def mHav (P : PT) (w n : Nat) (v : Int32) : Int32 := msk (fun h => nI (mNum P w n h) = v) n
/-- the reference's rows: felled trees as truth values -/
def FB (P : PT) : Prop := ∀ k, k < 8 → P.2 19 k = nI 0 ∨ P.2 19 k = nI 1
theorem vn_b {x : Int32} (h : x = nI 0 ∨ x = nI 1) : vp_nar .boolean x = x := by rcases h with rfl | rfl <;> rfl
noncomputable def fA (P : PT) (set is : Int32) (t : Nat) : PT := (P.1, fun j => if j = 19 then (fun k => cif (k < t ∧ tbI set (nI k)) is (P.2 19 k)) else P.2 j)
theorem PT_ext {A B : PT} (h1 : A.1 = B.1) (h2 : ∀ j k, A.2 j k = B.2 j k) : A = B := by
  have : A.2 = B.2 := funext (fun j => funext (fun k => h2 j k))
  show (A.1, A.2) = (B.1, B.2)
  rw [h1, this]
theorem fA_at (P : PT) (set is : Int32) (t k : Nat) : (fA P set is t).2 19 k = cif (k < t ∧ tbI set (nI k)) is (P.2 19 k) := by
  show (if (19 : Nat) = 19 then (fun k => cif (k < t ∧ tbI set (nI k)) is (P.2 19 k)) else P.2 19) k = _
  rw [if_pos rfl]
theorem fA_ne (P : PT) (set is : Int32) (t : Nat) {j : Nat} (h : j ≠ 19) : (fA P set is t).2 j = P.2 j := by
  show (if j = 19 then (fun k => cif (k < t ∧ tbI set (nI k)) is (P.2 19 k)) else P.2 j) = _
  rw [if_neg h]
theorem fA_0 (P : PT) (set is : Int32) : fA P set is 0 = P := by
  refine PT_ext rfl (fun j k => ?_)
  by_cases h : j = 19
  · subst h; rw [fA_at, cif_f (fun z => absurd z.1 (Nat.not_lt_zero _))]
  · rw [fA_ne _ _ _ _ h]
theorem fA_s (P : PT) (set is : Int32) (i : Nat) {v : Int32} (hv : v = cif (tbI set (nI i)) is (P.2 19 i)) (h01 : v = nI 0 ∨ v = nI 1) : pa (fA P set is i) 19 i (vp_nar .boolean v) = fA P set is (i + 1) := by
  rw [vn_b h01]
  refine PT_ext rfl (fun j k => ?_)
  by_cases h : j = 19
  · subst h
    rw [pa_at, fA_at]; unfold upd
    by_cases e : k = i
    · rw [if_pos e, hv, e]
      exact cif_iff ⟨fun z => ⟨by omega, z⟩, fun z => z.2⟩
    · rw [if_neg e, fA_at]
      exact cif_iff ⟨fun z => ⟨by omega, z.2⟩, fun z => ⟨by omega, z.2⟩⟩
  · rw [pa_ne _ _ _ h, fA_ne _ _ _ _ h, fA_ne _ _ _ _ h]
theorem fA_FB {P : PT} (h : FB P) {is : Int32} (hi : is = nI 0 ∨ is = nI 1) (set : Int32) (t : Nat) : FB (fA P set is t) := by
  intro k hk
  rw [fA_at]
  by_cases e : k < t ∧ tbI set (nI k)
  · rw [cif_t e]; exact hi
  · rw [cif_f e]; exact h k hk
theorem mclr_end {w : Nat} {fog : Int32} {tp : Nat → Int32} {a b : Nat} {g : Prop} {d1 d2 M m : Nat} (e1 : d1 = dst (b / w) (a / w)) (e2 : d2 = dst (b % w) (a % w)) (e3 : M = gcS d1 d2) (hm : m ≤ M) (hg : g ↔ (nI (max d1 d2) ≤ fog ∧ ∀ k, 0 < k → k < m → tp (pos a b M k) * nI M < tp a * nI M + nI k * (tp b - tp a))) (h : M ≤ m ∨ ¬ g) : g ↔ sClr w fog tp a b := by
  subst e1; subst e2; subst e3
  constructor
  · intro z
    have z2 := hg.mp z
    rcases h with h | h
    · exact ⟨z2.1, fun k h1 h2 => z2.2 k h1 (by omega)⟩
    · exact absurd z h
  · intro z
    exact hg.mpr ⟨z.1, fun k h1 h2 => z.2 k h1 (by omega)⟩
theorem max_le {a b : Nat} (ha : a < 2 ^ 31) (hb : b < 2 ^ 31) {f : Int32} (h1 : ¬ f < nI a) (h2 : ¬ f < nI b) : nI (max a b) ≤ f := by
  rw [i_lt] at h1 h2
  rw [i_le]
  rcases Nat.le_total a b with h | h
  · rw [Nat.max_eq_right h]; omega
  · rw [Nat.max_eq_left h]; omega
theorem max_nle {a b : Nat} (ha : a < 2 ^ 31) (hb : b < 2 ^ 31) {f : Int32} (h : f < nI a ∨ f < nI b) : ¬ nI (max a b) ≤ f := by
  intro z
  rw [i_le] at z
  have e1 := nI_toInt ha
  have e2 := nI_toInt hb
  rcases Nat.le_total a b with q | q
  · rw [Nat.max_eq_right q] at z
    rcases h with h | h <;> (rw [i_lt] at h; omega)
  · rw [Nat.max_eq_left q] at z
    rcases h with h | h <;> (rw [i_lt] at h; omega)
theorem mstep {tp : Nat → Int32} {fog : Int32} {g : Prop} {d1 d2 M m a b : Nat} {x z : Int32} (hg : g ↔ (nI (max d1 d2) ≤ fog ∧ ∀ k, 0 < k → k < m → tp (pos a b M k) * nI M < tp a * nI M + nI k * (tp b - tp a))) (hgt : g) (hx : x = tp (pos a b M m) * nI M) (hz : z = tp a * nI M + nI m * (tp b - tp a)) (hm : 0 < m) : (¬ z ≤ x) ↔ (nI (max d1 d2) ≤ fog ∧ ∀ k, 0 < k → k < m + 1 → tp (pos a b M k) * nI M < tp a * nI M + nI k * (tp b - tp a)) := by
  have h0 := hg.mp hgt
  constructor
  · intro h
    refine ⟨h0.1, fun k h1 h2 => ?_⟩
    rcases Nat.lt_or_ge k m with h3 | h3
    · exact h0.2 k h1 h3
    · rw [show k = m by omega, ← hx, ← hz, i_lt]; rw [i_le] at h; omega
  · intro h q
    have := h.2 m hm (by omega)
    rw [← hx, ← hz, i_lt] at this
    rw [i_le] at q; omega
theorem add_nI0 (x : Int32) : x + nI 0 = x := Int32.add_zero x
