/-! THE WORDS: what heights, lines and numbers are, over a state -/
noncomputable def cif {α : Type} (p : Prop) (a b : α) : α := @ite α p (Classical.propDecidable p) a b
theorem cif_t {α : Type} {p : Prop} {a b : α} (h : p) : cif p a b = a := by unfold cif; rw [if_pos h]
theorem cif_f {α : Type} {p : Prop} {a b : α} (h : ¬ p) : cif p a b = b := by unfold cif; rw [if_neg h]
theorem cif_iff {α : Type} {p q : Prop} {a b : α} (h : p ↔ q) : cif p a b = cif q a b := by rw [propext h]
def tbI (set k : Int32) : Prop := (set >>> (k &&& 31)) &&& nI 1 = nI 1
theorem i_lt {a b : Int32} : a < b ↔ a.toInt < b.toInt := Int32.lt_iff_toInt_lt
theorem i_le {a b : Int32} : a ≤ b ↔ a.toInt ≤ b.toInt := Int32.le_iff_toInt_le
theorem i_eq {a b : Int32} : a = b ↔ a.toInt = b.toInt := ⟨fun h => by rw [h], fun h => Int32.toInt_inj.mp h⟩
theorem i_rng (x : Int32) : -2147483648 ≤ x.toInt ∧ x.toInt < 2147483648 := ⟨Int32.le_toInt x, Int32.toInt_lt x⟩
theorem i_of {x : Int32} (h : 0 ≤ x.toInt) : ∃ j : Nat, j < 2 ^ 31 ∧ x = nI j := nI_of (by rw [i_lt]; show ¬ x.toInt < 0; omega)
theorem i_sub1 {n : Nat} (hn : n < 2 ^ 31) : (nI n - nI 1).toInt = (n : Int) - 1 := by
  rcases Nat.eq_zero_or_pos n with h | h
  · subst h; rfl
  · rw [pk_sub h, nI_toInt (by omega)]; omega
theorem rng_iff {x : Int32} {n : Nat} (hn : n < 2 ^ 31) : (¬ x < nI 0 ∧ ¬ nI n - nI 1 < x) ↔ ∃ j, j < n ∧ x = nI j := by
  rw [i_lt, i_lt, i_sub1 hn]
  constructor
  · intro h
    have h0 : ¬ x.toInt < (0 : Int) := h.1
    obtain ⟨j, hj, rfl⟩ := i_of (x := x) (by omega)
    have := nI_toInt hj
    exact ⟨j, by omega, rfl⟩
  · rintro ⟨j, hj, rfl⟩
    have := nI_toInt (n := j) (by omega)
    have h0 : (nI 0).toInt = 0 := rfl
    omega
theorem wth_iff {x : Int32} {lo hi : Nat} (h1 : lo < 2 ^ 31) (h2 : hi < 2 ^ 31) : (¬ x < nI lo ∧ ¬ nI hi < x) ↔ ∃ j, lo ≤ j ∧ j ≤ hi ∧ x = nI j := by
  rw [i_lt, i_lt, nI_toInt h1, nI_toInt h2]
  constructor
  · intro h
    obtain ⟨j, hj, rfl⟩ := i_of (x := x) (by omega)
    have := nI_toInt hj
    exact ⟨j, by omega, by omega, rfl⟩
  · rintro ⟨j, h3, h4, rfl⟩
    have := nI_toInt (n := j) (by omega)
    omega
theorem wi_iff {x : Int32} {n : Nat} (hn : n < 2 ^ 31) : (¬ x < nI 0 ∧ ¬ nI n < x) ↔ ∃ j, j < n + 1 ∧ x = nI j := by
  rw [wth_iff (by decide) hn]
  exact ⟨fun ⟨j, _, h2, h3⟩ => ⟨j, by omega, h3⟩, fun ⟨j, h2, h3⟩ => ⟨j, Nat.zero_le _, by omega, h3⟩⟩
theorem nI_inj {a b : Nat} (ha : a < 2 ^ 31) (hb : b < 2 ^ 31) (h : nI a = nI b) : a = b := (nI_eq ha hb).mp h
/-- how tall a house is with so many floors -/
noncomputable def sHt (P : PT) (h : Nat) (fl : Int32) : Int32 := cif (nI 1 < P.2 3 h) (cif (nI 0 < P.2 3 h) (P.2 5 h + fl + P.1 7) (P.2 5 h + fl) + nI 3) (cif (nI 0 < P.2 3 h) (P.2 5 h + fl + P.1 7) (P.2 5 h + fl))
noncomputable def sTr (P : PT) (t : Nat) (yr : Int32) (fl : Prop) : Int32 := cif fl (nI 0) (P.2 8 t + yr / nI 2)
def thN (P : PT) (c : Nat) : Nat := (P.2 2 c).toNatClampNeg
noncomputable def sOn (P : PT) (yr : Int32) (fl : Nat → Prop) (c : Nat) : Int32 := cif (thN P c = 0) (P.2 1 c) (cif (thN P c < 20) (sHt P (thN P c - 10) (P.2 6 (thN P c - 10))) (sTr P (thN P c - 20) yr (fl (thN P c - 20))))
noncomputable def sTop (P : PT) (yr : Int32) (fl : Nat → Prop) (c : Nat) : Int32 := P.2 0 c + sOn P yr fl c
def VT (P : PT) (c m : Nat) : Prop := ∀ q, q < c → P.2 2 q = nI 0 ∨ (∃ h, h < m ∧ P.2 2 q = nI (10 + h)) ∨ ∃ k, k < 8 ∧ P.2 2 q = nI (20 + k)
def VW (w c : Nat) : Prop := 2 ≤ w ∧ w ≤ 6 ∧ ∃ hi, 1 ≤ hi ∧ hi ≤ 5 ∧ c = hi * w
theorem VW.le {w c : Nat} (h : VW w c) : c ≤ 30 := by
  obtain ⟨h1, h2, hi, h3, h4, rfl⟩ := h
  calc hi * w ≤ 5 * 6 := Nat.mul_le_mul h4 h2
    _ = 30 := rfl
theorem thN_of {P : PT} {c k : Nat} (h : P.2 2 c = nI k) (hk : k < 2 ^ 31) : thN P c = k := by unfold thN; rw [h, nI_clamp hk]
theorem ge1_iff {k : Int32} : ¬ k < nI 1 ↔ nI 0 < k := by
  rw [i_lt, i_lt]; have h1 : (nI 1).toInt = 1 := rfl; have h0 : (nI 0).toInt = 0 := rfl; omega
theorem ge2_iff {k : Int32} : ¬ k < nI 2 ↔ nI 1 < k := by
  rw [i_lt, i_lt]; have h1 : (nI 1).toInt = 1 := rfl; have h0 : (nI 2).toInt = 2 := rfl; omega
/-- the greatest number of steps: the greatest common divisor, and 1 of 0 and 0 -/
def gcS (a b : Nat) : Nat := if Nat.gcd a b = 0 then 1 else Nat.gcd a b
theorem cif_true {α : Type} {a b : α} : cif True a b = a := cif_t trivial
theorem cif_false {α : Type} {a b : α} : cif False a b = b := cif_f (fun h => h)
theorem max_nI {a b : Nat} (ha : a < 2 ^ 31) (hb : b < 2 ^ 31) : (if nI a < nI b then nI b else nI a) = nI (max a b) := by
  by_cases h : a < b
  · rw [if_pos ((nI_ltI ha hb).mpr h), Nat.max_eq_right (by omega)]
  · rw [if_neg (fun q => h ((nI_ltI ha hb).mp q)), Nat.max_eq_left (by omega)]
theorem gc_1 {a b d : Nat} (h : d ≤ 1) (hk : ∀ k, d < k → ¬ (k ∣ a ∧ k ∣ b)) : nI 1 = nI (gcS a b) := by
  unfold gcS
  by_cases h0 : Nat.gcd a b = 0
  · rw [if_pos h0]
  · rw [if_neg h0]
    by_cases h1 : Nat.gcd a b = 1
    · rw [h1]
    · exact absurd ⟨Nat.gcd_dvd_left a b, Nat.gcd_dvd_right a b⟩ (hk _ (by omega))
theorem gc_2 {a b d : Nat} (h : 1 < d) (hm : d ≤ max a b) (h1 : a % d = 0) (h2 : b % d = 0) (hk : ∀ k, d < k → ¬ (k ∣ a ∧ k ∣ b)) : nI d = nI (gcS a b) := by
  have hd : d ∣ Nat.gcd a b := Nat.dvd_gcd (Nat.dvd_of_mod_eq_zero h1) (Nat.dvd_of_mod_eq_zero h2)
  unfold gcS
  by_cases h0 : Nat.gcd a b = 0
  · have := Nat.gcd_eq_zero_iff.mp h0
    omega
  · rw [if_neg h0]
    have h3 := Nat.le_of_dvd (by omega) hd
    by_cases h4 : d < Nat.gcd a b
    · exact absurd ⟨Nat.gcd_dvd_left a b, Nat.gcd_dvd_right a b⟩ (hk _ h4)
    · rw [show Nat.gcd a b = d by omega]
theorem gc_s {a b d : Nat} (h : 0 < a % (d + 1) ∨ 0 < b % (d + 1)) (hk : ∀ k, d + 1 < k → ¬ (k ∣ a ∧ k ∣ b)) : ∀ k, d < k → ¬ (k ∣ a ∧ k ∣ b) := by
  intro k hk1 hk2
  by_cases e : k = d + 1
  · subst e
    have e1 := Nat.mod_eq_zero_of_dvd hk2.1
    have e2 := Nat.mod_eq_zero_of_dvd hk2.2
    omega
  · exact hk k (by omega) hk2
theorem gc_0 {a b : Nat} (h : ¬ (a = 0 ∧ b = 0)) : ∀ k, max a b < k → ¬ (k ∣ a ∧ k ∣ b) := by
  intro k hk h2
  rcases Nat.eq_zero_or_pos a with h3 | h3
  · have := Nat.le_of_dvd (by omega) h2.2; omega
  · have := Nat.le_of_dvd h3 h2.1; omega
theorem gcS_pos (a b : Nat) : 0 < gcS a b := by unfold gcS; split <;> omega
def dst (a b : Nat) : Nat := (a - b) + (b - a)
theorem abs_nI {a b : Nat} (ha : a < 2 ^ 30) (hb : b < 2 ^ 30) : (if 0 ≤ nI a - nI b then nI a - nI b else 0 - (nI a - nI b)) = nI (dst a b) := by
  have e := pk_sub_toInt ha hb
  have z : (0 : Int32).toInt = 0 := rfl
  by_cases h : b ≤ a
  · rw [if_pos (by rw [i_le, e, z]; omega), pk_sub h]; unfold dst; rw [show b - a = 0 by omega]; rfl
  · rw [if_neg (by rw [i_le, e, z]; omega)]
    rw [Int32.zero_sub, Int32.neg_sub, pk_sub (by omega)]; unfold dst; rw [show a - b = 0 by omega, Nat.zero_add]
theorem dst_lt {a b k : Nat} (ha : a < k) (hb : b < k) : dst a b < k := by unfold dst; omega
theorem dst_0 {a b : Nat} : dst a b = 0 ↔ a = b := by unfold dst; omega
theorem dst_dm {a b w : Nat} (h : a ≠ b) : ¬ (dst (b / w) (a / w) = 0 ∧ dst (b % w) (a % w) = 0) := by
  rw [dst_0, dst_0]
  intro q
  exact h (by rw [← Nat.div_add_mod a w, ← Nat.div_add_mod b w, q.1, q.2])
theorem pos_tab : ∀ M, M < 6 → ∀ a, a < 30 → ∀ b, b < 30 → ∀ m, m < M → (b + 30 * M - a) % M = 0 → nI a + nI m * ((nI b - nI a) / nI M) = nI ((a * (M - m) + b * m) / M) := by decide +kernel
def pos (a b M m : Nat) : Nat := (a * (M - m) + b * m) / M
theorem pos_lt {a b M m c : Nat} (ha : a < c) (hb : b < c) (hM : m < M) : pos a b M m < c := by
  unfold pos
  have h0 : 0 < M := by omega
  rw [Nat.div_lt_iff_lt_mul h0]
  have h1 : a * (M - m) ≤ (c - 1) * (M - m) := Nat.mul_le_mul_right _ (by omega)
  have h2 : b * m ≤ (c - 1) * m := Nat.mul_le_mul_right _ (by omega)
  have h3 : (c - 1) * (M - m) + (c - 1) * m = (c - 1) * M := by rw [← Nat.mul_add]; congr 1; omega
  have h4 : (c - 1) * M < c * M := (Nat.mul_lt_mul_right h0).mpr (by omega)
  omega
theorem gcS_dvd {a b : Nat} (h : ¬ (a = 0 ∧ b = 0)) : gcS a b ∣ a ∧ gcS a b ∣ b := by
  unfold gcS
  rw [if_neg (fun q => h (Nat.gcd_eq_zero_iff.mp q))]
  exact ⟨Nat.gcd_dvd_left a b, Nat.gcd_dvd_right a b⟩
theorem gcS_le {a b k : Nat} (ha : a < k) (hb : b < k) (hk : 1 < k) : gcS a b < k := by
  by_cases h : a = 0 ∧ b = 0
  · rw [h.1, h.2]; exact hk
  · have h1 := gcS_dvd h
    rcases Nat.eq_zero_or_pos a with h2 | h2
    · exact Nat.lt_of_le_of_lt (Nat.le_of_dvd (by omega) h1.2) hb
    · exact Nat.lt_of_le_of_lt (Nat.le_of_dvd h2 h1.1) ha
theorem dst_dvd {M a b : Nat} (h : M ∣ dst a b) : (M : Int) ∣ (a : Int) - b := by
  unfold dst at h
  rcases Nat.le_total a b with q | q
  · rw [show a - b + (b - a) = b - a by omega] at h
    have h2 : (M : Int) ∣ ((b - a : Nat) : Int) := Int.natCast_dvd_natCast.mpr h
    rw [show (a : Int) - b = -((b - a : Nat) : Int) by omega]
    exact (Int.dvd_neg).mpr h2
  · rw [show a - b + (b - a) = a - b by omega] at h
    have h2 : (M : Int) ∣ ((a - b : Nat) : Int) := Int.natCast_dvd_natCast.mpr h
    rw [show (a : Int) - b = ((a - b : Nat) : Int) by omega]
    exact h2
theorem grid_dvd {M a b w : Nat} (h1 : M ∣ dst (b / w) (a / w)) (h2 : M ∣ dst (b % w) (a % w)) : (M : Int) ∣ (b : Int) - a := by
  have e1 : (b : Int) = w * (b / w : Nat) + (b % w : Nat) := by rw [← Int.natCast_mul, ← Int.natCast_add, Nat.div_add_mod]
  have e2 : (a : Int) = w * (a / w : Nat) + (a % w : Nat) := by rw [← Int.natCast_mul, ← Int.natCast_add, Nat.div_add_mod]
  have d1 := dst_dvd h1
  have d2 := dst_dvd h2
  have e3 : (b : Int) - a = w * ((b / w : Nat) - (a / w : Nat)) + ((b % w : Nat) - (a % w : Nat)) := by
    rw [Int.mul_sub]; omega
  rw [e3]
  exact Int.dvd_add (Int.dvd_mul_of_dvd_right d1) d2
/-- the cell of the m-th step of M, as the class counts it -/
theorem pos_eq {a b w M m : Nat} (ha : a < 30) (hb : b < 30) (hM : M < 6) (hm : m < M) (h1 : M ∣ dst (b / w) (a / w)) (h2 : M ∣ dst (b % w) (a % w)) : nI a + nI m * ((nI b - nI a) / nI M) = nI (pos a b M m) := by
  refine pos_tab M hM a ha b hb m hm ?_
  have h := grid_dvd h1 h2
  obtain ⟨k, hk⟩ := h
  have h0 : 0 < M := by omega
  apply Nat.mod_eq_zero_of_dvd
  apply Int.natCast_dvd_natCast.mp
  have hle : a ≤ b + 30 * M := by have : 1 * 30 ≤ M * 30 := Nat.mul_le_mul_right _ h0; omega
  rw [Int.natCast_sub hle, Int.natCast_add, Int.natCast_mul]
  refine ⟨k + 30, ?_⟩
  rw [Int.mul_add, ← hk, Int.mul_comm (M : Int) 30]
  have : ((30 : Nat) : Int) = 30 := rfl
  rw [this]; omega
/-- two cells see each other in the fog, over the tops -/
def sClr (w : Nat) (fog : Int32) (tp : Nat → Int32) (a b : Nat) : Prop :=
  nI (max (dst (b / w) (a / w)) (dst (b % w) (a % w))) ≤ fog ∧ ∀ m, 0 < m → m < gcS (dst (b / w) (a / w)) (dst (b % w) (a % w)) → tp (pos a b (gcS (dst (b / w) (a / w)) (dst (b % w) (a % w))) m) * nI (gcS (dst (b / w) (a / w)) (dst (b % w) (a % w))) < tp a * nI (gcS (dst (b / w) (a / w)) (dst (b % w) (a % w))) + nI m * (tp b - tp a)
theorem sClr_congr {w c : Nat} {fog : Int32} {tp tp2 : Nat → Int32} {a b : Nat} (ha : a < c) (hb : b < c) (h : ∀ q, q < c → tp q = tp2 q) : sClr w fog tp a b ↔ sClr w fog tp2 a b := by
  unfold sClr
  constructor
  · rintro ⟨h1, h2⟩
    refine ⟨h1, fun m h3 h4 => ?_⟩
    have := h2 m h3 h4
    rwa [h _ (pos_lt ha hb h4), h a ha, h b hb] at this
  · rintro ⟨h1, h2⟩
    refine ⟨h1, fun m h3 h4 => ?_⟩
    rw [h _ (pos_lt ha hb h4), h a ha, h b hb]
    exact h2 m h3 h4
/-- how many k below n are so -/
noncomputable def cn (p : Nat → Prop) : Nat → Nat
  | 0 => 0
  | n + 1 => cn p n + cif (p n) 1 0
theorem cn_t {p : Nat → Prop} {n : Nat} (h : p n) : cn p (n + 1) = cn p n + 1 := by show cn p n + cif (p n) 1 0 = _; rw [cif_t h]
theorem cn_f {p : Nat → Prop} {n : Nat} (h : ¬ p n) : cn p (n + 1) = cn p n := by show cn p n + cif (p n) 1 0 = _; rw [cif_f h]; rfl
theorem cn_le (p : Nat → Prop) : ∀ n, cn p n ≤ n
  | 0 => Nat.le_refl 0
  | n + 1 => by
    have := cn_le p n
    by_cases h : p n
    · rw [cn_t h]; omega
    · rw [cn_f h]; omega
theorem cn_congr {p q : Nat → Prop} : ∀ {n : Nat}, (∀ k, k < n → (p k ↔ q k)) → cn p n = cn q n
  | 0, _ => rfl
  | n + 1, h => by
    show cn p n + cif (p n) 1 0 = cn q n + cif (q n) 1 0
    rw [cn_congr (n := n) (fun k hk => h k (by omega)), cif_iff (h n (by omega))]
/-- a set of numbers as bits -/
noncomputable def msk (p : Nat → Prop) : Nat → Int32
  | 0 => nI 0
  | n + 1 => cif (p n) (msk p n ||| (nI 1 <<< (nI n &&& 31))) (msk p n)
theorem msk_t {p : Nat → Prop} {n : Nat} (h : p n) : msk p (n + 1) = msk p n ||| (nI 1 <<< (nI n &&& 31)) := cif_t h
theorem msk_f {p : Nat → Prop} {n : Nat} (h : ¬ p n) : msk p (n + 1) = msk p n := cif_f h
theorem msk_congr {p q : Nat → Prop} : ∀ {n : Nat}, (∀ k, k < n → (p k ↔ q k)) → msk p n = msk q n
  | 0, _ => rfl
  | n + 1, h => by
    show cif (p n) (msk p n ||| (nI 1 <<< (nI n &&& 31))) (msk p n) = cif (q n) (msk q n ||| (nI 1 <<< (nI n &&& 31))) (msk q n)
    rw [msk_congr (n := n) (fun k hk => h k (by omega)), cif_iff (h n (by omega))]
/-- the land as it stands in a state: w wide, c cells, n houses, t trees -/
def IP (P : PT) (w c n t : Nat) : Prop :=
  (P.1 0 = nI w ∧ P.1 2 = nI n ∧ P.1 3 = nI t ∧ n ≤ 8 ∧ t ≤ 8 ∧ c ≤ 30) ∧ (VW w c ∨ (w = 0 ∧ c = 0 ∧ n = 0 ∧ t = 0)) ∧
  (∀ h, h < n → ∃ q, q < c ∧ P.2 4 h = nI q ∧ P.2 2 q = nI (10 + h)) ∧ (∀ k, k < t → ∃ q, q < c ∧ P.2 7 k = nI q ∧ P.2 2 q = nI (20 + k)) ∧
  (∀ q, q < c → P.2 2 q = nI 0 ∨ (∃ h, h < n ∧ P.2 2 q = nI (10 + h) ∧ P.2 4 h = nI q) ∨ ∃ k, k < t ∧ P.2 2 q = nI (20 + k) ∧ P.2 7 k = nI q)
def plN (P : PT) (h : Nat) : Nat := (P.2 4 h).toNatClampNeg
def tpN (P : PT) (k : Nat) : Nat := (P.2 7 k).toNatClampNeg
section IPS
variable {P : PT} {w c n t : Nat}
theorem IP.ww (h : IP P w c n t) : P.1 0 = nI w := h.1.1
theorem IP.nn (h : IP P w c n t) : P.1 2 = nI n := h.1.2.1
theorem IP.tt (h : IP P w c n t) : P.1 3 = nI t := h.1.2.2.1
theorem IP.n8 (h : IP P w c n t) : n ≤ 8 := h.1.2.2.2.1
theorem IP.t8 (h : IP P w c n t) : t ≤ 8 := h.1.2.2.2.2.1
theorem IP.c30 (h : IP P w c n t) : c ≤ 30 := h.1.2.2.2.2.2
theorem IP.pl (h : IP P w c n t) {k : Nat} (hk : k < n) : P.2 4 k = nI (plN P k) ∧ plN P k < c ∧ P.2 2 (plN P k) = nI (10 + k) := by
  obtain ⟨q, h1, h2, h3⟩ := h.2.2.1 k hk
  have e : plN P k = q := by unfold plN; rw [h2, nI_clamp (by have := h.c30; omega)]
  rw [e]; exact ⟨h2, h1, h3⟩
theorem IP.tp (h : IP P w c n t) {k : Nat} (hk : k < t) : P.2 7 k = nI (tpN P k) ∧ tpN P k < c ∧ P.2 2 (tpN P k) = nI (20 + k) := by
  obtain ⟨q, h1, h2, h3⟩ := h.2.2.2.1 k hk
  have e : tpN P k = q := by unfold tpN; rw [h2, nI_clamp (by have := h.c30; omega)]
  rw [e]; exact ⟨h2, h1, h3⟩
theorem IP.vt (h : IP P w c n t) : VT P c 8 := by
  intro q hq
  rcases h.2.2.2.2 q hq with h1 | ⟨k, h1, h2, -⟩ | ⟨k, h1, h2, -⟩
  · exact Or.inl h1
  · exact Or.inr (Or.inl ⟨k, by have := h.n8; omega, h2⟩)
  · exact Or.inr (Or.inr ⟨k, by have := h.t8; omega, h2⟩)
theorem IP.vw (h : IP P w c n t) (hc : 0 < c) : VW w c := by
  rcases h.2.1 with h1 | h1
  · exact h1
  · omega
theorem IP.pl_inj (h : IP P w c n t) {i j : Nat} (hi : i < n) (hj : j < n) (e : plN P i = plN P j) : i = j := by
  have h1 := (h.pl hi).2.2
  have h2 := (h.pl hj).2.2
  rw [e, h2] at h1
  have := nI_inj (by have := h.n8; omega) (by have := h.n8; omega) h1
  omega
end IPS
theorem pa_step {X : PT} {k i : Nat} {f : Nat → Int32} (h : ∀ q, q < i → X.2 k q = f q) : ∀ q, q < i + 1 → (pa X k i (f i)).2 k q = f q := by
  intro q hq
  show (if k = k then upd (X.2 k) i (f i) else X.2 k) q = f q
  rw [if_pos rfl]
  unfold upd
  by_cases e : q = i
  · rw [if_pos e, e]
  · rw [if_neg e]; exact h q (by omega)
theorem pa_at (X : PT) (k i : Nat) (v : Int32) : (pa X k i v).2 k = upd (X.2 k) i v := by
  show (if k = k then upd (X.2 k) i v else X.2 k) = _
  rw [if_pos rfl]
theorem pa_ne (X : PT) {k j : Nat} (i : Nat) (v : Int32) (h : j ≠ k) : (pa X k i v).2 j = X.2 j := by
  show (if j = k then upd (X.2 k) i v else X.2 j) = _
  rw [if_neg h]
theorem pa_back (X : PT) (k i : Nat) (v : Int32) : pa (pa X k i v) k i (X.2 k i) = X := by
  have e : (pa (pa X k i v) k i (X.2 k i)).2 = X.2 := by
    funext j q
    by_cases h : j = k
    · subst h
      rw [pa_at, pa_at]; unfold upd
      by_cases e : q = i
      · rw [if_pos e, e]
      · rw [if_neg e, if_neg e]
    · rw [pa_ne _ _ _ h, pa_ne _ _ _ h]
  show ((pa (pa X k i v) k i (X.2 k i)).1, (pa (pa X k i v) k i (X.2 k i)).2) = X
  rw [e]; rfl
/-- the number of houses that are seen from a cell, but for the one that may stand there -/
abbrev nfp (P : PT) (w : Nat) (fog : Int32) (tp : Nat → Int32) (q : Nat) : Nat → Prop := fun o => plN P o ≠ q ∧ sClr w fog tp q (plN P o)
noncomputable def sNf (P : PT) (w n : Nat) (fog : Int32) (tp : Nat → Int32) (q : Nat) : Nat := cn (nfp P w fog tp q) n
theorem sNf_le (P : PT) (w n : Nat) (fog : Int32) (tp : Nat → Int32) (q : Nat) : sNf P w n fog tp q ≤ n := cn_le _ _
theorem sNf_congr {P : PT} {w n c t : Nat} (hI : IP P w c n t) {fog : Int32} {tp tp2 : Nat → Int32} {q : Nat} (hq : q < c) (h : ∀ q, q < c → tp q = tp2 q) : sNf P w n fog tp q = sNf P w n fog tp2 q :=
  cn_congr (fun k hk => and_congr_right (fun _ => sClr_congr hq (hI.pl hk).2.1 h))
/-- trees as they were, are, will be: the tops -/
theorem top_tree {P : PT} {w c n t : Nat} (hI : IP P w c n t) {k : Nat} (hk : k < t) (yr : Int32) (fl : Nat → Prop) : sTop P yr fl (tpN P k) = P.2 0 (tpN P k) + sTr P k yr (fl k) := by
  have h := thN_of (hI.tp hk).2.2 (by have := hI.t8; omega)
  unfold sTop sOn
  rw [h, cif_f (by omega), cif_f (by omega), show 20 + k - 20 = k by omega]
theorem top_else {P : PT} {w c n t : Nat} (hI : IP P w c n t) {q : Nat} (hq : q < c) (h : ∀ k, k < t → tpN P k ≠ q) (y1 y2 : Int32) (f1 f2 : Nat → Prop) : sTop P y1 f1 q = sTop P y2 f2 q := by
  rcases hI.2.2.2.2 q hq with h1 | ⟨k, h1, h2, -⟩ | ⟨k, h1, h2, h3⟩
  · have e := thN_of h1 (by decide)
    unfold sTop sOn; rw [e, cif_t rfl, cif_t rfl]
  · have e := thN_of h2 (by have := hI.n8; omega)
    unfold sTop sOn; rw [e, cif_f (by have := hI.n8; omega), cif_t (by have := hI.n8; omega), cif_f (by have := hI.n8; omega), cif_t (by have := hI.n8; omega)]
  · have e : tpN P k = q := by unfold tpN; rw [h3, nI_clamp (by have := hI.c30; omega)]
    exact absurd e (h k h1)
theorem look_step {P X : PT} {w c n t : Nat} (hI : IP P w c n t) {yr y0 : Int32} {fl f0 : Nat → Prop} {i : Nat} (hi : i < t) {v : Int32} (hv : v = P.2 0 (tpN P i) + sTr P i yr (fl i)) (h : ∀ q, q < c → X.2 3 q = cif (∃ k, k < i ∧ tpN P k = q) (sTop P yr fl q) (sTop P y0 f0 q)) : ∀ q, q < c → (pa X 3 (tpN P i) v).2 3 q = cif (∃ k, k < i + 1 ∧ tpN P k = q) (sTop P yr fl q) (sTop P y0 f0 q) := by
  intro q hq
  rw [pa_at]; unfold upd
  by_cases e : q = tpN P i
  · rw [if_pos e, cif_t ⟨i, by omega, e.symm⟩, e, top_tree hI hi, hv]
  · rw [if_neg e, h q hq]
    refine cif_iff ⟨fun ⟨k, h1, h2⟩ => ⟨k, by omega, h2⟩, fun ⟨k, h1, h2⟩ => ⟨k, ?_, h2⟩⟩
    rcases Nat.lt_or_ge k i with h3 | h3
    · exact h3
    · have : k = i := by omega
      subst this; exact absurd h2.symm e
theorem look_end {P X : PT} {w c n t : Nat} (hI : IP P w c n t) {yr y0 : Int32} {fl f0 : Nat → Prop} (h : ∀ q, q < c → X.2 3 q = cif (∃ k, k < t ∧ tpN P k = q) (sTop P yr fl q) (sTop P y0 f0 q)) : ∀ q, q < c → X.2 3 q = sTop P yr fl q := by
  intro q hq
  rw [h q hq]
  by_cases e : ∃ k, k < t ∧ tpN P k = q
  · rw [cif_t e]
  · rw [cif_f e]; exact top_else hI hq (fun k hk z => e ⟨k, hk, z⟩) _ _ _ _
theorem look_0 {P X : PT} {c : Nat} {yr y0 : Int32} {fl f0 : Nat → Prop} (h : ∀ q, q < c → X.2 3 q = sTop P y0 f0 q) : ∀ q, q < c → X.2 3 q = cif (∃ k, k < 0 ∧ tpN P k = q) (sTop P yr fl q) (sTop P y0 f0 q) := by
  intro q hq
  rw [cif_f (by rintro ⟨k, h1, -⟩; omega)]; exact h q hq
theorem no_step {q : Nat → Prop} {i : Nat} (h : ¬ ∃ o, o < i ∧ q o) (hi : ¬ q i) : ¬ ∃ o, o < i + 1 ∧ q o := by
  rintro ⟨o, h1, h2⟩
  rcases Nat.lt_or_ge o i with h3 | h3
  · exact h ⟨o, h3, h2⟩
  · have : o = i := by omega
    subst this; exact hi h2
def sm (f : Nat → Nat) : Nat → Nat
  | 0 => 0
  | n + 1 => sm f n + f n
theorem sm_congr {f g : Nat → Nat} : ∀ {n : Nat}, (∀ k, k < n → f k = g k) → sm f n = sm g n
  | 0, _ => rfl
  | n + 1, h => by
    show sm f n + f n = sm g n + g n
    rw [sm_congr (n := n) (fun k hk => h k (by omega)), h n (by omega)]
theorem sm_le {f : Nat → Nat} {b : Nat} : ∀ {n : Nat}, (∀ k, k < n → f k ≤ b) → sm f n ≤ n * b
  | 0, _ => by rw [Nat.zero_mul]; exact Nat.le_refl 0
  | n + 1, h => by
    have h1 := sm_le (n := n) (fun k hk => h k (by omega))
    have h2 := h n (by omega)
    show sm f n + f n ≤ (n + 1) * b
    rw [Nat.succ_mul]; omega
/-- the first that is found, -9 if none is -/
noncomputable def fsI (g : Nat → Int32) : Nat → Int32
  | 0 => -9
  | n + 1 => cif (fsI g n = -9) (g n) (fsI g n)
theorem nI_ne9 {k : Nat} (h : k < 2 ^ 31) : ¬ nI k = -9 := by
  rw [i_eq, nI_toInt h]
  have : (-9 : Int32).toInt = -9 := rfl
  omega
theorem fsI_step {g : Nat → Int32} {i : Nat} (h : fsI g i = -9) (h2 : g i = -9) : fsI g (i + 1) = -9 := by
  show cif (fsI g i = -9) (g i) (fsI g i) = -9
  rw [cif_t h]; exact h2
theorem fsI_stay {g : Nat → Int32} {i : Nat} (h : ¬ fsI g i = -9) : ∀ m, fsI g (i + m) = fsI g i
  | 0 => rfl
  | m + 1 => by
    have e := fsI_stay h m
    show cif (fsI g (i + m) = -9) (g (i + m)) (fsI g (i + m)) = _
    rw [e, cif_f h]
theorem fsI_found {g : Nat → Int32} {i N : Nat} (h : fsI g i = -9) (hi : i < N) (h2 : ¬ g i = -9) : fsI g N = g i := by
  have e : fsI g (i + 1) = g i := cif_t h
  have := fsI_stay (g := g) (i := i + 1) (by rw [e]; exact h2) (N - (i + 1))
  rw [show i + 1 + (N - (i + 1)) = N by omega] at this
  rw [this, e]
theorem fsI_congr {f g : Nat → Int32} : ∀ {n : Nat}, (∀ k, k < n → f k = g k) → fsI f n = fsI g n
  | 0, _ => rfl
  | n + 1, h => by
    show cif (fsI f n = -9) (f n) (fsI f n) = cif (fsI g n = -9) (g n) (fsI g n)
    rw [fsI_congr (n := n) (fun k hk => h k (by omega)), h n (by omega)]
/-- a find: a number, or nothing -/
noncomputable def fnd (p : Prop) (v : Nat) : Int32 := cif p (nI v) (-9)
theorem fnd_t {p : Prop} {v : Nat} (h : p) : fnd p v = nI v := cif_t h
theorem fnd_f {p : Prop} {v : Nat} (h : ¬ p) : fnd p v = -9 := cif_f h
theorem fnd_hit {p : Nat → Prop} {v : Nat → Nat} {i N : Nat} (h : fsI (fun k => fnd (p k) (v k)) i = -9) (hi : i < N) (hp : p i) (hv : v i < 2 ^ 31) : nI (v i) = fsI (fun k => fnd (p k) (v k)) N := by
  rw [fsI_found h hi (by rw [fnd_t hp]; exact nI_ne9 hv), fnd_t hp]
theorem fnd_miss {p : Nat → Prop} {v : Nat → Nat} {i : Nat} (h : fsI (fun k => fnd (p k) (v k)) i = -9) (hp : ¬ p i) : fsI (fun k => fnd (p k) (v k)) (i + 1) = -9 := fsI_step h (fnd_f hp)
theorem upd_congr {c : Nat} {f g : Nat → Int32} (h : ∀ q, q < c → f q = g q) (k : Nat) (v : Int32) : ∀ q, q < c → upd f k v q = upd g k v q := by
  intro q hq
  unfold upd
  by_cases e : q = k
  · rw [if_pos e, if_pos e]
  · rw [if_neg e, if_neg e]; exact h q hq
theorem nIf_canon {P : PT} {w n c t : Nat} (hI : IP P w c n t) {f1 f2 : Int32} {tp tp2 : Nat → Int32} {q : Nat} (hq : q < c) (hf : f1 = f2) (h : ∀ q, q < c → tp q = tp2 q) (k : Nat) (v : Int32) : sNf P w n f1 (upd tp k v) q = sNf P w n f2 (upd tp2 k v) q := by
  rw [hf]; exact sNf_congr hI hq (upd_congr h k v)
theorem nf_canon {P : PT} {w n c t : Nat} (hI : IP P w c n t) {f1 f2 : Int32} {tp tp2 : Nat → Int32} {q : Nat} (hq : q < c) (hf : f1 = f2) (h : ∀ q, q < c → tp q = tp2 q) : sNf P w n f1 tp q = sNf P w n f2 tp2 q := by
  rw [hf]; exact sNf_congr hI hq h
/-- how many bits -/
def pcn (m : Nat) : Nat := m % 2 + m / 2 % 2 + m / 4 % 2 + m / 8 % 2 + m / 16 % 2 + m / 32 % 2 + m / 64 % 2 + m / 128 % 2
def bcE (x : Int32) : Int32 :=
  let a := x - ((x.toUInt32 >>> ((nI 1).toUInt32 &&& Int32.toUInt32 31)).toInt32 &&& 1431655765)
  let b := (a &&& 858993459) + ((a.toUInt32 >>> ((nI 2).toUInt32 &&& Int32.toUInt32 31)).toInt32 &&& 858993459)
  let c := (b + (b.toUInt32 >>> ((nI 4).toUInt32 &&& Int32.toUInt32 31)).toInt32) &&& 252645135
  let d := c + (c.toUInt32 >>> ((nI 8).toUInt32 &&& Int32.toUInt32 31)).toInt32
  let e := d + (d.toUInt32 >>> ((nI 16).toUInt32 &&& Int32.toUInt32 31)).toInt32
  e &&& nI 63
theorem bc_tab : ∀ m, m < 256 → bcE (nI m) = nI (pcn m) := by decide +kernel
theorem shl1 : ∀ t, t < 9 → nI 1 <<< (nI t &&& 31) = nI (2 ^ t) := by decide +kernel
theorem pow8 {t : Nat} (h : t ≤ 8) : 2 ^ t ≤ 256 := Nat.pow_le_pow_right (by decide) h
theorem pcn_le (m : Nat) : pcn m ≤ 8 := by unfold pcn; omega
/-- the best set so far: of fewest bits, the least -/
noncomputable def bestS (ok : Nat → Prop) : Nat → Int32
  | 0 => -9
  | s + 1 => cif (ok s ∧ (bestS ok s = -9 ∨ pcn s < pcn (bestS ok s).toNatClampNeg)) (nI s) (bestS ok s)
theorem bestS_t {ok : Nat → Prop} {s : Nat} (h : ok s) (h2 : bestS ok s = -9 ∨ pcn s < pcn (bestS ok s).toNatClampNeg) : bestS ok (s + 1) = nI s := cif_t ⟨h, h2⟩
theorem bestS_f {ok : Nat → Prop} {s : Nat} (h : ¬ (ok s ∧ (bestS ok s = -9 ∨ pcn s < pcn (bestS ok s).toNatClampNeg))) : bestS ok (s + 1) = bestS ok s := cif_f h
theorem bestS_cases (ok : Nat → Prop) : ∀ s, bestS ok s = -9 ∨ ∃ b, b < s ∧ bestS ok s = nI b
  | 0 => Or.inl rfl
  | s + 1 => by
    by_cases h : ok s ∧ (bestS ok s = -9 ∨ pcn s < pcn (bestS ok s).toNatClampNeg)
    · exact Or.inr ⟨s, by omega, cif_t h⟩
    · rw [bestS_f h]
      rcases bestS_cases ok s with h1 | ⟨b, h1, h2⟩
      · exact Or.inl h1
      · exact Or.inr ⟨b, by omega, h2⟩
/-- a set of cells as bits -/
noncomputable def mskL (p : Nat → Prop) : Nat → Int64
  | 0 => 0
  | n + 1 => cif (p n) (mskL p n ||| ((1 : Int64) <<< ((nI n).toInt64 &&& 63))) (mskL p n)
theorem mskL_t {p : Nat → Prop} {n : Nat} (h : p n) : mskL p (n + 1) = mskL p n ||| ((1 : Int64) <<< ((nI n).toInt64 &&& 63)) := cif_t h
theorem mskL_f {p : Nat → Prop} {n : Nat} (h : ¬ p n) : mskL p (n + 1) = mskL p n := cif_f h
theorem mskL_congr {p q : Nat → Prop} : ∀ {n : Nat}, (∀ k, k < n → (p k ↔ q k)) → mskL p n = mskL q n
  | 0, _ => rfl
  | n + 1, h => by
    show cif (p n) (mskL p n ||| ((1 : Int64) <<< ((nI n).toInt64 &&& 63))) (mskL p n) = cif (q n) (mskL q n ||| ((1 : Int64) <<< ((nI n).toInt64 &&& 63))) (mskL q n)
    rw [mskL_congr (n := n) (fun k hk => h k (by omega)), cif_iff (h n (by omega))]
/-- the readings -/
def rhN (P : PT) (k : Nat) : Nat := (P.2 9 k).toNatClampNeg
def RD (P : PT) (n rd : Nat) : Prop := P.1 8 = nI rd ∧ rd ≤ 8 ∧ ∀ k, k < rd → P.2 9 k = nI (rhN P k) ∧ rhN P k < n
/-- the number in a year, with these trees felled, in a fog -/
noncomputable def sNum (P : PT) (w n : Nat) (fog yr : Int32) (fl : Nat → Prop) (h : Nat) : Nat := sNf P w n fog (sTop P yr fl) (plN P h)
def soK (P : PT) (w n : Nat) (fog : Int32) (fl : Nat → Prop) (k : Nat) : Prop := nI (sNum P w n fog (P.2 10 k) fl (rhN P k)) = P.2 11 k
def soS (P : PT) (w n rd : Nat) (fog : Int32) (fl : Nat → Prop) : Prop := ∀ k, k < rd → soK P w n fog fl k
abbrev flB (f : Int32) : Nat → Prop := fun k => tbI f (nI k)
/-- the answers -/
noncomputable def aWalled (P : PT) (w c n : Nat) (fl : Nat → Prop) (h : Nat) (v : Int32) : Int32 := fsI (fun k => fsI (fun q => fnd (P.2 2 q = 0 ∧ nI (sNf P w n (P.1 6) (upd (sTop P (P.1 5) fl) q (P.2 0 q + nI (k + 1))) (plN P h)) = v) (100 * (k + 1) + q)) c) 9
noncomputable def aRaised (P : PT) (w n : Nat) (fl : Nat → Prop) (h : Nat) (v : Int32) : Int32 := fsI (fun k => fnd (nI (sNf P w n (P.1 6) (upd (sTop P (P.1 5) fl) (plN P h) (P.2 0 (plN P h) + sHt P h (nI k))) (plN P h)) = v) k) 10
def okF (P : PT) (w n : Nat) (fl : Nat → Nat → Prop) (fm : Nat → Prop) (h : Nat) (v : Int32) : Nat → Prop := fun s => fm s ∧ nI (sNum P w n (P.1 6) (P.1 5) (fl s) h) = v
noncomputable def aFresh (P : PT) (w n : Nat) (fl : Nat → Prop) (q : Nat) (tall : Int32) : Nat := sNf P w n (P.1 6) (upd (sTop P (P.1 5) fl) q (P.2 0 q + tall)) q
noncomputable def nThen (P : PT) (w n : Nat) (fl : Nat → Prop) (q : Nat) (tall : Int32) (h : Nat) : Nat := sNf P w n (P.1 6) (upd (sTop P (P.1 5) fl) q (P.2 0 q + tall)) (plN P h) + cif (sClr w (P.1 6) (upd (sTop P (P.1 5) fl) q (P.2 0 q + tall)) (plN P h) q) 1 0
noncomputable def aOthers (P : PT) (w n : Nat) (fl : Nat → Prop) (q : Nat) (tall : Int32) : Int32 := msk (fun h => ¬ nThen P w n fl q tall h = sNum P w n (P.1 6) (P.1 5) fl h) n
noncomputable def aFree (P : PT) (w c n : Nat) (fl : Nat → Prop) (tall v : Int32) : Int64 := mskL (fun q => (P.2 2 q = 0 ∧ P.2 1 q = 0) ∧ nI (aFresh P w n fl q tall) = v) c
noncomputable def aChange (P : PT) (w n : Nat) (fl : Nat → Prop) (h yr : Nat) : Int32 := fsI (fun j => fnd (¬ sNum P w n (P.1 6) (nI (yr + 1 + j)) fl h = sNum P w n (P.1 6) (P.1 5) fl h) (yr + 1 + j)) (30 - yr)
noncomputable def aFogs (P : PT) (w n rd : Nat) (fl : Nat → Prop) : Int32 := msk (fun f => 0 < f ∧ soS P w n rd (nI f) fl) 10
noncomputable def aStood (P : PT) (w n rd t : Nat) (fl : Nat → Nat → Prop) : Nat := cn (fun s => soS P w n rd (P.1 6) (fl s)) (2 ^ t)
noncomputable def aFirst (P : PT) (w n rd t : Nat) (fl : Nat → Nat → Prop) : Int32 := fsI (fun s => fnd (soS P w n rd (P.1 6) (fl s)) s) (2 ^ t)
