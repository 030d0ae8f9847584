/-! the class's readings of the scratch, as answers -/
section ANS2
variable {P X : PT} {w c n t : Nat}
theorem hav_of (hI : IP P w c n t) (hf : X.1 7 = P.1 6) (ht : ∀ q, q < c → X.2 3 q = sTop P (P.1 5) (flP P) q) (hn : ∀ h, h < n → X.2 4 h = nI (sNf P w n (X.1 7) (X.2 3) (plN P h))) (v : Int32) : msk (fun h => X.2 4 h = v) n = hav P w n v :=
  msk_congr (fun h hh => by rw [hn h hh, nf_canon hI (hI.pl hh).2.1 hf ht]; exact Iff.rfl)
theorem hav_dN (hn : n ≤ 8) (v : Int32) : hav P w n v = nI (dN (hav P w n v)) ∧ dN (hav P w n v) < 256 := by
  obtain ⟨m, h1, h2⟩ := msk_lt (p := fun h => nI (numP P w n h) = v) hn
  have e : hav P w n v = nI m := h2
  rw [e, dN_nI (by omega)]; exact ⟨rfl, h1⟩
theorem let_of (hI : IP P w c n t) (hf : X.1 7 = P.1 6) (ht : ∀ q, q < c → X.2 3 q = sTop P (P.1 5) (flP P) q) (v z : Int32) : msk (fun h => tbI (hav P w n v) (nI h) ∧ ∃ o, o < n ∧ o ≠ h ∧ tbI (hav P w n z) (nI o) ∧ sClr w (X.1 7) (X.2 3) (plN P o) (plN P h)) n = letS P w n v z := by
  refine msk_congr (fun h hh => and_congr_right (fun _ => ?_))
  constructor
  · rintro ⟨o, h1, h2, h3, h4⟩
    exact ⟨o, h1, h2, h3, by rw [hf] at h4; exact (sClr_congr (hI.pl h1).2.1 (hI.pl hh).2.1 ht).mp h4⟩
  · rintro ⟨o, h1, h2, h3, h4⟩
    exact ⟨o, h1, h2, h3, by rw [hf]; exact (sClr_congr (hI.pl h1).2.1 (hI.pl hh).2.1 ht).mpr h4⟩
theorem alone_t {k : Nat} (h : pcn (dN (hav P w n (nI k))) = 1) : aloneS P w n (k + 1) = aloneS P w n k ||| hav P w n (nI k) := cif_t h
theorem alone_f {k : Nat} (h : ¬ pcn (dN (hav P w n (nI k))) = 1) : aloneS P w n (k + 1) = aloneS P w n k := cif_f h
end ANS2
noncomputable def rfS (n : Nat) (x v : Int32) : Int32 := cif (inN n x) (cif (inR 0 7 v) (nI 0) (-2)) (-1)
theorem rfS_0 {n : Nat} {x v : Int32} (h : rfS n x v = 0) : inN n x ∧ inR 0 7 v := by
  by_cases h1 : inN n x
  · refine ⟨h1, ?_⟩
    by_cases h2 : inR 0 7 v
    · exact h2
    · unfold rfS at h; rw [cif_t h1, cif_f h2] at h; exact absurd h (by decide)
  · unfold rfS at h; rw [cif_f h1] at h; exact absurd h (by decide)
theorem rfS_n {n : Nat} {x v : Int32} {P : PT} {A : Int32 × PT} (h : ¬ rfS n x v = 0) : (rfS n x v, P) = cif (inN n x) (cif (inR 0 7 v) A (-2, P)) (-1, P) := by
  by_cases h1 : inN n x
  · by_cases h2 : inR 0 7 v
    · exact absurd (by unfold rfS; rw [cif_t h1, cif_t h2]; rfl) h
    · unfold rfS; rw [cif_t h1, cif_f h2, cif_t h1, cif_f h2]
  · unfold rfS; rw [cif_f h1, cif_f h1]
theorem nat_of {m : Int32} {k : Nat} (hk : k < 2 ^ 31) (h0 : 0 ≤ m) (h1 : m ≤ nI k) : ∃ j, j ≤ k ∧ m = nI j := by
  rw [i_le] at h0 h1
  have z : (0 : Int32).toInt = 0 := rfl
  obtain ⟨j, hj, rfl⟩ := i_of (x := m) (by omega)
  rw [nI_toInt hj, nI_toInt hk] at h1
  exact ⟨j, by omega, rfl⟩
/-- the sheets' rows have a size -/
def SH (P : PT) : Prop := ∀ k, k < 4 → P.2 13 k = -1 ∨ ∃ m, m ≤ 100 ∧ P.2 13 k = nI m
theorem inS_nat {P : PT} (h : SH P) {k : Nat} (hk : k < 4) {i : Int32} (hi : inS i (P.2 13 k)) : ∃ j m, j < m ∧ m ≤ 100 ∧ i = nI j ∧ P.2 13 k = nI m := by
  obtain ⟨h0, h1⟩ := hi
  rw [i_lt] at h0 h1
  have z : (nI 0).toInt = 0 := rfl
  obtain ⟨j, hj, rfl⟩ := i_of (x := i) (by omega)
  rw [nI_toInt hj] at h1
  rcases h k hk with e | ⟨m, hm, e⟩
  · rw [e] at h1
    have : (-1 : Int32).toInt = -1 := rfl
    omega
  · rw [e, nI_toInt (by omega)] at h1
    exact ⟨j, m, by omega, hm, rfl, e⟩
theorem inRun_nat {P : PT} (h : SH P) {k : Nat} (hk : k < 4) (hr : ¬ P.2 13 k = -1) {i n : Int32} (hi : inRun i n (P.2 13 k)) : ∃ j m s, j + m ≤ s ∧ s ≤ 100 ∧ i = nI j ∧ n = nI m ∧ P.2 13 k = nI s := by
  obtain ⟨h0, h1, h2⟩ := hi
  rw [i_lt] at h0 h1 h2
  have z : (0 : Int32).toInt = 0 := rfl
  obtain ⟨j, hj, rfl⟩ := i_of (x := i) (by omega)
  obtain ⟨m, hm, rfl⟩ := i_of (x := n) (by omega)
  rcases h k hk with e | ⟨s, hs, e⟩
  · exact absurd e hr
  · rw [e] at h2
    have e2 : (nI s - nI j).toInt = (s : Int) - j := by
      rw [Int32.toInt_sub, nI_toInt (by omega), nI_toInt hj]
      apply Int.bmod_eq_of_le <;> omega
    rw [e2, nI_toInt hm] at h2
    exact ⟨j, m, s, by omega, hs, rfl, rfl, e⟩
