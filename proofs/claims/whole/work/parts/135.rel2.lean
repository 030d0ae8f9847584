section RQ2
variable {C Q : PT} {w c n t : Nat}
theorem RQ.tr (h : RQ C Q) (hI : IP C w c n t) {k : Nat} (hk : k < t) : sTr Q k (Q.1 5) (flQ Q k) = sTr C k (C.1 5) (flP C k) := by
  unfold sTr
  rw [h.tree hI (k := 8) (by decide) (by decide) hk, h.1 5 (by omega)]
  exact cif_iff (h.flq hI hk)
theorem pg3 {a b d : Int32} (h1 : C.1 5 = a) (h2 : C.1 6 = b) (h3 : C.1 7 = d) : pg (pg (pg C 5 a) 6 b) 7 d = C := by
  have e : (pg (pg (pg C 5 a) 6 b) 7 d).1 = C.1 := by
    funext j
    rw [pg_val, pg_val, pg_val]
    by_cases e7 : j = 7
    · rw [if_pos e7, e7, h3]
    · rw [if_neg e7]
      by_cases e6 : j = 6
      · rw [if_pos e6, e6, h2]
      · rw [if_neg e6]
        by_cases e5 : j = 5
        · rw [if_pos e5, e5, h1]
        · rw [if_neg e5]
  exact PT_ext e (fun j k => rfl)
theorem RQ.times (h : RQ C Q) (a b d : Int32) : RQ (pg (pg (pg C 5 a) 6 b) 7 d) (pg (pg (pg Q 5 a) 6 b) 7 d) := ((h.wpg (k := 5) (by omega) a).wpg (k := 6) (by omega) b).wpg (k := 7) (by omega) d
theorem th_le (hI : IP C w c n t) {q : Nat} (hq : q < c) : C.2 2 q ≤ 0 ↔ C.2 2 q = 0 := by
  constructor
  · intro h
    rcases hI.vt q hq with z | ⟨k, z1, z2⟩ | ⟨k, z1, z2⟩
    · exact z
    · rw [z2] at h; exact absurd h (nI_nle (by omega) (by omega))
    · rw [z2] at h; exact absurd h (nI_nle (by omega) (by omega))
  · intro h; rw [h]; decide
theorem pa_same (P : PT) (k i : Nat) {v : Int32} (h : P.2 k i = v) : pa P k i v = P := by
  refine PT_ext rfl (fun j q => ?_)
  rw [pa_val]
  by_cases e : j = k ∧ q = i
  · rw [if_pos e, e.1, e.2, h]
  · rw [if_neg e]
/-! bits -/
def bt (x : Int32) (i : Nat) : Bool := x.toBitVec.getLsbD i
theorem b_ext {x y : Int32} (h : ∀ i, i < 32 → bt x i = bt y i) : x = y := Int32.toBitVec_inj.mp (BitVec.eq_of_getLsbD_eq (fun i hi => h i hi))
theorem b_or (x y : Int32) (i : Nat) : bt (x ||| y) i = (bt x i || bt y i) := by unfold bt; rw [Int32.toBitVec_or, BitVec.getLsbD_or]
theorem b_and (x y : Int32) (i : Nat) : bt (x &&& y) i = (bt x i && bt y i) := by unfold bt; rw [Int32.toBitVec_and, BitVec.getLsbD_and]
theorem b_xor (x y : Int32) (i : Nat) : bt (x ^^^ y) i = (bt x i ^^ bt y i) := by unfold bt; rw [Int32.toBitVec_xor, BitVec.getLsbD_xor]
theorem s_l : ∀ n, n < 32 → ((nI n &&& 31).toBitVec.smod 32).toNat = n := by decide +kernel
theorem b_shl (n : Nat) (hn : n < 32) (x : Int32) {i : Nat} (hi : i < 32) : bt (x <<< (nI n &&& 31)) i = (decide (n ≤ i) && bt x (i - n)) := by
  unfold bt
  rw [Int32.toBitVec_shiftLeft]
  show (x.toBitVec <<< ((nI n &&& 31).toBitVec.smod 32).toNat).getLsbD i = _
  rw [s_l n hn, BitVec.getLsbD_shiftLeft]
  rcases Nat.lt_or_ge i n with h | h
  · simp [h, Nat.not_le.mpr h]
  · simp [hi, h, Nat.not_lt.mpr h]
theorem b_sshr (n : Nat) (hn : n < 32) (x : Int32) {i : Nat} (hi : i < 32) : bt (x >>> (nI n &&& 31)) i = if n + i < 32 then bt x (n + i) else bt x 31 := by
  unfold bt
  rw [Int32.toBitVec_shiftRight]
  show (x.toBitVec.sshiftRight ((nI n &&& 31).toBitVec.smod 32).toNat).getLsbD i = _
  rw [s_l n hn, BitVec.getLsbD_sshiftRight, BitVec.msb_eq_getLsbD_last]
  simp [hi]
theorem bt_1 (i : Nat) : bt (nI 1) i = decide (i = 0) := by
  rcases Nat.lt_or_ge i 32 with h | h
  · exact (by decide +kernel : ∀ i, i < 32 → bt (nI 1) i = decide (i = 0)) i h
  · unfold bt; rw [BitVec.getLsbD_of_ge _ _ h, decide_eq_false (by omega)]
theorem bt_n {m : Nat} (i : Nat) (hi : i < 32) : bt (nI m) i = m.testBit i := by
  show (BitVec.ofNat 32 m).getLsbD i = _
  rw [BitVec.getLsbD_ofNat]; simp [hi]
theorem tb_iff {x : Int32} {k : Nat} (hk : k < 32) : tbI x (nI k) ↔ bt x k = true := by
  have h0 : bt ((x >>> (nI k &&& 31)) &&& nI 1) 0 = bt x k := by
    rw [b_and, bt_1, b_sshr k hk x (by decide), if_pos (by omega)]; simp
  unfold tbI
  constructor
  · intro h
    rw [h] at h0
    rw [← h0, bt_1]; rfl
  · intro h
    refine b_ext (fun i hi => ?_)
    by_cases e : i = 0
    · subst e; rw [h0, h, bt_1]; rfl
    · rw [b_and, bt_1, decide_eq_false e, Bool.and_false]
theorem tb_or {x z : Int32} {k : Nat} (hk : k < 32) : tbI (x ||| z) (nI k) ↔ tbI x (nI k) ∨ tbI z (nI k) := by
  rw [tb_iff hk, tb_iff hk, tb_iff hk, b_or, Bool.or_eq_true]
theorem tb_shl {j k : Nat} (hj : j < 32) (hk : k < 32) : tbI (nI 1 <<< (nI j &&& 31)) (nI k) ↔ k = j := by
  rw [tb_iff hk, b_shl j hj _ hk, bt_1]
  simp only [Bool.and_eq_true, decide_eq_true_eq]; omega
theorem tb_xor {x : Int32} {j k : Nat} (hj : j < 32) (hk : k < 32) : tbI (x ^^^ (nI 1 <<< (nI j &&& 31))) (nI k) ↔ (if k = j then ¬ tbI x (nI k) else tbI x (nI k)) := by
  rw [tb_iff hk, tb_iff hk, b_xor, b_shl j hj _ hk, bt_1]
  by_cases e : k = j
  · subst e
    rw [if_pos rfl, show (decide (k ≤ k) && decide (k - k = 0)) = true by simp]
    cases bt x k <;> simp
  · rw [if_neg e, show (decide (j ≤ k) && decide (k - j = 0)) = false by simp; omega]
    cases bt x k <;> simp
theorem RQ.fell (h : RQ C Q) (hI : IP C w c n t) {j : Nat} (hj : j < t) {is : Int32} (his : is = nI 0 ∨ is = nI 1) (hne : ¬ b2 (flP C j) = is) : RQ (pg C 4 (C.1 4 ^^^ (nI 1 <<< (nI j &&& 31)))) (pa Q 19 j (vp_nar .boolean is)) := by
  have ht := hI.t8
  have et := h.et hI
  rw [vn_b his]
  obtain ⟨h1, h2, h3, h4, h5, h6, h7, h8, h9, h10⟩ := h
  have e : ∀ k q, ¬ k = 19 → (pa Q 19 j is).2 k q = Q.2 k q := fun k q z => by rw [pa_val, if_neg (fun y => z y.1)]
  refine ⟨fun k hk => ?_, h2, fun k q a b => (e k q (by omega)).trans (h3 k q a b), fun k q a b d => (e k q (by omega)).trans (h4 k q a b d), fun k q a b d => (e k q (by omega)).trans (h5 k q a b d), fun q hq => ?_, fun k q a b d => (e k q (by omega)).trans (h7 k q a b d), fun k q a b d => (e k q (by omega)).trans (h8 k q a b d), fun k q a b => (e 18 _ (by omega)).trans (h9 k q a b), fun q hq => ?_⟩
  · rw [pg_val, if_neg (by omega)]; exact h1 k hk
  · have hq : q < dN (C.1 3) := hq
    rw [et] at hq
    show (pa Q 19 j is).2 19 q = b2 (tbI (C.1 4 ^^^ (nI 1 <<< (nI j &&& 31))) (nI q))
    rw [b2_iff (tb_xor (by omega) (by omega)), pa_val]
    by_cases z : q = j
    · subst z
      rw [if_pos ⟨rfl, rfl⟩, b2_iff (show (if q = q then ¬ tbI (C.1 4) (nI q) else tbI (C.1 4) (nI q)) ↔ ¬ tbI (C.1 4) (nI q) by rw [if_pos rfl])]
      by_cases y : tbI (C.1 4) (nI q)
      · rw [b2_f (fun q => q y)]
        rcases his with e | e
        · exact e
        · exact absurd ((b2_t (show flP C q from y)).trans e.symm) hne
      · rw [b2_t y]
        rcases his with e | e
        · exact absurd ((b2_f (show ¬ flP C q from y)).trans e.symm) hne
        · exact e
    · rw [if_neg (fun y => z y.2), h6 q (by rw [et]; exact hq)]
      exact b2_iff (by rw [if_neg z])
  · rw [pa_val]
    by_cases z : (19 : Nat) = 19 ∧ q = j
    · rw [if_pos z]; exact his
    · rw [if_neg z]; exact h10 q hq
/-- a term of an or that may be there -/
noncomputable def orc (p : Prop) (b : Int32) : Int32 := cif p b (nI 0)
theorem or_or_self (m b : Int32) : (m ||| b) ||| b = m ||| b := by
  refine b_ext (fun i _ => ?_)
  rw [b_or, b_or]; cases bt m i <;> cases bt b i <;> rfl
theorem orc_t {m b : Int32} {q : Nat → Prop} {i : Nat} (h : q i) : (m ||| orc (∃ o, o < i ∧ q o) b) ||| b = m ||| orc (∃ o, o < i + 1 ∧ q o) b := by
  unfold orc
  rw [cif_t (p := ∃ o, o < i + 1 ∧ q o) ⟨i, by omega, h⟩]
  by_cases e : ∃ o, o < i ∧ q o
  · rw [cif_t e, or_or_self]
  · rw [cif_f e, or_nI0]
theorem orc_f {m b : Int32} {q : Nat → Prop} {i : Nat} (h : ¬ q i) : m ||| orc (∃ o, o < i ∧ q o) b = m ||| orc (∃ o, o < i + 1 ∧ q o) b := by
  unfold orc
  rw [cif_iff (show (∃ o, o < i ∧ q o) ↔ ∃ o, o < i + 1 ∧ q o from ⟨fun ⟨o, h1, h2⟩ => ⟨o, by omega, h2⟩, fun ⟨o, h1, h2⟩ => by
    rcases Nat.lt_or_ge o i with z | z
    · exact ⟨o, z, h2⟩
    · have : o = i := by omega
      subst this; exact absurd h2 h⟩)]
theorem orc_0 {m b : Int32} {q : Nat → Prop} : m = m ||| orc (∃ o, o < 0 ∧ q o) b := by
  unfold orc
  rw [cif_f (by rintro ⟨o, h, -⟩; omega), or_nI0]
theorem orc_end {p : Nat → Prop} {h : Nat} {e : Prop} (he : e ↔ p h) : msk p h ||| orc e (nI 1 <<< (nI h &&& 31)) = msk p (h + 1) := by
  unfold orc
  by_cases z : p h
  · rw [cif_t (he.mpr z), msk_t z]
  · rw [cif_f (fun y => z (he.mp y)), msk_f z, or_nI0]
end RQ2
