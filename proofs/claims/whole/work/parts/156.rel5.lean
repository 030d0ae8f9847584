theorem RQ.sa {C Q : PT} (h : RQ C Q) {k : Nat} (hk : 20 ≤ k) (i : Nat) (v : Int32) : RQ C (pa Q k i v) := by
  obtain ⟨h1, h2, h3, h4, h5, h6, h7, h8, h9, h10⟩ := h
  have e : ∀ j q, j < 20 → (pa Q k i v).2 j q = Q.2 j q := fun j q z => by rw [pa_val, if_neg (by omega)]
  exact ⟨h1, h2, fun j q a b => (e _ _ (by omega)).trans (h3 j q a b), fun j q a b c => (e _ _ (by omega)).trans (h4 j q a b c), fun j q a b c => (e _ _ (by omega)).trans (h5 j q a b c), fun q a => (e _ _ (by omega)).trans (h6 q a), fun j q a b c => (e _ _ (by omega)).trans (h7 j q a b c), fun j q a b c => (e _ _ (by omega)).trans (h8 j q a b c), fun j q a b => (e _ _ (by omega)).trans (h9 j q a b), fun q a => by rw [e _ _ (by omega)]; exact h10 q a⟩
theorem RQ.sg {C Q : PT} (h : RQ C Q) {k : Nat} (hk : 12 ≤ k) (v : Int32) : RQ C (pg Q k v) := by
  obtain ⟨h1, h2, h3, h4, h5, h6, h7, h8, h9, h10⟩ := h
  refine ⟨fun j hj => ?_, ?_, h3, h4, h5, h6, h7, h8, h9, h10⟩
  · rw [pg_val, if_neg (by omega)]; exact h1 j hj
  · obtain ⟨hi, a, b, c⟩ := h2
    exact ⟨hi, a, by rw [pg_val, if_neg (by omega)]; exact b, c⟩
/-- the reference, with a new house as its last -/
def adH (P : PT) (n q : Nat) (tall s : Int32) : PT := pg (pg (pa (pa (pa (pa (pa P 3 n (nI 0)) 4 n (nI q)) 5 n tall) 6 n (nI 0)) 2 q (nI (10 + n))) 2 (nI (n + 1))) 17 s
theorem adH_o (P : PT) (n q : Nat) (tall s z : Int32) : pg (adH P n q tall s) 17 z = adH P n q tall z := pg_pg _ _ _ _
theorem adH_v (P : PT) (n q : Nat) (tall s : Int32) (j k : Nat) : (adH P n q tall s).2 j k = if j = 2 ∧ k = q then nI (10 + n) else if j = 6 ∧ k = n then nI 0 else if j = 5 ∧ k = n then tall else if j = 4 ∧ k = n then nI q else if j = 3 ∧ k = n then nI 0 else P.2 j k := by
  show (pa (pa (pa (pa (pa P 3 n (nI 0)) 4 n (nI q)) 5 n tall) 6 n (nI 0)) 2 q (nI (10 + n))).2 j k = _
  rw [pa_val, pa_val, pa_val, pa_val, pa_val]
theorem adH_pl {P : PT} {n q : Nat} {tall s : Int32} (hq : q < 2 ^ 31) (k : Nat) : plN (adH P n q tall s) k = if k = n then q else plN P k := by
  unfold plN
  rw [adH_v, if_neg (by omega), if_neg (by omega), if_neg (by omega)]
  by_cases e : k = n
  · rw [if_pos ⟨rfl, e⟩, if_pos e]; exact nI_clamp hq
  · rw [if_neg (fun z => e z.2), if_neg (by omega), if_neg e]
theorem adH_o2 {P : PT} {n q : Nat} {tall s : Int32} {j k : Nat} (h : j ≠ 2 ∨ k ≠ q) (h2 : (j = 3 ∨ j = 4 ∨ j = 5 ∨ j = 6) → k ≠ n) : (adH P n q tall s).2 j k = P.2 j k := by
  rw [adH_v, if_neg (by omega), if_neg (by omega), if_neg (by omega), if_neg (by omega), if_neg (by omega)]
theorem IQ.adH {P : PT} {w c n t hi : Nat} (h : IQ P w c n t hi) (hn : n ≤ 8) {q : Nat} (hq : q < c) (hfree : ∀ k, k < n → plN P k ≠ q) (tall s : Int32) : IQ (adH P n q tall s) w c (n + 1) t hi := by
  have hc := h.c30
  have hq31 : q < 2 ^ 31 := by omega
  refine ⟨⟨h.ww, rfl, h.tt, h.hh, h.cc, by omega, h.t8, hc⟩, h.2.1, ?_, ?_, ?_⟩
  · intro k hk
    rw [adH_pl hq31]
    by_cases e : k = n
    · rw [if_pos e, e, adH_v, if_neg (by omega), if_neg (by omega), if_neg (by omega), if_pos ⟨rfl, rfl⟩]; exact ⟨rfl, hq⟩
    · rw [if_neg e, adH_o2 (by omega) (by omega)]; exact h.2.2.1 k (by omega)
  · intro i j hi hj z
    rw [adH_pl hq31, adH_pl hq31] at z
    by_cases e1 : i = n
    · by_cases e2 : j = n
      · omega
      · rw [if_pos e1, if_neg e2] at z; exact absurd z.symm (hfree j (by omega))
    · by_cases e2 : j = n
      · rw [if_neg e1, if_pos e2] at z; exact absurd z (hfree i (by omega))
      · rw [if_neg e1, if_neg e2] at z; exact h.2.2.2.1 i j (by omega) (by omega) z
  · intro k hk
    by_cases e : k = q
    · rw [adH_v, if_pos ⟨rfl, e⟩]; exact Or.inr (Or.inl ⟨n, by omega, rfl⟩)
    · rw [adH_o2 (by omega) (by omega)]; exact h.2.2.2.2 k hk
theorem IQ.same {P P' : PT} {w c n t h1 h2 : Nat} (a : IQ P w c n t h1) (b : IQ P' w c n t h2) (h0 : 0 < c) : IQ P w c n t h2 := by
  have e1 := a.cc
  have e2 := b.cc
  have hw := (a.2.1 h0).1
  have e : h1 = h2 := Nat.eq_of_mul_eq_mul_right (show 0 < w by omega) (e1.symm.trans e2)
  subst e; exact a
section RQ5
variable {C Q : PT} {w c n t : Nat}
theorem IP.pl0 (hI : IP C w c n t) {q : Nat} (hz : C.2 2 q = 0) {k : Nat} (hk : k < n) : plN C k ≠ q := fun e => by
  have h2 := (hI.pl hk).2.2
  rw [e, hz] at h2
  exact absurd (nI_inj (a := 0) (by decide) (by have := hI.n8; omega) h2) (by omega)
theorem th_z (hI : IP C w c n t) {q : Nat} (hq : q < c) (h : ¬ 0 < C.2 2 q) : C.2 2 q = 0 := (th_le hI hq).mp (by rw [i_le]; rw [i_lt] at h; omega)
theorem RQ.adtop (h : RQ C Q) (hI : IP C w c n t) (hc : C.1 1 = nI c) {q : Nat} (hq : q < c) (tall s : Int32) {k : Nat} (hk : k < c) : sTop (adH Q n q tall s) ((adH Q n q tall s).1 5) (flQ (adH Q n q tall s)) k = upd (sTop C (C.1 5) (flP C)) q (C.2 0 q + tall) k := by
  have hn := hI.n8
  have ht := hI.t8
  unfold upd
  by_cases e : k = q
  · rw [if_pos e]
    have e2 : thN (adH Q n q tall s) k = 10 + n := thN_of (by rw [adH_v, if_pos ⟨rfl, e⟩]) (by omega)
    have v3 : (adH Q n q tall s).2 3 n = nI 0 := by rw [adH_v, if_neg (by omega), if_neg (by omega), if_neg (by omega), if_neg (by omega), if_pos ⟨rfl, rfl⟩]
    have v5 : (adH Q n q tall s).2 5 n = tall := by rw [adH_v, if_neg (by omega), if_neg (by omega), if_pos ⟨rfl, rfl⟩]
    have v6 : (adH Q n q tall s).2 6 n = nI 0 := by rw [adH_v, if_neg (by omega), if_pos ⟨rfl, rfl⟩]
    have v0 : (adH Q n q tall s).2 0 k = C.2 0 q := by rw [adH_o2 (by omega) (by omega), e]; exact h.cell hI hc (by decide) hq
    unfold sTop sOn
    rw [e2, cif_f (show ¬ 10 + n = 0 by omega), cif_t (show 10 + n < 20 by omega), show 10 + n - 10 = n by omega]
    unfold sHt
    rw [v3, v5, v6, v0, cif_f (show ¬ nI 1 < nI 0 by decide), cif_f (show ¬ nI 0 < nI 0 by decide), add_nI0]
  · rw [if_neg e, ← h.top hI hc hk]
    have e2 : thN (adH Q n q tall s) k = thN Q k := by unfold thN; rw [adH_o2 (Or.inr e) (by omega)]
    have c2 := h.cell hI hc (k := 2) (by decide) hk
    unfold sTop sOn
    rw [e2, adH_o2 (j := 0) (by omega) (by omega), adH_o2 (j := 1) (by omega) (by omega)]
    congr 1
    rcases hI.2.2.2.2 k hk with z | ⟨j, z1, z2, -⟩ | ⟨j, z1, z2, -⟩
    · have e5 : thN Q k = 0 := thN_of (c2.trans z) (by decide)
      rw [cif_t e5, cif_t e5]
    · have e5 : thN Q k = 10 + j := thN_of (c2.trans z2) (by omega)
      rw [e5, cif_f (show ¬ 10 + j = 0 by omega), cif_f (show ¬ 10 + j = 0 by omega), cif_t (show 10 + j < 20 by omega), cif_t (show 10 + j < 20 by omega), show 10 + j - 10 = j by omega, adH_o2 (j := 6) (by omega) (by omega)]
      unfold sHt
      rw [adH_o2 (j := 3) (by omega) (by omega), adH_o2 (j := 5) (by omega) (by omega)]; rfl
    · have e5 : thN Q k = 20 + j := thN_of (c2.trans z2) (by omega)
      rw [e5, cif_f (show ¬ 20 + j = 0 by omega), cif_f (show ¬ 20 + j = 0 by omega), cif_f (show ¬ 20 + j < 20 by omega), cif_f (show ¬ 20 + j < 20 by omega), show 20 + j - 20 = j by omega]
      unfold sTr
      rw [adH_o2 (j := 8) (by omega) (by omega)]
      refine cif_iff ?_
      show ¬ (adH Q n q tall s).2 19 j = 0 ↔ ¬ Q.2 19 j = 0
      rw [adH_o2 (j := 19) (by omega) (by omega)]
theorem RQ.adclr (h : RQ C Q) (hI : IP C w c n t) (hc : C.1 1 = nI c) {q : Nat} (hq : q < c) (tall s : Int32) {a b : Nat} (ha : a < c) (hb : b < c) : sClr w ((adH Q n q tall s).1 6) (sTop (adH Q n q tall s) ((adH Q n q tall s).1 5) (flQ (adH Q n q tall s))) a b ↔ sClr w (C.1 6) (upd (sTop C (C.1 5) (flP C)) q (C.2 0 q + tall)) a b := by
  rw [show (adH Q n q tall s).1 6 = C.1 6 from h.1 6 (by omega)]
  exact sClr_congr ha hb (fun z hz => h.adtop hI hc hq tall s hz)
theorem RQ.adnum (h : RQ C Q) (hI : IP C w c n t) (hc : C.1 1 = nI c) {q : Nat} (hq : q < c) (tall s : Int32) {k : Nat} (hk : k < n) : mNum (adH Q n q tall s) w (n + 1) k = nThen C w n (flP C) q tall k := by
  have hq31 : q < 2 ^ 31 := by have := hI.c30; omega
  have ep : ∀ o, o < n → plN (adH Q n q tall s) o = plN C o := fun o ho => by rw [adH_pl hq31, if_neg (by omega), h.pl hI ho]
  have en : plN (adH Q n q tall s) n = q := by rw [adH_pl hq31, if_pos rfl]
  show cn (mfp (adH Q n q tall s) w k) n + cif (mfp (adH Q n q tall s) w k n) 1 0 = nThen C w n (flP C) q tall k
  unfold nThen
  congr 1
  · refine cn_congr (fun o ho => ?_)
    show (¬ o = k ∧ sClr w ((adH Q n q tall s).1 6) (sTop (adH Q n q tall s) ((adH Q n q tall s).1 5) (flQ (adH Q n q tall s))) (plN (adH Q n q tall s) k) (plN (adH Q n q tall s) o)) ↔ (plN C o ≠ plN C k ∧ sClr w (C.1 6) (upd (sTop C (C.1 5) (flP C)) q (C.2 0 q + tall)) (plN C k) (plN C o))
    rw [ep k hk, ep o ho, h.adclr hI hc hq tall s (hI.pl hk).2.1 (hI.pl ho).2.1]
    exact and_congr_left (fun _ => ⟨fun z y => z (hI.pl_inj ho hk y), fun z y => z (by rw [y])⟩)
  · refine cif_iff ?_
    show (¬ n = k ∧ sClr w ((adH Q n q tall s).1 6) (sTop (adH Q n q tall s) ((adH Q n q tall s).1 5) (flQ (adH Q n q tall s))) (plN (adH Q n q tall s) k) (plN (adH Q n q tall s) n)) ↔ sClr w (C.1 6) (upd (sTop C (C.1 5) (flP C)) q (C.2 0 q + tall)) (plN C k) q
    rw [ep k hk, en, h.adclr hI hc hq tall s (hI.pl hk).2.1 hq]
    exact ⟨fun z => z.2, fun z => ⟨by omega, z⟩⟩
theorem RQ.adnew (h : RQ C Q) (hI : IP C w c n t) (hc : C.1 1 = nI c) {q : Nat} (hq : q < c) (hz : C.2 2 q = 0) (tall s : Int32) : mNum (adH Q n q tall s) w (n + 1) n = aFresh C w n (flP C) q tall := by
  have hq31 : q < 2 ^ 31 := by have := hI.c30; omega
  have ep : ∀ o, o < n → plN (adH Q n q tall s) o = plN C o := fun o ho => by rw [adH_pl hq31, if_neg (by omega), h.pl hI ho]
  have en : plN (adH Q n q tall s) n = q := by rw [adH_pl hq31, if_pos rfl]
  show cn (mfp (adH Q n q tall s) w n) n + cif (mfp (adH Q n q tall s) w n n) 1 0 = aFresh C w n (flP C) q tall
  rw [cif_f (fun z => z.1 rfl)]
  refine cn_congr (fun o ho => ?_)
  show (¬ o = n ∧ sClr w ((adH Q n q tall s).1 6) (sTop (adH Q n q tall s) ((adH Q n q tall s).1 5) (flQ (adH Q n q tall s))) (plN (adH Q n q tall s) n) (plN (adH Q n q tall s) o)) ↔ (plN C o ≠ q ∧ sClr w (C.1 6) (upd (sTop C (C.1 5) (flP C)) q (C.2 0 q + tall)) q (plN C o))
  rw [en, ep o ho, h.adclr hI hc hq tall s hq (hI.pl ho).2.1]
  exact and_congr_left (fun _ => ⟨fun _ => hI.pl0 hz ho, fun _ => by omega⟩)
theorem nThen_lt (hI : IP C w c n t) (fl : Nat → Prop) (q : Nat) (tall : Int32) (h : Nat) : nThen C w n fl q tall h < 2 ^ 31 := by
  have h1 := sNf_le C w n (C.1 6) (upd (sTop C (C.1 5) fl) q (C.2 0 q + tall)) (plN C h)
  have h2 := hI.n8
  unfold nThen
  have h3 : cif (sClr w (C.1 6) (upd (sTop C (C.1 5) fl) q (C.2 0 q + tall)) (plN C h) q) 1 0 ≤ 1 := by unfold cif; split <;> omega
  omega
theorem sNum_lt (hI : IP C w c n t) (fog yr : Int32) (fl : Nat → Prop) (h : Nat) : sNum C w n fog yr fl h < 2 ^ 31 := Nat.lt_of_le_of_lt (sNf_le _ _ _ _ _ _) (by have := hI.n8; omega)
theorem RQ.unad (h : RQ C Q) (hI : IP C w c n t) (hc : C.1 1 = nI c) {q : Nat} (hq : q < c) (hz : C.2 2 q = 0) (tall s : Int32) : RQ C (pa (pg (adH Q n q tall s) 2 (nI n)) 2 q (nI 0)) := by
  have hq2 : Q.2 2 q = nI 0 := (h.cell hI hc (by decide) hq).trans hz
  have en := h.en hI
  have e : ∀ j k, (3 ≤ j → j < 7 → k ≠ n) → (pa (pg (adH Q n q tall s) 2 (nI n)) 2 q (nI 0)).2 j k = Q.2 j k := fun j k z => by
    rw [pa_val]
    by_cases y : j = 2 ∧ k = q
    · rw [if_pos y, y.1, y.2, hq2]
    · rw [if_neg y]
      exact adH_o2 (s := s) (by omega) (by omega)
  obtain ⟨h1, h2, h3, h4, h5, h6, h7, h8, h9, h10⟩ := h
  refine ⟨fun k hk => ?_, h2, fun j k a b => (e _ _ (by omega)).trans (h3 j k a b), fun j k a b z => (e _ _ (by omega)).trans (h4 j k a b z), fun j k a b z => (e _ _ (by omega)).trans (h5 j k a b z), fun k a => (e _ _ (by omega)).trans (h6 k a), fun j k a b z => (e _ _ (by omega)).trans (h7 j k a b z), fun j k a b z => (e _ _ (by omega)).trans (h8 j k a b z), fun j k a b => (e _ _ (by omega)).trans (h9 j k a b), fun k a => by rw [e _ _ (by omega)]; exact h10 k a⟩
  show (pg (pg (pg Q 2 (nI (n + 1))) 17 s) 2 (nI n)).1 k = C.1 k
  rw [pg_val, pg_val, pg_val]
  by_cases y : k = 2
  · rw [if_pos y, y, hI.nn]
  · rw [if_neg y, if_neg (by omega), if_neg y]; exact h1 k hk
theorem RQ.w19 {f1 : Int32} {Q' : PT} (h : RQ (pg C 4 f1) Q) (f : Int32) (e1 : Q'.1 = Q.1) (e2 : ∀ j k, ¬ j = 19 → Q'.2 j k = Q.2 j k) (hfb : FB Q') (hv : ∀ q, q < dN (C.1 3) → Q'.2 19 q = b2 (tbI f (nI q))) : RQ (pg C 4 f) Q' := by
  obtain ⟨h1, h2, h3, h4, h5, h6, h7, h8, h9, h10⟩ := h
  refine ⟨fun k hk => ?_, by rw [e1]; exact h2, fun j k a b => (e2 _ _ (by omega)).trans (h3 j k a b), fun j k a b z => (e2 _ _ (by omega)).trans (h4 j k a b z), fun j k a b z => (e2 _ _ (by omega)).trans (h5 j k a b z), fun k a => hv k a, fun j k a b z => (e2 _ _ (by omega)).trans (h7 j k a b z), fun j k a b z => (e2 _ _ (by omega)).trans (h8 j k a b z), fun j k a b => (e2 _ _ (by omega)).trans (h9 j k a b), hfb⟩
  have y := h1 k hk
  rw [pg_val, if_neg (by omega)] at y
  rw [pg_val, if_neg (by omega), e1]; exact y
theorem fA2_v (P : PT) (u v x z : Int32) (t j k : Nat) (h : ¬ j = 19) : (fA (fA P u x t) v z t).2 j k = P.2 j k := by rw [fA_ne _ _ _ _ h, fA_ne _ _ _ _ h]
theorem RQ.stw {f1 : Int32} (h : RQ (pg C 4 f1) Q) (hI : IP C w c n t) {i : Nat} (hi : i < 2 ^ t) : RQ (pg C 4 (nI (2 ^ t - 1 - i))) (fA (fA Q (nI (2 ^ t - 1)) (nI 1) t) (nI i) (nI 0) t) := by
  have ht := hI.t8
  have et : dN (C.1 3) = t := by rw [hI.tt]; exact dN_nI (by omega)
  refine h.w19 _ rfl (fun j k z => fA2_v _ _ _ _ _ _ _ _ z) (fA_FB (fA_FB h.2.2.2.2.2.2.2.2.2 (Or.inr rfl) _ _) (Or.inl rfl) _ _) (fun q hq => ?_)
  rw [et] at hq
  rw [fA_at, fA_at, cif_t (p := q < t ∧ tbI (nI (2 ^ t - 1)) (nI q)) ⟨hq, by rw [tb_n (by omega), Nat.testBit_two_pow_sub_one]; exact decide_eq_true hq⟩]
  have e : tbI (nI (2 ^ t - 1 - i)) (nI q) ↔ ¬ tbI (nI i) (nI q) := by
    rw [tb_n (by omega), tb_n (by omega), show 2 ^ t - 1 - i = 2 ^ t - (i + 1) by omega, Nat.testBit_two_pow_sub_succ hi]
    cases i.testBit q <;> simp [hq]
  rw [b2_iff e]
  by_cases z : tbI (nI i) (nI q)
  · rw [cif_t ⟨hq, z⟩, b2_f (fun y => y z)]
  · rw [cif_f (fun y => z y.2), b2_t z]
theorem RQ.stb {f1 : Int32} (h : RQ (pg C 4 f1) Q) (hI : IP C w c n t) : RQ C (fA (fA Q (nI (2 ^ t - 1)) (nI 0) t) (C.1 4) (nI 1) t) := by
  have ht := hI.t8
  have et : dN (C.1 3) = t := by rw [hI.tt]; exact dN_nI (by omega)
  have key : RQ (pg C 4 (C.1 4)) (fA (fA Q (nI (2 ^ t - 1)) (nI 0) t) (C.1 4) (nI 1) t) := by
    refine h.w19 _ rfl (fun j k z => fA2_v _ _ _ _ _ _ _ _ z) (fA_FB (fA_FB h.2.2.2.2.2.2.2.2.2 (Or.inl rfl) _ _) (Or.inr rfl) _ _) (fun q hq => ?_)
    rw [et] at hq
    rw [fA_at, fA_at, cif_t (p := q < t ∧ tbI (nI (2 ^ t - 1)) (nI q)) ⟨hq, by rw [tb_n (by omega), Nat.testBit_two_pow_sub_one]; exact decide_eq_true hq⟩]
    by_cases z : tbI (C.1 4) (nI q)
    · rw [cif_t ⟨hq, z⟩, b2_t z]
    · rw [cif_f (fun y => z y.2), b2_f z]
  rwa [pg_self] at key
end RQ5
theorem cn_fs0 {p : Nat → Prop} : ∀ {i : Nat}, cn p i = 0 → fsI (fun s => fnd (p s) s) i = -9
  | 0, _ => rfl
  | i + 1, h => by
    have h1 : cn p i + cif (p i) 1 0 = 0 := h
    have h2 := cn_fs0 (p := p) (i := i) (by omega)
    by_cases z : p i
    · rw [cif_t z] at h1; omega
    · exact fnd_miss (v := fun s => s) h2 z
theorem cn_fs1 {p : Nat → Prop} : ∀ {i : Nat}, i < 2 ^ 31 → 0 < cn p i → ¬ fsI (fun s => fnd (p s) s) i = -9
  | 0, _, h => absurd h (Nat.lt_irrefl 0)
  | i + 1, hi, h => by
    by_cases e : fsI (fun s => fnd (p s) s) i = -9
    · have h0 : ¬ 0 < cn p i := fun z => cn_fs1 (by omega) z e
      have h1 : 0 < cn p i + cif (p i) 1 0 := h
      by_cases z : p i
      · show ¬ cif (fsI (fun s => fnd (p s) s) i = -9) (fnd (p i) i) _ = -9
        rw [cif_t e, fnd_t z]; exact nI_ne9 (by omega)
      · rw [cif_f z] at h1; omega
    · show ¬ cif (fsI (fun s => fnd (p s) s) i = -9) (fnd (p i) i) (fsI (fun s => fnd (p s) s) i) = -9
      rw [cif_f e]; exact e
theorem or_0L (x : Int64) : x ||| 0 = x := Int64.or_zero
theorem pa_comm (P : PT) {k j : Nat} (i q : Nat) (u v : Int32) (h : k ≠ j) : pa (pa P k i u) j q v = pa (pa P j q v) k i u := by
  refine PT_ext rfl (fun a b => ?_)
  rw [pa_val, pa_val, pa_val, pa_val]
  by_cases e : a = j ∧ b = q
  · rw [if_pos e, if_neg (by omega), if_pos e]
  · rw [if_neg e, if_neg e]
