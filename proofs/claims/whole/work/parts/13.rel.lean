/-! THE CLASS'S STATE C AND THE REFERENCE'S Q, side by side -/
theorem pa_val (P : PT) (k i : Nat) (v : Int32) (j q : Nat) : (pa P k i v).2 j q = if j = k ∧ q = i then v else P.2 j q := by
  by_cases h : j = k
  · subst h
    rw [pa_at]; unfold upd
    by_cases e : q = i
    · rw [if_pos e, if_pos ⟨rfl, e⟩]
    · rw [if_neg e, if_neg (fun z => e z.2)]
  · rw [pa_ne _ _ _ h, if_neg (fun z => h z.1)]
theorem pg_val (P : PT) (k : Nat) (v : Int32) (j : Nat) : (pg P k v).1 j = if j = k then v else P.1 j := rfl
def RQ (C Q : PT) : Prop :=
  (∀ k, (k = 0 ∨ k = 2 ∨ k = 3 ∨ k = 5 ∨ k = 6 ∨ k = 7 ∨ k = 8 ∨ k = 9 ∨ k = 10) → Q.1 k = C.1 k) ∧
  (∃ hi, hi ≤ 5 ∧ Q.1 11 = nI hi ∧ dN (C.1 1) = hi * dN (C.1 0) ∧ (dN (C.1 1) = 0 ↔ hi = 0)) ∧
  (∀ k q, k < 3 → q < dN (C.1 1) → Q.2 k q = C.2 k q) ∧ (∀ k h, 3 ≤ k → k < 7 → h < dN (C.1 2) → Q.2 k h = C.2 k h) ∧
  (∀ k h, 7 ≤ k → k < 9 → h < dN (C.1 3) → Q.2 k h = C.2 k h) ∧ (∀ h, h < dN (C.1 3) → Q.2 19 h = b2 (flP C h)) ∧
  (∀ k r, 9 ≤ k → k < 12 → r < dN (C.1 8) → Q.2 k r = C.2 k r) ∧ (∀ k q, 12 ≤ k → k < 14 → q < 4 → Q.2 k q = C.2 k q) ∧
  (∀ k i, k < 4 → i < 100 → Q.2 18 (100 * k + i) = C.2 (14 + k) i) ∧ FB Q
theorem RQ.wpa {C Q : PT} (h : RQ C Q) {k : Nat} (hk : k < 14) (i : Nat) (v : Int32) : RQ (pa C k i v) (pa Q k i v) := by
  obtain ⟨h1, h2, h3, h4, h5, h6, h7, h8, h9, h10⟩ := h
  have e : ∀ j q, Q.2 j q = C.2 j q → (pa Q k i v).2 j q = (pa C k i v).2 j q := by
    intro j q z
    rw [pa_val, pa_val, z]
  refine ⟨h1, h2, fun j q a b => e _ _ (h3 j q a b), fun j q a b c => e _ _ (h4 j q a b c), fun j q a b c => e _ _ (h5 j q a b c), ?_, fun j q a b c => e _ _ (h7 j q a b c), fun j q a b c => e _ _ (h8 j q a b c), ?_, ?_⟩
  · intro q hq
    rw [pa_val, if_neg (by omega)]; exact h6 q hq
  · intro j q a b
    rw [pa_val, pa_val, if_neg (by omega), if_neg (by omega)]; exact h9 j q a b
  · intro q hq
    rw [pa_val, if_neg (by omega)]; exact h10 q hq
theorem RQ.wpg {C Q : PT} (h : RQ C Q) {k : Nat} (hk : k = 5 ∨ k = 6 ∨ k = 7 ∨ k = 9 ∨ k = 10) (v : Int32) : RQ (pg C k v) (pg Q k v) := by
  obtain ⟨h1, h2, h3, h4, h5, h6, h7, h8, h9, h10⟩ := h
  have e : ∀ j, ¬ j = k → (pg C k v).1 j = C.1 j := fun j z => by rw [pg_val, if_neg z]
  have e1 := e 1 (by omega)
  have e0 := e 0 (by omega)
  have e2 := e 2 (by omega)
  have e3 := e 3 (by omega)
  have e4 := e 4 (by omega)
  have e8 := e 8 (by omega)
  refine ⟨?_, ?_, by rw [e1]; exact h3, by rw [e2]; exact h4, by rw [e3]; exact h5, ?_, by rw [e8]; exact h7, h8, h9, h10⟩
  · intro j hj
    rw [pg_val, pg_val]
    by_cases z : j = k
    · rw [if_pos z, if_pos z]
    · rw [if_neg z, if_neg z]; exact h1 j hj
  · obtain ⟨hi, a, b, c, d⟩ := h2
    exact ⟨hi, a, by rw [pg_val, if_neg (by omega)]; exact b, by rw [e1, e0]; exact c, by rw [e1]; exact d⟩
  · rw [e3]
    intro q hq
    show Q.2 19 q = b2 (tbI ((pg C k v).1 4) (nI q))
    rw [e4]; exact h6 q hq
section RQS
variable {C Q : PT} {w c n t : Nat}
theorem RQ.iq (h : RQ C Q) (hI : IP C w c n t) (hc : C.1 1 = nI c) : ∃ hi, hi ≤ 5 ∧ IQ Q w c n t hi ∧ (c = 0 ↔ hi = 0) := by
  obtain ⟨hi, a1, a2, a3, a4⟩ := h.2.1
  have ec : dN (C.1 1) = c := by rw [hc]; exact dN_nI (by have := hI.c30; omega)
  have ew : dN (C.1 0) = w := by
    rw [hI.ww]
    apply dN_nI
    rcases hI.2.1 with z | z
    · have := z.2.1; omega
    · omega
  have en : dN (C.1 2) = n := by rw [hI.nn]; exact dN_nI (by have := hI.n8; omega)
  have pl : ∀ k, k < n → plN Q k = plN C k := fun k hk => by unfold plN; rw [h.2.2.2.1 4 k (by decide) (by decide) (by rw [en]; exact hk)]
  rw [ec, ew] at a3
  rw [ec] at a4
  refine ⟨hi, a1, ⟨⟨(h.1 0 (Or.inl rfl)).trans hI.ww, (h.1 2 (by omega)).trans hI.nn, (h.1 3 (by omega)).trans hI.tt, a2, a3, by have := hI.n8; omega, hI.t8, hI.c30⟩, fun z => hI.vw z, ?_, ?_, ?_⟩, a4⟩
  · intro k hk
    rw [pl k hk, h.2.2.2.1 4 k (by decide) (by decide) (by rw [en]; exact hk)]
    exact ⟨(hI.pl hk).1, (hI.pl hk).2.1⟩
  · intro i j hi hj z
    rw [pl i hi, pl j hj] at z
    exact hI.pl_inj hi hj z
  · intro q hq
    rw [h.2.2.1 2 q (by decide) (by rw [ec]; exact hq)]
    rcases hI.vt q hq with z | ⟨k, z1, z2⟩ | z
    · exact Or.inl z
    · exact Or.inr (Or.inl ⟨k, by omega, z2⟩)
    · exact Or.inr (Or.inr z)
theorem RQ.ec (_ : RQ C Q) (hI : IP C w c n t) (hc : C.1 1 = nI c) : dN (C.1 1) = c := by rw [hc]; exact dN_nI (by have := hI.c30; omega)
theorem RQ.en (_ : RQ C Q) (hI : IP C w c n t) : dN (C.1 2) = n := by rw [hI.nn]; exact dN_nI (by have := hI.n8; omega)
theorem RQ.et (_ : RQ C Q) (hI : IP C w c n t) : dN (C.1 3) = t := by rw [hI.tt]; exact dN_nI (by have := hI.t8; omega)
theorem RQ.cell (h : RQ C Q) (hI : IP C w c n t) (hc : C.1 1 = nI c) {k q : Nat} (hk : k < 3) (hq : q < c) : Q.2 k q = C.2 k q := h.2.2.1 k q hk (by rw [h.ec hI hc]; exact hq)
theorem RQ.house (h : RQ C Q) (hI : IP C w c n t) {k q : Nat} (hk : 3 ≤ k) (hk2 : k < 7) (hq : q < n) : Q.2 k q = C.2 k q := h.2.2.2.1 k q hk hk2 (by rw [h.en hI]; exact hq)
theorem RQ.tree (h : RQ C Q) (hI : IP C w c n t) {k q : Nat} (hk : 7 ≤ k) (hk2 : k < 9) (hq : q < t) : Q.2 k q = C.2 k q := h.2.2.2.2.1 k q hk hk2 (by rw [h.et hI]; exact hq)
theorem RQ.fl (h : RQ C Q) (hI : IP C w c n t) {q : Nat} (hq : q < t) : Q.2 19 q = b2 (flP C q) := h.2.2.2.2.2.1 q (by rw [h.et hI]; exact hq)
theorem RQ.flq (h : RQ C Q) (hI : IP C w c n t) {q : Nat} (hq : q < t) : flQ Q q ↔ flP C q := by
  show ¬ Q.2 19 q = 0 ↔ _
  rw [h.fl hI hq, b2_e0, Classical.not_not]
theorem RQ.pl (h : RQ C Q) (hI : IP C w c n t) {q : Nat} (hq : q < n) : plN Q q = plN C q := by unfold plN; rw [h.house hI (by decide) (by decide) hq]
theorem RQ.hgt (h : RQ C Q) (hI : IP C w c n t) {q : Nat} (hq : q < n) (v : Int32) : sHt Q q v = sHt C q v := by
  unfold sHt
  rw [h.house hI (k := 3) (by decide) (by decide) hq, h.house hI (k := 5) (by decide) (by decide) hq, h.1 7 (by omega)]
theorem RQ.top (h : RQ C Q) (hI : IP C w c n t) (hc : C.1 1 = nI c) {q : Nat} (hq : q < c) : sTop Q (Q.1 5) (flQ Q) q = sTop C (C.1 5) (flP C) q := by
  unfold sTop sOn thN
  rw [h.cell hI hc (k := 0) (by decide) hq, h.cell hI hc (k := 1) (by decide) hq, h.cell hI hc (k := 2) (by decide) hq]
  congr 1
  rcases hI.2.2.2.2 q hq with z | ⟨k, z1, z2, -⟩ | ⟨k, z1, z2, -⟩
  · rw [z, nI_clamp (by decide), cif_t rfl, cif_t rfl]
  · have e := hI.n8
    rw [z2, nI_clamp (by omega), cif_f (show ¬ 10 + k = 0 by omega), cif_f (show ¬ 10 + k = 0 by omega), cif_t (show 10 + k < 20 by omega), cif_t (show 10 + k < 20 by omega), show 10 + k - 10 = k by omega, h.hgt hI z1, h.house hI (k := 6) (by decide) (by decide) z1]
  · have e := hI.t8
    rw [z2, nI_clamp (by omega), cif_f (show ¬ 20 + k = 0 by omega), cif_f (show ¬ 20 + k = 0 by omega), cif_f (show ¬ 20 + k < 20 by omega), cif_f (show ¬ 20 + k < 20 by omega), show 20 + k - 20 = k by omega]
    unfold sTr
    rw [h.tree hI (k := 8) (by decide) (by decide) z1, h.1 5 (by omega)]
    exact cif_iff (h.flq hI z1)
theorem RQ.clr (h : RQ C Q) (hI : IP C w c n t) (hc : C.1 1 = nI c) {a b : Nat} (ha : a < n) (hb : b < n) : sClr w (Q.1 6) (sTop Q (Q.1 5) (flQ Q)) (plN Q a) (plN Q b) ↔ sClr w (C.1 6) (sTop C (C.1 5) (flP C)) (plN C a) (plN C b) := by
  rw [h.pl hI ha, h.pl hI hb, h.1 6 (by omega)]
  exact sClr_congr (hI.pl ha).2.1 (hI.pl hb).2.1 (fun q hq => h.top hI hc hq)
theorem RQ.num (h : RQ C Q) (hI : IP C w c n t) (hc : C.1 1 = nI c) {a : Nat} (ha : a < n) : mNum Q w n a = numP C w n a := by
  refine cn_congr (fun o ho => ?_)
  show (¬ o = a ∧ _) ↔ (plN C o ≠ plN C a ∧ _)
  rw [h.clr hI hc ha ho]
  exact and_congr_left (fun _ => ⟨fun z q => z (hI.pl_inj ho ha q), fun z q => z (by rw [q])⟩)
theorem RQ.hav (h : RQ C Q) (hI : IP C w c n t) (hc : C.1 1 = nI c) (v : Int32) : mHav Q w n v = hav C w n v :=
  msk_congr (fun k hk => by rw [h.num hI hc hk])
theorem IP.wall (hI : IP C w c n t) (q : Nat) (v : Int32) : IP (pa C 1 q v) w c n t := hI
theorem IP.floor (hI : IP C w c n t) (q : Nat) (v : Int32) : IP (pa C 6 q v) w c n t := hI
theorem num_wall (hI : IP C w c n t) {q : Nat} (hz : C.2 2 q = 0) (v : Int32) {h : Nat} (hh : h < n) : numP (pa C 1 q v) w n h = sNf C w n (C.1 6) (upd (sTop C (C.1 5) (flP C)) q (C.2 0 q + v)) (plN C h) := by
  show sNf C w n (C.1 6) (sTop (pa C 1 q v) (C.1 5) (flP C)) (plN C h) = _
  refine sNf_congr hI (hI.pl hh).2.1 (fun k hk => ?_)
  unfold upd
  by_cases e : k = q
  · rw [if_pos e]
    unfold sTop sOn
    rw [show thN (pa C 1 q v) k = 0 from thN_of (by show C.2 2 k = nI 0; rw [e]; exact hz) (by decide), cif_t rfl, pa_at, e]
    unfold upd; rw [if_pos rfl]; rfl
  · rw [if_neg e]
    unfold sTop sOn
    rw [pa_at]; unfold upd; rw [if_neg e]; rfl
theorem num_floor (hI : IP C w c n t) (v : Int32) {h : Nat} (hh : h < n) : numP (pa C 6 h v) w n h = sNf C w n (C.1 6) (upd (sTop C (C.1 5) (flP C)) (plN C h) (C.2 0 (plN C h) + sHt C h v)) (plN C h) := by
  show sNf C w n (C.1 6) (sTop (pa C 6 h v) (C.1 5) (flP C)) (plN C h) = _
  refine sNf_congr hI (hI.pl hh).2.1 (fun k hk => ?_)
  have hn := hI.n8
  unfold upd
  by_cases e : k = plN C h
  · rw [if_pos e]
    have e2 : thN C k = 10 + h := thN_of (by rw [e]; exact (hI.pl hh).2.2) (by omega)
    unfold sTop sOn
    rw [show thN (pa C 6 h v) k = 10 + h from e2, cif_f (by omega), cif_t (by omega), show 10 + h - 10 = h by omega, pa_at, e]
    unfold upd; rw [if_pos rfl]; rfl
  · rw [if_neg e]
    unfold sTop sOn
    rw [show thN (pa C 6 h v) k = thN C k from rfl]
    rcases hI.2.2.2.2 k hk with z | ⟨j, z1, z2, z3⟩ | ⟨j, z1, z2, -⟩
    · rw [cif_t (thN_of z (by decide)), cif_t (thN_of z (by decide))]; rfl
    · have e5 := thN_of z2 (by omega)
      have e6 : ¬ j = h := fun q => by
        subst q
        exact e (by unfold plN; rw [z3, nI_clamp (by have := hI.c30; omega)])
      rw [e5, cif_f (show ¬ 10 + j = 0 by omega), cif_f (show ¬ 10 + j = 0 by omega), cif_t (show 10 + j < 20 by omega), cif_t (show 10 + j < 20 by omega), show 10 + j - 10 = j by omega, pa_at]
      unfold upd; rw [if_neg e6]; rfl
    · have e5 := thN_of z2 (by have := hI.t8; omega)
      rw [e5, cif_f (show ¬ 20 + j = 0 by omega), cif_f (show ¬ 20 + j = 0 by omega), cif_f (show ¬ 20 + j < 20 by omega), cif_f (show ¬ 20 + j < 20 by omega)]; rfl
theorem num_year (y : Int32) (h : Nat) : numP (pg C 5 y) w n h = sNum C w n (C.1 6) y (flP C) h := rfl
theorem num_fog (y : Int32) (h : Nat) : numP (pg C 6 y) w n h = sNum C w n y (C.1 5) (flP C) h := rfl
theorem num_fell (f : Int32) (h : Nat) : numP (pg C 4 f) w n h = sNum C w n (C.1 6) (C.1 5) (flB f) h := rfl
end RQS
