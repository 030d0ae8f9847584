/-- what the reading of a text leaves as it was -/
def FR2 (P P' : PT) : Prop := (∀ j, j < 12 → P'.1 j = P.1 j) ∧ ∀ j q, j < 20 → P'.2 j q = P.2 j q
theorem FR2.rf (P : PT) : FR2 P P := ⟨fun _ _ => rfl, fun _ _ _ => rfl⟩
theorem FR2.g {P Q : PT} (h : FR2 P Q) {k : Nat} (hk : 12 ≤ k) (v : Int32) : FR2 P (pg Q k v) := ⟨fun j z => by rw [pg_val, if_neg (by omega)]; exact h.1 j z, h.2⟩
theorem FR2.tr {P Q R : PT} (h : FR2 P Q) (g : FR Q R) : FR2 P R := ⟨fun j z => (g.1 j z).trans (h.1 j z), fun j q z => (g.2.2.2 j q z).trans (h.2 j q z)⟩
theorem RQ.fr2 {C P P' : PT} (h : RQ C P) (g : FR2 P P') : RQ C P' := by
  obtain ⟨h1, h2, h3, h4, h5, h6, h7, h8, h9, h10⟩ := h
  have e := g.2
  refine ⟨fun j hj => (g.1 j (by omega)).trans (h1 j hj), ?_, fun j q a b => (e _ _ (by omega)).trans (h3 j q a b), fun j q a b c => (e _ _ (by omega)).trans (h4 j q a b c), fun j q a b c => (e _ _ (by omega)).trans (h5 j q a b c), fun q a => (e _ _ (by omega)).trans (h6 q a), fun j q a b c => (e _ _ (by omega)).trans (h7 j q a b c), fun j q a b c => (e _ _ (by omega)).trans (h8 j q a b c), fun j q a b => (e _ _ (by omega)).trans (h9 j q a b), fun q a => by rw [e _ _ (by omega)]; exact h10 q a⟩
  obtain ⟨hi, a, b, c⟩ := h2
  exact ⟨hi, a, (g.1 11 (by decide)).trans b, c⟩
theorem Vw_sc (P Q : PT) {j : Nat} (h2 : j ≠ 2) (h3 : j ≠ 3) : (Vw P).1 j = (Vw Q).1 j := by
  show (if j = 2 then P.1 15 else if j = 3 then P.1 16 else 0) = (if j = 2 then Q.1 15 else if j = 3 then Q.1 16 else 0)
  rw [if_neg h2, if_neg h3, if_neg h2, if_neg h3]
theorem Vw_0 (P Q : PT) {f : Nat → Int32} {n w : Nat} (h1 : Q.1 15 = nI 0) (h2 : Q.1 16 = nI 0) : CN (Vw P) (Vw Q) f n w 0 :=
  ⟨⟨fun _ z => absurd z (Nat.not_lt_zero _), fun _ z => absurd z (Nat.not_lt_zero _), fun _ z => absurd z (Nat.not_lt_zero _)⟩, h1, h2, fun _ a b => Vw_sc Q P a b, fun j q a => by rw [Vw_hi _ a, Vw_hi _ a]⟩
theorem qpl_0 {f : Nat → Int32} {n w c : Nat} (h : c % w = 0) : qpl f n w c = (scn f n w c).1 + 1 := by
  show (scn f n w c).1 + (if c % w = 0 then 1 else 0) = _
  rw [if_pos h]
theorem qpl_1 {f : Nat → Int32} {n w c : Nat} (h : ¬ c % w = 0) : qpl f n w c = (scn f n w c).1 := by
  show (scn f n w c).1 + (if c % w = 0 then 1 else 0) = _
  rw [if_neg h]; rfl
/-! the reference's copies of what it read -/
def qa1 (P : PT) (c : Nat) : PT := (P.1, fun j m => if j = 0 ∧ m < c then P.2 20 m else if j = 2 ∧ m < c then P.2 21 m else if j = 1 ∧ m < c then nI 0 else P.2 j m)
def qa2 (P : PT) (c : Nat) : PT := (P.1, fun j m => if j = 3 ∧ m < c then P.2 22 m else if j = 4 ∧ m < c then P.2 23 m else if j = 5 ∧ m < c then P.2 24 m else if j = 6 ∧ m < c then nI 0 else P.2 j m)
def qa3 (P : PT) (c : Nat) : PT := (P.1, fun j m => if j = 7 ∧ m < c then P.2 25 m else if j = 8 ∧ m < c then P.2 26 m else if j = 19 ∧ m < c then nI 0 else P.2 j m)
theorem qa1_v (P : PT) (c j m : Nat) : (qa1 P c).2 j m = if j = 0 ∧ m < c then P.2 20 m else if j = 2 ∧ m < c then P.2 21 m else if j = 1 ∧ m < c then nI 0 else P.2 j m := rfl
theorem qa2_v (P : PT) (c j m : Nat) : (qa2 P c).2 j m = if j = 3 ∧ m < c then P.2 22 m else if j = 4 ∧ m < c then P.2 23 m else if j = 5 ∧ m < c then P.2 24 m else if j = 6 ∧ m < c then nI 0 else P.2 j m := rfl
theorem qa3_v (P : PT) (c j m : Nat) : (qa3 P c).2 j m = if j = 7 ∧ m < c then P.2 25 m else if j = 8 ∧ m < c then P.2 26 m else if j = 19 ∧ m < c then nI 0 else P.2 j m := rfl
theorem qa1_o (P : PT) (c : Nat) {j : Nat} (m : Nat) (h : 3 ≤ j) : (qa1 P c).2 j m = P.2 j m := by rw [qa1_v, if_neg (by omega), if_neg (by omega), if_neg (by omega)]
theorem qa2_o (P : PT) (c : Nat) {j : Nat} (m : Nat) (h : j < 3 ∨ 7 ≤ j) : (qa2 P c).2 j m = P.2 j m := by rw [qa2_v, if_neg (by omega), if_neg (by omega), if_neg (by omega), if_neg (by omega)]
theorem qa3_o (P : PT) (c : Nat) {j : Nat} (m : Nat) (h : j ≠ 7 ∧ j ≠ 8 ∧ j ≠ 19) : (qa3 P c).2 j m = P.2 j m := by rw [qa3_v, if_neg (by omega), if_neg (by omega), if_neg (by omega)]
theorem qa1_0 (P : PT) : qa1 P 0 = P := PT_ext rfl (fun j m => by rw [qa1_v, if_neg (by omega), if_neg (by omega), if_neg (by omega)])
theorem qa2_0 (P : PT) : qa2 P 0 = P := PT_ext rfl (fun j m => by rw [qa2_v, if_neg (by omega), if_neg (by omega), if_neg (by omega), if_neg (by omega)])
theorem qa3_0 (P : PT) : qa3 P 0 = P := PT_ext rfl (fun j m => by rw [qa3_v, if_neg (by omega), if_neg (by omega), if_neg (by omega)])
theorem qa1_s (P : PT) (c : Nat) : pa (pa (pa (qa1 P c) 0 c (P.2 20 c)) 2 c (P.2 21 c)) 1 c (nI 0) = qa1 P (c + 1) := PT_ext rfl (fun j m => by
  rw [pa_val, pa_val, pa_val, qa1_v, qa1_v]
  by_cases e : m = c
  · subst e
    by_cases e1 : j = 1
    · rw [if_pos ⟨e1, rfl⟩, if_neg (by omega), if_neg (by omega), if_pos (by omega)]
    · rw [if_neg (by omega)]
      by_cases e2 : j = 2
      · rw [if_pos ⟨e2, rfl⟩, if_neg (by omega), if_pos (by omega)]
      · rw [if_neg (by omega)]
        by_cases e0 : j = 0
        · rw [if_pos ⟨e0, rfl⟩, if_pos (by omega)]
        · rw [if_neg (by omega), if_neg (by omega), if_neg (by omega), if_neg (by omega), if_neg (by omega), if_neg (by omega), if_neg (by omega)]
  · rw [if_neg (by omega), if_neg (by omega), if_neg (by omega)]
    by_cases z : m < c
    · by_cases e0 : j = 0
      · rw [if_pos ⟨e0, z⟩, if_pos (by omega)]
      · rw [if_neg (by omega)]
        by_cases e2 : j = 2
        · rw [if_pos ⟨e2, z⟩, if_neg (by omega), if_pos (by omega)]
        · rw [if_neg (by omega)]
          by_cases e1 : j = 1
          · rw [if_pos ⟨e1, z⟩, if_neg (by omega), if_neg (by omega), if_pos (by omega)]
          · rw [if_neg (by omega), if_neg (by omega), if_neg (by omega), if_neg (by omega)]
    · rw [if_neg (by omega), if_neg (by omega), if_neg (by omega), if_neg (by omega), if_neg (by omega), if_neg (by omega)])
theorem qa2_s (P : PT) (c : Nat) : pa (pa (pa (pa (qa2 P c) 3 c (P.2 22 c)) 4 c (P.2 23 c)) 5 c (P.2 24 c)) 6 c (nI 0) = qa2 P (c + 1) := PT_ext rfl (fun j m => by
  rw [pa_val, pa_val, pa_val, pa_val, qa2_v, qa2_v]
  by_cases e3 : j = 3
  · subst e3
    rw [if_neg (by omega), if_neg (by omega), if_neg (by omega)]
    by_cases e : m = c
    · subst e; rw [if_pos ⟨rfl, rfl⟩, if_pos (by omega)]
    · rw [if_neg (by omega)]
      by_cases z : m < c
      · rw [if_pos (by omega), if_pos (by omega)]
      · rw [if_neg (by omega), if_neg (by omega), if_neg (by omega), if_neg (by omega), if_neg (by omega), if_neg (by omega), if_neg (by omega), if_neg (by omega)]
  · by_cases e4 : j = 4
    · subst e4
      rw [if_neg (by omega), if_neg (by omega)]
      by_cases e : m = c
      · subst e; rw [if_pos ⟨rfl, rfl⟩, if_neg (by omega), if_pos (by omega)]
      · rw [if_neg (by omega), if_neg (by omega)]
        by_cases z : m < c
        · rw [if_neg (by omega), if_pos (by omega), if_neg (by omega), if_pos (by omega)]
        · rw [if_neg (by omega), if_neg (by omega), if_neg (by omega), if_neg (by omega), if_neg (by omega), if_neg (by omega), if_neg (by omega), if_neg (by omega)]
    · by_cases e5 : j = 5
      · subst e5
        rw [if_neg (by omega)]
        by_cases e : m = c
        · subst e; rw [if_pos ⟨rfl, rfl⟩, if_neg (by omega), if_neg (by omega), if_pos (by omega)]
        · rw [if_neg (by omega), if_neg (by omega), if_neg (by omega)]
          by_cases z : m < c
          · rw [if_neg (by omega), if_neg (by omega), if_pos (by omega), if_neg (by omega), if_neg (by omega), if_pos (by omega)]
          · rw [if_neg (by omega), if_neg (by omega), if_neg (by omega), if_neg (by omega), if_neg (by omega), if_neg (by omega), if_neg (by omega), if_neg (by omega)]
      · by_cases e6 : j = 6
        · subst e6
          by_cases e : m = c
          · subst e; rw [if_pos ⟨rfl, rfl⟩, if_neg (by omega), if_neg (by omega), if_neg (by omega), if_pos (by omega)]
          · rw [if_neg (by omega), if_neg (by omega), if_neg (by omega), if_neg (by omega)]
            by_cases z : m < c
            · rw [if_neg (by omega), if_neg (by omega), if_neg (by omega), if_pos (by omega), if_neg (by omega), if_neg (by omega), if_neg (by omega), if_pos (by omega)]
            · rw [if_neg (by omega), if_neg (by omega), if_neg (by omega), if_neg (by omega), if_neg (by omega), if_neg (by omega), if_neg (by omega), if_neg (by omega)]
        · rw [if_neg (by omega), if_neg (by omega), if_neg (by omega), if_neg (by omega), if_neg (by omega), if_neg (by omega), if_neg (by omega), if_neg (by omega), if_neg (by omega), if_neg (by omega), if_neg (by omega), if_neg (by omega)])
theorem qa3_s (P : PT) (c : Nat) : pa (pa (pa (qa3 P c) 7 c (P.2 25 c)) 8 c (P.2 26 c)) 19 c (nI 0) = qa3 P (c + 1) := PT_ext rfl (fun j m => by
  rw [pa_val, pa_val, pa_val, qa3_v, qa3_v]
  by_cases e7 : j = 7
  · subst e7
    rw [if_neg (by omega), if_neg (by omega)]
    by_cases e : m = c
    · subst e; rw [if_pos ⟨rfl, rfl⟩, if_pos (by omega)]
    · rw [if_neg (by omega)]
      by_cases z : m < c
      · rw [if_pos (by omega), if_pos (by omega)]
      · rw [if_neg (by omega), if_neg (by omega), if_neg (by omega), if_neg (by omega), if_neg (by omega), if_neg (by omega)]
  · by_cases e8 : j = 8
    · subst e8
      rw [if_neg (by omega)]
      by_cases e : m = c
      · subst e; rw [if_pos ⟨rfl, rfl⟩, if_neg (by omega), if_pos (by omega)]
      · rw [if_neg (by omega), if_neg (by omega)]
        by_cases z : m < c
        · rw [if_neg (by omega), if_pos (by omega), if_neg (by omega), if_pos (by omega)]
        · rw [if_neg (by omega), if_neg (by omega), if_neg (by omega), if_neg (by omega), if_neg (by omega), if_neg (by omega)]
    · by_cases e9 : j = 19
      · subst e9
        by_cases e : m = c
        · subst e; rw [if_pos ⟨rfl, rfl⟩, if_neg (by omega), if_neg (by omega), if_pos (by omega)]
        · rw [if_neg (by omega), if_neg (by omega), if_neg (by omega)]
          by_cases z : m < c
          · rw [if_neg (by omega), if_neg (by omega), if_pos (by omega), if_neg (by omega), if_neg (by omega), if_pos (by omega)]
          · rw [if_neg (by omega), if_neg (by omega), if_neg (by omega), if_neg (by omega), if_neg (by omega), if_neg (by omega)]
      · rw [if_neg (by omega), if_neg (by omega), if_neg (by omega), if_neg (by omega), if_neg (by omega), if_neg (by omega), if_neg (by omega), if_neg (by omega), if_neg (by omega)])
/-! what a call of land answers, case by case -/
section LRS
variable {C C' : PT} {x lane i n r : Int32}
theorem LR_1 (h : LR C x lane i n r C') (hx : ¬ inN 4 x) : r = -1 ∧ C' = pg C 10 (nI 0) := by
  rcases h with h | h | h | h | h
  · exact h.2
  · exact absurd h.1 hx
  · exact absurd h.1 hx
  · exact absurd h.1 hx
  · exact absurd h.1 hx
theorem LR_2 (h : LR C x lane i n r C') (hx : inN 4 x) (hl : ¬ inR 0 2 lane) : r = -2 ∧ C' = pg C 10 (nI 0) := by
  rcases h with h | h | h | h | h
  · exact absurd hx h.1
  · exact h.2.2
  · exact absurd h.2.1 hl
  · exact absurd h.2.1 hl
  · exact absurd h.2.1 hl
theorem LR_3 {j : Nat} (hj : j < 4) (h : LR C (nI j) lane i n r C') (hl : inR 0 2 lane) (hf : ¬ lfl C j lane i n = 0) : r = (-10) - lfl C j lane i n ∧ C' = pg C 10 (lfl C j lane i n) := by
  unfold LR at h
  rw [dN_nI (show j < 2 ^ 31 by omega)] at h
  rcases h with h | h | h | h | h
  · exact absurd ⟨j, hj, rfl⟩ h.1
  · exact absurd hl h.2.1
  · exact h.2.2.2
  · exact absurd h.2.2.1 hf
  · exact absurd h.2.2.1 hf
theorem LR_4 {j ii nn p : Nat} (hj : j < 4) (h1 : ii < 2 ^ 31) (h2 : nn < 2 ^ 31) (h : LR C (nI j) lane (nI ii) (nI nn) r C') (hl : inR 0 2 lane) (hf : lfl C j lane (nI ii) (nI nn) = 0) (hp : FPL (tf C j ii) nn p) : r = (-100) - nI p ∧ C' = pg C 10 (nI 0) := by
  unfold LR at h
  rw [dN_nI (show j < 2 ^ 31 by omega), dN_nI h1, dN_nI h2] at h
  rcases h with h | h | h | h | h
  · exact absurd ⟨j, hj, rfl⟩ h.1
  · exact absurd hl h.2.1
  · exact absurd hf h.2.2.1
  · obtain ⟨⟨q, hq, e⟩, e2⟩ := h.2.2.2
    rw [FPL_uniq hp hq]; exact ⟨e, e2⟩
  · exact absurd h.2.2.2.1 (FPL_not hp)
theorem LR_5 {j ii nn : Nat} (hj : j < 4) (h1 : ii < 2 ^ 31) (h2 : nn < 2 ^ 31) (h : LR C (nI j) lane (nI ii) (nI nn) r C') (hl : inR 0 2 lane) (hf : lfl C j lane (nI ii) (nI nn) = 0) (hp : TOK (tf C j ii) nn) : r = nI (dvl (tf C j ii) 1 * dvl (tf C j ii) 2) ∧ LNF C C' (tf C j ii) nn := by
  unfold LR at h
  rw [dN_nI (show j < 2 ^ 31 by omega), dN_nI h1, dN_nI h2] at h
  rcases h with h | h | h | h | h
  · exact absurd ⟨j, hj, rfl⟩ h.1
  · exact absurd hl h.2.1
  · exact absurd hf h.2.2.1
  · obtain ⟨⟨q, hq, -⟩, -⟩ := h.2.2.2
    exact absurd hp (FPL_not hq)
  · exact h.2.2.2.2
end LRS
/-- the two lands made anew -/
theorem land_rq {C C' P P2 : PT} {f : Nat → Int32} {n : Nat} (hR : RQ C P) (hF : FR2 P P2) (ht : TOK f n) (hCN : CN (Vw P) (Vw P2) f n (dvl f 2) (dvl f 1 * dvl f 2)) (hL : LNF C C' f n) : RQ C' (pg (pg (pg (pg (pg (qa3 (qa2 (qa1 (pg (pg (pg (pg P2 11 (nI (dvl f 1))) 0 (nI (dvl f 2))) 2 (nI (hsN f n (dvl f 2) (dvl f 1 * dvl f 2)))) 3 (nI (tsN f n (dvl f 2) (dvl f 1 * dvl f 2)))) (dvl f 1 * dvl f 2)) (hsN f n (dvl f 2) (dvl f 1 * dvl f 2))) (tsN f n (dvl f 2) (dvl f 1 * dvl f 2))) 5 (nI 0)) 6 (nI 9)) 7 (nI 0)) 8 (nI 0)) 10 (nI 0)) := by
  have hd := TOK_dim ht
  have h30 := row_30 hd.2.1 hd.2.2.2
  have hn8 := scn_n ht.2.2.2.1
  have hR2 := hR.fr2 hF
  obtain ⟨hL0, l0, l1, l2, l3, l4, l5, l6, l7, l8, l9, l10, lr⟩ := hL
  have hV := hCN.1
  have e1 : dN (C'.1 1) = dvl f 1 * dvl f 2 := by rw [l1, dN_nI (by omega)]
  have e0 : dN (C'.1 0) = dvl f 2 := by rw [l0, dN_nI (by omega)]
  have e2 : dN (C'.1 2) = hsN f n (dvl f 2) (dvl f 1 * dvl f 2) := by rw [l2, dN_nI (by omega)]
  have e3 : dN (C'.1 3) = tsN f n (dvl f 2) (dvl f 1 * dvl f 2) := by rw [l3, dN_nI (by omega)]
  have e8 : dN (C'.1 8) = 0 := by rw [l8]; rfl
  refine ⟨?_, ⟨dvl f 1, hd.2.1, rfl, by rw [e1, e0], ?_⟩, ?_, ?_, ?_, ?_, ?_, ?_, ?_, ?_⟩
  · intro k hk
    rcases hk with rfl | rfl | rfl | rfl | rfl | rfl | rfl | rfl | rfl
    · exact l0.symm
    · exact l2.symm
    · exact l3.symm
    · exact l5.symm
    · exact l6.symm
    · exact l7.symm
    · exact l8.symm
    · rw [l9]; exact hR2.1 9 (by omega)
    · exact l10.symm
  · rw [e1]
    have : 0 < dvl f 1 * dvl f 2 := Nat.mul_pos (by omega) (by omega)
    omega
  · intro k q hk hq
    rw [e1] at hq
    have a := hV.1 q hq
    have b := hL0.1 q hq
    show (qa3 (qa2 (qa1 P2 (dvl f 1 * dvl f 2)) _) _).2 k q = _
    rw [qa3_o _ _ _ (by omega), qa2_o _ _ _ (by omega), qa1_v]
    rcases (show k = 0 ∨ k = 1 ∨ k = 2 by omega) with rfl | rfl | rfl
    · rw [if_pos ⟨rfl, hq⟩, b.1]; exact a.1
    · rw [if_neg (by omega), if_neg (by omega), if_pos ⟨rfl, hq⟩, b.2.1]
    · rw [if_neg (by omega), if_pos ⟨rfl, hq⟩, b.2.2]; exact a.2.2
  · intro k h hk hk2 hh
    rw [e2] at hh
    obtain ⟨m, hm, hi, rfl⟩ := hsN_sur hh
    have a := hV.2.1 m hm hi
    have b := hL0.2.1 m hm hi
    show (qa3 (qa2 (qa1 P2 (dvl f 1 * dvl f 2)) (hsN f n (dvl f 2) (dvl f 1 * dvl f 2))) _).2 k (hsN f n (dvl f 2) m) = _
    rw [qa3_o _ _ _ (by omega), qa2_v]
    rcases (show k = 3 ∨ k = 4 ∨ k = 5 ∨ k = 6 by omega) with rfl | rfl | rfl | rfl
    · rw [if_pos ⟨rfl, hh⟩, qa1_o _ _ _ (by decide), b.1]; exact a.1
    · rw [if_neg (by omega), if_pos ⟨rfl, hh⟩, qa1_o _ _ _ (by decide), b.2.1]; exact a.2.1
    · rw [if_neg (by omega), if_neg (by omega), if_pos ⟨rfl, hh⟩, qa1_o _ _ _ (by decide), b.2.2.1]; exact a.2.2.1
    · rw [if_neg (by omega), if_neg (by omega), if_neg (by omega), if_pos ⟨rfl, hh⟩, b.2.2.2]
  · intro k h hk hk2 hh
    rw [e3] at hh
    obtain ⟨m, hm, hi, rfl⟩ := tsN_sur hh
    have a := hV.2.2 m hm hi
    have b := hL0.2.2 m hm hi
    show (qa3 (qa2 (qa1 P2 (dvl f 1 * dvl f 2)) _) (tsN f n (dvl f 2) (dvl f 1 * dvl f 2))).2 k (tsN f n (dvl f 2) m) = _
    rw [qa3_v]
    rcases (show k = 7 ∨ k = 8 by omega) with rfl | rfl
    · rw [if_pos ⟨rfl, hh⟩, qa2_o _ _ _ (by omega), qa1_o _ _ _ (by decide), b.1]; exact a.1
    · rw [if_neg (by omega), if_pos ⟨rfl, hh⟩, qa2_o _ _ _ (by omega), qa1_o _ _ _ (by decide), b.2]; exact a.2
  · intro h hh
    rw [e3] at hh
    show (qa3 (qa2 (qa1 P2 _) _) (tsN f n (dvl f 2) (dvl f 1 * dvl f 2))).2 19 h = b2 (tbI (C'.1 4) (nI h))
    rw [qa3_v, if_neg (by omega), if_neg (by omega), if_pos ⟨rfl, hh⟩, l4, b2_f]
    rw [tb_n (by omega)]; simp
  · intro k q _ _ hq
    rw [e8] at hq; exact absurd hq (Nat.not_lt_zero _)
  · intro k q hk hk2 hq
    show (qa3 (qa2 (qa1 P2 _) _) _).2 k q = _
    rw [qa3_o _ _ _ (by omega), qa2_o _ _ _ (by omega), qa1_o _ _ _ (by omega), lr k q hk]
    exact hR2.2.2.2.2.2.2.2.1 k q hk hk2 hq
  · intro k i hk hi
    show (qa3 (qa2 (qa1 P2 (dvl f 1 * dvl f 2)) (hsN f n (dvl f 2) (dvl f 1 * dvl f 2))) (tsN f n (dvl f 2) (dvl f 1 * dvl f 2))).2 18 (100 * k + i) = _
    rw [qa3_o _ _ _ (by omega), qa2_o _ _ _ (by omega), qa1_o _ _ _ (by omega), lr (14 + k) i (by omega)]
    exact hR2.shc hk hi
  · intro k hk
    show (qa3 (qa2 (qa1 P2 (dvl f 1 * dvl f 2)) (hsN f n (dvl f 2) (dvl f 1 * dvl f 2))) (tsN f n (dvl f 2) (dvl f 1 * dvl f 2))).2 19 k = _ ∨ (qa3 (qa2 (qa1 P2 (dvl f 1 * dvl f 2)) (hsN f n (dvl f 2) (dvl f 1 * dvl f 2))) (tsN f n (dvl f 2) (dvl f 1 * dvl f 2))).2 19 k = _
    rw [qa3_v, if_neg (by omega), if_neg (by omega)]
    by_cases z : k < tsN f n (dvl f 2) (dvl f 1 * dvl f 2)
    · rw [if_pos ⟨rfl, z⟩]; exact Or.inl rfl
    · rw [if_neg (fun y => z y.2), qa2_o _ _ _ (by omega), qa1_o _ _ _ (by decide)]
      exact hR2.2.2.2.2.2.2.2.2.2 k hk
/-- the new land is a land -/
theorem land_ip {C C' : PT} {f : Nat → Int32} {n : Nat} (ht : TOK f n) (hL : LNF C C' f n) : IP C' (dvl f 2) (dvl f 1 * dvl f 2) (hsN f n (dvl f 2) (dvl f 1 * dvl f 2)) (tsN f n (dvl f 2) (dvl f 1 * dvl f 2)) := by
  have hd := TOK_dim ht
  have h30 := row_30 hd.2.1 hd.2.2.2
  have hn8 := scn_n ht.2.2.2.1
  obtain ⟨hL0, l0, l1, l2, l3, -⟩ := hL
  refine ⟨⟨l0, l2, l3, hn8.1, hn8.2, h30⟩, Or.inl ⟨hd.2.2.1, hd.2.2.2, dvl f 1, hd.1, hd.2.1, rfl⟩, ?_, ?_, ?_⟩
  · intro h hh
    obtain ⟨m, hm, hi, rfl⟩ := hsN_sur hh
    refine ⟨m, hm, (hL0.2.1 m hm hi).2.1, (hL0.1 m hm).2.2.trans ?_⟩
    unfold thg; rw [cif_f hi.1, cif_f hi.2]
  · intro h hh
    obtain ⟨m, hm, hi, rfl⟩ := tsN_sur hh
    refine ⟨m, hm, (hL0.2.2 m hm hi).1, (hL0.1 m hm).2.2.trans ?_⟩
    unfold thg; rw [cif_f hi.1, cif_t hi.2]
  · intro q hq
    rw [(hL0.1 q hq).2.2]
    unfold thg
    by_cases e : dot f n (dvl f 2) q
    · rw [cif_t e]; exact Or.inl rfl
    · rw [cif_f e]
      by_cases e2 : kdN f n (dvl f 2) q = 3
      · rw [cif_t e2]
        exact Or.inr (Or.inr ⟨_, (hsN_mono hq).2.2.2 ⟨e, e2⟩, rfl, (hL0.2.2 q hq ⟨e, e2⟩).1⟩)
      · rw [cif_f e2]
        exact Or.inr (Or.inl ⟨_, (hsN_mono hq).2.2.1 ⟨e, e2⟩, rfl, (hL0.2.1 q hq ⟨e, e2⟩).2.1⟩)
