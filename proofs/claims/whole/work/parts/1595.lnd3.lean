/-! THE TEXT, as the reference reads it -/
noncomputable def cdv (f : Nat → Int32) (n p : Nat) : Int32 := cif (p < n) (f p) (-9)
theorem cdv_ch {f : Nat → Int32} {n p v : Nat} (hv : v < 2 ^ 31) : cdv f n p = nI v ↔ chr f n p v := by
  unfold cdv
  by_cases e : p < n
  · rw [cif_t e]; exact ⟨fun z => ⟨e, z⟩, fun z => z.2⟩
  · rw [cif_f e]; exact ⟨fun z => absurd z.symm (nI_ne9 hv), fun z => absurd z.1 e⟩
theorem sub48 {x : Int32} {j : Nat} (h : x - nI 48 = nI j) : x = nI (48 + j) := by
  have e : x = x - nI 48 + nI 48 := (Int32.sub_add_cancel x (nI 48)).symm
  rw [e, h, nI_add, Nat.add_comm]
theorem fig_iff {f : Nat → Int32} {n p lo hi : Nat} (hlo : lo ≤ 9) (hhi : hi ≤ 9) : (¬ lg_cmp (cdv f n p - nI 48).toInt64 (nI lo).toInt64 < 0 ∧ ¬ 0 < lg_cmp (cdv f n p - nI 48).toInt64 (nI hi).toInt64) ↔ dgt f n p lo hi := by
  rw [in_R (lo := lo) (hi := hi) (by rw [Int32.toInt_toInt64, nI_toInt (by omega)]) (by rw [Int32.toInt_toInt64, nI_toInt (by omega)]) (by omega)]
  unfold cdv
  by_cases e : p < n
  · rw [cif_t e]
    constructor
    · rintro ⟨j, h1, h2, h3⟩
      exact ⟨e, 48 + j, by omega, by omega, sub48 h3⟩
    · rintro ⟨_, j, h1, h2, h3⟩
      exact ⟨j - 48, by omega, by omega, by rw [h3, pk_sub (by omega)]⟩
  · rw [cif_f e]
    constructor
    · rintro ⟨j, h1, h2, h3⟩
      have := sub48 h3
      exact absurd this.symm (nI_ne9 (by omega))
    · intro z; exact absurd z.1 e
theorem cdv_dvl {f : Nat → Int32} {n p lo hi : Nat} (h : dgt f n p lo hi) (hh : hi ≤ 9) : cdv f n p - nI 48 = nI (dvl f p) := by
  unfold cdv; rw [cif_t h.1]; exact dvl_sub h.2 hh
theorem pg_same {P : PT} {k : Nat} {v : Int32} (h : P.1 k = v) : pg P k v = P := by rw [← h]; exact pg_self P k
/-- the reference's readings of the text, seen as a land -/
def Vw (P : PT) : PT := (fun j => if j = 2 then P.1 15 else if j = 3 then P.1 16 else 0, fun j => if j = 0 then P.2 20 else if j = 2 then P.2 21 else if j = 3 then P.2 22 else if j = 4 then P.2 23 else if j = 5 then P.2 24 else if j = 7 then P.2 25 else if j = 8 then P.2 26 else fun _ => nI 0)
theorem Vw_hi (P : PT) {j : Nat} (h : 9 ≤ j) : (Vw P).2 j = fun _ => nI 0 := by
  show (if j = 0 then P.2 20 else if j = 2 then P.2 21 else if j = 3 then P.2 22 else if j = 4 then P.2 23 else if j = 5 then P.2 24 else if j = 7 then P.2 25 else if j = 8 then P.2 26 else fun _ => nI 0) = _
  rw [if_neg (by omega), if_neg (by omega), if_neg (by omega), if_neg (by omega), if_neg (by omega), if_neg (by omega), if_neg (by omega)]
theorem Vw_ext {A B : PT} (h1 : A.1 = B.1) (h0 : A.2 0 = B.2 0) (h1' : A.2 1 = B.2 1) (h2 : A.2 2 = B.2 2) (h3 : A.2 3 = B.2 3) (h4 : A.2 4 = B.2 4) (h5 : A.2 5 = B.2 5) (h6 : A.2 6 = B.2 6) (h7 : A.2 7 = B.2 7) (h8 : A.2 8 = B.2 8) (h9 : ∀ j, 9 ≤ j → A.2 j = B.2 j) : A = B := by
  refine PT_ext h1 (fun j q => ?_)
  rcases Nat.lt_or_ge j 9 with z | z
  · rcases (show j = 0 ∨ j = 1 ∨ j = 2 ∨ j = 3 ∨ j = 4 ∨ j = 5 ∨ j = 6 ∨ j = 7 ∨ j = 8 by omega) with e | e | e | e | e | e | e | e | e <;> subst e
    · rw [h0]
    · rw [h1']
    · rw [h2]
    · rw [h3]
    · rw [h4]
    · rw [h5]
    · rw [h6]
    · rw [h7]
    · rw [h8]
  · rw [h9 j z]
theorem pa_arr (P : PT) {k j : Nat} (i : Nat) (v : Int32) (h : j ≠ k) : (pa P k i v).2 j = P.2 j := pa_ne P i v h
theorem Vw_20 (P : PT) (i : Nat) (v : Int32) : Vw (pa P 20 i v) = pa (Vw P) 0 i v := Vw_ext rfl rfl rfl rfl rfl rfl rfl rfl rfl rfl (fun j z => by rw [pa_arr _ _ _ (by omega), Vw_hi _ z, Vw_hi _ z])
theorem Vw_21 (P : PT) (i : Nat) (v : Int32) : Vw (pa P 21 i v) = pa (Vw P) 2 i v := Vw_ext rfl rfl rfl rfl rfl rfl rfl rfl rfl rfl (fun j z => by rw [pa_arr _ _ _ (by omega), Vw_hi _ z, Vw_hi _ z])
theorem Vw_22 (P : PT) (i : Nat) (v : Int32) : Vw (pa P 22 i v) = pa (Vw P) 3 i v := Vw_ext rfl rfl rfl rfl rfl rfl rfl rfl rfl rfl (fun j z => by rw [pa_arr _ _ _ (by omega), Vw_hi _ z, Vw_hi _ z])
theorem Vw_23 (P : PT) (i : Nat) (v : Int32) : Vw (pa P 23 i v) = pa (Vw P) 4 i v := Vw_ext rfl rfl rfl rfl rfl rfl rfl rfl rfl rfl (fun j z => by rw [pa_arr _ _ _ (by omega), Vw_hi _ z, Vw_hi _ z])
theorem Vw_24 (P : PT) (i : Nat) (v : Int32) : Vw (pa P 24 i v) = pa (Vw P) 5 i v := Vw_ext rfl rfl rfl rfl rfl rfl rfl rfl rfl rfl (fun j z => by rw [pa_arr _ _ _ (by omega), Vw_hi _ z, Vw_hi _ z])
theorem Vw_25 (P : PT) (i : Nat) (v : Int32) : Vw (pa P 25 i v) = pa (Vw P) 7 i v := Vw_ext rfl rfl rfl rfl rfl rfl rfl rfl rfl rfl (fun j z => by rw [pa_arr _ _ _ (by omega), Vw_hi _ z, Vw_hi _ z])
theorem Vw_26 (P : PT) (i : Nat) (v : Int32) : Vw (pa P 26 i v) = pa (Vw P) 8 i v := Vw_ext rfl rfl rfl rfl rfl rfl rfl rfl rfl rfl (fun j z => by rw [pa_arr _ _ _ (by omega), Vw_hi _ z, Vw_hi _ z])
theorem Vw_1 (P : PT) (i : Nat) : pa (Vw P) 1 i (nI 0) = Vw P := pa_same _ _ _ rfl
theorem Vw_12 (P : PT) (v : Int32) : Vw (pg P 12 v) = Vw P := rfl
theorem Vw_15 (P : PT) (v : Int32) : Vw (pg P 15 v) = pg (Vw P) 2 v := by
  refine PT_ext (funext fun j => ?_) (fun _ _ => rfl)
  rw [pg_val]
  by_cases e : j = 2
  · rw [if_pos e, e]; rfl
  · rw [if_neg e]
    show (if j = 2 then v else if j = 3 then P.1 16 else 0) = (if j = 2 then P.1 15 else if j = 3 then P.1 16 else 0)
    rw [if_neg e, if_neg e]
theorem Vw_16 (P : PT) (v : Int32) : Vw (pg P 16 v) = pg (Vw P) 3 v := by
  refine PT_ext (funext fun j => ?_) (fun _ _ => rfl)
  rw [pg_val]
  by_cases e : j = 3
  · rw [if_pos e, e]; rfl
  · rw [if_neg e]
    show (if j = 2 then P.1 15 else if j = 3 then v else 0) = (if j = 2 then P.1 15 else if j = 3 then P.1 16 else 0)
    rw [if_neg e, if_neg e]
theorem Vw_dot (P : PT) (c : Nat) (g : Int32) (z : Int32) : Vw (pg (pa (pa P 20 c g) 21 c (nI 0)) 12 z) = pa (pa (pa (Vw P) 0 c g) 1 c (nI 0)) 2 c (nI 0) := by
  rw [Vw_12, Vw_21, Vw_20, pa_comm _ (k := 0) (j := 1) c c g (nI 0) (by decide), Vw_1]
/-- what the reading of a cell leaves as it was -/
def FR (P P' : PT) : Prop := (∀ j, j < 12 → P'.1 j = P.1 j) ∧ P'.1 13 = P.1 13 ∧ P'.1 14 = P.1 14 ∧ ∀ j q, j < 20 → P'.2 j q = P.2 j q
theorem FR.rf (P : PT) : FR P P := ⟨fun _ _ => rfl, rfl, rfl, fun _ _ _ => rfl⟩
theorem FR.tr {P Q R : PT} (h : FR P Q) (g : FR Q R) : FR P R := ⟨fun j z => (g.1 j z).trans (h.1 j z), g.2.1.trans h.2.1, g.2.2.1.trans h.2.2.1, fun j q z => (g.2.2.2 j q z).trans (h.2.2.2 j q z)⟩
theorem FR.g {P Q : PT} (h : FR P Q) {k : Nat} (hk : 12 ≤ k ∧ k ≠ 13 ∧ k ≠ 14) (v : Int32) : FR P (pg Q k v) := by
  refine h.tr ⟨fun j z => ?_, ?_, ?_, fun _ _ _ => rfl⟩
  · rw [pg_val, if_neg (by omega)]
  · rw [pg_val, if_neg (by omega)]
  · rw [pg_val, if_neg (by omega)]
theorem FR.a {P Q : PT} (h : FR P Q) {k : Nat} (hk : 20 ≤ k) (i : Nat) (v : Int32) : FR P (pa Q k i v) :=
  h.tr ⟨fun _ _ => rfl, rfl, rfl, fun j q z => by rw [pa_val, if_neg (by omega)]⟩
theorem RQ.fr {C P P' : PT} (h : RQ C P) (g : FR P P') : RQ C P' := by
  obtain ⟨h1, h2, h3, h4, h5, h6, h7, h8, h9, h10⟩ := h
  have e := g.2.2.2
  refine ⟨fun j hj => (g.1 j (by omega)).trans (h1 j hj), ?_, fun j q a b => (e _ _ (by omega)).trans (h3 j q a b), fun j q a b c => (e _ _ (by omega)).trans (h4 j q a b c), fun j q a b c => (e _ _ (by omega)).trans (h5 j q a b c), fun q a => (e _ _ (by omega)).trans (h6 q a), fun j q a b c => (e _ _ (by omega)).trans (h7 j q a b c), fun j q a b c => (e _ _ (by omega)).trans (h8 j q a b c), fun j q a b => (e _ _ (by omega)).trans (h9 j q a b), fun q a => by rw [e _ _ (by omega)]; exact h10 q a⟩
  obtain ⟨hi, a, b, c⟩ := h2
  exact ⟨hi, a, (g.1 11 (by decide)).trans b, c⟩
/-- what reading a cell does, on the reference's side -/
def MC (P P' : PT) (f : Nat → Int32) (n p hs ts c : Nat) : Prop := P'.1 12 = nI (cPl f n p) ∧ Vw P' = pa (stl (pa (pa (Vw P) 0 c (nI (dvl f p))) 1 c (nI 0)) (chr f n (p + 1) 46) (kdc f n (p + 1) hs ts) c hs ts (nI (dvl f (p + 2)))) 2 c (thv (chr f n (p + 1) 46) (kdc f n (p + 1) hs ts) hs ts)
theorem Vw_tree (P : PT) (c ts : Nat) (g tl z1 z2 x : Int32) : Vw (pg (pa (pa (pa (pg (pg (pa P 20 c g) 12 z1) 12 z2) 21 c x) 25 ts (nI c)) 26 ts tl) 16 (nI (ts + 1))) = pa (pg (pa (pa (pa (pa (Vw P) 0 c g) 1 c (nI 0)) 7 ts (nI c)) 8 ts tl) 3 (nI (ts + 1))) 2 c x := by
  rw [Vw_16, Vw_26, Vw_25, Vw_21, Vw_12, Vw_12, Vw_20, pa_comm _ (k := 0) (j := 1) c c g (nI 0) (by decide), Vw_1, pa_comm _ (k := 2) (j := 7) c ts x (nI c) (by decide), pa_comm _ (k := 2) (j := 8) c ts x tl (by decide)]; rfl
theorem Vw_house (P : PT) (c hs : Nat) (g tl z1 z2 x kv : Int32) : Vw (pg (pa (pa (pa (pa (pg (pg (pa P 20 c g) 12 z1) 12 z2) 21 c x) 22 hs kv) 23 hs (nI c)) 24 hs tl) 15 (nI (hs + 1))) = pa (pg (pa (pa (pa (pa (pa (pa (Vw P) 0 c g) 1 c (nI 0)) 3 hs kv) 4 hs (nI c)) 5 hs tl) 6 hs (nI 0)) 2 (nI (hs + 1))) 2 c x := by
  have e6 : pa (pa (pa (pa (pa (Vw P) 0 c g) 3 hs kv) 4 hs (nI c)) 5 hs tl) 6 hs (nI 0) = pa (pa (pa (pa (Vw P) 0 c g) 3 hs kv) 4 hs (nI c)) 5 hs tl := pa_same _ _ _ rfl
  rw [Vw_15, Vw_24, Vw_23, Vw_22, Vw_21, Vw_12, Vw_12, Vw_20, pa_comm _ (k := 0) (j := 1) c c g (nI 0) (by decide), Vw_1, e6, pa_comm _ (k := 2) (j := 3) c hs x kv (by decide), pa_comm _ (k := 2) (j := 4) c hs x (nI c) (by decide), pa_comm _ (k := 2) (j := 5) c hs x tl (by decide)]; rfl
