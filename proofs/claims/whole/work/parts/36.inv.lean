/-! WHAT HOLDS OF THE CLASS'S STATE BETWEEN CALLS -/
def INV (C : PT) (w c n t rd yr f : Nat) : Prop :=
  IP C w c n t ∧ C.1 1 = nI c ∧ RD C n rd ∧ SH C ∧ (∀ h, h < n → ∃ kd, kd ≤ 2 ∧ C.2 3 h = nI kd) ∧ (C.1 5 = nI yr ∧ yr ≤ 30) ∧ (∀ q, q < c → ∃ k, k ≤ 9 ∧ C.2 1 q = nI k) ∧ (C.1 4 = nI f ∧ f < 2 ^ t)
def INE (C : PT) : Prop := ∃ w c n t rd yr f, INV C w c n t rd yr f
section INVS
variable {C C' : PT} {w c n t rd yr f rd' yr' f' : Nat}
theorem INV.of (h : INV C w c n t rd yr f) (e1 : ∀ k, k < 4 → C'.1 k = C.1 k) (e2 : ∀ j q, (j = 2 ∨ j = 3 ∨ j = 4 ∨ j = 7) → C'.2 j q = C.2 j q) (hrd : RD C' n rd') (hsh : SH C') (hy : C'.1 5 = nI yr' ∧ yr' ≤ 30) (hw : ∀ q, q < c → ∃ k, k ≤ 9 ∧ C'.2 1 q = nI k) (hf : C'.1 4 = nI f' ∧ f' < 2 ^ t) : INV C' w c n t rd' yr' f' := by
  obtain ⟨⟨⟨i0, i2, i3, i4⟩, hv, ih, it, iq⟩, h1, -, -, hk, -, -, -⟩ := h
  refine ⟨⟨⟨(e1 0 (by omega)).trans i0, (e1 2 (by omega)).trans i2, (e1 3 (by omega)).trans i3, i4⟩, hv, ?_, ?_, ?_⟩, (e1 1 (by omega)).trans h1, hrd, hsh, ?_, hy, hw, hf⟩
  · intro h hh
    obtain ⟨q, a1, a2, a3⟩ := ih h hh
    exact ⟨q, a1, (e2 4 h (by omega)).trans a2, (e2 2 q (by omega)).trans a3⟩
  · intro h hh
    obtain ⟨q, a1, a2, a3⟩ := it h hh
    exact ⟨q, a1, (e2 7 h (by omega)).trans a2, (e2 2 q (by omega)).trans a3⟩
  · intro q hq
    rcases iq q hq with a | ⟨h, a1, a2, a3⟩ | ⟨k, a1, a2, a3⟩
    · exact Or.inl ((e2 2 q (by omega)).trans a)
    · exact Or.inr (Or.inl ⟨h, a1, (e2 2 q (by omega)).trans a2, (e2 4 h (by omega)).trans a3⟩)
    · exact Or.inr (Or.inr ⟨k, a1, (e2 2 q (by omega)).trans a2, (e2 7 k (by omega)).trans a3⟩)
  · intro h hh
    obtain ⟨kd, a1, a2⟩ := hk h hh
    exact ⟨kd, a1, (e2 3 h (by omega)).trans a2⟩
theorem RD.congr (h : RD C n rd) (e8 : C'.1 8 = C.1 8) (e9 : ∀ q, C'.2 9 q = C.2 9 q) : RD C' n rd := by
  obtain ⟨h1, h2, h3⟩ := h
  refine ⟨e8.trans h1, h2, fun k hk => ?_⟩
  have e : rhN C' k = rhN C k := by unfold rhN; rw [e9]
  rw [e, e9]; exact h3 k hk
theorem SH.congr (h : SH C) (e : ∀ q, C'.2 13 q = C.2 13 q) : SH C' := fun k hk => by rw [e]; exact h k hk
theorem INV.congr (h : INV C w c n t rd yr f) (e1 : ∀ k, k ≠ 6 → k ≠ 7 → k ≠ 9 → k ≠ 10 → C'.1 k = C.1 k) (e2 : ∀ j q, (j = 1 ∨ j = 2 ∨ j = 3 ∨ j = 4 ∨ j = 7 ∨ j = 9 ∨ j = 13) → C'.2 j q = C.2 j q) : INV C' w c n t rd yr f :=
  h.of (fun k hk => e1 k (by omega) (by omega) (by omega) (by omega)) (fun j q hj => e2 j q (by omega)) (h.2.2.1.congr (e1 8 (by omega) (by omega) (by omega) (by omega)) (fun q => e2 9 q (by omega))) (h.2.2.2.1.congr (fun q => e2 13 q (by omega))) ⟨(e1 5 (by omega) (by omega) (by omega) (by omega)).trans h.2.2.2.2.2.1.1, h.2.2.2.2.2.1.2⟩ (fun q hq => by rw [e2 1 q (by omega)]; exact h.2.2.2.2.2.2.1 q hq) ⟨(e1 4 (by omega) (by omega) (by omega) (by omega)).trans h.2.2.2.2.2.2.2.1, h.2.2.2.2.2.2.2.2⟩
theorem INV.ine (h : INV C w c n t rd yr f) : INE C := ⟨w, c, n, t, rd, yr, f, h⟩
theorem INV.g10 (h : INV C w c n t rd yr f) (v : Int32) : INV (pg C 10 v) w c n t rd yr f := h.congr (fun k _ _ _ a => by rw [pg_val, if_neg a]) (fun _ _ _ => rfl)
theorem INV.tr (h : INV C w c n t rd yr f) (b : Nat) : INV (trc C b) w c n t rd yr f := h.congr (fun k _ _ a _ => by unfold trc; rw [pg_val, if_neg a]) (fun _ _ _ => rfl)
theorem cif_pr {α : Type} {p : Prop} {a b : α} {Z : α → Prop} (h1 : p → Z a) (h2 : ¬ p → Z b) : Z (cif p a b) := by
  by_cases h : p
  · rw [cif_t h]; exact h1 h
  · rw [cif_f h]; exact h2 h
theorem ine_times (h : INV C w c n t rd yr f) (a fg lw : Int32) : INE (ansTimes C c a fg lw).2 := by
  have key : inR 0 30 a → INE (pg (pg (pg C 5 a) 6 fg) 7 lw) := by
    rintro ⟨j, -, hj, rfl⟩
    refine INV.ine (yr := j) (h.of (fun k hk => ?_) (fun _ _ _ => rfl) (h.2.2.1.congr rfl (fun _ => rfl)) (h.2.2.2.1.congr (fun _ => rfl)) ⟨rfl, hj⟩ h.2.2.2.2.2.2.1 h.2.2.2.2.2.2.2)
    rw [pg_val, if_neg (by omega), pg_val, if_neg (by omega), pg_val, if_neg (by omega)]
  unfold ansTimes
  refine cif_pr (Z := fun r : Int32 × PT => INE r.2) (fun h1 => ?_) (fun _ => h.ine)
  refine cif_pr (Z := fun r : Int32 × PT => INE r.2) (fun _ => ?_) (fun _ => h.ine)
  refine cif_pr (Z := fun r : Int32 × PT => INE r.2) (fun _ => ?_) (fun _ => h.ine)
  refine cif_pr (Z := fun r : Int32 × PT => INE r.2) (fun _ => ?_) (fun _ => h.ine)
  refine cif_pr (Z := fun r : Int32 × PT => INE r.2) (fun _ => ?_) (fun _ => key h1)
  refine cif_pr (Z := fun r : Int32 × PT => INE r.2) (fun _ => ?_) (fun _ => key h1)
  exact cif_pr (Z := fun r : Int32 × PT => INE r.2) (fun _ => h.ine) (fun _ => key h1)
theorem ine_wall (h : INV C w c n t rd yr f) (x v : Int32) : INE (ansWall C c x v).2 := by
  unfold ansWall
  refine cif_pr (Z := fun r : Int32 × PT => INE r.2) (fun _ => ?_) (fun _ => h.ine)
  refine cif_pr (Z := fun r : Int32 × PT => INE r.2) (fun h1 => ?_) (fun _ => h.ine)
  refine cif_pr (Z := fun r : Int32 × PT => INE r.2) (fun _ => ?_) (fun _ => h.ine)
  obtain ⟨j, -, hj, rfl⟩ := h1
  have e : ∀ k q, k ≠ 1 → (pa C 1 (dN x) (nI j)).2 k q = C.2 k q := fun k q hk => by rw [pa_val, if_neg (by omega)]
  refine INV.ine (h.of (C' := pa C 1 (dN x) (nI j)) (fun _ _ => rfl) (fun k q hk => e k q (by omega)) (h.2.2.1.congr rfl (fun q => e 9 q (by omega))) (h.2.2.2.1.congr (fun q => e 13 q (by omega))) h.2.2.2.2.2.1 (fun q hq => ?_) h.2.2.2.2.2.2.2)
  rw [pa_val]
  by_cases z : 1 = 1 ∧ q = dN x
  · rw [if_pos z]; exact ⟨j, hj, rfl⟩
  · rw [if_neg z]; exact h.2.2.2.2.2.2.1 q hq
theorem ine_floors (h : INV C w c n t rd yr f) (x v : Int32) : INE (ansFloors C n x v).2 := by
  unfold ansFloors
  refine cif_pr (Z := fun r : Int32 × PT => INE r.2) (fun _ => ?_) (fun _ => h.ine)
  refine cif_pr (Z := fun r : Int32 × PT => INE r.2) (fun h1 => ?_) (fun _ => h.ine)
  exact INV.ine (h.congr (C' := pa C 6 (dN x) v) (fun _ _ _ _ _ => rfl) (fun k q hk => by rw [pa_val, if_neg (by omega)]))
theorem xor_fl {f t j : Nat} (hf : f < 2 ^ t) (hj : j < t) (ht : t ≤ 8) : ∃ f', f' < 2 ^ t ∧ nI f ^^^ (nI 1 <<< (nI j &&& 31)) = nI f' := by
  refine ⟨f ^^^ 2 ^ j, Nat.xor_lt_two_pow hf (Nat.pow_lt_pow_right (by decide) hj), ?_⟩
  rw [shl1 j (by omega)]
  show Int32.ofNat f ^^^ Int32.ofNat (2 ^ j) = Int32.ofNat (f ^^^ 2 ^ j)
  apply Int32.toBitVec_inj.mp
  rw [Int32.toBitVec_xor]
  show BitVec.ofNat 32 f ^^^ BitVec.ofNat 32 (2 ^ j) = BitVec.ofNat 32 (f ^^^ 2 ^ j)
  exact (BitVec.ofNat_xor ..).symm
theorem ine_fell (h : INV C w c n t rd yr f) (x is : Int32) : INE (ansFell C t x is).2 := by
  unfold ansFell
  refine cif_pr (Z := fun r : Int32 × PT => INE r.2) (fun h1 => ?_) (fun _ => h.ine)
  refine cif_pr (Z := fun r : Int32 × PT => INE r.2) (fun _ => h.ine) (fun _ => ?_)
  obtain ⟨j, hj, rfl⟩ := h1
  obtain ⟨f', h2, h3⟩ := xor_fl h.2.2.2.2.2.2.2.2 hj h.1.t8
  show INE (pg C 4 (C.1 4 ^^^ (nI 1 <<< (nI j &&& 31))))
  rw [h.2.2.2.2.2.2.2.1, h3]
  exact INV.ine (f := f') (h.of (C' := pg C 4 (nI f')) (fun k hk => by rw [pg_val, if_neg (by omega)]) (fun _ _ _ => rfl) (h.2.2.1.congr rfl (fun _ => rfl)) (h.2.2.2.1.congr (fun _ => rfl)) h.2.2.2.2.2.1 h.2.2.2.2.2.2.1 ⟨rfl, h2⟩)
theorem ine_reading (h : INV C w c n t rd yr f) (x a v : Int32) : INE (ansReading C n rd x a v).2 := by
  unfold ansReading
  refine cif_pr (Z := fun r : Int32 × PT => INE r.2) (fun h1 => ?_) (fun _ => h.ine)
  refine cif_pr (Z := fun r : Int32 × PT => INE r.2) (fun _ => ?_) (fun _ => h.ine)
  refine cif_pr (Z := fun r : Int32 × PT => INE r.2) (fun _ => ?_) (fun _ => h.ine)
  refine cif_pr (Z := fun r : Int32 × PT => INE r.2) (fun _ => h.ine) (fun h8 => ?_)
  obtain ⟨j, hj, rfl⟩ := h1
  obtain ⟨r1, r2, r3⟩ := h.2.2.1
  have n8 := h.1.n8
  refine INV.ine (rd := rd + 1) (h.of (C' := pg (pa (pa (pa C 9 rd (nI j)) 10 rd a) 11 rd v) 8 (nI (rd + 1))) (fun k hk => by rw [pg_val, if_neg (by omega)]; rfl) (fun k q hk => ?_) ⟨rfl, by omega, fun k hk => ?_⟩ (h.2.2.2.1.congr (fun q => ?_)) h.2.2.2.2.2.1 (fun q hq => ?_) h.2.2.2.2.2.2.2)
  · rw [pg_ar, pa_val, if_neg (by omega), pa_val, if_neg (by omega), pa_val, if_neg (by omega)]
  · have e : (pg (pa (pa (pa C 9 rd (nI j)) 10 rd a) 11 rd v) 8 (nI (rd + 1))).2 9 k = if k = rd then nI j else C.2 9 k := by
      rw [pg_ar, pa_val, if_neg (by omega), pa_val, if_neg (by omega), pa_val]
      by_cases z : k = rd
      · rw [if_pos ⟨rfl, z⟩, if_pos z]
      · rw [if_neg (fun y => z y.2), if_neg z]
    unfold rhN
    rw [e]
    by_cases z : k = rd
    · rw [if_pos z, nI_clamp (by omega)]; exact ⟨rfl, hj⟩
    · rw [if_neg z]; exact r3 k (by omega)
  · rw [pg_ar, pa_val, if_neg (by omega), pa_val, if_neg (by omega), pa_val, if_neg (by omega)]
  · rw [pg_ar, pa_val, if_neg (by omega), pa_val, if_neg (by omega), pa_val, if_neg (by omega)]; exact h.2.2.2.2.2.2.1 q hq
theorem ine_back (h : INV C w c n t rd yr f) (k : Int32) : INE (ansBack C rd k).2 := by
  unfold ansBack
  refine cif_pr (Z := fun r : Int32 × PT => INE r.2) (fun h1 => ?_) (fun _ => h.ine)
  obtain ⟨r1, r2, r3⟩ := h.2.2.1
  exact INV.ine (rd := rd - dN k) (h.of (C' := pg C 8 (nI (rd - dN k))) (fun k hk => by rw [pg_val, if_neg (by omega)]) (fun _ _ _ => rfl) ⟨rfl, by omega, fun q hq => r3 q (by omega)⟩ (h.2.2.2.1.congr (fun _ => rfl)) h.2.2.2.2.2.1 h.2.2.2.2.2.2.1 h.2.2.2.2.2.2.2)
theorem INV.sh (h : INV C w c n t rd yr f) (e1 : C'.1 = C.1) (e2 : ∀ j q, j ≠ 12 → j ≠ 13 → j < 14 → C'.2 j q = C.2 j q) (hs : SH C') : INV C' w c n t rd yr f :=
  h.of (fun k hk => by rw [e1]) (fun j q hj => e2 j q (by omega) (by omega) (by omega)) (h.2.2.1.congr (by rw [e1]) (fun q => e2 9 q (by omega) (by omega) (by omega))) hs ⟨by rw [e1]; exact h.2.2.2.2.2.1.1, h.2.2.2.2.2.1.2⟩ (fun q hq => by rw [e2 1 q (by omega) (by omega) (by omega)]; exact h.2.2.2.2.2.2.1 q hq) ⟨by rw [e1]; exact h.2.2.2.2.2.2.2.1, h.2.2.2.2.2.2.2.2⟩
theorem ine_sheet (h : INV C w c n t rd yr f) (k lane m : Int32) : INE (ansSheet C k lane m).2 := by
  unfold ansSheet
  refine cif_pr (Z := fun r : Int32 × PT => INE r.2) (fun h1 => ?_) (fun _ => (h.g10 _).ine)
  refine cif_pr (Z := fun r : Int32 × PT => INE r.2) (fun _ => ?_) (fun _ => (h.g10 _).ine)
  refine cif_pr (Z := fun r : Int32 × PT => INE r.2) (fun h2 => ?_) (fun _ => (h.g10 _).ine)
  refine cif_pr (Z := fun r : Int32 × PT => INE r.2) (fun h3 => ?_) (fun _ => ((h.g10 _).g10 _).ine)
  rw [i_le] at h2 h3
  have z0 : (0 : Int32).toInt = 0 := rfl
  have z1 : (nI 100).toInt = 100 := rfl
  obtain ⟨j, hj, rfl⟩ := i_of (x := m) (by omega)
  rw [nI_toInt hj, z1] at h2
  obtain ⟨q, hq, rfl⟩ := h1
  have eq : dN (nI q) = q := dN_nI (by omega)
  show INE (zf (pa (pa (pg C 10 (nI 0)) 12 (dN (nI q)) lane) 13 (dN (nI q)) (nI j)) (dN (nI q)) (dN (nI j)))
  rw [eq]
  have ez : ∀ a b, a < 14 → (zf (pa (pa (pg C 10 (nI 0)) 12 q lane) 13 q (nI j)) q (dN (nI j))).2 a b = (pa (pa (pg C 10 (nI 0)) 12 q lane) 13 q (nI j)).2 a b := by
    intro a b ha
    show (if a = 14 + q then _ else (pa (pa (pg C 10 (nI 0)) 12 q lane) 13 q (nI j)).2 a) b = _
    rw [if_neg (by omega)]
  refine INV.ine ((h.g10 (nI 0)).sh (C' := zf (pa (pa (pg C 10 (nI 0)) 12 q lane) 13 q (nI j)) q (dN (nI j))) rfl (fun a b h1 h2 h3 => ?_) (fun k hk => ?_))
  · rw [ez a b h3, pa_val, if_neg (by omega), pa_val, if_neg (by omega)]
  · rw [ez 13 k (by omega), pa_val]
    by_cases z : 13 = 13 ∧ k = q
    · rw [if_pos z]; exact Or.inr ⟨j, by omega, rfl⟩
    · rw [if_neg z, pa_val, if_neg (by omega)]; exact h.2.2.2.1 k hk
theorem ine_lose (h : INV C w c n t rd yr f) (k : Int32) : INE (ansLose C k).2 := by
  unfold ansLose
  refine cif_pr (Z := fun r : Int32 × PT => INE r.2) (fun h1 => ?_) (fun _ => h.ine)
  refine cif_pr (Z := fun r : Int32 × PT => INE r.2) (fun _ => ?_) (fun _ => h.ine)
  refine INV.ine (h.sh (C' := pa C 13 (dN k) (-1)) rfl (fun a b h1 h2 h3 => by rw [pa_val, if_neg (by omega)]) (fun q hq => ?_))
  rw [pa_val]
  by_cases z : 13 = 13 ∧ q = dN k
  · rw [if_pos z]; exact Or.inl rfl
  · rw [if_neg z]; exact h.2.2.2.1 q hq
theorem ine_put (h : INV C w c n t rd yr f) (k i v : Int32) : INE (ansPut C k i v).2 := by
  unfold ansPut
  refine cif_pr (Z := fun r : Int32 × PT => INE r.2) (fun h1 => ?_) (fun _ => (h.g10 _).ine)
  refine cif_pr (Z := fun r : Int32 × PT => INE r.2) (fun _ => ?_) (fun _ => ((h.g10 _).g10 _).ine)
  refine cif_pr (Z := fun r : Int32 × PT => INE r.2) (fun _ => ?_) (fun _ => ((h.g10 _).g10 _).ine)
  exact INV.ine ((h.g10 (nI 0)).congr (fun _ _ _ _ _ => rfl) (fun a b hj => by rw [pa_val, if_neg (by omega)]))
theorem ine_cell (h : INV C w c n t rd yr f) (k i lane : Int32) : INE (ansCell C k i lane).2 := by
  unfold ansCell
  refine cif_pr (Z := fun r : Int64 × PT => INE r.2) (fun h1 => ?_) (fun _ => (h.g10 _).ine)
  refine cif_pr (Z := fun r : Int64 × PT => INE r.2) (fun _ => ?_) (fun _ => (h.g10 _).ine)
  refine cif_pr (Z := fun r : Int64 × PT => INE r.2) (fun _ => ?_) (fun _ => ((h.g10 _).g10 _).ine)
  exact cif_pr (Z := fun r : Int64 × PT => INE r.2) (fun _ => ((h.g10 _).g10 _).ine) (fun _ => (((h.g10 _).g10 _).g10 _).ine)
theorem ine_copy (h : INV C w c n t rd yr f) (k i o j m : Int32) : INE (ansCopy C k i o j m).2 := by
  unfold ansCopy
  refine cif_pr (Z := fun r : Int32 × PT => INE r.2) (fun h1 => ?_) (fun _ => (h.g10 _).ine)
  refine cif_pr (Z := fun r : Int32 × PT => INE r.2) (fun h1 => ?_) (fun _ => (h.g10 _).ine)
  refine cif_pr (Z := fun r : Int32 × PT => INE r.2) (fun _ => ?_) (fun _ => ((h.g10 _).g10 _).ine)
  refine cif_pr (Z := fun r : Int32 × PT => INE r.2) (fun _ => ?_) (fun _ => ((h.g10 _).g10 _).ine)
  refine cif_pr (Z := fun r : Int32 × PT => INE r.2) (fun _ => ?_) (fun _ => ((h.g10 _).g10 _).ine)
  refine cif_pr (Z := fun r : Int32 × PT => INE r.2) (fun _ => ?_) (fun _ => ((h.g10 _).g10 _).ine)
  refine cif_pr (Z := fun r : Int32 × PT => INE r.2) (fun _ => ?_) (fun _ => ((h.g10 _).g10 _).ine)
  refine INV.ine ((h.g10 (nI 0)).congr (C' := cpy (pg C 10 (nI 0)) (dN k) (dN i) (dN o) (dN j) (dN m)) (fun _ _ _ _ _ => rfl) (fun a b hj => ?_))
  show (if a = 14 + dN o then _ else (pg C 10 (nI 0)).2 a) b = _
  rw [if_neg (by omega)]
theorem ine_tell (h : INV C w c n t rd yr f) (x : Int32) : INE (ansTell C n x).2 := by
  unfold ansTell
  refine cif_pr (Z := fun r : Int32 × PT => INE r.2) (fun h1 => ?_) (fun _ => h.ine)
  refine cif_pr (Z := fun r : Int32 × PT => INE r.2) (fun _ => ((h.tr _).tr _).ine) (fun _ => ?_)
  exact cif_pr (Z := fun r : Int32 × PT => INE r.2) (fun _ => ((((h.tr _).tr _).tr _).tr _).ine) (fun _ => (h.tr _).ine)
theorem ine_rent (h : INV C w c n t rd yr f) (x : Int32) : INE (ansRent C n x).2 := by
  unfold ansRent
  refine cif_pr (Z := fun r : Int32 × PT => INE r.2) (fun h1 => ?_) (fun _ => h.ine)
  exact cif_pr (Z := fun r : Int32 × PT => INE r.2) (fun _ => (h.tr _).ine) (fun _ => (h.tr _).ine)
theorem ine_as (h : INV C w c n t rd yr f) (x k : Int32) : INE (ansAs C n x k).2 := by
  unfold ansAs
  refine cif_pr (Z := fun r : Int32 × PT => INE r.2) (fun h1 => ?_) (fun _ => (h.g10 _).ine)
  refine cif_pr (Z := fun r : Int32 × PT => INE r.2) (fun h1 => ?_) (fun _ => (h.g10 _).ine)
  exact cif_pr (Z := fun r : Int32 × PT => INE r.2) (fun _ => (h.g10 _).ine) (fun _ => ((h.g10 _).g10 _).ine)
theorem ine_land {r x lane i m : Int32} (h : INV C w c n t rd yr f) (hL : LR C x lane i m r C') : INE C' := by
  rcases hL with ⟨_, _, rfl⟩ | ⟨_, _, _, rfl⟩ | ⟨_, _, _, _, rfl⟩ | ⟨_, _, _, _, rfl⟩ | ⟨_, _, _, ht, _, hL⟩
  · exact (h.g10 _).ine
  · exact (h.g10 _).ine
  · exact (h.g10 _).ine
  · exact (h.g10 _).ine
  · have hip := land_ip ht hL
    obtain ⟨hL0, l0, l1, l2, l3, l4, l5, l6, l7, l8, l9, l10, l12⟩ := hL
    refine ⟨_, _, _, _, 0, 0, 0, hip, l1, ⟨l8, by omega, fun k hk => absurd hk (Nat.not_lt_zero _)⟩, fun k hk => by rw [l12 13 k (by omega)]; exact h.2.2.2.1 k hk, fun q hq => ?_, ⟨l5, by omega⟩, fun q hq => ⟨0, by omega, (hL0.1 q hq).2.1⟩, ⟨l4, Nat.two_pow_pos _⟩⟩
    obtain ⟨mm, hm, hi, rfl⟩ := hsN_sur hq
    refine ⟨_, ?_, (hL0.2.1 mm hm hi).1⟩
    rcases (ht.2.2.2.1 mm hm).2.2 with a | ⟨a, -⟩
    · exact absurd a hi.1
    · have a2 := a
      change kdN _ _ _ _ < 4 at a2
      have := hi.2; omega
end INVS
section SAME
variable (P : PT) (w c n t rd : Nat)
theorem s_ofCell (x wh : Int32) : (ansOfCell P c x wh).2 = P := by
  unfold ansOfCell; repeat (first | rfl | refine cif_pr (Z := fun r : Int32 × PT => r.2 = P) (fun _ => ?_) (fun _ => ?_))
theorem s_ofHouse (x wh : Int32) : (ansOfHouse P n x wh).2 = P := by
  unfold ansOfHouse; repeat (first | rfl | refine cif_pr (Z := fun r : Int32 × PT => r.2 = P) (fun _ => ?_) (fun _ => ?_))
theorem s_ofTree (x wh : Int32) : (ansOfTree P t x wh).2 = P := by
  unfold ansOfTree; repeat (first | rfl | refine cif_pr (Z := fun r : Int32 × PT => r.2 = P) (fun _ => ?_) (fun _ => ?_))
theorem s_see (x z : Int32) : (ansSee P w n x z).2 = P := by
  unfold ansSee; repeat (first | rfl | refine cif_pr (Z := fun r : Int32 × PT => r.2 = P) (fun _ => ?_) (fun _ => ?_))
theorem s_number (x : Int32) : (ansNumber P w n x).2 = P := by
  unfold ansNumber; repeat (first | rfl | refine cif_pr (Z := fun r : Int32 × PT => r.2 = P) (fun _ => ?_) (fun _ => ?_))
theorem s_having (v : Int32) : (ansHaving P w c n v).2 = P := by
  unfold ansHaving; repeat (first | rfl | refine cif_pr (Z := fun r : Int32 × PT => r.2 = P) (fun _ => ?_) (fun _ => ?_))
theorem s_alone : (ansAlone P w c n).2 = P := by
  unfold ansAlone; repeat (first | rfl | refine cif_pr (Z := fun r : Int32 × PT => r.2 = P) (fun _ => ?_) (fun _ => ?_))
theorem s_letter (v z : Int32) : (ansLetter P w c n v z).2 = P := by
  unfold ansLetter; repeat (first | rfl | refine cif_pr (Z := fun r : Int32 × PT => r.2 = P) (fun _ => ?_) (fun _ => ?_))
theorem s_mean (wh : Int32) : (ansMean P w c n wh).2 = P := by
  unfold ansMean; repeat (first | rfl | refine cif_pr (Z := fun r : Int64 × PT => r.2 = P) (fun _ => ?_) (fun _ => ?_))
theorem s_walled (x v : Int32) : (ansWalled P w c n x v).2 = P := by
  unfold ansWalled; repeat (first | rfl | refine cif_pr (Z := fun r : Int32 × PT => r.2 = P) (fun _ => ?_) (fun _ => ?_))
theorem s_raised (x v : Int32) : (ansRaised P w n x v).2 = P := by
  unfold ansRaised; repeat (first | rfl | refine cif_pr (Z := fun r : Int32 × PT => r.2 = P) (fun _ => ?_) (fun _ => ?_))
theorem s_felling (x v : Int32) : (ansFelling P w n t x v).2 = P := by
  unfold ansFelling; repeat (first | rfl | refine cif_pr (Z := fun r : Int32 × PT => r.2 = P) (fun _ => ?_) (fun _ => ?_))
theorem s_fresh (x tall wh : Int32) : (ansFresh P w c n x tall wh).2 = P := by
  unfold ansFresh; repeat (first | rfl | refine cif_pr (Z := fun r : Int32 × PT => r.2 = P) (fun _ => ?_) (fun _ => ?_))
theorem s_free (tall v : Int32) : (ansFree P w c n tall v).2 = P := by
  unfold ansFree; repeat (first | rfl | refine cif_pr (Z := fun r : Int64 × PT => r.2 = P) (fun _ => ?_) (fun _ => ?_))
theorem s_change (x : Int32) : (ansChange P w n x).2 = P := by
  unfold ansChange; repeat (first | rfl | refine cif_pr (Z := fun r : Int32 × PT => r.2 = P) (fun _ => ?_) (fun _ => ?_))
theorem s_fogs : (ansFogs P w c n rd).2 = P := by
  unfold ansFogs; repeat (first | rfl | refine cif_pr (Z := fun r : Int32 × PT => r.2 = P) (fun _ => ?_) (fun _ => ?_))
theorem s_stood (wh : Int32) : (ansStood P w c n rd t wh).2 = P := by
  unfold ansStood; repeat (first | rfl | refine cif_pr (Z := fun r : Int32 × PT => r.2 = P) (fun _ => ?_) (fun _ => ?_))
theorem s_many (wh : Int32) : (ansMany P wh).2 = P := by
  unfold ansMany; repeat (first | rfl | refine cif_pr (Z := fun r : Int32 × PT => r.2 = P) (fun _ => ?_) (fun _ => ?_))
end SAME
/-! THE START -/
theorem inv_0 : INV P00 0 0 0 0 0 0 0 :=
  ⟨⟨⟨rfl, rfl, rfl, by omega, by omega, by omega⟩, Or.inr ⟨rfl, rfl, rfl, rfl⟩, fun h hh => absurd hh (Nat.not_lt_zero _), fun h hh => absurd hh (Nat.not_lt_zero _), fun h hh => absurd hh (Nat.not_lt_zero _)⟩, rfl, ⟨rfl, by omega, fun h hh => absurd hh (Nat.not_lt_zero _)⟩, fun k hk => Or.inl rfl, fun h hh => absurd hh (Nat.not_lt_zero _), ⟨rfl, by omega⟩, fun h hh => absurd hh (Nat.not_lt_zero _), ⟨rfl, by decide⟩⟩
theorem rq_0 : RQ P00 M00 := by
  have z : dN (0 : Int32) = 0 := by decide
  refine ⟨fun _ _ => rfl, ⟨0, by omega, rfl, ?_, ?_⟩, fun k q _ hq => ?_, fun k q _ _ hq => ?_, fun k q _ _ hq => ?_, fun q hq => ?_, fun k q _ _ hq => ?_, fun k q h1 h2 hq => ?_, fun k i hk hi => ?_, fun q hq => Or.inl rfl⟩
  · show dN (0 : Int32) = 0 * dN (0 : Int32); rw [z]
  · show dN (0 : Int32) = 0 ↔ 0 = 0; rw [z]
  · exact absurd (show q < dN (0 : Int32) from hq) (by rw [z]; omega)
  · exact absurd (show q < dN (0 : Int32) from hq) (by rw [z]; omega)
  · exact absurd (show q < dN (0 : Int32) from hq) (by rw [z]; omega)
  · exact absurd (show q < dN (0 : Int32) from hq) (by rw [z]; omega)
  · exact absurd (show q < dN (0 : Int32) from hq) (by rw [z]; omega)
  · rcases (show k = 12 ∨ k = 13 by omega) with rfl | rfl
    · rfl
    · rcases (show q = 0 ∨ q = 1 ∨ q = 2 ∨ q = 3 by omega) with rfl | rfl | rfl | rfl <;> rfl
  · show (0 : Int32) = (if 14 + k = 13 then fun _ => (-1) else fun _ => 0) i
    rw [if_neg (by omega)]
