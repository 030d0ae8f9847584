section RQ3
variable {C Q : PT} {w c n t : Nat}
theorem ds_step {g : Nat → Int32} {k : Nat} : fsI (fun j => g (k + j)) 1 = g k := by
  show cif ((-9 : Int32) = -9) (g (k + 0)) (-9) = _
  rw [cif_t rfl]; rfl
/-- the first of a row, from its head on -/
theorem fsI_head (g : Nat → Int32) : ∀ m, fsI g (m + 1) = cif (g 0 = -9) (fsI (fun j => g (j + 1)) m) (g 0)
  | 0 => by
    show cif ((-9 : Int32) = -9) (g 0) (-9) = cif (g 0 = -9) (-9) (g 0)
    rw [cif_t rfl]
    by_cases h : g 0 = -9
    · rw [cif_t h, h]
    · rw [cif_f h]
  | m + 1 => by
    have ih := fsI_head g m
    show cif (fsI g (m + 1) = -9) (g (m + 1)) (fsI g (m + 1)) = cif (g 0 = -9) (cif (fsI (fun j => g (j + 1)) m = -9) (g (m + 1)) (fsI (fun j => g (j + 1)) m)) (g 0)
    by_cases h : g 0 = -9
    · rw [cif_t h] at ih ⊢
      rw [ih]
    · rw [cif_f h] at ih ⊢
      rw [ih, cif_f h]
/-- the reference's search from above: what it holds when v, .., N - 1 are tried -/
noncomputable def dsI (g : Nat → Int32) (v N : Nat) : Int32 := fsI (fun j => g (v + j)) (N - v)
theorem ds_end (g : Nat → Int32) (N : Nat) : dsI g N N = -9 := by unfold dsI; rw [Nat.sub_self]; rfl
theorem ds_0 (g : Nat → Int32) (N : Nat) : dsI g 0 N = fsI g N := by unfold dsI; rw [Nat.sub_zero]; congr 1; funext j; rw [Nat.zero_add]
theorem ds_s {g : Nat → Int32} {v N : Nat} (h : v < N) : dsI g v N = cif (g v = -9) (dsI g (v + 1) N) (g v) := by
  unfold dsI
  rw [show N - v = (N - (v + 1)) + 1 by omega, fsI_head]
  show cif (g (v + 0) = -9) (fsI (fun j => g (v + (j + 1))) (N - (v + 1))) (g (v + 0)) = _
  rw [Nat.add_zero]
  congr 2
  funext j
  rw [show v + (j + 1) = v + 1 + j by omega]
theorem RQ.wpg4 (h : RQ C Q) (hI : IP C w c n t) (set : Int32) : RQ (pg C 4 (C.1 4 ||| set)) (fA Q set (nI 1) t) := by
  have ht := hI.t8
  have et := h.et hI
  have hf := fA_FB h.2.2.2.2.2.2.2.2.2 (Or.inr rfl : nI 1 = nI 0 ∨ nI 1 = nI 1) set t
  obtain ⟨h1, h2, h3, h4, h5, h6, h7, h8, h9, h10⟩ := h
  have e : ∀ k q, ¬ k = 19 → (fA Q set (nI 1) t).2 k q = Q.2 k q := fun k q z => by rw [fA_ne _ _ _ _ z]
  refine ⟨fun k hk => ?_, h2, fun k q a b => (e k q (by omega)).trans (h3 k q a b), fun k q a b d => (e k q (by omega)).trans (h4 k q a b d), fun k q a b d => (e k q (by omega)).trans (h5 k q a b d), fun q hq => ?_, fun k q a b d => (e k q (by omega)).trans (h7 k q a b d), fun k q a b d => (e k q (by omega)).trans (h8 k q a b d), fun k q a b => (e 18 _ (by omega)).trans (h9 k q a b), hf⟩
  · rw [pg_val, if_neg (by omega)]; exact h1 k hk
  · have hq : q < dN (C.1 3) := hq
    rw [et] at hq
    show (fA Q set (nI 1) t).2 19 q = b2 (tbI (C.1 4 ||| set) (nI q))
    rw [b2_iff (tb_or (by omega)), fA_at, h6 q (by rw [et]; exact hq)]
    by_cases z : tbI set (nI q)
    · rw [cif_t ⟨hq, z⟩, b2_t (Or.inr z)]
    · rw [cif_f (fun y => z y.2)]
      exact b2_iff ⟨fun y => Or.inl y, fun y => y.resolve_right z⟩
/-- all felled, then a set stands again -/
theorem RQ.wst (h : RQ C Q) (hI : IP C w c n t) {set all : Int32} (ha : ∀ q, q < t → tbI all (nI q)) (f : Int32) (hf : ∀ q, q < t → (tbI f (nI q) ↔ ¬ tbI set (nI q))) : RQ (pg C 4 f) (fA (fA Q all (nI 1) t) set (nI 0) t) := by
  have ht := hI.t8
  have et := h.et hI
  have hf1 := fA_FB h.2.2.2.2.2.2.2.2.2 (Or.inr rfl : nI 1 = nI 0 ∨ nI 1 = nI 1) all t
  have hf2 := fA_FB hf1 (Or.inl rfl : nI 0 = nI 0 ∨ nI 0 = nI 1) set t
  obtain ⟨h1, h2, h3, h4, h5, h6, h7, h8, h9, h10⟩ := h
  have e : ∀ k q, ¬ k = 19 → (fA (fA Q all (nI 1) t) set (nI 0) t).2 k q = Q.2 k q := fun k q z => by rw [fA_ne _ _ _ _ z, fA_ne _ _ _ _ z]
  refine ⟨fun k hk => ?_, h2, fun k q a b => (e k q (by omega)).trans (h3 k q a b), fun k q a b d => (e k q (by omega)).trans (h4 k q a b d), fun k q a b d => (e k q (by omega)).trans (h5 k q a b d), fun q hq => ?_, fun k q a b d => (e k q (by omega)).trans (h7 k q a b d), fun k q a b d => (e k q (by omega)).trans (h8 k q a b d), fun k q a b => (e 18 _ (by omega)).trans (h9 k q a b), hf2⟩
  · rw [pg_val, if_neg (by omega)]; exact h1 k hk
  · have hq : q < dN (C.1 3) := hq
    rw [et] at hq
    show (fA (fA Q all (nI 1) t) set (nI 0) t).2 19 q = b2 (tbI f (nI q))
    rw [b2_iff (hf q hq), fA_at, fA_at, cif_t (p := q < t ∧ tbI all (nI q)) ⟨hq, ha q hq⟩]
    by_cases z : tbI set (nI q)
    · rw [cif_t ⟨hq, z⟩, b2_f (fun y => y z)]
    · rw [cif_f (fun y => z y.2), b2_t z]
theorem fA_undo {P : PT} {set : Int32} {t : Nat} (h : ∀ k, k < t → tbI set (nI k) → P.2 19 k = nI 0) : fA (fA P set (nI 1) t) set (nI 0) t = P := by
  refine PT_ext rfl (fun j k => ?_)
  by_cases e : j = 19
  · subst e
    rw [fA_at, fA_at]
    by_cases z : k < t ∧ tbI set (nI k)
    · rw [cif_t z, h k z.1 z.2]
    · rw [cif_f z, cif_f z]
  · rw [fA_ne _ _ _ _ e, fA_ne _ _ _ _ e]
theorem msk_tb {p : Nat → Prop} {k : Nat} (hk : k < 32) : ∀ n, n ≤ 31 → (tbI (msk p n) (nI k) ↔ k < n ∧ p k)
  | 0, _ => by
    rw [tb_iff hk]
    show (BitVec.ofNat 32 0).getLsbD k = true ↔ _
    rw [BitVec.getLsbD_ofNat]; simp
  | n + 1, h => by
    have ih := msk_tb (p := p) hk n (by omega)
    by_cases e : p n
    · rw [msk_t e, tb_or hk, ih, tb_shl (by omega) hk]
      constructor
      · rintro (z | z)
        · exact ⟨by omega, z.2⟩
        · subst z; exact ⟨by omega, e⟩
      · rintro ⟨z1, z2⟩
        by_cases z : k = n
        · exact Or.inr z
        · exact Or.inl ⟨by omega, z2⟩
    · rw [msk_f e, ih]
      constructor
      · rintro ⟨z1, z2⟩; exact ⟨by omega, z2⟩
      · rintro ⟨z1, z2⟩
        refine ⟨?_, z2⟩
        rcases Nat.lt_or_ge k n with z | z
        · exact z
        · have : k = n := by omega
          subst this; exact absurd z2 e
theorem tb_n {m k : Nat} (hk : k < 32) : tbI (nI m) (nI k) ↔ m.testBit k = true := by rw [tb_iff hk, bt_n k hk]
/-- the class's felled trees are the reference's, as a set -/
theorem RQ.felled (h : RQ C Q) (hI : IP C w c n t) {f : Nat} (hf : C.1 4 = nI f) (hfl : f < 2 ^ t) : msk (flQ Q) t = C.1 4 := by
  have ht := hI.t8
  obtain ⟨m, h1, h2⟩ := msk_nat (flQ Q) t ht
  rw [h2, hf]
  congr 1
  refine Nat.eq_of_testBit_eq (fun k => ?_)
  rcases Nat.lt_or_ge k t with z | z
  · have e1 := msk_tb (p := flQ Q) (k := k) (by omega) t (by omega)
    rw [h2, tb_n (by omega), h.flq hI z] at e1
    have e2 : flP C k ↔ f.testBit k = true := by
      show tbI (C.1 4) (nI k) ↔ _
      rw [hf, tb_n (by omega)]
    rw [e2] at e1
    rcases hb : m.testBit k with _ | _ <;> rcases hb2 : f.testBit k with _ | _ <;> simp_all
  · rw [Nat.testBit_lt_two_pow (Nat.lt_of_lt_of_le h1 (Nat.pow_le_pow_right (by decide) z)), Nat.testBit_lt_two_pow (Nat.lt_of_lt_of_le hfl (Nat.pow_le_pow_right (by decide) z))]
theorem not_felled (h : RQ C Q) (hI : IP C w c n t) {s : Nat} (hz : nI s &&& C.1 4 = 0) : ∀ k, k < t → tbI (nI s) (nI k) → Q.2 19 k = nI 0 := by
  intro k hk hs
  have ht := hI.t8
  rw [h.fl hI hk]
  refine b2_f (fun z => ?_)
  have z1 : tbI (C.1 4) (nI k) := z
  rw [tb_iff (by omega)] at z1 hs
  have e : bt (nI s &&& C.1 4) k = true := by rw [b_and, z1, hs]; rfl
  rw [hz] at e
  unfold bt at e
  rw [show (0 : Int32).toBitVec = 0#32 from rfl, BitVec.getLsbD_zero] at e
  cases e
theorem RQ.soK (h : RQ C Q) (hI : IP C w c n t) (hc : C.1 1 = nI c) {rd : Nat} (hr : RD C n rd) {k : Nat} (hk : k < rd) : Q.2 9 k = nI (rhN C k) ∧ Q.2 10 k = C.2 10 k ∧ Q.2 11 k = C.2 11 k := by
  have e : dN (C.1 8) = rd := by rw [hr.1]; exact dN_nI (by have := hr.2.1; omega)
  have h7 := h.2.2.2.2.2.2.1
  exact ⟨(h7 9 k (by decide) (by decide) (by rw [e]; exact hk)).trans (hr.2.2 k hk).1, h7 10 k (by decide) (by decide) (by rw [e]; exact hk), h7 11 k (by decide) (by decide) (by rw [e]; exact hk)⟩
theorem pg_back (P : PT) (k : Nat) (v : Int32) : pg (pg P k v) k (P.1 k) = P := by
  refine PT_ext ?_ (fun _ _ => rfl)
  funext j
  rw [pg_val, pg_val]
  by_cases e : j = k
  · rw [if_pos e, e]
  · rw [if_neg e, if_neg e]
theorem pg_pg (P : PT) (k : Nat) (u v : Int32) : pg (pg P k u) k v = pg P k v := by
  refine PT_ext ?_ (fun _ _ => rfl)
  funext j
  rw [pg_val, pg_val, pg_val]
  by_cases e : j = k
  · rw [if_pos e, if_pos e]
  · rw [if_neg e, if_neg e, if_neg e]
theorem pa_pa (P : PT) (k i : Nat) (u v : Int32) : pa (pa P k i u) k i v = pa P k i v := by
  refine PT_ext rfl (fun j q => ?_)
  rw [pa_val, pa_val, pa_val]
  by_cases e : j = k ∧ q = i
  · rw [if_pos e, if_pos e]
  · rw [if_neg e, if_neg e, if_neg e]
end RQ3
