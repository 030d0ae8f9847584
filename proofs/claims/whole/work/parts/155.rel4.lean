def vI (u : Nat) : Int32 := nI u + Int32.ofInt (-1)
theorem vI_s (u : Nat) : vI (u + 1) = nI u := xn_dec u
theorem vI_neg {u : Nat} (hu : u < 100) (h : ¬ vI u < 0) : 0 < u := by
  rcases Nat.eq_zero_or_pos u with z | z
  · subst z; exact absurd (by decide) h
  · exact z
theorem vI_pos {u : Nat} (hu : u < 100) (h : vI u < 0) : u = 0 := by
  rcases Nat.eq_zero_or_pos u with z | z
  · exact z
  · obtain ⟨k, rfl⟩ : ∃ k, u = k + 1 := ⟨u - 1, by omega⟩
    rw [vI_s] at h; exact absurd h (nI_pos (by omega))
theorem pg_self (P : PT) (k : Nat) : pg P k (P.1 k) = P := by
  refine PT_ext ?_ (fun _ _ => rfl)
  funext j
  rw [pg_val]
  by_cases e : j = k
  · rw [if_pos e, e]
  · rw [if_neg e]
theorem fnd_cases {p : Nat → Prop} {v : Nat → Nat} {N : Nat} (hv : ∀ k, k < N → v k < 2 ^ 31) : ∀ i, i ≤ N → fsI (fun k => fnd (p k) (v k)) i = -9 ∨ 0 ≤ fsI (fun k => fnd (p k) (v k)) i
  | 0, _ => Or.inl rfl
  | i + 1, h => by
    rcases fnd_cases hv i (by omega) with z | z
    · show cif (fsI (fun k => fnd (p k) (v k)) i = -9) (fnd (p i) (v i)) _ = -9 ∨ 0 ≤ cif (fsI (fun k => fnd (p k) (v k)) i = -9) (fnd (p i) (v i)) _
      rw [cif_t z]
      by_cases y : p i
      · rw [fnd_t y]; exact Or.inr (nI_pos' (hv i (by omega)))
      · rw [fnd_f y]; exact Or.inl rfl
    · have e : ¬ fsI (fun k => fnd (p k) (v k)) i = -9 := fun y => by rw [y] at z; exact absurd z (by decide)
      show cif (fsI (fun k => fnd (p k) (v k)) i = -9) (fnd (p i) (v i)) _ = -9 ∨ 0 ≤ cif (fsI (fun k => fnd (p k) (v k)) i = -9) (fnd (p i) (v i)) _
      rw [cif_f e]; exact Or.inr z
theorem fsI_next {g : Nat → Int32} {i : Nat} (h : fsI g i = -9) : fsI g (i + 1) = g i := cif_t h
theorem fsI_all {g : Nat → Int32} {i N : Nat} (h : ¬ fsI g i = -9) (hi : i ≤ N) : fsI g i = fsI g N := by
  have := fsI_stay h (N - i)
  rw [show i + (N - i) = N by omega] at this; exact this.symm
theorem so_end {q : Nat → Prop} {g : Prop} {i N : Nat} (hg : g ↔ ∀ k, k < i → q k) (hi : i ≤ N) (h : N ≤ i ∨ ¬ g) : g ↔ ∀ k, k < N → q k := by
  constructor
  · intro z
    rcases h with h | h
    · exact fun k hk => hg.mp z k (by omega)
    · exact absurd z h
  · intro z; exact hg.mpr (fun k hk => z k (by omega))
theorem so_t {q : Nat → Prop} {g : Prop} {i : Nat} (hg : g ↔ ∀ k, k < i → q k) (h : g) (hq : q i) : True ↔ ∀ k, k < i + 1 → q k :=
  ⟨fun _ k hk => by
    rcases Nat.lt_or_ge k i with z | z
    · exact hg.mp h k z
    · rw [show k = i by omega]; exact hq, fun _ => trivial⟩
theorem so_f {q : Nat → Prop} {i : Nat} (hq : ¬ q i) : False ↔ ∀ k, k < i + 1 → q k := ⟨fun z => z.elim, fun z => hq (z i (by omega))⟩
theorem RQ.w8 {C Q : PT} (h : RQ C Q) {m : Nat} (hm : m < 2 ^ 31) (h2 : ∀ k r, 9 ≤ k → k < 12 → r < m → Q.2 k r = C.2 k r) : RQ (pg C 8 (nI m)) (pg Q 8 (nI m)) := by
  obtain ⟨a1, a2, a3, a4, a5, a6, a7, a8, a9, a10⟩ := h
  refine ⟨fun k hk => ?_, a2, a3, a4, a5, a6, fun k r x y z => h2 k r x y (by have z : r < dN (nI m) := z; rwa [dN_nI hm] at z), a8, a9, a10⟩
  rw [pg_val, pg_val]
  by_cases e : k = 8
  · rw [if_pos e, if_pos e]
  · rw [if_neg e, if_neg e]; exact a1 k hk
theorem RQ.rdg {C Q : PT} {n rd : Nat} (h : RQ C Q) (hr : RD C n rd) {k r : Nat} (h1 : 9 ≤ k) (h2 : k < 12) (h3 : r < rd) : Q.2 k r = C.2 k r := h.2.2.2.2.2.2.1 k r h1 h2 (by rw [hr.1, dN_nI (by have := hr.2.1; omega)]; exact h3)
theorem RQ.addr {C Q : PT} {n rd : Nat} (h : RQ C Q) (hr : RD C n rd) (hlt : rd < 8) (x z v : Int32) : RQ (pg (pa (pa (pa C 9 rd x) 10 rd z) 11 rd v) 8 (nI (rd + 1))) (pg (pa (pa (pa Q 9 rd x) 10 rd z) 11 rd v) 8 (nI (rd + 1))) := by
  refine (((h.wpa (k := 9) (by decide) rd x).wpa (k := 10) (by decide) rd z).wpa (k := 11) (by decide) rd v).w8 (by omega) (fun k r h1 h2 h3 => ?_)
  rw [pa_val, pa_val, pa_val, pa_val, pa_val, pa_val]
  by_cases e1 : k = 11 ∧ r = rd
  · rw [if_pos e1, if_pos e1]
  · rw [if_neg e1, if_neg e1]
    by_cases e2 : k = 10 ∧ r = rd
    · rw [if_pos e2, if_pos e2]
    · rw [if_neg e2, if_neg e2]
      by_cases e3 : k = 9 ∧ r = rd
      · rw [if_pos e3, if_pos e3]
      · rw [if_neg e3, if_neg e3]
        exact h.rdg hr h1 h2 (by omega)
theorem RQ.trace {C Q : PT} (h : RQ C Q) (b : Nat) : RQ (trc C b) (trc Q b) := by
  show RQ (trc C b) (pg Q 9 (nI 31 * Q.1 9 + nI b))
  rw [h.1 9 (by omega)]; exact h.wpg (by omega) _
theorem two_a (a : Int32) : nI 2 * a + nI 100 = a + nI 100 + a := by
  have e : nI 2 * a = a + a := by
    rw [show nI 2 = 1 + 1 from rfl, Int32.add_mul, Int32.one_mul]
  rw [e, Int32.add_assoc, Int32.add_assoc, Int32.add_comm a (nI 100)]
theorem lv_eq4 {ls : Array Slot} {nL : Nat} {l1 : Nat × Value} {x z : Int32} {r : List (Nat × Value)} (h : lv_has ls nL (l1 :: (4, .int x) :: r)) (e : x = z) : lv_has ls nL (l1 :: (4, .int z) :: r) := e ▸ h
