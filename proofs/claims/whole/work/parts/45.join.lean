/-! TWO WORLDS side by side, and what the tables say of the array classes -/
section JOIN
variable {D : va_G} {cl : List vw_C} {A : Nat → Prop} {H : Heap} {w1 w2 : va_W}
theorem vj_l {k : Nat} {q : Nat × va_E} (hk : w1[k]? = some q) : (w1 ++ w2)[k]? = some q := by
  rw [List.getElem?_append_left (List.getElem?_eq_some_iff.mp hk).1]; exact hk
theorem vj_r {k : Nat} {q : Nat × va_E} (hk : w2[k]? = some q) : (w1 ++ w2)[w1.length + k]? = some q := by
  rw [List.getElem?_append_right (by omega), show w1.length + k - w1.length = k by omega]; exact hk
theorem vP_l (h : va_P D cl (w1 ++ w2) H) : va_P D cl w1 H := fun k q hk => h k q (vj_l hk)
theorem vP_r (h : va_P D cl (w1 ++ w2) H) : va_P D cl w2 H := fun k q hk => h _ q (vj_r hk)
theorem vD_l (h : va_D A (w1 ++ w2)) : va_D A w1 := ⟨fun i j p q hi hj e => h.1 i j p q (vj_l hi) (vj_l hj) e, fun k q hk => h.2 k q (vj_l hk)⟩
theorem vD_r (h : va_D A (w1 ++ w2)) : va_D A w2 := ⟨fun i j p q hi hj e => by have := h.1 _ _ p q (vj_r hi) (vj_r hj) e; omega, fun k q hk => h.2 _ q (vj_r hk)⟩
theorem vD_x (h : va_D A (w1 ++ w2)) {i j : Nat} {p q : Nat × va_E} (hi : w1[i]? = some p) (hj : w2[j]? = some q) : p.1 ≠ q.1 := fun e => by
  have h1 := h.1 _ _ p q (vj_l hi) (vj_r hj) e
  have h2 := (List.getElem?_eq_some_iff.mp hi).1
  omega
theorem at_of {ws : va_W} {a : Nat → Nat} {n : Nat} (h : ws.map (fun q => q.1) = (List.range n).map a) {i : Nat} (hi : i < n) : ∃ x, ws[i]? = some (a i, x) := by
  have h1 : (ws.map (fun q => q.1))[i]? = some (a i) := by rw [h, List.getElem?_map, List.getElem?_range hi]; rfl
  rw [List.getElem?_map] at h1
  cases e : ws[i]? with
  | none => rw [e] at h1; cases h1
  | some q => rw [e] at h1; exact ⟨q.2, by rw [← Option.some.inj h1]⟩
theorem CA_of {ws : va_W} {a : Nat → Nat} {n : Nat} (h : ws.map (fun q => q.1) = (List.range n).map a) (hD : va_D A ws) : CA a n := fun i j hi hj e => by
  obtain ⟨x, hx⟩ := at_of h hi
  obtain ⟨z, hz⟩ := at_of h hj
  exact hD.1 i j _ _ hx hz e
theorem in_of {ws : va_W} {a : Nat → Nat} {n : Nat} (h : ws.map (fun q => q.1) = (List.range n).map a) (hD : va_D A ws) : ∀ q, (∃ i, i < n ∧ q = a i) → A q := by
  rintro q ⟨i, hi, rfl⟩
  obtain ⟨x, hx⟩ := at_of h hi
  exact hD.2 i _ hx
theorem ap_of {a g : Nat → Nat} {n k : Nat} (h1 : w1.map (fun q => q.1) = (List.range n).map a) (h2 : w2.map (fun q => q.1) = (List.range k).map g) (hD : va_D A (w1 ++ w2)) : ∀ q, (∃ i, i < k ∧ q = g i) → ¬ ∃ i, i < n ∧ q = a i := by
  rintro q ⟨i, hi, rfl⟩ ⟨j, hj, e⟩
  obtain ⟨x, hx⟩ := at_of h2 hi
  obtain ⟨z, hz⟩ := at_of h1 hj
  exact vD_x hD hz hx e.symm
theorem arr_int {t : FieldType} {args : Array Value} {s : State} (ht : ∀ C, t ≠ .object C) (h : (Cond.arrayClass t).before args s = true) : ∃ cA, ArrOfT s cA t ∧ va_RA s cA t := by
  obtain ⟨cA, kA, comp, h1, h2, h3⟩ := Cond.arrayClass_spec h
  refine ⟨cA, fun n z => ⟨fun k h => (by cases h), kA, h2, comp, h3⟩, ?_⟩
  cases t with
  | object C => exact absurd rfl (ht C)
  | _ => exact h1
theorem arr_obj {C : String} {args : Array Value} {s : State} (h : (Cond.arrayOver (.object C)).before args s = true) : ∃ cA, ArrOfT s cA (.object C) ∧ va_RA s cA (.object C) := by
  obtain ⟨comp, cA, k, h1, h2, h3, h4, h5⟩ := Cond.arrayOver_spec h
  exact ⟨cA, fun n z => ⟨fun k h => (by cases h), k, h3, comp, h4⟩, k, comp, h3, h4, h1, h5⟩
end JOIN
theorem KK_of {D : va_G} {y : Nat → ClassId} {s : State} {args : Array Value} (hK : va_K D vwCl (tysG y) s) (hts : ∀ w ∈ lw_tbl, w.before args s = true) : KK D y s := by
  refine ⟨hK, fun w hw => ?_⟩
  have h := hts w (inNest w hw)
  obtain ⟨a, i, x, hh, e⟩ := nestL_ok w hw
  subst e
  exact va_Nw.of rfl h
