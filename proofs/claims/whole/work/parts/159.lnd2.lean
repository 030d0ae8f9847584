abbrev hOK (f : Nat → Int32) (n : Nat) : Prop := chr f n 0 110 ∧ dgt f n 1 1 5 ∧ dgt f n 2 2 6
abbrev hFP (f : Nat → Int32) (n pf : Nat) : Prop := (¬ chr f n 0 110 ∧ pf = 0) ∨ (chr f n 0 110 ∧ ¬ dgt f n 1 1 5 ∧ pf = 1) ∨ (chr f n 0 110 ∧ dgt f n 1 1 5 ∧ ¬ dgt f n 2 2 6 ∧ pf = 2)
abbrev rOK (f : Nat → Int32) (n w k : Nat) : Prop := ∀ m, m < k → okc f n w m
abbrev rFP (f : Nat → Int32) (n w k pf : Nat) : Prop := ∃ m, m < k ∧ (∀ b, b < m → okc f n w b) ∧ ((m % w = 0 ∧ ¬ chr f n (scn f n w m).1 59 ∧ pf = (scn f n w m).1) ∨ ((m % w = 0 → chr f n (scn f n w m).1 59) ∧ ¬ cOK f n (qpl f n w m) (hsN f n w m) (tsN f n w m) ∧ pf = cFP f n (qpl f n w m) (hsN f n w m) (tsN f n w m)))
theorem rFP_not {f : Nat → Int32} {n w k pf : Nat} (h : rFP f n w k pf) : ¬ rOK f n w k := by
  obtain ⟨m, h1, -, h3⟩ := h
  intro z
  have h4 := z m h1
  rcases h3 with ⟨x1, x2, -⟩ | ⟨-, x2, -⟩
  · exact x2 (h4.1 x1)
  · exact x2 h4.2
theorem cFP_le {f : Nat → Int32} {n p hs ts : Nat} (h : p ≤ n) : cFP f n p hs ts ≤ n := by
  unfold cFP
  by_cases e : dgt f n p 0 9
  · rw [cif_t e]
    by_cases e2 : kdc f n (p + 1) hs ts < 4
    · rw [cif_t e2]; have := kdc_p e2; omega
    · rw [cif_f e2]; have := e.1; omega
  · rw [cif_f e]; exact h
theorem row_mod {r c w : Nat} (h : c < w) : (r * w + c) % w = c := by rw [Nat.mul_comm, Nat.mul_add_mod, Nat.mod_eq_of_lt h]
theorem row_lt {r c w hi : Nat} (hr : r < hi) (hc : c < w) : r * w + c < hi * w := by
  have := Nat.mul_le_mul_right w (show r + 1 ≤ hi by omega)
  rw [Nat.succ_mul] at this; omega
theorem row_30 {w hi : Nat} (h1 : hi ≤ 5) (h2 : w ≤ 6) : hi * w ≤ 30 := Nat.mul_le_mul h1 h2
/-- the text's state but for its place -/
def TU (X : PT) (f : Nat → Int32) (n w c : Nat) : Prop := (X.1 3 = nI (hsN f n w c) ∧ X.1 4 = nI (tsN f n w c)) ∧ ∀ m, m < c → X.2 0 m = nI (dvl f (qpl f n w m)) ∧ X.2 1 m = cif (dot f n w m) (-1) (nI (kdN f n w m)) ∧ (¬ dot f n w m → X.2 2 m = nI (dvl f (qpl f n w m + 2)))
theorem TU_s {X X' : PT} {f : Nat → Int32} {n w c : Nat} (h : TU X f n w c) (h2 : TC X X' f n (qpl f n w c) (hsN f n w c) (tsN f n w c) c) : TU X' f n w (c + 1) := by
  refine ⟨⟨h2.1.2.1, h2.1.2.2⟩, fun m hm => ?_⟩
  by_cases e : m = c
  · subst e; exact ⟨h2.2.2.2.1, h2.2.2.2.2.1, h2.2.2.2.2.2⟩
  · have h3 := h.2 m (by omega)
    have e2 : ∀ j, j < 3 → X'.2 j m = X.2 j m := fun j hj => h2.2.2.1 j m hj e
    exact ⟨(e2 0 (by decide)).trans h3.1, (e2 1 (by decide)).trans h3.2.1, fun z => (e2 2 (by decide)).trans (h3.2.2 z)⟩
theorem ok_snoc {f : Nat → Int32} {n w c : Nat} (h : rOK f n w c) (h2 : okc f n w c) : rOK f n w (c + 1) := by
  intro m hm
  by_cases e : m = c
  · subst e; exact h2
  · exact h m (by omega)
/-- the land that the text tells, cell by cell, c cells of it -/
abbrev isH (f : Nat → Int32) (n w m : Nat) : Prop := ¬ dot f n w m ∧ ¬ kdN f n w m = 3
abbrev isT (f : Nat → Int32) (n w m : Nat) : Prop := ¬ dot f n w m ∧ kdN f n w m = 3
noncomputable def thg (f : Nat → Int32) (n w m : Nat) : Int32 := cif (dot f n w m) (nI 0) (cif (kdN f n w m = 3) (nI (20 + tsN f n w m)) (nI (10 + hsN f n w m)))
def LND (P : PT) (f : Nat → Int32) (n w c : Nat) : Prop := (∀ m, m < c → P.2 0 m = nI (dvl f (qpl f n w m)) ∧ P.2 1 m = nI 0 ∧ P.2 2 m = thg f n w m) ∧
  (∀ m, m < c → isH f n w m → P.2 3 (hsN f n w m) = nI (kdN f n w m) ∧ P.2 4 (hsN f n w m) = nI m ∧ P.2 5 (hsN f n w m) = nI (dvl f (qpl f n w m + 2)) ∧ P.2 6 (hsN f n w m) = nI 0) ∧
  (∀ m, m < c → isT f n w m → P.2 7 (tsN f n w m) = nI m ∧ P.2 8 (tsN f n w m) = nI (dvl f (qpl f n w m + 2)))
theorem hsN_mono {f : Nat → Int32} {n w : Nat} {m : Nat} : ∀ {c : Nat}, m < c → hsN f n w m ≤ hsN f n w c ∧ tsN f n w m ≤ tsN f n w c ∧ (isH f n w m → hsN f n w m < hsN f n w c) ∧ (isT f n w m → tsN f n w m < tsN f n w c)
  | 0, h => absurd h (Nat.not_lt_zero _)
  | c + 1, h => by
    have st : hsN f n w c ≤ hsN f n w (c + 1) ∧ tsN f n w c ≤ tsN f n w (c + 1) ∧ (isH f n w c → hsN f n w c < hsN f n w (c + 1)) ∧ (isT f n w c → tsN f n w c < tsN f n w (c + 1)) := by
      rw [hsN_s, tsN_s]
      by_cases e : dot f n w c
      · rw [cif_t e, cif_t e]; exact ⟨Nat.le_refl _, Nat.le_refl _, fun z => absurd e z.1, fun z => absurd e z.1⟩
      · rw [cif_f e, cif_f e]
        by_cases e2 : kdN f n w c = 3
        · rw [cif_t e2, cif_t e2]; exact ⟨Nat.le_refl _, Nat.le_succ _, fun z => absurd e2 z.2, fun _ => Nat.lt_succ_self _⟩
        · rw [cif_f e2, cif_f e2]; exact ⟨Nat.le_succ _, Nat.le_refl _, fun _ => Nat.lt_succ_self _, fun z => absurd z.2 e2⟩
    by_cases e : m = c
    · subst e; exact st
    · have ih := hsN_mono (f := f) (n := n) (w := w) (m := m) (c := c) (by omega)
      exact ⟨Nat.le_trans ih.1 st.1, Nat.le_trans ih.2.1 st.2.1, fun z => Nat.lt_of_lt_of_le (ih.2.2.1 z) st.1, fun z => Nat.lt_of_lt_of_le (ih.2.2.2 z) st.2.1⟩
theorem hsN_sur {f : Nat → Int32} {n w h : Nat} : ∀ {c : Nat}, h < hsN f n w c → ∃ m, m < c ∧ isH f n w m ∧ hsN f n w m = h
  | 0, z => absurd z (Nat.not_lt_zero _)
  | c + 1, z => by
    rcases Nat.lt_or_ge h (hsN f n w c) with y | y
    · obtain ⟨m, a, b⟩ := hsN_sur (f := f) (n := n) (w := w) (c := c) y
      exact ⟨m, by omega, b⟩
    · rw [hsN_s] at z
      by_cases e : dot f n w c
      · rw [cif_t e] at z; omega
      · rw [cif_f e] at z
        by_cases e2 : kdN f n w c = 3
        · rw [cif_t e2] at z; omega
        · rw [cif_f e2] at z; exact ⟨c, Nat.lt_succ_self _, ⟨e, e2⟩, by omega⟩
theorem tsN_sur {f : Nat → Int32} {n w h : Nat} : ∀ {c : Nat}, h < tsN f n w c → ∃ m, m < c ∧ isT f n w m ∧ tsN f n w m = h
  | 0, z => absurd z (Nat.not_lt_zero _)
  | c + 1, z => by
    rcases Nat.lt_or_ge h (tsN f n w c) with y | y
    · obtain ⟨m, a, b⟩ := tsN_sur (f := f) (n := n) (w := w) (c := c) y
      exact ⟨m, by omega, b⟩
    · rw [tsN_s] at z
      by_cases e : dot f n w c
      · rw [cif_t e] at z; omega
      · rw [cif_f e] at z
        by_cases e2 : kdN f n w c = 3
        · rw [cif_t e2] at z; exact ⟨c, Nat.lt_succ_self _, ⟨e, e2⟩, by omega⟩
        · rw [cif_f e2] at z; omega
/-- what settling a cell's thing does to the land -/
noncomputable def stl (P : PT) (dt : Prop) (kd m hs ts : Nat) (tv : Int32) : PT := cif dt P (cif (kd = 3) (pg (pa (pa P 7 ts (nI m)) 8 ts tv) 3 (nI (ts + 1))) (pg (pa (pa (pa (pa P 3 hs (nI kd)) 4 hs (nI m)) 5 hs tv) 6 hs (nI 0)) 2 (nI (hs + 1))))
noncomputable def thv (dt : Prop) (kd hs ts : Nat) : Int32 := cif dt (nI 0) (cif (kd = 3) (nI (20 + ts)) (nI (10 + hs)))
/-- the land's state on the class's side, c cells of it made anew -/
def CN (P0 P : PT) (f : Nat → Int32) (n w c : Nat) : Prop := LND P f n w c ∧ P.1 2 = nI (hsN f n w c) ∧ P.1 3 = nI (tsN f n w c) ∧ (∀ j, j ≠ 2 → j ≠ 3 → P.1 j = P0.1 j) ∧ ∀ j q, 9 ≤ j → P.2 j q = P0.2 j q
theorem CN_0 {P : PT} {f : Nat → Int32} {n w : Nat} (h2 : P.1 2 = nI 0) (h3 : P.1 3 = nI 0) : CN P P f n w 0 :=
  ⟨⟨fun _ z => absurd z (Nat.not_lt_zero _), fun _ z => absurd z (Nat.not_lt_zero _), fun _ z => absurd z (Nat.not_lt_zero _)⟩, h2, h3, fun _ _ _ => rfl, fun _ _ _ => rfl⟩
theorem CN_s {P0 P : PT} {f : Nat → Int32} {n w c : Nat} (h : CN P0 P f n w c) {g tv : Int32} (hg : g = nI (dvl f (qpl f n w c))) (htv : ¬ dot f n w c → tv = nI (dvl f (qpl f n w c + 2))) : CN P0 (pa (stl (pa (pa P 0 c g) 1 c (nI 0)) (dot f n w c) (kdN f n w c) c (hsN f n w c) (tsN f n w c) tv) 2 c (thv (dot f n w c) (kdN f n w c) (hsN f n w c) (tsN f n w c))) f n w (c + 1) := by
  obtain ⟨⟨a1, a2, a3⟩, a4, a5, a6, a7⟩ := h
  subst hg
  have k0 : ∀ (A : PT), (∀ m, A.2 0 m = (pa (pa P 0 c (nI (dvl f (qpl f n w c)))) 1 c (nI 0)).2 0 m) → (∀ m, A.2 1 m = (pa (pa P 0 c (nI (dvl f (qpl f n w c)))) 1 c (nI 0)).2 1 m) → (∀ m, A.2 2 m = P.2 2 m) → ∀ m, m < c + 1 → (pa A 2 c (thg f n w c)).2 0 m = nI (dvl f (qpl f n w m)) ∧ (pa A 2 c (thg f n w c)).2 1 m = nI 0 ∧ (pa A 2 c (thg f n w c)).2 2 m = thg f n w m := by
    intro A e0 e1 e2 m hm
    have v0 : (pa A 2 c (thg f n w c)).2 0 m = if 0 = 0 ∧ m = c then nI (dvl f (qpl f n w c)) else P.2 0 m := by
      rw [pa_val, if_neg (show ¬ (0 = 2 ∧ m = c) by omega), e0, pa_val, if_neg (show ¬ (0 = 1 ∧ m = c) by omega), pa_val]
    have v1 : (pa A 2 c (thg f n w c)).2 1 m = if 1 = 1 ∧ m = c then nI 0 else P.2 1 m := by
      rw [pa_val, if_neg (show ¬ (1 = 2 ∧ m = c) by omega), e1, pa_val, pa_val, if_neg (show ¬ (1 = 0 ∧ m = c) by omega)]
    have v2 : (pa A 2 c (thg f n w c)).2 2 m = if 2 = 2 ∧ m = c then thg f n w c else P.2 2 m := by rw [pa_val, e2]
    by_cases e : m = c
    · subst e; exact ⟨v0.trans (if_pos ⟨rfl, rfl⟩), v1.trans (if_pos ⟨rfl, rfl⟩), v2.trans (if_pos ⟨rfl, rfl⟩)⟩
    · have h9 := a1 m (by omega)
      exact ⟨(v0.trans (if_neg (by omega))).trans h9.1, (v1.trans (if_neg (by omega))).trans h9.2.1, (v2.trans (if_neg (by omega))).trans h9.2.2⟩
  show CN P0 (pa (stl (pa (pa P 0 c (nI (dvl f (qpl f n w c)))) 1 c (nI 0)) (dot f n w c) (kdN f n w c) c (hsN f n w c) (tsN f n w c) tv) 2 c (thg f n w c)) f n w (c + 1)
  unfold CN LND
  rw [hsN_s, tsN_s]
  unfold stl
  by_cases e : dot f n w c
  · rw [cif_t e, cif_t e, cif_t e]
    refine ⟨⟨k0 _ (fun _ => rfl) (fun _ => rfl) (fun _ => rfl), fun m hm z => ?_, fun m hm z => ?_⟩, a4, a5, a6, fun j q hj => ?_⟩
    · have hne : m ≠ c := fun y => z.1 (y ▸ e)
      exact a2 m (by omega) z
    · have hne : m ≠ c := fun y => z.1 (y ▸ e)
      exact a3 m (by omega) z
    · rw [pa_val, pa_val, pa_val, if_neg (by omega), if_neg (by omega), if_neg (by omega)]; exact a7 j q hj
  · rw [cif_f e, cif_f e, cif_f e]
    by_cases e2 : kdN f n w c = 3
    · rw [cif_t e2, cif_t e2, cif_t e2]
      refine ⟨⟨k0 _ (fun _ => rfl) (fun _ => rfl) (fun _ => rfl), fun m hm z => ?_, fun m hm z => ?_⟩, a4, rfl, fun j h2 h3 => ?_, fun j q hj => ?_⟩
      · have hne : m ≠ c := fun y => z.2 (y ▸ e2)
        exact a2 m (by omega) z
      · show (pa (pa P 7 (tsN f n w c) (nI c)) 8 (tsN f n w c) tv).2 7 (tsN f n w m) = _ ∧ (pa (pa P 7 (tsN f n w c) (nI c)) 8 (tsN f n w c) tv).2 8 (tsN f n w m) = _
        rw [pa_val, pa_val, pa_val, pa_val, if_neg (by omega)]
        by_cases y : m = c
        · subst y; rw [if_pos ⟨rfl, rfl⟩, if_pos ⟨rfl, rfl⟩]; exact ⟨rfl, htv e⟩
        · have hlt := (hsN_mono (f := f) (n := n) (w := w) (m := m) (c := c) (by omega)).2.2.2 z
          rw [if_neg (by omega), if_neg (by omega), if_neg (by omega)]; exact a3 m (by omega) z
      · show (pg P 3 (nI (tsN f n w c + 1))).1 j = _
        rw [pg_val, if_neg h3]; exact a6 j h2 h3
      · show (pa (pa (pa (pa (pa P 0 c (nI (dvl f (qpl f n w c)))) 1 c (nI 0)) 7 (tsN f n w c) (nI c)) 8 (tsN f n w c) tv) 2 c (thg f n w c)).2 j q = _
        rw [pa_val, pa_val, pa_val, pa_val, pa_val, if_neg (by omega), if_neg (by omega), if_neg (by omega), if_neg (by omega), if_neg (by omega)]; exact a7 j q hj
    · rw [cif_f e2, cif_f e2, cif_f e2]
      refine ⟨⟨k0 _ (fun _ => rfl) (fun _ => rfl) (fun _ => rfl), fun m hm z => ?_, fun m hm z => ?_⟩, rfl, a5, fun j h2 h3 => ?_, fun j q hj => ?_⟩
      · show (pa (pa (pa (pa P 3 (hsN f n w c) (nI (kdN f n w c))) 4 (hsN f n w c) (nI c)) 5 (hsN f n w c) tv) 6 (hsN f n w c) (nI 0)).2 3 (hsN f n w m) = _ ∧ (pa (pa (pa (pa P 3 (hsN f n w c) (nI (kdN f n w c))) 4 (hsN f n w c) (nI c)) 5 (hsN f n w c) tv) 6 (hsN f n w c) (nI 0)).2 4 (hsN f n w m) = _ ∧ (pa (pa (pa (pa P 3 (hsN f n w c) (nI (kdN f n w c))) 4 (hsN f n w c) (nI c)) 5 (hsN f n w c) tv) 6 (hsN f n w c) (nI 0)).2 5 (hsN f n w m) = _ ∧ (pa (pa (pa (pa P 3 (hsN f n w c) (nI (kdN f n w c))) 4 (hsN f n w c) (nI c)) 5 (hsN f n w c) tv) 6 (hsN f n w c) (nI 0)).2 6 (hsN f n w m) = _
        by_cases y : m = c
        · subst y
          refine ⟨?_, ?_, ?_, ?_⟩
          · rw [pa_val, pa_val, pa_val, pa_val, if_neg (by omega), if_neg (by omega), if_neg (by omega), if_pos ⟨rfl, rfl⟩]
          · rw [pa_val, pa_val, pa_val, if_neg (by omega), if_neg (by omega), if_pos ⟨rfl, rfl⟩]
          · rw [pa_val, pa_val, if_neg (by omega), if_pos ⟨rfl, rfl⟩]; exact htv e
          · rw [pa_val, if_pos ⟨rfl, rfl⟩]
        · have hlt := (hsN_mono (f := f) (n := n) (w := w) (m := m) (c := c) (by omega)).2.2.1 z
          have o : ∀ j, 3 ≤ j → (pa (pa (pa (pa P 3 (hsN f n w c) (nI (kdN f n w c))) 4 (hsN f n w c) (nI c)) 5 (hsN f n w c) tv) 6 (hsN f n w c) (nI 0)).2 j (hsN f n w m) = P.2 j (hsN f n w m) := fun j _ => by
            rw [pa_val, pa_val, pa_val, pa_val, if_neg (by omega), if_neg (by omega), if_neg (by omega), if_neg (by omega)]
          rw [o 3 (by decide), o 4 (by decide), o 5 (by decide), o 6 (by decide)]; exact a2 m (by omega) z
      · have hne : m ≠ c := fun y => e2 (y ▸ z.2)
        exact a3 m (by omega) z
      · show (pg P 2 (nI (hsN f n w c + 1))).1 j = _
        rw [pg_val, if_neg h2]; exact a6 j h2 h3
      · show (pa (pa (pa (pa (pa (pa (pa P 0 c (nI (dvl f (qpl f n w c)))) 1 c (nI 0)) 3 (hsN f n w c) (nI (kdN f n w c))) 4 (hsN f n w c) (nI c)) 5 (hsN f n w c) tv) 6 (hsN f n w c) (nI 0)) 2 c (thg f n w c)).2 j q = _
        rw [pa_val, pa_val, pa_val, pa_val, pa_val, pa_val, pa_val, if_neg (by omega), if_neg (by omega), if_neg (by omega), if_neg (by omega), if_neg (by omega), if_neg (by omega), if_neg (by omega)]; exact a7 j q hj
/-- the land made anew -/
def LNF (P P' : PT) (f : Nat → Int32) (n : Nat) : Prop := LND P' f n (dvl f 2) (dvl f 1 * dvl f 2) ∧ P'.1 0 = nI (dvl f 2) ∧ P'.1 1 = nI (dvl f 1 * dvl f 2) ∧ P'.1 2 = nI (hsN f n (dvl f 2) (dvl f 1 * dvl f 2)) ∧ P'.1 3 = nI (tsN f n (dvl f 2) (dvl f 1 * dvl f 2)) ∧ P'.1 4 = nI 0 ∧ P'.1 5 = nI 0 ∧ P'.1 6 = nI 9 ∧ P'.1 7 = nI 0 ∧ P'.1 8 = nI 0 ∧ P'.1 9 = P.1 9 ∧ P'.1 10 = nI 0 ∧ ∀ j q, 12 ≤ j → P'.2 j q = P.2 j q
noncomputable def lfl (P : PT) (k : Nat) (lane i n : Int32) : Int32 := cif (fas P k lane = 0) (cif (n < 0) (nI 4) (cif (inRun i n (P.2 13 k)) (nI 0) (nI 3))) (fas P k lane)
/-- what a call of land answers, and the land behind it -/
def LR (P : PT) (x lane i n r : Int32) (P' : PT) : Prop := (¬ inN 4 x ∧ r = -1 ∧ P' = pg P 10 (nI 0)) ∨ (inN 4 x ∧ ¬ inR 0 2 lane ∧ r = -2 ∧ P' = pg P 10 (nI 0)) ∨
  (inN 4 x ∧ inR 0 2 lane ∧ ¬ lfl P (dN x) lane i n = 0 ∧ r = (-10) - lfl P (dN x) lane i n ∧ P' = pg P 10 (lfl P (dN x) lane i n)) ∨
  (inN 4 x ∧ inR 0 2 lane ∧ lfl P (dN x) lane i n = 0 ∧ (∃ p, FPL (tf P (dN x) (dN i)) (dN n) p ∧ r = (-100) - nI p) ∧ P' = pg P 10 (nI 0)) ∨
  (inN 4 x ∧ inR 0 2 lane ∧ lfl P (dN x) lane i n = 0 ∧ TOK (tf P (dN x) (dN i)) (dN n) ∧ r = nI (dvl (tf P (dN x) (dN i)) 1 * dvl (tf P (dN x) (dN i)) 2) ∧ LNF P P' (tf P (dN x) (dN i)) (dN n))
theorem fas_nat (P : PT) (k : Nat) (lane : Int32) : ∃ j, j < 3 ∧ fas P k lane = nI j := by
  unfold fas
  by_cases e : ¬ P.2 13 k = -1
  · rw [cif_t e]
    by_cases e2 : P.2 12 k = lane
    · rw [cif_t e2]; exact ⟨0, by decide, rfl⟩
    · rw [cif_f e2]; exact ⟨2, by decide, rfl⟩
  · rw [cif_f e]; exact ⟨1, by decide, rfl⟩
theorem fas_z {P : PT} {k : Nat} {lane : Int32} (h : fas P k lane = 0) : ¬ P.2 13 k = -1 ∧ P.2 12 k = lane := by
  unfold fas at h
  by_cases e : ¬ P.2 13 k = -1
  · refine ⟨e, ?_⟩
    rw [cif_t e] at h
    by_cases e2 : P.2 12 k = lane
    · exact e2
    · rw [cif_f e2] at h; exact absurd h (by decide)
  · rw [cif_f e] at h; exact absurd h (by decide)
theorem lfl_1 {P : PT} {k : Nat} {lane i n : Int32} (h : ¬ fas P k lane = 0) : fas P k lane = lfl P k lane i n := by unfold lfl; rw [cif_f h]
theorem lfl_4 {P : PT} {k : Nat} {lane i n : Int32} (h : fas P k lane = 0) (h2 : n < 0) : nI 4 = lfl P k lane i n := by unfold lfl; rw [cif_t h, cif_t h2]
theorem lfl_3 {P : PT} {k : Nat} {lane i n : Int32} (h : fas P k lane = 0) (h2 : ¬ n < 0) (h3 : ¬ inRun i n (P.2 13 k)) : nI 3 = lfl P k lane i n := by unfold lfl; rw [cif_t h, cif_f h2, cif_f h3]
theorem lfl_0 {P : PT} {k : Nat} {lane i n : Int32} (h : fas P k lane = 0) (h2 : ¬ n < 0) (h3 : inRun i n (P.2 13 k)) : lfl P k lane i n = 0 := by unfold lfl; rw [cif_t h, cif_f h2, cif_t h3]; rfl
theorem ge_nlt {x : Int32} (h : 0 ≤ x) : ¬ x < 0 := fun z => by rw [i_le] at h; rw [i_lt] at z; omega
theorem nge_lt {x : Int32} (h : ¬ 0 ≤ x) : x < 0 := by rw [i_le] at h; rw [i_lt]; omega
theorem TOK_dim {f : Nat → Int32} {n : Nat} (h : TOK f n) : 1 ≤ dvl f 1 ∧ dvl f 1 ≤ 5 ∧ 2 ≤ dvl f 2 ∧ dvl f 2 ≤ 6 := by
  have h1 := dgt_v h.2.1 (by decide)
  have h2 := dgt_v h.2.2.1 (by decide)
  omega
