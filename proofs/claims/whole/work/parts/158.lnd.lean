/-! THE TEXT OF A LAND: what both sides read in it -/
abbrev tf (P : PT) (k i : Nat) : Nat → Int32 := fun p => P.2 (14 + k) (i + p)
abbrev chr (f : Nat → Int32) (n p v : Nat) : Prop := p < n ∧ f p = nI v
abbrev dgt (f : Nat → Int32) (n p lo hi : Nat) : Prop := p < n ∧ inR (48 + lo) (48 + hi) (f p)
def dvl (f : Nat → Int32) (p : Nat) : Nat := dN (f p) - 48
/-- the thing that a letter names: 0, 1, 2 a house of that kind, 3 a tree, 4 nothing that fits -/
noncomputable def kdc (f : Nat → Int32) (n p hs ts : Nat) : Nat := cif (ts < 8 ∧ chr f n p 116) 3 (cif (hs < 8 ∧ chr f n p 104) 0 (cif (hs < 8 ∧ chr f n p 99) 1 (cif (hs < 8 ∧ chr f n p 114) 2 4)))
theorem dgt_v {f : Nat → Int32} {n p lo hi : Nat} (h : dgt f n p lo hi) (hh : hi ≤ 9) : lo ≤ dvl f p ∧ dvl f p ≤ hi ∧ f p = nI (48 + dvl f p) := by
  obtain ⟨_, j, h1, h2, h3⟩ := h
  have e : dvl f p = j - 48 := by unfold dvl; rw [h3, dN_nI (by omega)]
  refine ⟨by omega, by omega, ?_⟩
  rw [e, h3]; congr 1; omega
theorem dvl_sub {f : Nat → Int32} {p lo hi : Nat} (h : inR (48 + lo) (48 + hi) (f p)) (hh : hi ≤ 9) : f p - nI 48 = nI (dvl f p) := by
  obtain ⟨j, h1, h2, h3⟩ := h
  unfold dvl
  rw [h3, dN_nI (by omega), pk_sub (by omega)]
theorem kdc_3 {f : Nat → Int32} {n p hs ts : Nat} (h : ts < 8 ∧ chr f n p 116) : kdc f n p hs ts = 3 := cif_t h
theorem kdc_f {f : Nat → Int32} {n p hs ts : Nat} (h : ¬ (ts < 8 ∧ chr f n p 116)) : kdc f n p hs ts = cif (hs < 8 ∧ chr f n p 104) 0 (cif (hs < 8 ∧ chr f n p 99) 1 (cif (hs < 8 ∧ chr f n p 114) 2 4)) := cif_f h
theorem kdc_0 {f : Nat → Int32} {n p hs ts : Nat} (h : ¬ (ts < 8 ∧ chr f n p 116)) (h1 : hs < 8) (h2 : chr f n p 104) : kdc f n p hs ts = 0 := by rw [kdc_f h, cif_t ⟨h1, h2⟩]
theorem kdc_1 {f : Nat → Int32} {n p hs ts : Nat} (h : ¬ (ts < 8 ∧ chr f n p 116)) (h1 : hs < 8) (h2 : ¬ chr f n p 104) (h3 : chr f n p 99) : kdc f n p hs ts = 1 := by rw [kdc_f h, cif_f (fun z => h2 z.2), cif_t ⟨h1, h3⟩]
theorem kdc_2 {f : Nat → Int32} {n p hs ts : Nat} (h : ¬ (ts < 8 ∧ chr f n p 116)) (h1 : hs < 8) (h2 : ¬ chr f n p 104) (h3 : ¬ chr f n p 99) (h4 : chr f n p 114) : kdc f n p hs ts = 2 := by rw [kdc_f h, cif_f (fun z => h2 z.2), cif_f (fun z => h3 z.2), cif_t ⟨h1, h4⟩]
theorem kdc_4 {f : Nat → Int32} {n p hs ts : Nat} (h : ¬ (ts < 8 ∧ chr f n p 116)) (h2 : hs < 8 → ¬ chr f n p 104) (h3 : hs < 8 → ¬ chr f n p 99) (h4 : hs < 8 → ¬ chr f n p 114) : kdc f n p hs ts = 4 := by rw [kdc_f h, cif_f (fun z => h2 z.1 z.2), cif_f (fun z => h3 z.1 z.2), cif_f (fun z => h4 z.1 z.2)]
theorem kdc_lt3 {f : Nat → Int32} {n p hs ts : Nat} (h : kdc f n p hs ts < 3) : hs < 8 := by
  unfold kdc at h
  by_cases e : ts < 8 ∧ chr f n p 116
  · rw [cif_t e] at h; omega
  · rw [cif_f e] at h
    rcases Nat.lt_or_ge hs 8 with z | z
    · exact z
    · rw [cif_f (fun y => by omega), cif_f (fun y => by omega), cif_f (fun y => by omega)] at h; omega
theorem kdc_3h {f : Nat → Int32} {n p hs ts : Nat} (h : kdc f n p hs ts = 3) : ts < 8 := by
  unfold kdc at h
  by_cases e : ts < 8 ∧ chr f n p 116
  · exact e.1
  · rw [cif_f e] at h
    by_cases e1 : hs < 8 ∧ chr f n p 104
    · rw [cif_t e1] at h; omega
    · rw [cif_f e1] at h
      by_cases e2 : hs < 8 ∧ chr f n p 99
      · rw [cif_t e2] at h; omega
      · rw [cif_f e2] at h
        by_cases e3 : hs < 8 ∧ chr f n p 114
        · rw [cif_t e3] at h; omega
        · rw [cif_f e3] at h; omega
theorem kdc_p {f : Nat → Int32} {n p hs ts : Nat} (h : kdc f n p hs ts < 4) : p < n := by
  unfold kdc at h
  by_cases e : ts < 8 ∧ chr f n p 116
  · exact e.2.1
  · rw [cif_f e] at h
    by_cases e1 : hs < 8 ∧ chr f n p 104
    · exact e1.2.1
    · rw [cif_f e1] at h
      by_cases e2 : hs < 8 ∧ chr f n p 99
      · exact e2.2.1
      · rw [cif_f e2] at h
        by_cases e3 : hs < 8 ∧ chr f n p 114
        · exact e3.2.1
        · rw [cif_f e3] at h; omega
/-- one cell, read at place p when hs houses and ts trees were read -/
abbrev cOK (f : Nat → Int32) (n p hs ts : Nat) : Prop := dgt f n p 0 9 ∧ (chr f n (p + 1) 46 ∨ (kdc f n (p + 1) hs ts < 4 ∧ dgt f n (p + 2) 1 9))
noncomputable def cFP (f : Nat → Int32) (n p hs ts : Nat) : Nat := cif (dgt f n p 0 9) (cif (kdc f n (p + 1) hs ts < 4) (p + 2) (p + 1)) p
noncomputable def cPl (f : Nat → Int32) (n p : Nat) : Nat := cif (chr f n (p + 1) 46) (p + 2) (p + 3)
noncomputable def cHs (f : Nat → Int32) (n p hs ts : Nat) : Nat := cif (chr f n (p + 1) 46) hs (cif (kdc f n (p + 1) hs ts = 3) hs (hs + 1))
noncomputable def cTs (f : Nat → Int32) (n p hs ts : Nat) : Nat := cif (chr f n (p + 1) 46) ts (cif (kdc f n (p + 1) hs ts = 3) (ts + 1) ts)
/-- the row of cells: place, houses, trees ahead of cell c -/
noncomputable def scn (f : Nat → Int32) (n w : Nat) : Nat → Nat × Nat × Nat
  | 0 => (3, 0, 0)
  | c + 1 => (cPl f n ((scn f n w c).1 + (if c % w = 0 then 1 else 0)), cHs f n ((scn f n w c).1 + (if c % w = 0 then 1 else 0)) (scn f n w c).2.1 (scn f n w c).2.2, cTs f n ((scn f n w c).1 + (if c % w = 0 then 1 else 0)) (scn f n w c).2.1 (scn f n w c).2.2)
noncomputable abbrev qpl (f : Nat → Int32) (n w c : Nat) : Nat := (scn f n w c).1 + (if c % w = 0 then 1 else 0)
noncomputable abbrev hsN (f : Nat → Int32) (n w c : Nat) : Nat := (scn f n w c).2.1
noncomputable abbrev tsN (f : Nat → Int32) (n w c : Nat) : Nat := (scn f n w c).2.2
abbrev okc (f : Nat → Int32) (n w c : Nat) : Prop := (c % w = 0 → chr f n (scn f n w c).1 59) ∧ cOK f n (qpl f n w c) (hsN f n w c) (tsN f n w c)
abbrev dot (f : Nat → Int32) (n w c : Nat) : Prop := chr f n (qpl f n w c + 1) 46
noncomputable abbrev kdN (f : Nat → Int32) (n w c : Nat) : Nat := kdc f n (qpl f n w c + 1) (hsN f n w c) (tsN f n w c)
theorem scn_s (f : Nat → Int32) (n w c : Nat) : scn f n w (c + 1) = (cPl f n (qpl f n w c), cHs f n (qpl f n w c) (hsN f n w c) (tsN f n w c), cTs f n (qpl f n w c) (hsN f n w c) (tsN f n w c)) := rfl
/-- the text is a land's -/
def TOK (f : Nat → Int32) (n : Nat) : Prop := chr f n 0 110 ∧ dgt f n 1 1 5 ∧ dgt f n 2 2 6 ∧ (∀ c, c < dvl f 1 * dvl f 2 → okc f n (dvl f 2) c) ∧ (scn f n (dvl f 2) (dvl f 1 * dvl f 2)).1 = n
/-- its first fault is at place p -/
def FPL (f : Nat → Int32) (n p : Nat) : Prop := (¬ chr f n 0 110 ∧ p = 0) ∨ (chr f n 0 110 ∧ ¬ dgt f n 1 1 5 ∧ p = 1) ∨ (chr f n 0 110 ∧ dgt f n 1 1 5 ∧ ¬ dgt f n 2 2 6 ∧ p = 2) ∨
  (chr f n 0 110 ∧ dgt f n 1 1 5 ∧ dgt f n 2 2 6 ∧ ((∃ c, c < dvl f 1 * dvl f 2 ∧ (∀ b, b < c → okc f n (dvl f 2) b) ∧ ((c % dvl f 2 = 0 ∧ ¬ chr f n (scn f n (dvl f 2) c).1 59 ∧ p = (scn f n (dvl f 2) c).1) ∨ ((c % dvl f 2 = 0 → chr f n (scn f n (dvl f 2) c).1 59) ∧ ¬ cOK f n (qpl f n (dvl f 2) c) (hsN f n (dvl f 2) c) (tsN f n (dvl f 2) c) ∧ p = cFP f n (qpl f n (dvl f 2) c) (hsN f n (dvl f 2) c) (tsN f n (dvl f 2) c)))) ∨
    ((∀ c, c < dvl f 1 * dvl f 2 → okc f n (dvl f 2) c) ∧ ¬ (scn f n (dvl f 2) (dvl f 1 * dvl f 2)).1 = n ∧ p = (scn f n (dvl f 2) (dvl f 1 * dvl f 2)).1)))
theorem FPL_not {f : Nat → Int32} {n p : Nat} (h : FPL f n p) : ¬ TOK f n := by
  rintro ⟨t1, t2, t3, t4, t5⟩
  rcases h with ⟨h, -⟩ | ⟨-, h, -⟩ | ⟨-, -, h, -⟩ | ⟨-, -, -, ⟨c, h1, -, h3⟩ | ⟨-, h2, -⟩⟩
  · exact h t1
  · exact h t2
  · exact h t3
  · rcases h3 with ⟨h4, h5, -⟩ | ⟨-, h5, -⟩
    · exact h5 ((t4 c h1).1 h4)
    · exact h5 (t4 c h1).2
  · exact h2 t5
theorem FPL_uniq {f : Nat → Int32} {n p q : Nat} (h : FPL f n p) (g : FPL f n q) : p = q := by
  rcases h with ⟨h, e⟩ | ⟨h0, h, e⟩ | ⟨h0, h1, h, e⟩ | ⟨h0, h1, h2, h3⟩
  · rcases g with ⟨g, e'⟩ | ⟨g0, -⟩ | ⟨g0, -⟩ | ⟨g0, -⟩
    · omega
    · exact absurd g0 h
    · exact absurd g0 h
    · exact absurd g0 h
  · rcases g with ⟨g, e'⟩ | ⟨-, -, e'⟩ | ⟨-, g0, -⟩ | ⟨-, g0, -⟩
    · exact absurd h0 g
    · omega
    · exact absurd g0 h
    · exact absurd g0 h
  · rcases g with ⟨g, e'⟩ | ⟨-, g, e'⟩ | ⟨-, -, -, e'⟩ | ⟨-, -, g0, -⟩
    · exact absurd h0 g
    · exact absurd h1 g
    · omega
    · exact absurd g0 h
  · rcases g with ⟨g, e'⟩ | ⟨-, g, e'⟩ | ⟨-, -, g, e'⟩ | ⟨-, -, -, g3⟩
    · exact absurd h0 g
    · exact absurd h1 g
    · exact absurd h2 g
    · rcases h3 with ⟨c, a1, a2, a3⟩ | ⟨a1, a2, a3⟩
      · have hbad : ¬ okc f n (dvl f 2) c := fun z => by
          rcases a3 with ⟨x1, x2, -⟩ | ⟨-, x2, -⟩
          · exact x2 (z.1 x1)
          · exact x2 z.2
        rcases g3 with ⟨d, b1, b2, b3⟩ | ⟨b1, -⟩
        · have gbad : ¬ okc f n (dvl f 2) d := fun z => by
            rcases b3 with ⟨x1, x2, -⟩ | ⟨-, x2, -⟩
            · exact x2 (z.1 x1)
            · exact x2 z.2
          have ecd : c = d := by
            rcases Nat.lt_trichotomy c d with z | z | z
            · exact absurd (b2 c z) hbad
            · exact z
            · exact absurd (a2 d z) gbad
          subst ecd
          rcases a3 with ⟨x1, x2, x3⟩ | ⟨x1, x2, x3⟩
          · rcases b3 with ⟨y1, y2, y3⟩ | ⟨y1, y2, y3⟩
            · rw [x3, y3]
            · exact absurd (y1 x1) x2
          · rcases b3 with ⟨y1, y2, y3⟩ | ⟨y1, y2, y3⟩
            · exact absurd (x1 y1) y2
            · rw [x3, y3]
        · exact absurd (b1 c a1) hbad
      · rcases g3 with ⟨d, b1, b2, b3⟩ | ⟨b1, b2, b3⟩
        · have gbad : ¬ okc f n (dvl f 2) d := fun z => by
            rcases b3 with ⟨x1, x2, -⟩ | ⟨-, x2, -⟩
            · exact x2 (z.1 x1)
            · exact x2 z.2
          exact absurd (a1 d b1) gbad
        · rw [a3, b3]
theorem scn_le {f : Nat → Int32} {n w : Nat} : ∀ {c : Nat}, (∀ b, b < c → okc f n w b) → 3 ≤ n → (scn f n w c).1 ≤ n
  | 0, _, h => h
  | c + 1, h, h3 => by
    have h1 := (h c (by omega)).2
    rw [scn_s]
    show cPl f n (qpl f n w c) ≤ n
    unfold cPl
    by_cases e : chr f n (qpl f n w c + 1) 46
    · rw [cif_t e]; have := e.1; omega
    · rw [cif_f e]
      rcases h1.2 with z | z
      · exact absurd z e
      · have := z.2.1; omega
theorem scn_n {f : Nat → Int32} {n w : Nat} : ∀ {c : Nat}, (∀ b, b < c → okc f n w b) → hsN f n w c ≤ 8 ∧ tsN f n w c ≤ 8
  | 0, _ => ⟨Nat.zero_le _, Nat.zero_le _⟩
  | c + 1, h => by
    have ih := scn_n (f := f) (n := n) (w := w) (c := c) (fun b hb => h b (by omega))
    have h1 := (h c (by omega)).2
    show cHs f n (qpl f n w c) (hsN f n w c) (tsN f n w c) ≤ 8 ∧ cTs f n (qpl f n w c) (hsN f n w c) (tsN f n w c) ≤ 8
    unfold cHs cTs
    by_cases e : chr f n (qpl f n w c + 1) 46
    · rw [cif_t e, cif_t e]; exact ih
    · rw [cif_f e, cif_f e]
      have hk := (h1.2.resolve_left e).1
      by_cases e2 : kdc f n (qpl f n w c + 1) (hsN f n w c) (tsN f n w c) = 3
      · rw [cif_t e2, cif_t e2]
        have := kdc_3h e2
        exact ⟨ih.1, by omega⟩
      · rw [cif_f e2, cif_f e2]
        have := kdc_lt3 (f := f) (n := n) (p := qpl f n w c + 1) (hs := hsN f n w c) (ts := tsN f n w c) (by omega)
        exact ⟨by omega, ih.2⟩
/-- the text's state on the class's side, when c cells are read -/
def TS (X : PT) (f : Nat → Int32) (n w c : Nat) : Prop := (X.1 2 = nI (scn f n w c).1 ∧ X.1 3 = nI (hsN f n w c) ∧ X.1 4 = nI (tsN f n w c)) ∧ ∀ m, m < c → X.2 0 m = nI (dvl f (qpl f n w m)) ∧ X.2 1 m = cif (dot f n w m) (-1) (nI (kdN f n w m)) ∧ (¬ dot f n w m → X.2 2 m = nI (dvl f (qpl f n w m + 2)))
/-- what reading a cell does to the text -/
def TC (X X' : PT) (f : Nat → Int32) (n p hs ts c : Nat) : Prop := (X'.1 2 = nI (cPl f n p) ∧ X'.1 3 = nI (cHs f n p hs ts) ∧ X'.1 4 = nI (cTs f n p hs ts)) ∧ (∀ j, j ≠ 2 → j ≠ 3 → j ≠ 4 → X'.1 j = X.1 j) ∧ (∀ j m, j < 3 → m ≠ c → X'.2 j m = X.2 j m) ∧ X'.2 0 c = nI (dvl f p) ∧ X'.2 1 c = cif (chr f n (p + 1) 46) (-1) (nI (kdc f n (p + 1) hs ts)) ∧ (¬ chr f n (p + 1) 46 → X'.2 2 c = nI (dvl f (p + 2)))
theorem TS_s {X X1 X' : PT} {f : Nat → Int32} {n w c : Nat} (h : TS X f n w c) (h1 : ∀ j m, j < 3 → X1.2 j m = X.2 j m) (h2 : TC X1 X' f n (qpl f n w c) (hsN f n w c) (tsN f n w c) c) : TS X' f n w (c + 1) := by
  refine ⟨⟨h2.1.1, h2.1.2.1, h2.1.2.2⟩, fun m hm => ?_⟩
  by_cases e : m = c
  · subst e; exact ⟨h2.2.2.2.1, h2.2.2.2.2.1, h2.2.2.2.2.2⟩
  · have h3 := h.2 m (by omega)
    have e2 : ∀ j, j < 3 → X'.2 j m = X.2 j m := fun j hj => (h2.2.2.1 j m hj e).trans (h1 j m hj)
    exact ⟨(e2 0 (by decide)).trans h3.1, (e2 1 (by decide)).trans h3.2.1, fun z => (e2 2 (by decide)).trans (h3.2.2 z)⟩
theorem pa_sc (P : PT) (k i : Nat) (v : Int32) : (pa P k i v).1 = P.1 := rfl
theorem pg_ar (P : PT) (k : Nat) (v : Int32) : (pg P k v).2 = P.2 := rfl
theorem hsN_s (f : Nat → Int32) (n w c : Nat) : hsN f n w (c + 1) = cif (dot f n w c) (hsN f n w c) (cif (kdN f n w c = 3) (hsN f n w c) (hsN f n w c + 1)) := rfl
theorem tsN_s (f : Nat → Int32) (n w c : Nat) : tsN f n w (c + 1) = cif (dot f n w c) (tsN f n w c) (cif (kdN f n w c = 3) (tsN f n w c + 1) (tsN f n w c)) := rfl
