/-! THE ANSWERS, as the class has them: what a call answers in a state, and the state behind it -/
abbrev inN (n : Nat) (x : Int32) : Prop := ∃ j, j < n ∧ x = nI j
abbrev inR (lo hi : Nat) (x : Int32) : Prop := ∃ j, lo ≤ j ∧ j ≤ hi ∧ x = nI j
abbrev dN (x : Int32) : Nat := x.toNatClampNeg
abbrev flP (P : PT) : Nat → Prop := flB (P.1 4)
noncomputable def ansOfCell (P : PT) (c : Nat) (x wh : Int32) : Int32 × PT := cif (inN c x) (cif (wh = 0) (P.2 0 (dN x), P) (cif (wh = 1) (sTop P (P.1 5) (flP P) (dN x), P) (cif (wh = 2) (P.2 2 (dN x), P) (-2, P)))) (-1, P)
noncomputable def ansOfHouse (P : PT) (n : Nat) (x wh : Int32) : Int32 × PT := cif (inN n x) (cif (wh = 0) (P.2 3 (dN x), P) (cif (wh = 1) (P.2 4 (dN x), P) (cif (wh = 2) (P.2 5 (dN x), P) (cif (wh = 3) (sHt P (dN x) (P.2 6 (dN x)), P) (cif (wh = 4) (P.2 6 (dN x), P) (-2, P)))))) (-1, P)
noncomputable def ansOfTree (P : PT) (t : Nat) (x wh : Int32) : Int32 × PT := cif (inN t x) (cif (wh = 0) (P.2 7 (dN x), P) (cif (wh = 1) (P.2 8 (dN x), P) (cif (wh = 2) (sTr P (dN x) (P.1 5) (flP P (dN x)), P) (cif (wh = 3) (b2 (flP P (dN x)), P) (-2, P))))) (-1, P)
noncomputable def ansTimes (P : PT) (c : Nat) (yr fog law : Int32) : Int32 × PT := cif (inR 0 30 yr) (cif (inR 1 9 fog) (cif (inR 0 1 law) (cif (0 < c) (cif (P.1 5 = yr) (cif (P.1 6 = fog) (cif (P.1 7 = law) (nI 0, P) (nI 1, pg (pg (pg P 5 yr) 6 fog) 7 law)) (nI 1, pg (pg (pg P 5 yr) 6 fog) 7 law)) (nI 1, pg (pg (pg P 5 yr) 6 fog) 7 law)) (-3, P)) (-2, P)) (-2, P)) (-2, P)
noncomputable def ansWall (P : PT) (c : Nat) (x v : Int32) : Int32 × PT := cif (inN c x) (cif (inR 0 9 v) (cif (P.2 2 (dN x) = 0) (P.2 1 (dN x), pa P 1 (dN x) v) (-3, P)) (-2, P)) (-1, P)
noncomputable def ansFloors (P : PT) (n : Nat) (x v : Int32) : Int32 × PT := cif (inN n x) (cif (inR 0 9 v) (P.2 6 (dN x), pa P 6 (dN x) v) (-2, P)) (-1, P)
noncomputable def ansFell (P : PT) (t : Nat) (x is : Int32) : Int32 × PT := cif (inN t x) (cif (b2 (flP P (dN x)) = is) (nI 0, P) (nI 1, pg P 4 (P.1 4 ^^^ (nI 1 <<< (x &&& 31))))) (-1, P)
noncomputable def ansSee (P : PT) (w n : Nat) (x z : Int32) : Int32 × PT := cif (inN n x) (cif (inN n z) (cif (x = z) (-1, P) (b2 (sClr w (P.1 6) (sTop P (P.1 5) (flP P)) (plN P (dN x)) (plN P (dN z))), P)) (-1, P)) (-1, P)
noncomputable abbrev numP (P : PT) (w n : Nat) (h : Nat) : Nat := sNum P w n (P.1 6) (P.1 5) (flP P) h
noncomputable def hav (P : PT) (w n : Nat) (v : Int32) : Int32 := msk (fun h => nI (numP P w n h) = v) n
noncomputable def ansNumber (P : PT) (w n : Nat) (x : Int32) : Int32 × PT := cif (inN n x) (nI (numP P w n (dN x)), P) (-1, P)
noncomputable def ansHaving (P : PT) (w c n : Nat) (v : Int32) : Int32 × PT := cif (inR 0 7 v) (cif (0 < c) (hav P w n v, P) (-3, P)) (-2, P)
noncomputable def aloneS (P : PT) (w n : Nat) : Nat → Int32
  | 0 => nI 0
  | k + 1 => cif (pcn (dN (hav P w n (nI k))) = 1) (aloneS P w n k ||| hav P w n (nI k)) (aloneS P w n k)
noncomputable def ansAlone (P : PT) (w c n : Nat) : Int32 × PT := cif (0 < c) (aloneS P w n 8, P) (-3, P)
noncomputable def letS (P : PT) (w n : Nat) (v z : Int32) : Int32 := msk (fun h => tbI (hav P w n v) (nI h) ∧ ∃ o, o < n ∧ o ≠ h ∧ tbI (hav P w n z) (nI o) ∧ sClr w (P.1 6) (sTop P (P.1 5) (flP P)) (plN P o) (plN P h)) n
noncomputable def ansLetter (P : PT) (w c n : Nat) (v z : Int32) : Int32 × PT := cif (inR 0 7 v) (cif (inR 0 7 z) (cif (0 < c) (letS P w n v z, P) (-3, P)) (-2, P)) (-2, P)
abbrev LOST : Int64 := -9223372036854775808
noncomputable def ansMean (P : PT) (w c n : Nat) (wh : Int32) : Int64 × PT := cif (inR 0 1 wh) (cif (0 < c) (cif (n = 0) (wh.toInt64, P) (cif (wh = 0) ((nI (sm (numP P w n) n / gcS (sm (numP P w n) n) n)).toInt64, P) ((nI (n / gcS (sm (numP P w n) n) n)).toInt64, P))) (LOST, P)) (LOST, P)
noncomputable def ansWalled (P : PT) (w c n : Nat) (x v : Int32) : Int32 × PT := cif (inN n x) (cif (inR 0 7 v) (aWalled P w c n (flP P) (dN x) v, P) (-2, P)) (-1, P)
noncomputable def ansRaised (P : PT) (w n : Nat) (x v : Int32) : Int32 × PT := cif (inN n x) (cif (inR 0 7 v) (aRaised P w n (flP P) (dN x) v, P) (-2, P)) (-1, P)
noncomputable def ansFelling (P : PT) (w n t : Nat) (x v : Int32) : Int32 × PT := cif (inN n x) (cif (inR 0 7 v) (bestS (okF P w n (fun s => flB (P.1 4 ||| nI s)) (fun s => nI s &&& P.1 4 = 0) (dN x) v) (2 ^ t), P) (-2, P)) (-1, P)
noncomputable def ansFresh (P : PT) (w c n : Nat) (x tall wh : Int32) : Int32 × PT := cif (inN c x) (cif (inR 1 9 tall) (cif (inR 0 1 wh) (cif (P.2 2 (dN x) = 0 ∧ P.2 1 (dN x) = 0) (cif (wh = 0) (nI (aFresh P w n (flP P) (dN x) tall), P) (aOthers P w n (flP P) (dN x) tall, P)) (-3, P)) (-2, P)) (-2, P)) (-1, P)
noncomputable def ansFree (P : PT) (w c n : Nat) (tall v : Int32) : Int64 × PT := cif (inR 1 9 tall) (cif (inR 0 8 v) (cif (0 < c) (aFree P w c n (flP P) tall v, P) (LOST, P)) (LOST, P)) (LOST, P)
noncomputable def ansChange (P : PT) (w n : Nat) (x : Int32) : Int32 × PT := cif (inN n x) (aChange P w n (flP P) (dN x) (dN (P.1 5)), P) (-1, P)
noncomputable def ansReading (P : PT) (n rd : Nat) (x yr v : Int32) : Int32 × PT := cif (inN n x) (cif (inR 0 30 yr) (cif (inR 0 7 v) (cif (8 ≤ rd) (-4, P) (nI rd, pg (pa (pa (pa P 9 rd x) 10 rd yr) 11 rd v) 8 (nI (rd + 1)))) (-2, P)) (-2, P)) (-1, P)
noncomputable def ansBack (P : PT) (rd : Nat) (k : Int32) : Int32 × PT := cif (inR 0 rd k) (nI (rd - dN k), pg P 8 (nI (rd - dN k))) (-2, P)
noncomputable def ansFogs (P : PT) (w c n rd : Nat) : Int32 × PT := cif (0 < c) (aFogs P w n rd (flP P), P) (-3, P)
noncomputable abbrev flS (t : Nat) : Nat → Nat → Prop := fun s => flB (nI (2 ^ t - 1 - s))
noncomputable def ansStood (P : PT) (w c n rd t : Nat) (wh : Int32) : Int32 × PT := cif (inR 0 1 wh) (cif (0 < c) (cif (wh = 0) (nI (aStood P w n rd t (flS t)), P) (aFirst P w n rd t (flS t), P)) (-3, P)) (-2, P)
/-- the rows of the sheets -/
def zf (P : PT) (k m : Nat) : PT := (P.1, fun j => if j = 14 + k then (fun i => if i < m then nI 0 else P.2 (14 + k) i) else P.2 j)
theorem zf_0 (P : PT) (k : Nat) : zf P k 0 = P := by
  have e : (zf P k 0).2 = P.2 := by
    funext j i
    show (if j = 14 + k then (fun i => if i < 0 then nI 0 else P.2 (14 + k) i) else P.2 j) i = P.2 j i
    by_cases h : j = 14 + k
    · rw [if_pos h, h, if_neg (Nat.not_lt_zero _)]
    · rw [if_neg h]
  show ((zf P k 0).1, (zf P k 0).2) = P
  rw [e]; rfl
theorem zf_s (P : PT) (k i : Nat) : pa (zf P k i) (14 + k) i (nI 0) = zf P k (i + 1) := by
  have e : (pa (zf P k i) (14 + k) i (nI 0)).2 = (zf P k (i + 1)).2 := by
    funext j q
    by_cases h : j = 14 + k
    · subst h
      rw [pa_at]
      show upd (if 14 + k = 14 + k then (fun q => if q < i then nI 0 else P.2 (14 + k) q) else P.2 (14 + k)) i (nI 0) q = (if 14 + k = 14 + k then (fun q => if q < i + 1 then nI 0 else P.2 (14 + k) q) else P.2 (14 + k)) q
      rw [if_pos rfl, if_pos rfl]; unfold upd
      by_cases e : q = i
      · rw [if_pos e, if_pos (by omega)]
      · rw [if_neg e]
        show (if q < i then nI 0 else P.2 (14 + k) q) = (if q < i + 1 then nI 0 else P.2 (14 + k) q)
        by_cases e2 : q < i
        · rw [if_pos e2, if_pos (by omega)]
        · rw [if_neg e2, if_neg (by omega)]
    · rw [pa_ne _ _ _ h]
      show (if j = 14 + k then _ else P.2 j) q = (if j = 14 + k then _ else P.2 j) q
      rw [if_neg h, if_neg h]
  show ((pa (zf P k i) (14 + k) i (nI 0)).1, (pa (zf P k i) (14 + k) i (nI 0)).2) = zf P k (i + 1)
  rw [e]; rfl
noncomputable def cut (lane v : Int32) : Int32 := cif (lane = 0) v.toInt8.toInt32 (cif (lane = 1) v.toInt16.toInt32 v)
noncomputable def ansSheet (P : PT) (k lane m : Int32) : Int32 × PT := cif (inN 4 k) (cif (inR 0 2 lane) (cif (m ≤ nI 100) (cif (0 ≤ m) (nI 1, zf (pa (pa (pg P 10 (nI 0)) 12 (dN k) lane) 13 (dN k) m) (dN k) (dN m)) (-14, pg (pg P 10 (nI 0)) 10 (nI 4))) (-2, pg P 10 (nI 0))) (-2, pg P 10 (nI 0))) (-1, pg P 10 (nI 0))
noncomputable def ansLose (P : PT) (k : Int32) : Int32 × PT := cif (inN 4 k) (cif (¬ P.2 13 (dN k) = -1) (nI 1, pa P 13 (dN k) (-1)) (nI 0, P)) (-1, P)
/-- cell i of a row of so many -/
abbrev inS (i s : Int32) : Prop := ¬ i < nI 0 ∧ i < s
noncomputable def ansPut (P : PT) (k i v : Int32) : Int32 × PT := cif (inN 4 k) (cif (¬ P.2 13 (dN k) = -1) (cif (inS i (P.2 13 (dN k))) (nI 1, pa (pg P 10 (nI 0)) (14 + dN k) (dN i) (cut (P.2 12 (dN k)) v)) (-13, pg (pg P 10 (nI 0)) 10 (nI 3))) (-11, pg (pg P 10 (nI 0)) 10 (nI 1))) (-1, pg P 10 (nI 0))
/-- the fault of a row that is taken as one of a lane -/
noncomputable def fas (P : PT) (k : Nat) (lane : Int32) : Int32 := cif (¬ P.2 13 k = -1) (cif (P.2 12 k = lane) (nI 0) (nI 2)) (nI 1)
noncomputable def ansCell (P : PT) (k i lane : Int32) : Int64 × PT := cif (inN 4 k) (cif (inR 0 2 lane) (cif (fas P (dN k) lane = 0) (cif (inS i (P.2 13 (dN k))) ((P.2 (14 + dN k) (dN i)).toInt64, pg (pg P 10 (nI 0)) 10 (fas P (dN k) lane)) (LOST, pg (pg (pg P 10 (nI 0)) 10 (fas P (dN k) lane)) 10 (nI 3))) (LOST, pg (pg P 10 (nI 0)) 10 (fas P (dN k) lane))) (LOST, pg P 10 (nI 0))) (LOST, pg P 10 (nI 0))
/-- n cells from i on of a row of so many -/
abbrev inRun (i n s : Int32) : Prop := ¬ i < 0 ∧ ¬ n < 0 ∧ ¬ s - i < n
def cpy (P : PT) (k i o j n : Nat) : PT := (P.1, fun q => if q = 14 + o then va_cpy (P.2 (14 + k)) (P.2 (14 + o)) i j n else P.2 q)
noncomputable def ansCopy (P : PT) (k i o j n : Int32) : Int32 × PT := cif (inN 4 k) (cif (inN 4 o) (cif (¬ P.2 13 (dN k) = -1) (cif (¬ P.2 13 (dN o) = -1) (cif (P.2 12 (dN k) = P.2 12 (dN o)) (cif (inRun i n (P.2 13 (dN k))) (cif (inRun j n (P.2 13 (dN o))) (n, cpy (pg P 10 (nI 0)) (dN k) (dN i) (dN o) (dN j) (dN n)) (-13, pg (pg P 10 (nI 0)) 10 (nI 3))) (-13, pg (pg P 10 (nI 0)) 10 (nI 3))) (-12, pg (pg P 10 (nI 0)) 10 (nI 2))) (-11, pg (pg P 10 (nI 0)) 10 (nI 1))) (-11, pg (pg P 10 (nI 0)) 10 (nI 1))) (-1, pg P 10 (nI 0))) (-1, pg P 10 (nI 0))
def trc (P : PT) (b : Nat) : PT := pg P 9 (nI 31 * P.1 9 + nI b)
noncomputable def ansTell (P : PT) (n : Nat) (x : Int32) : Int32 × PT := cif (inN n x) (cif (P.2 3 (dN x) = 1) (P.2 5 (dN x) + nI 100, trc (trc P 2) 1) (cif (P.2 3 (dN x) = 2) (P.2 5 (dN x) + nI 100 + P.2 5 (dN x), trc (trc (trc (trc P 3) 2) 1) 1) (P.2 5 (dN x), trc P 1))) (-1, P)
noncomputable def ansRent (P : PT) (n : Nat) (x : Int32) : Int32 × PT := cif (inN n x) (cif (P.2 3 (dN x) = nI 2) (nI 70, trc P 5) (x, trc P 4)) (-1, P)
noncomputable def ansAs (P : PT) (n : Nat) (x k : Int32) : Int32 × PT := cif (inN n x) (cif (inR 0 2 k) (cif (¬ P.2 3 (dN x) < k) (nI 1, pg P 10 (nI 0)) (-12, pg (pg P 10 (nI 0)) 10 (nI 2))) (-2, pg P 10 (nI 0))) (-1, pg P 10 (nI 0))
noncomputable def ansMany (P : PT) (wh : Int32) : Int32 × PT := cif (wh = 0) (P.1 1, P) (cif (wh = 1) (P.1 0, P) (cif (wh = 2) (P.1 2, P) (cif (wh = 3) (P.1 3, P) (cif (wh = 4) (P.1 8, P) (cif (wh = 5) (P.1 5, P) (cif (wh = 6) (P.1 6, P) (-2, P)))))))
theorem msk_nat (p : Nat → Prop) : ∀ n, n ≤ 8 → ∃ m, m < 2 ^ n ∧ msk p n = nI m
  | 0, _ => ⟨0, by decide, rfl⟩
  | n + 1, h => by
    obtain ⟨m, h1, h2⟩ := msk_nat p n (by omega)
    by_cases e : p n
    · refine ⟨m ||| 2 ^ n, ?_, ?_⟩
      · exact Nat.or_lt_two_pow (Nat.lt_trans h1 (Nat.pow_lt_pow_right (by decide) (by omega))) (Nat.pow_lt_pow_right (by decide) (by omega))
      · rw [msk_t e, h2, shl1 n (by omega)]
        show Int32.ofNat m ||| Int32.ofNat (2 ^ n) = Int32.ofNat (m ||| 2 ^ n)
        apply Int32.toBitVec_inj.mp
        rw [Int32.toBitVec_or]
        show BitVec.ofNat 32 m ||| BitVec.ofNat 32 (2 ^ n) = BitVec.ofNat 32 (m ||| 2 ^ n)
        exact (BitVec.ofNat_or ..).symm
    · exact ⟨m, Nat.lt_trans h1 (Nat.pow_lt_pow_right (by decide) (by omega)), by rw [msk_f e, h2]⟩
theorem msk_lt {p : Nat → Prop} {n : Nat} (h : n ≤ 8) : ∃ m, m < 256 ∧ msk p n = nI m := by
  obtain ⟨m, h1, h2⟩ := msk_nat p n h
  exact ⟨m, Nat.lt_of_lt_of_le h1 (pow8 h), h2⟩
theorem inR_0 {hi : Nat} {x : Int32} : inR 0 hi x ↔ inN (hi + 1) x := ⟨fun ⟨j, _, h2, h3⟩ => ⟨j, by omega, h3⟩, fun ⟨j, h2, h3⟩ => ⟨j, Nat.zero_le _, by omega, h3⟩⟩
theorem dN_nI {j : Nat} (h : j < 2 ^ 31) : dN (nI j) = j := nI_clamp h
