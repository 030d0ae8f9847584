/-! CONSTRUCTORS: worlds that grow -/
def KA (D : va_G) (y : Nat → ClassId) (s : State) : Prop := KK D y s ∧ va_AO "SeenNumbers$Sheet" s ∧ va_AO "SeenNumbers$House" s ∧ va_AO "SeenNumbers$Tree" s
theorem KA.warm {D : va_G} {y : Nat → ClassId} {s U : State} (h : KA D y s) (hW : s.WarmedH U.vm) : KA D y U := ⟨h.1.warm hW, h.2.1.moved hW.alike, h.2.2.1.moved hW.alike, h.2.2.2.moved hW.alike⟩
theorem KA.same {D : va_G} {y : Nat → ClassId} {u U : State} (hvm : u.vm = U.vm) (h : KA D y u) : KA D y U :=
  have hal : u.vm.Alike U.vm := by rw [hvm]; exact Vm.Alike.refl _
  ⟨KK.same hvm h.1, h.2.1.moved hal, h.2.2.1.moved hal, h.2.2.2.moved hal⟩
def CtN (l : Launch) (D : va_G) (y : Nat → ClassId) (x : MethodName) (ws : List Cond) (rm : Room) (As : List Value) (pre : va_W) (sz : Nat) (world : (Nat → Nat) → va_W) (mc ms : Nat) : Prop :=
  Met l x ws rm (va_Pc As (fun U => KA D y U ∧ va_P D vwCl pre U.heap ∧ va_D (fun _ => True) pre ∧ U.heap.size = sz)) (va_Qv (fun (_ : Nat → Nat) => True) (fun (g : Nat → Nat) t => va_P D vwCl (world g) t.heap ∧ va_D (va_A pre sz) (world g)) (va_A pre sz)) mc ms (va_A pre sz)
set_option maxHeartbeats 4000000 in
theorem mkN {l : Launch} {D : va_G} {y : Nat → ClassId} {x : MethodName} {ws ws' : List Cond} {rm : Room} {cc : ByteArray} {maxL : Nat} {As : List Value} {pre : va_W} {sz mc ms : Nat} {world : (Nat → Nat) → va_W} (own : String) (ho : x.cls = own) (hy : plainName x.cls = true) (hn : x.name = "<init>") (hw : ws = Cond.code x cc maxL none :: ws') (hlen : (lg_sl As).length ≤ maxL)
    (body : ∀ (p : Program) (e : Env) (s : State) (m : MethodId) (args : Array Value) (below : List Frame) (meth : Method) (c : Code) (Q : State → Prop) (A : Nat → Prop), CallFix p m c cc maxL s args ws own → meth.name = "<init>" → KA D y s → va_P D vwCl pre s.heap → va_D A pre → (∀ q, s.heap.size ≤ q → A q) →
      (∀ (H : Heap) (locs : List Loc) (pc : Nat) (ls : Array Slot) (g : Nat → Nat), decode cc pc = .ok (.return_, 1) → va_P D vwCl (world g) H → va_D A (world g) → va_S A s.heap H locs → W p l e rm s m args below meth c H locs mc ms Q (F0 m pc ls [])) →
      ∀ ls, lv_has ls maxL (lv_args 0 As) → W p l e rm s m args below meth c s.heap [] 0 0 Q (F0 m 0 ls [])) : CtN l D y x ws rm As pre sz world mc ms := by
  refine Met.ofW (cc := cc) (maxL := maxL) (ret := none) hy hw ?_
  intro p e s m args below meth c s₁ B hml hv
  obtain ⟨rfl, hK, hP, hD0, hsz⟩ := hv
  subst hsz
  have hts := atoms_spec (ws := ws) B.pre
  have hown : s.vm.findClass own = some m.cls := by rw [← ho]; exact findClass_of_methodNamed B.named
  have hlocks := B.notSynchronized
  have hin : meth.name = "<init>" := by rw [← hn]; exact (name_of_methodNamed B.named B.method).1
  have hl := lv_entry As (n := maxL) hlen
  rw [lg_entry_eq]
  generalize (lg_sl As ++ List.replicate (maxL - (lg_sl As).length) Slot.unset).toArray = ls at hl ⊢
  refine body p e s m _ below meth c _ (va_A pre s.heap.size) ⟨B.exec, B.bytes, hml, hown, hts⟩ hin hK hP hD0.self (fun q h => Or.inr h) (fun H locs pc ls g hd hw hDw hS => ?_) ls hl
  exact W.vret B.exec B.bytes B.returns (fun t ht hW => ⟨⟨g, rfl, trivial, by rw [ht]; exact hw, hDw⟩, hS.F ht⟩) hS.2.2 hd
def nth : List Nat → Nat → Nat
  | [], _ => 0
  | q :: _, 0 => q
  | _ :: r, n + 1 => nth r n
section NROWS
variable {p : Program} {l : Launch} {e : Env} {R : Room} {s : State} {m : MethodId} {args : Array Value} {below : List Frame} {meth : Method} {c : Code} {H : Heap} {locs : List Loc} {Q : State → Prop}
variable {cc : ByteArray} {pc : Nat} {ls : Array Slot} {D : va_G} {y : Nat → ClassId} {H0 : Heap} {A : Nat → Prop} {nL : Nat} {Ts ws : List Cond} {own : String} {bytes : ByteArray} {maxL n index : Nat} {rm : Room} {x : MethodName} {b : Addr} {pre wr w : va_W} {world : (Nat → Nat) → va_W} {st rest : List Value} {lv : List (Nat × Value)} {cells slots mc ms : Nat}
theorem tys_at {D : va_G} {y : Nat → ClassId} {s : State} {q : ClassId × FieldType} (h : va_K D vwCl (tysG y ++ [q]) s) : va_RA s q.1 q.2 := (h.2 5 q rfl).2
theorem nArrI (FX : CallFix p m c cc nL s args Ts own) (hK : KA D y s) (harr : Cond.arrayClass .int ∈ Ts) (hP : va_P D vwCl w H) (hD : va_D A w) (hS : va_S A H0 H locs) (hA : ∀ q, H0.size ≤ q → A q) {N : Nat} (hN : N ≤ 1000) (hcells : cells + 1 ≤ R.cells) (hslots : slots + N ≤ R.slots) (hdg : decode cc pc = .ok (.newarray .int, 2))
    (kk : ∀ (q : Nat) (H1 : Heap), va_P D vwCl (w ++ [(q, .inl (y 0, N, .inl (fun _ => 0)))]) H1 → va_D A (w ++ [(q, .inl (y 0, N, .inl (fun _ => 0)))]) → va_S A H0 H1 locs → W p l e R s m args below meth c H1 locs (cells + 1) (slots + N) Q (F0 m (pc + 2) ls (.ref q :: rest))) : W p l e R s m args below meth c H locs cells slots Q (F0 m pc ls (.int (nI N) :: rest)) := by
  refine va_newa (atype := .int) FX.1 FX.2.1 (FX.2.2.2.2 _ harr) (ty := .int) rfl hK.1.1 hP hD hS hA (a0 := (N, .inl (fun _ => 0))) (fun cA => rfl) (nI_pos (by omega)) (nI_clamp (by omega)) (by show N * 4 ≤ 536870912; omega) hcells hslots hdg (fun q cA H1 hK1 hP1 hD1 hS1 => ?_)
  have e1 := tys_at hK1
  have e0 := (hK1.2 0 (y 0, .int) rfl).2
  have e : cA = y 0 := Option.some.inj ((show s.vm.findClass _ = some cA from e1).symm.trans (show s.vm.findClass _ = some (y 0) from e0))
  subst e
  exact kk q H1 hP1 hD1 hS1
theorem nArrZ (FX : CallFix p m c cc nL s args Ts own) (hK : KA D y s) (harr : Cond.arrayClass .boolean ∈ Ts) (hP : va_P D vwCl w H) (hD : va_D A w) (hS : va_S A H0 H locs) (hA : ∀ q, H0.size ≤ q → A q) {N : Nat} (hN : N ≤ 1000) (hcells : cells + 1 ≤ R.cells) (hslots : slots + N ≤ R.slots) (hdg : decode cc pc = .ok (.newarray .boolean, 2))
    (kk : ∀ (q : Nat) (H1 : Heap), va_P D vwCl (w ++ [(q, .inl (y 1, N, .inl (fun _ => 0)))]) H1 → va_D A (w ++ [(q, .inl (y 1, N, .inl (fun _ => 0)))]) → va_S A H0 H1 locs → W p l e R s m args below meth c H1 locs (cells + 1) (slots + N) Q (F0 m (pc + 2) ls (.ref q :: rest))) : W p l e R s m args below meth c H locs cells slots Q (F0 m pc ls (.int (nI N) :: rest)) := by
  refine va_newa (atype := .boolean) FX.1 FX.2.1 (FX.2.2.2.2 _ harr) (ty := .boolean) rfl hK.1.1 hP hD hS hA (a0 := (N, .inl (fun _ => 0))) (fun cA => rfl) (nI_pos (by omega)) (nI_clamp (by omega)) (by show N * 1 ≤ 536870912; omega) hcells hslots hdg (fun q cA H1 hK1 hP1 hD1 hS1 => ?_)
  have e1 := tys_at hK1
  have e0 := (hK1.2 1 (y 1, .boolean) rfl).2
  have e : cA = y 1 := Option.some.inj ((show s.vm.findClass _ = some cA from e1).symm.trans (show s.vm.findClass _ = some (y 1) from e0))
  subst e
  exact kk q H1 hP1 hD1 hS1
theorem nArrQ {C : String} (t0 : Nat) (ht : (tysG y)[t0]? = some (y t0, .object C)) (hao : va_AO C s) (FX : CallFix p m c cc nL s args Ts own) (hK : KA D y s) (hcl : Cond.classLink own index C ∈ Ts) (hP : va_P D vwCl w H) (hD : va_D A w) (hS : va_S A H0 H locs) (hA : ∀ q, H0.size ≤ q → A q) {N : Nat} (hN : N ≤ 1000) (hcells : cells + 1 ≤ R.cells) (hslots : slots + N ≤ R.slots) (hdg : decode cc pc = .ok (.anewarray index, 3))
    (kk : ∀ (q : Nat) (H1 : Heap), va_P D vwCl (w ++ [(q, .inl (y t0, N, .inr (.inr (.inr (.inr (fun _ => none))))))]) H1 → va_D A (w ++ [(q, .inl (y t0, N, .inr (.inr (.inr (.inr (fun _ => none))))))]) → va_S A H0 H1 locs → W p l e R s m args below meth c H1 locs (cells + 1) (slots + N) Q (F0 m (pc + 3) ls (.ref q :: rest))) : W p l e R s m args below meth c H locs cells slots Q (F0 m pc ls (.int (nI N) :: rest)) := by
  refine va_newq FX.1 FX.2.1 FX.2.2.2.1 (FX.2.2.2.2 _ hcl) hao hK.1.1 hP hD hS hA (nI_pos (by omega)) (nI_clamp (by omega)) (by omega) hcells hslots hdg (fun q cA H1 hK1 hP1 hD1 hS1 => ?_)
  obtain ⟨-, -, -, -, -, e1⟩ := tys_at hK1
  have ht2 : (tysG y ++ [(cA, FieldType.object C)])[t0]? = some (y t0, .object C) := by
    have hlt : t0 < (tysG y).length := (List.getElem?_eq_some_iff.mp ht).1
    rw [List.getElem?_append_left hlt]; exact ht
  obtain ⟨-, -, -, -, -, e0⟩ := (hK1.2 t0 _ ht2).2
  have e : cA = y t0 := Option.some.inj (e1.symm.trans e0)
  subst e
  exact kk q H1 hP1 hD1 hS1
theorem nTail {a : Array Value} {st0 : List Value} (hr : va_Run p l e R s m args below meth c H locs cells slots mc ms (F0 m pc ls st0) rest (va_Qv (fun (_ : Nat → Nat) => True) (fun (g : Nat → Nat) t => va_P D vwCl (world g) t.heap ∧ va_D (va_A pre H.size) (world g)) (va_A pre H.size) a) (va_A pre H.size)) (hP : va_P D vwCl w H) (hD : va_D A w) (hS : va_S A H0 H locs) (hA : ∀ q, H0.size ≤ q → A q) (isC isR : List Nat) (hC : isC.map (fun i => w[i]?) = pre.map some) (hR : isR.map (fun i => w[i]?) = wr.map some) (hn : va_nd isR = true) (hdis : ∀ i ∈ isR, i ∉ isC)
    (k : ∀ (g : Nat → Nat) (H1 : Heap) (locs1 : List Loc), va_P D vwCl (wr ++ world g) H1 → va_D A (wr ++ world g) → va_S A H0 H1 locs1 → W p l e R s m args below meth c H1 locs1 (cells + mc) (slots + ms) Q (F0 m (pc + 3) ls rest)) : W p l e R s m args below meth c H locs cells slots Q (F0 m pc ls st0) := by
  have hF := va_free (wc := pre) hD hS hA isC hC
  refine va_callv hr hS (fun q _ h => hF q h) hF (fun u t H1 locs1 ht hvm h5 hB hz1 hk1 hS1 => ?_)
  obtain ⟨hP1, hD1⟩ := hB
  rw [ht] at hP1
  obtain ⟨hP2, hD2⟩ := va_join hP hD isC isR hC hR hn hdis hk1 hF hP1 hD1
  exact k u H1 locs1 hP2 hD2 hS1
theorem nPre {As : List Value} (hK : KA D y s) (hP : va_P D vwCl w H) (hD : va_D A w) (isC : List Nat) (hC : isC.map (fun i => w[i]?) = pre.map some) (hC1 : isC.filterMap (fun i => w[i]?) = pre) (hnc : va_nd isC = true) : PreS s H (va_Pc As (fun U => KA D y U ∧ va_P D vwCl pre U.heap ∧ va_D (fun _ => True) pre ∧ U.heap.size = H.size)) As :=
  ⟨fun a U g mk q => by
    obtain ⟨q0, qK, qP, qD, qz⟩ := q
    exact ⟨q0, KA.same (u := U) (U := U.calling g mk a) rfl qK, qP, qD, qz⟩, fun U hU hW => ⟨rfl, hK.warm hW, by rw [hU]; exact hP.sub isC hC1, (hD.sub isC hnc hC).weaken (fun _ _ _ _ => trivial), by rw [hU]⟩⟩
theorem nCallI (As : List Value) (FX : CallFix p m c cc nL s args Ts own) (hK : KA D y s) (hM : CtN l D y x ws rm (.ref b :: As) pre H.size world mc ms) (cw : CallB R s args own index x bytes maxL none ws rm mc ms n ∧ x.name = "<init>" ∧ (Cond.instanceMethod x).before args s = true) (hP : va_P D vwCl w H) (hD : va_D A w) (hS : va_S A H0 H locs) (hA : ∀ q, H0.size ≤ q → A q) (isC isR : List Nat) (hC : isC.map (fun i => w[i]?) = pre.map some) (hC1 : isC.filterMap (fun i => w[i]?) = pre) (hnc : va_nd isC = true) (hR : isR.map (fun i => w[i]?) = wr.map some) (hn : va_nd isR = true) (hdis : ∀ i ∈ isR, i ∉ isC)
    (hst : st = As.reverse ++ .ref b :: rest) (hn1 : As.length = n) (hl : lv_has ls nL lv) (hroom : (rest.map fun v => v.category).sum ≤ 8) (hdg : decode cc pc = .ok (.invokespecial index, 3)) (hf : cells + mc ≤ R.cells ∧ slots + ms ≤ R.slots)
    (k : ∀ (g : Nat → Nat) (H1 : Heap) (locs1 : List Loc), va_P D vwCl (wr ++ world g) H1 → va_D A (wr ++ world g) → va_S A H0 H1 locs1 → W p l e R s m args below meth c H1 locs1 (cells + mc) (slots + ms) Q (F0 m (pc + 3) ls rest)) : W p l e R s m args below meth c H locs cells slots Q (F0 m pc ls st) :=
  nTail (va_runI (As := As) (rest := rest) FX hM cw (nPre hK hP hD isC hC hC1 hnc) rfl hn1 hl.1 hst (lv_room hroom) hdg hf) hP hD hS hA isC isR hC hR hn hdis k
theorem nCallN {host : String} (As : List Value) (FX : CallFix p m c cc nL s args Ts own) (hK : KA D y s) (hM : CtN l D y x ws rm (.ref b :: As) pre H.size world mc ms) (cw : va_CN R s args own index x host bytes maxL none ws rm mc ms n ∧ x.name = "<init>" ∧ (Cond.instanceMethod x).before args s = true) (hP : va_P D vwCl w H) (hD : va_D A w) (hS : va_S A H0 H locs) (hA : ∀ q, H0.size ≤ q → A q) (isC isR : List Nat) (hC : isC.map (fun i => w[i]?) = pre.map some) (hC1 : isC.filterMap (fun i => w[i]?) = pre) (hnc : va_nd isC = true) (hR : isR.map (fun i => w[i]?) = wr.map some) (hn : va_nd isR = true) (hdis : ∀ i ∈ isR, i ∉ isC)
    (hst : st = As.reverse ++ .ref b :: rest) (hn1 : As.length = n) (hl : lv_has ls nL lv) (hroom : (rest.map fun v => v.category).sum ≤ 8) (hdg : decode cc pc = .ok (.invokespecial index, 3)) (hf : cells + mc ≤ R.cells ∧ slots + ms ≤ R.slots)
    (k : ∀ (g : Nat → Nat) (H1 : Heap) (locs1 : List Loc), va_P D vwCl (wr ++ world g) H1 → va_D A (wr ++ world g) → va_S A H0 H1 locs1 → W p l e R s m args below meth c H1 locs1 (cells + mc) (slots + ms) Q (F0 m (pc + 3) ls rest)) : W p l e R s m args below meth c H locs cells slots Q (F0 m pc ls st) :=
  nTail (va_runIN (As := As) (rest := rest) FX hM cw (nPre hK hP hD isC hC hC1 hnc) rfl hn1 hl.1 hst (lv_room hroom) hdg hf) hP hD hS hA isC isR hC hR hn hdis k
end NROWS
/-- a row of references is what it holds -/
theorem arr_q {cA : ClassId} {n : Nat} {f g : Nat → Option Nat} (h : ∀ j, j < n → f j = g j) : vp_cell cA (n, .inr (.inr (.inr (.inr f)))) = vp_cell cA (n, .inr (.inr (.inr (.inr g)))) := by
  rw [vp_cell_q, vp_cell_q]
  unfold arrV
  congr 1
  congr 1
  funext j
  show va_rf (f j.val) = va_rf (g j.val)
  rw [h j.val j.isLt]
theorem setQ {D : va_G} {ws : va_W} {H : Heap} {A : Nat → Prop} {a n p : Nat} {cA : ClassId} {f g : Nat → Option Nat} (hP : va_P D vwCl ws H) (hD : va_D A ws) (hp : ws[p]? = some (a, .inl (cA, n, .inr (.inr (.inr (.inr f)))))) (h : ∀ j, j < n → f j = g j) : va_P D vwCl (ws.set p (a, .inl (cA, n, .inr (.inr (.inr (.inr g)))))) H ∧ va_D A (ws.set p (a, .inl (cA, n, .inr (.inr (.inr (.inr g)))))) := by
  have h1 : H[a]? = some (vp_cell cA (n, .inr (.inr (.inr (.inr f))))) := hP p _ hp
  rw [arr_q h] at h1
  exact ⟨hP.set hD hp h1 (fun _ _ => rfl), hD.set hp⟩
