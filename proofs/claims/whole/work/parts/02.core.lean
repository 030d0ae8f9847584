/-! THE CORE: the state as functions of numbers, contracts over whole worlds, calls that keep the world -/
abbrev PT : Type := (Nat → Int32) × (Nat → Nat → Int32)
def pg (P : PT) (k : Nat) (v : Int32) : PT := (fun j => if j = k then v else P.1 j, P.2)
def pa (P : PT) (k i : Nat) (v : Int32) : PT := (P.1, fun j => if j = k then upd (P.2 k) i v else P.2 j)
abbrev tysG (y : Nat → ClassId) : List (ClassId × FieldType) := [(y 0, .int), (y 1, .boolean), (y 2, .object "SeenNumbers$House"), (y 3, .object "SeenNumbers$Tree"), (y 4, .object "SeenNumbers$Sheet")]
abbrev nestL : List Cond := [.methodLinkNest RX8 17 yX4_init RX8, .methodLinkNest RX8 20 yX6_init RX8, .methodLinkNest RX2 33 yX1_init RX8, .methodLinkNest RX2 34 yX7_init RX8, .methodLinkNest RX6 77 yX8_isWithin RX8, .methodLinkNest RX2 39 yX8_isWithin RX8, .methodLinkNest RX2 99 yX8_isIn RX8, .methodLinkNest RX5 67 yX8_greatestCommon RX8, .methodLinkNest RX5 93 yX8_isIn RX8]
def KK (D : va_G) (y : Nat → ClassId) (s : State) : Prop := va_K D vwCl (tysG y) s ∧ ∀ w ∈ nestL, va_Nw w s
theorem nestL_ok : ∀ w ∈ nestL, ∃ a i x h, w = .methodLinkNest a i x h := by
  intro w hw
  simp only [nestL, List.mem_cons, List.not_mem_nil, or_false] at hw
  rcases hw with rfl | rfl | rfl | rfl | rfl | rfl | rfl | rfl | rfl <;> exact ⟨_, _, _, _, rfl⟩
theorem KK.warm {D : va_G} {y : Nat → ClassId} {s U : State} (h : KK D y s) (hW : s.WarmedH U.vm) : KK D y U := by
  refine ⟨va_K.moved hW.alike h.1, fun w hw => ?_⟩
  obtain ⟨a, i, x, hh, e⟩ := nestL_ok w hw
  have := h.2 w hw
  subst e
  exact va_Nw.warmM hW this
theorem KK.same {D : va_G} {y : Nat → ClassId} {u U : State} (hvm : u.vm = U.vm) (h : KK D y u) : KK D y U := by
  refine ⟨va_K.moved (u := u) (U := U) (by rw [hvm]; exact Vm.Alike.refl _) h.1, fun w hw => ?_⟩
  obtain ⟨a, i, x, hh, e⟩ := nestL_ok w hw
  have := h.2 w hw
  subst e
  exact va_Nw.same rfl hvm this
/-- the start of a contract: the arguments, the tables' picture, the world -/
abbrev CPre (D : va_G) (y : Nat → ClassId) (As : List Value) (pre : va_W) : Array Value → State → Prop := va_Pc As (fun U => KK D y U ∧ va_P D vwCl pre U.heap)
theorem CPre.blind {D : va_G} {y : Nat → ClassId} {As : List Value} {pre : va_W} : FrameBlind (CPre D y As pre) := fun a U g mk q => ⟨q.1, KK.same (u := U) (U := U.calling g mk a) rfl q.2.1, q.2.2⟩
theorem CPre.at {D : va_G} {y : Nat → ClassId} {As : List Value} {pre : va_W} {s : State} {H : Heap} (hK : KK D y s) (hP : va_P D vwCl pre H) : ∀ U : State, U.heap = H → s.WarmedH U.vm → CPre D y As pre As.toArray U := fun U hU hW => ⟨rfl, hK.warm hW, by rw [hU]; exact hP⟩
def CtI (l : Launch) (D : va_G) (y : Nat → ClassId) (x : MethodName) (ws : List Cond) (rm : Room) (As : List Value) (pre : va_W) {S : Type} (post : Int32 → S → Prop) (world : S → va_W) (A : Nat → Prop) : Prop :=
  Met l x ws rm (CPre D y As pre) (va_Qi post (fun u t => va_P D vwCl (world u) t.heap) A) 0 0 A
def CtL (l : Launch) (D : va_G) (y : Nat → ClassId) (x : MethodName) (ws : List Cond) (rm : Room) (As : List Value) (pre : va_W) {S : Type} (post : Int64 → S → Prop) (world : S → va_W) (A : Nat → Prop) : Prop :=
  Met l x ws rm (CPre D y As pre) (va_Ql post (fun u t => va_P D vwCl (world u) t.heap) A) 0 0 A
def CtV (l : Launch) (D : va_G) (y : Nat → ClassId) (x : MethodName) (ws : List Cond) (rm : Room) (As : List Value) (pre : va_W) {S : Type} (post : S → Prop) (world : S → va_W) (A : Nat → Prop) : Prop :=
  Met l x ws rm (CPre D y As pre) (va_Qv post (fun u t => va_P D vwCl (world u) t.heap) A) 0 0 A
set_option maxHeartbeats 4000000 in
theorem mkI {l : Launch} {D : va_G} {y : Nat → ClassId} {x : MethodName} {ws ws' : List Cond} {rm : Room} {cc : ByteArray} {maxL : Nat} {ret : Option FieldType} {As : List Value} {pre : va_W} {S : Type} {post : Int32 → S → Prop} {world : S → va_W} {A : Nat → Prop} (own : String) (ho : x.cls = own) (hy : plainName x.cls = true) (hw : ws = Cond.code x cc maxL ret :: ws')
    (hret : ret = some .int ∨ (ret = some .boolean ∧ ∀ r u, post r u → r = 0 ∨ r = 1)) (hlen : (lg_sl As).length ≤ maxL)
    (body : ∀ (p : Program) (e : Env) (s : State) (m : MethodId) (args : Array Value) (below : List Frame) (meth : Method) (c : Code) (Q : State → Prop), CallFix p m c cc maxL s args ws own → KK D y s → va_P D vwCl pre s.heap →
      (∀ (H : Heap) (locs : List Loc) (pc : Nat) (ls : Array Slot) (r : Int32) (u : S), decode cc pc = .ok (.ireturn, 1) → post r u → va_P D vwCl (world u) H → va_S A s.heap H locs → W p l e rm s m args below meth c H locs 0 0 Q (F0 m pc ls [.int r])) →
      ∀ ls, lv_has ls maxL (lv_args 0 As) → W p l e rm s m args below meth c s.heap [] 0 0 Q (F0 m 0 ls [])) : CtI l D y x ws rm As pre post world A := by
  refine Met.ofW (cc := cc) (maxL := maxL) (ret := ret) hy hw ?_
  intro p e s m args below meth c s₁ B hml hv
  obtain ⟨rfl, hK, hP⟩ := hv
  have hts := atoms_spec (ws := ws) B.pre
  have hown : s.vm.findClass own = some m.cls := by rw [← ho]; exact findClass_of_methodNamed B.named
  have hlocks := B.notSynchronized
  have hl := lv_entry As (n := maxL) hlen
  rw [lg_entry_eq]
  generalize (lg_sl As ++ List.replicate (maxL - (lg_sl As).length) Slot.unset).toArray = ls at hl ⊢
  refine body p e s m _ below meth c _ ⟨B.exec, B.bytes, hml, hown, hts⟩ hK hP (fun H locs pc ls r u hd hp hw hS => ?_) ls hl
  rcases hret with hr | ⟨hr, h01⟩
  · exact W.iret (v := r) B.exec B.bytes (by rw [B.returns, hr]) (fun t ht hW => ⟨⟨r, u, rfl, hp, (by show va_P D vwCl (world u) t.heap; rw [ht]; exact hw)⟩, hS.F ht⟩) hS.2.2 hd
  · exact W.zret (v := r) (ty := .boolean) B.exec B.bytes (by rw [B.returns, hr]) (by rcases h01 r u hp with rfl | rfl <;> rfl) (fun t ht hW => ⟨⟨r, u, rfl, hp, (by show va_P D vwCl (world u) t.heap; rw [ht]; exact hw)⟩, hS.F ht⟩) hS.2.2 hd
set_option maxHeartbeats 4000000 in
theorem mkL {l : Launch} {D : va_G} {y : Nat → ClassId} {x : MethodName} {ws ws' : List Cond} {rm : Room} {cc : ByteArray} {maxL : Nat} {As : List Value} {pre : va_W} {S : Type} {post : Int64 → S → Prop} {world : S → va_W} {A : Nat → Prop} (own : String) (ho : x.cls = own) (hy : plainName x.cls = true) (hw : ws = Cond.code x cc maxL (some .long) :: ws') (hlen : (lg_sl As).length ≤ maxL)
    (body : ∀ (p : Program) (e : Env) (s : State) (m : MethodId) (args : Array Value) (below : List Frame) (meth : Method) (c : Code) (Q : State → Prop), CallFix p m c cc maxL s args ws own → KK D y s → va_P D vwCl pre s.heap →
      (∀ (H : Heap) (locs : List Loc) (pc : Nat) (ls : Array Slot) (r : Int64) (u : S), decode cc pc = .ok (.lreturn, 1) → post r u → va_P D vwCl (world u) H → va_S A s.heap H locs → W p l e rm s m args below meth c H locs 0 0 Q (F0 m pc ls [.long r])) →
      ∀ ls, lv_has ls maxL (lv_args 0 As) → W p l e rm s m args below meth c s.heap [] 0 0 Q (F0 m 0 ls [])) : CtL l D y x ws rm As pre post world A := by
  refine Met.ofW (cc := cc) (maxL := maxL) (ret := some .long) hy hw ?_
  intro p e s m args below meth c s₁ B hml hv
  obtain ⟨rfl, hK, hP⟩ := hv
  have hts := atoms_spec (ws := ws) B.pre
  have hown : s.vm.findClass own = some m.cls := by rw [← ho]; exact findClass_of_methodNamed B.named
  have hlocks := B.notSynchronized
  have hl := lv_entry As (n := maxL) hlen
  rw [lg_entry_eq]
  generalize (lg_sl As ++ List.replicate (maxL - (lg_sl As).length) Slot.unset).toArray = ls at hl ⊢
  refine body p e s m _ below meth c _ ⟨B.exec, B.bytes, hml, hown, hts⟩ hK hP (fun H locs pc ls r u hd hp hw hS => ?_) ls hl
  exact W.lret (v := r) B.exec B.bytes B.returns (fun t ht hW => ⟨⟨r, u, rfl, hp, (by show va_P D vwCl (world u) t.heap; rw [ht]; exact hw)⟩, hS.F ht⟩) hS.2.2 hd
set_option maxHeartbeats 4000000 in
theorem mkV {l : Launch} {D : va_G} {y : Nat → ClassId} {x : MethodName} {ws ws' : List Cond} {rm : Room} {cc : ByteArray} {maxL : Nat} {As : List Value} {pre : va_W} {S : Type} {post : S → Prop} {world : S → va_W} {A : Nat → Prop} (own : String) (ho : x.cls = own) (hy : plainName x.cls = true) (hw : ws = Cond.code x cc maxL none :: ws') (hlen : (lg_sl As).length ≤ maxL)
    (body : ∀ (p : Program) (e : Env) (s : State) (m : MethodId) (args : Array Value) (below : List Frame) (meth : Method) (c : Code) (Q : State → Prop), CallFix p m c cc maxL s args ws own → KK D y s → va_P D vwCl pre s.heap →
      (∀ (H : Heap) (locs : List Loc) (pc : Nat) (ls : Array Slot) (u : S), decode cc pc = .ok (.return_, 1) → post u → va_P D vwCl (world u) H → va_S A s.heap H locs → W p l e rm s m args below meth c H locs 0 0 Q (F0 m pc ls [])) →
      ∀ ls, lv_has ls maxL (lv_args 0 As) → W p l e rm s m args below meth c s.heap [] 0 0 Q (F0 m 0 ls [])) : CtV l D y x ws rm As pre post world A := by
  refine Met.ofW (cc := cc) (maxL := maxL) (ret := none) hy hw ?_
  intro p e s m args below meth c s₁ B hml hv
  obtain ⟨rfl, hK, hP⟩ := hv
  have hts := atoms_spec (ws := ws) B.pre
  have hown : s.vm.findClass own = some m.cls := by rw [← ho]; exact findClass_of_methodNamed B.named
  have hlocks := B.notSynchronized
  have hl := lv_entry As (n := maxL) hlen
  rw [lg_entry_eq]
  generalize (lg_sl As ++ List.replicate (maxL - (lg_sl As).length) Slot.unset).toArray = ls at hl ⊢
  refine body p e s m _ below meth c _ ⟨B.exec, B.bytes, hml, hown, hts⟩ hK hP (fun H locs pc ls u hd hp hw hS => ?_) ls hl
  exact W.vret B.exec B.bytes B.returns (fun t ht hW => ⟨⟨u, rfl, hp, (by show va_P D vwCl (world u) t.heap; rw [ht]; exact hw)⟩, hS.F ht⟩) hS.2.2 hd
section CALLS
variable {p : Program} {l : Launch} {e : Env} {R : Room} {s : State} {m : MethodId} {args : Array Value} {below : List Frame} {meth : Method} {c : Code} {H : Heap} {locs : List Loc} {Q : State → Prop}
variable {cc : ByteArray} {pc : Nat} {ls : Array Slot} {D : va_G} {y : Nat → ClassId} {H0 : Heap} {A0 A : Nat → Prop} {nL : Nat} {Ts ws : List Cond} {own C : String} {bytes : ByteArray} {maxL n index : Nat} {ret : Option FieldType} {rm : Room} {x : MethodName} {b : Addr} {pre : va_W} {S : Type} {world : S → va_W} {st : List Value} {lv : List (Nat × Value)} {cells slots : Nat}
theorem pre_recv {q0 ci : Nat} {fs : List Value} {r : vw_C} (hK : KK D y s) (hP : va_P D vwCl pre H) (hc : vwCl[ci]? = some r) (he : pre[q0]? = some (b, .inr (ci, fs))) : ∃ cell : Cell, H[b]? = some cell ∧ cell.vm.isStatics = false ∧ s.vm.findClass r.1 = some cell.cls := va_recv hK.1 hP hc he
set_option maxHeartbeats 4000000 in
theorem cViI {post : Int32 → S → Prop} (As rest : List Value) (FX : CallFix p m c cc nL s args Ts own) (hK : KK D y s) (hM : CtI l D y x ws rm (.ref b :: As) pre post world A) (cw : CallW R s args own C index x bytes maxL ret ws rm 0 0 n) (hP : va_P D vwCl pre H) (hrv : ∃ cell : Cell, H[b]? = some cell ∧ cell.vm.isStatics = false ∧ s.vm.findClass C = some cell.cls)
    (hst : st = As.reverse ++ .ref b :: rest) (hn : As.length = n) (hl : lv_has ls nL lv) (hroom : (rest.map fun v => v.category).sum ≤ 8) (hdg : decode cc pc = .ok (.invokevirtual index, 3)) (hf : cells ≤ R.cells ∧ slots ≤ R.slots) (hS : va_S A0 H0 H locs) (hA : ∀ q, A q → A0 q)
    (k : ∀ (r : Int32) (u : S) (H1 : Heap) (locs1 : List Loc), post r u → va_P D vwCl (world u) H1 → va_S A0 H0 H1 locs1 → (∀ q : Nat, q < H.size → ¬ A q → H1[q]? = H[q]?) → H.size ≤ H1.size → W p l e R s m args below meth c H1 locs1 cells slots Q (F0 m (pc + 3) ls (.int r :: rest))) :
    W p l e R s m args below meth c H locs cells slots Q (F0 m pc ls st) :=
  va_calli (va_runV (As := As) (rest := rest) FX hM cw ⟨CPre.blind, hrv, CPre.at hK hP⟩ rfl hn hl.1 hst (lv_room hroom) hdg hf) hS (fun q _ h => hA q h) hA (fun r u t H1 locs1 ht _ hp hB hz hk hS1 => k r u H1 locs1 hp (by rw [← ht]; exact hB) hS1 hk hz)
set_option maxHeartbeats 4000000 in
theorem cViL {post : Int64 → S → Prop} (As rest : List Value) (FX : CallFix p m c cc nL s args Ts own) (hK : KK D y s) (hM : CtL l D y x ws rm (.ref b :: As) pre post world A) (cw : CallW R s args own C index x bytes maxL ret ws rm 0 0 n) (hP : va_P D vwCl pre H) (hrv : ∃ cell : Cell, H[b]? = some cell ∧ cell.vm.isStatics = false ∧ s.vm.findClass C = some cell.cls)
    (hst : st = As.reverse ++ .ref b :: rest) (hn : As.length = n) (hl : lv_has ls nL lv) (hroom : (rest.map fun v => v.category).sum ≤ 8) (hdg : decode cc pc = .ok (.invokevirtual index, 3)) (hf : cells ≤ R.cells ∧ slots ≤ R.slots) (hS : va_S A0 H0 H locs) (hA : ∀ q, A q → A0 q)
    (k : ∀ (r : Int64) (u : S) (H1 : Heap) (locs1 : List Loc), post r u → va_P D vwCl (world u) H1 → va_S A0 H0 H1 locs1 → (∀ q : Nat, q < H.size → ¬ A q → H1[q]? = H[q]?) → H.size ≤ H1.size → W p l e R s m args below meth c H1 locs1 cells slots Q (F0 m (pc + 3) ls (.long r :: rest))) :
    W p l e R s m args below meth c H locs cells slots Q (F0 m pc ls st) :=
  va_calll (va_runV (As := As) (rest := rest) FX hM cw ⟨CPre.blind, hrv, CPre.at hK hP⟩ rfl hn hl.1 hst (lv_room hroom) hdg hf) hS (fun q _ h => hA q h) hA (fun r u t H1 locs1 ht _ hp hB hz hk hS1 => k r u H1 locs1 hp (by rw [← ht]; exact hB) hS1 hk hz)
set_option maxHeartbeats 4000000 in
theorem cViV {post : S → Prop} (As rest : List Value) (FX : CallFix p m c cc nL s args Ts own) (hK : KK D y s) (hM : CtV l D y x ws rm (.ref b :: As) pre post world A) (cw : CallW R s args own C index x bytes maxL ret ws rm 0 0 n) (hP : va_P D vwCl pre H) (hrv : ∃ cell : Cell, H[b]? = some cell ∧ cell.vm.isStatics = false ∧ s.vm.findClass C = some cell.cls)
    (hst : st = As.reverse ++ .ref b :: rest) (hn : As.length = n) (hl : lv_has ls nL lv) (hroom : (rest.map fun v => v.category).sum ≤ 8) (hdg : decode cc pc = .ok (.invokevirtual index, 3)) (hf : cells ≤ R.cells ∧ slots ≤ R.slots) (hS : va_S A0 H0 H locs) (hA : ∀ q, A q → A0 q)
    (k : ∀ (u : S) (H1 : Heap) (locs1 : List Loc), post u → va_P D vwCl (world u) H1 → va_S A0 H0 H1 locs1 → (∀ q : Nat, q < H.size → ¬ A q → H1[q]? = H[q]?) → H.size ≤ H1.size → W p l e R s m args below meth c H1 locs1 cells slots Q (F0 m (pc + 3) ls rest)) :
    W p l e R s m args below meth c H locs cells slots Q (F0 m pc ls st) :=
  va_callv (va_runV (As := As) (rest := rest) FX hM cw ⟨CPre.blind, hrv, CPre.at hK hP⟩ rfl hn hl.1 hst (lv_room hroom) hdg hf) hS (fun q _ h => hA q h) hA (fun u t H1 locs1 ht _ hp hB hz hk hS1 => k u H1 locs1 hp (by rw [← ht]; exact hB) hS1 hk hz)
set_option maxHeartbeats 4000000 in
theorem cStI {post : Int32 → Unit → Prop} (As rest : List Value) (FX : CallFix p m c cc nL s args Ts own) (hK : KK D y s) (hM : CtI l D y x ws rm As [] post (fun _ => []) (fun _ => False)) (cw : CallB R s args own index x bytes maxL ret ws rm 0 0 n ∧ (Cond.static x).before args s = true)
    (hst : st = As.reverse ++ rest) (hn : As.length = n) (hl : lv_has ls nL lv) (hroom : (rest.map fun v => v.category).sum ≤ 8) (hdg : decode cc pc = .ok (.invokestatic index, 3)) (hf : cells ≤ R.cells ∧ slots ≤ R.slots) (hP : va_P D vwCl pre H) (hS : va_S A0 H0 H locs)
    (k : ∀ (r : Int32) (H1 : Heap) (locs1 : List Loc), post r () → va_P D vwCl pre H1 → va_S A0 H0 H1 locs1 → W p l e R s m args below meth c H1 locs1 cells slots Q (F0 m (pc + 3) ls (.int r :: rest))) :
    W p l e R s m args below meth c H locs cells slots Q (F0 m pc ls st) :=
  va_calli (va_runS (As := As) (rest := rest) FX hM cw ⟨CPre.blind, CPre.at hK (fun k q h => by simp at h)⟩ rfl hn hl.1 hst (lv_room hroom) hdg hf) hS (fun q _ h => h.elim) (fun q h => h.elim) (fun r u t H1 locs1 ht _ hp hB hz hk hS1 => k r H1 locs1 hp (hP.kept (fun i q hi => hk q.1 (hP i q hi).lt (fun h => h))) hS1)
set_option maxHeartbeats 4000000 in
theorem cSnI {host : String} {post : Int32 → Unit → Prop} (As rest : List Value) (FX : CallFix p m c cc nL s args Ts own) (hK : KK D y s) (hM : CtI l D y x ws rm As [] post (fun _ => []) (fun _ => False)) (cw : va_CN R s args own index x host bytes maxL ret ws rm 0 0 n ∧ (Cond.static x).before args s = true ∧ True)
    (hst : st = As.reverse ++ rest) (hn : As.length = n) (hl : lv_has ls nL lv) (hroom : (rest.map fun v => v.category).sum ≤ 8) (hdg : decode cc pc = .ok (.invokestatic index, 3)) (hf : cells ≤ R.cells ∧ slots ≤ R.slots) (hP : va_P D vwCl pre H) (hS : va_S A0 H0 H locs)
    (k : ∀ (r : Int32) (H1 : Heap) (locs1 : List Loc), post r () → va_P D vwCl pre H1 → va_S A0 H0 H1 locs1 → W p l e R s m args below meth c H1 locs1 cells slots Q (F0 m (pc + 3) ls (.int r :: rest))) :
    W p l e R s m args below meth c H locs cells slots Q (F0 m pc ls st) :=
  va_calli (va_runSN (As := As) (rest := rest) FX hM cw ⟨CPre.blind, CPre.at hK (fun k q h => by simp at h)⟩ rfl hn hl.1 hst (lv_room hroom) hdg hf) hS (fun q _ h => h.elim) (fun q h => h.elim) (fun r u t H1 locs1 ht _ hp hB hz hk hS1 => k r H1 locs1 hp (hP.kept (fun i q hi => hk q.1 (hP i q hi).lt (fun h => h))) hS1)
end CALLS
/-! truth as a number -/
noncomputable def b2 (p : Prop) : Int32 := @ite _ p (Classical.propDecidable p) (nI 1) (nI 0)
theorem b2_t {p : Prop} (h : p) : b2 p = nI 1 := by unfold b2; rw [if_pos h]
theorem b2_f {p : Prop} (h : ¬ p) : b2 p = nI 0 := by unfold b2; rw [if_neg h]
theorem b2_01 (p : Prop) : b2 p = 0 ∨ b2 p = 1 := by
  by_cases h : p
  · exact Or.inr (b2_t h)
  · exact Or.inl (b2_f h)
theorem b2_iff {p q : Prop} (h : p ↔ q) : b2 p = b2 q := by rw [propext h]
theorem b2_1 {p : Prop} (h : p) : nI 1 = b2 p := (b2_t h).symm
theorem b2_0 {p : Prop} (h : ¬ p) : nI 0 = b2 p := (b2_f h).symm
theorem b2_e0 {p : Prop} : b2 p = 0 ↔ ¬ p := by
  by_cases h : p
  · rw [b2_t h]; exact ⟨fun q => absurd q (by decide), fun q => absurd h q⟩
  · rw [b2_f h]; exact ⟨fun _ => h, fun _ => rfl⟩
theorem xn_inc (i k : Nat) : nI i + Int32.ofInt (k : Int) = nI (i + k) := by
  rw [← nI_add]; congr 1
theorem xn_dec (i : Nat) : nI (i + 1) + Int32.ofInt (-1) = nI i := pk_m1 i
/-! numbers as Nats on the stack -/
section NI
variable {p : Program} {l : Launch} {e : Env} {R : Room} {s : State} {m : MethodId} {args : Array Value} {below : List Frame} {meth : Method} {c : Code} {H : Heap} {locs : List Loc} {cells slots : Nat} {Q : State → Prop}
variable {cc : ByteArray} {pc : Nat} {ls : Array Slot} {rest : List Value}
theorem xn_iadd (hexec : p.tables.exec = Jvm.exec) (hb : c.code = cc) {a b : Nat} (hdg : decode cc pc = .ok (.iadd, 1)) (k : W p l e R s m args below meth c H locs cells slots Q (F0 m (pc + 1) ls (.int (nI (a + b)) :: rest))) : W p l e R s m args below meth c H locs cells slots Q (F0 m pc ls (.int (nI b) :: .int (nI a) :: rest)) := by
  refine lv_iadd hexec hb hdg ?_
  rw [nI_add]; exact k
theorem xn_isub (hexec : p.tables.exec = Jvm.exec) (hb : c.code = cc) {a b : Nat} (h : b ≤ a) (hdg : decode cc pc = .ok (.isub, 1)) (k : W p l e R s m args below meth c H locs cells slots Q (F0 m (pc + 1) ls (.int (nI (a - b)) :: rest))) : W p l e R s m args below meth c H locs cells slots Q (F0 m pc ls (.int (nI b) :: .int (nI a) :: rest)) := by
  refine lv_isub hexec hb hdg ?_
  rw [pk_sub h]; exact k
theorem xn_imul (hexec : p.tables.exec = Jvm.exec) (hb : c.code = cc) {a b : Nat} (hdg : decode cc pc = .ok (.imul, 1)) (k : W p l e R s m args below meth c H locs cells slots Q (F0 m (pc + 1) ls (.int (nI (a * b)) :: rest))) : W p l e R s m args below meth c H locs cells slots Q (F0 m pc ls (.int (nI b) :: .int (nI a) :: rest)) := by
  refine lv_imul hexec hb hdg ?_
  rw [pk_mul]; exact k
theorem xn_to (hexec : p.tables.exec = Jvm.exec) {x z : Int32} (h : x = z) (k : W p l e R s m args below meth c H locs cells slots Q (F0 m pc ls (.int z :: rest))) : W p l e R s m args below meth c H locs cells slots Q (F0 m pc ls (.int x :: rest)) := by
  rw [h]; exact k
theorem xn_idiv (hexec : p.tables.exec = Jvm.exec) (hb : c.code = cc) {a b : Nat} (h1 : 0 < b) (h2 : a < 2 ^ 31) (h3 : b < 2 ^ 31) (hdg : decode cc pc = .ok (.idiv, 1)) (k : W p l e R s m args below meth c H locs cells slots Q (F0 m (pc + 1) ls (.int (nI (a / b)) :: rest))) : W p l e R s m args below meth c H locs cells slots Q (F0 m pc ls (.int (nI b) :: .int (nI a) :: rest)) := by
  refine lv_idiv hexec hb hdg (nI_ne0 h1 h3) ?_
  rw [pk_div h2 h1 h3]; exact k
theorem xn_irem (hexec : p.tables.exec = Jvm.exec) (hb : c.code = cc) {a b : Nat} (h1 : 0 < b) (h2 : a < 2 ^ 31) (h3 : b < 2 ^ 31) (hdg : decode cc pc = .ok (.irem, 1)) (k : W p l e R s m args below meth c H locs cells slots Q (F0 m (pc + 1) ls (.int (nI (a % b)) :: rest))) : W p l e R s m args below meth c H locs cells slots Q (F0 m pc ls (.int (nI b) :: .int (nI a) :: rest)) := by
  refine lv_irem hexec hb hdg (nI_ne0 h1 h3) ?_
  rw [pk_rem h2 h1 h3]; exact k
theorem xn_icmp_eq (hexec : p.tables.exec = Jvm.exec) (hb : c.code = cc) {a b : Nat} (ha : a < 2 ^ 31) (hb2 : b < 2 ^ 31) {off : Int} {tgt : Nat} (hdg : decode cc pc = .ok (.if_icmp .eq off, 3)) (ht : (pc : Int) + off = (tgt : Int)) (kt : a = b → W p l e R s m args below meth c H locs cells slots Q (F0 m tgt ls rest)) (kf : ¬ a = b → W p l e R s m args below meth c H locs cells slots Q (F0 m (pc + 3) ls rest)) : W p l e R s m args below meth c H locs cells slots Q (F0 m pc ls (.int (nI b) :: .int (nI a) :: rest)) :=
  lv_icmp_eq hexec hb hdg ht (fun h => kt ((nI_eq ha hb2).mp h)) (fun h => kf (fun q => h ((nI_eq ha hb2).mpr q)))
theorem xn_icmp_ne (hexec : p.tables.exec = Jvm.exec) (hb : c.code = cc) {a b : Nat} (ha : a < 2 ^ 31) (hb2 : b < 2 ^ 31) {off : Int} {tgt : Nat} (hdg : decode cc pc = .ok (.if_icmp .ne off, 3)) (ht : (pc : Int) + off = (tgt : Int)) (kt : ¬ a = b → W p l e R s m args below meth c H locs cells slots Q (F0 m tgt ls rest)) (kf : a = b → W p l e R s m args below meth c H locs cells slots Q (F0 m (pc + 3) ls rest)) : W p l e R s m args below meth c H locs cells slots Q (F0 m pc ls (.int (nI b) :: .int (nI a) :: rest)) :=
  lv_icmp_ne hexec hb hdg ht (fun h => kt (fun q => h ((nI_eq ha hb2).mpr q))) (fun h => kf ((nI_eq ha hb2).mp h))
theorem xn_icmp_lt (hexec : p.tables.exec = Jvm.exec) (hb : c.code = cc) {a b : Nat} (ha : a < 2 ^ 31) (hb2 : b < 2 ^ 31) {off : Int} {tgt : Nat} (hdg : decode cc pc = .ok (.if_icmp .lt off, 3)) (ht : (pc : Int) + off = (tgt : Int)) (kt : a < b → W p l e R s m args below meth c H locs cells slots Q (F0 m tgt ls rest)) (kf : b ≤ a → W p l e R s m args below meth c H locs cells slots Q (F0 m (pc + 3) ls rest)) : W p l e R s m args below meth c H locs cells slots Q (F0 m pc ls (.int (nI b) :: .int (nI a) :: rest)) :=
  lv_icmp_lt hexec hb hdg ht (fun h => kt ((nI_ltI ha hb2).mp h)) (fun h => kf (Nat.le_of_not_lt (fun q => h ((nI_ltI ha hb2).mpr q))))
theorem xn_icmp_ge (hexec : p.tables.exec = Jvm.exec) (hb : c.code = cc) {a b : Nat} (ha : a < 2 ^ 31) (hb2 : b < 2 ^ 31) {off : Int} {tgt : Nat} (hdg : decode cc pc = .ok (.if_icmp .ge off, 3)) (ht : (pc : Int) + off = (tgt : Int)) (kt : b ≤ a → W p l e R s m args below meth c H locs cells slots Q (F0 m tgt ls rest)) (kf : a < b → W p l e R s m args below meth c H locs cells slots Q (F0 m (pc + 3) ls rest)) : W p l e R s m args below meth c H locs cells slots Q (F0 m pc ls (.int (nI b) :: .int (nI a) :: rest)) :=
  lv_icmp_ge hexec hb hdg ht (fun h => kt ((nI_leI hb2 ha).mp h)) (fun h => kf (Nat.lt_of_not_le (fun q => h ((nI_leI hb2 ha).mpr q))))
theorem xn_icmp_gt (hexec : p.tables.exec = Jvm.exec) (hb : c.code = cc) {a b : Nat} (ha : a < 2 ^ 31) (hb2 : b < 2 ^ 31) {off : Int} {tgt : Nat} (hdg : decode cc pc = .ok (.if_icmp .gt off, 3)) (ht : (pc : Int) + off = (tgt : Int)) (kt : b < a → W p l e R s m args below meth c H locs cells slots Q (F0 m tgt ls rest)) (kf : a ≤ b → W p l e R s m args below meth c H locs cells slots Q (F0 m (pc + 3) ls rest)) : W p l e R s m args below meth c H locs cells slots Q (F0 m pc ls (.int (nI b) :: .int (nI a) :: rest)) :=
  lv_icmp_gt hexec hb hdg ht (fun h => kt ((nI_ltI hb2 ha).mp h)) (fun h => kf (Nat.le_of_not_lt (fun q => h ((nI_ltI hb2 ha).mpr q))))
theorem xn_icmp_le (hexec : p.tables.exec = Jvm.exec) (hb : c.code = cc) {a b : Nat} (ha : a < 2 ^ 31) (hb2 : b < 2 ^ 31) {off : Int} {tgt : Nat} (hdg : decode cc pc = .ok (.if_icmp .le off, 3)) (ht : (pc : Int) + off = (tgt : Int)) (kt : a ≤ b → W p l e R s m args below meth c H locs cells slots Q (F0 m tgt ls rest)) (kf : b < a → W p l e R s m args below meth c H locs cells slots Q (F0 m (pc + 3) ls rest)) : W p l e R s m args below meth c H locs cells slots Q (F0 m pc ls (.int (nI b) :: .int (nI a) :: rest)) :=
  lv_icmp_le hexec hb hdg ht (fun h => kt ((nI_leI ha hb2).mp h)) (fun h => kf (Nat.lt_of_not_le (fun q => h ((nI_leI ha hb2).mpr q))))
theorem xn_if_eq (hexec : p.tables.exec = Jvm.exec) (hb : c.code = cc) {a : Nat} (ha : a < 2 ^ 31) {off : Int} {tgt : Nat} (hdg : decode cc pc = .ok (.ifCond .eq off, 3)) (ht : (pc : Int) + off = (tgt : Int)) (kt : a = 0 → W p l e R s m args below meth c H locs cells slots Q (F0 m tgt ls rest)) (kf : 0 < a → W p l e R s m args below meth c H locs cells slots Q (F0 m (pc + 3) ls rest)) : W p l e R s m args below meth c H locs cells slots Q (F0 m pc ls (.int (nI a) :: rest)) :=
  lv_if_eq hexec hb hdg ht (fun h => kt (Nat.eq_zero_of_not_pos (fun q => nI_ne0 q ha h))) (fun h => kf (Nat.pos_of_ne_zero (fun q => h (by rw [q]; rfl))))
theorem xn_if_ne (hexec : p.tables.exec = Jvm.exec) (hb : c.code = cc) {a : Nat} (ha : a < 2 ^ 31) {off : Int} {tgt : Nat} (hdg : decode cc pc = .ok (.ifCond .ne off, 3)) (ht : (pc : Int) + off = (tgt : Int)) (kt : 0 < a → W p l e R s m args below meth c H locs cells slots Q (F0 m tgt ls rest)) (kf : a = 0 → W p l e R s m args below meth c H locs cells slots Q (F0 m (pc + 3) ls rest)) : W p l e R s m args below meth c H locs cells slots Q (F0 m pc ls (.int (nI a) :: rest)) :=
  lv_if_ne hexec hb hdg ht (fun h => kt (Nat.pos_of_ne_zero (fun q => h (by rw [q]; rfl)))) (fun h => kf (Nat.eq_zero_of_not_pos (fun q => nI_ne0 q ha h)))
theorem xn_if_lt (hexec : p.tables.exec = Jvm.exec) (hb : c.code = cc) {a : Nat} (ha : a < 2 ^ 31) {off : Int} {tgt : Nat} (hdg : decode cc pc = .ok (.ifCond .lt off, 3)) (ht : (pc : Int) + off = (tgt : Int)) (kt : False → W p l e R s m args below meth c H locs cells slots Q (F0 m tgt ls rest)) (kf : True → W p l e R s m args below meth c H locs cells slots Q (F0 m (pc + 3) ls rest)) : W p l e R s m args below meth c H locs cells slots Q (F0 m pc ls (.int (nI a) :: rest)) :=
  lv_if_lt hexec hb hdg ht (fun h => (nI_pos ha h).elim) (fun h => kf trivial)
theorem xn_if_ge (hexec : p.tables.exec = Jvm.exec) (hb : c.code = cc) {a : Nat} (ha : a < 2 ^ 31) {off : Int} {tgt : Nat} (hdg : decode cc pc = .ok (.ifCond .ge off, 3)) (ht : (pc : Int) + off = (tgt : Int)) (kt : True → W p l e R s m args below meth c H locs cells slots Q (F0 m tgt ls rest)) (kf : False → W p l e R s m args below meth c H locs cells slots Q (F0 m (pc + 3) ls rest)) : W p l e R s m args below meth c H locs cells slots Q (F0 m pc ls (.int (nI a) :: rest)) :=
  lv_if_ge hexec hb hdg ht (fun h => kt trivial) (fun h => (h (nI_pos' ha)).elim)
theorem xn_if_gt (hexec : p.tables.exec = Jvm.exec) (hb : c.code = cc) {a : Nat} (ha : a < 2 ^ 31) {off : Int} {tgt : Nat} (hdg : decode cc pc = .ok (.ifCond .gt off, 3)) (ht : (pc : Int) + off = (tgt : Int)) (kt : 0 < a → W p l e R s m args below meth c H locs cells slots Q (F0 m tgt ls rest)) (kf : a = 0 → W p l e R s m args below meth c H locs cells slots Q (F0 m (pc + 3) ls rest)) : W p l e R s m args below meth c H locs cells slots Q (F0 m pc ls (.int (nI a) :: rest)) :=
  lv_if_gt hexec hb hdg ht (fun h => kt (Nat.pos_of_ne_zero (fun q => by rw [q] at h; exact absurd h (by decide)))) (fun h => kf (Nat.eq_zero_of_not_pos (fun q => h (nI_lt q ha))))
theorem xn_if_le (hexec : p.tables.exec = Jvm.exec) (hb : c.code = cc) {a : Nat} (ha : a < 2 ^ 31) {off : Int} {tgt : Nat} (hdg : decode cc pc = .ok (.ifCond .le off, 3)) (ht : (pc : Int) + off = (tgt : Int)) (kt : a = 0 → W p l e R s m args below meth c H locs cells slots Q (F0 m tgt ls rest)) (kf : 0 < a → W p l e R s m args below meth c H locs cells slots Q (F0 m (pc + 3) ls rest)) : W p l e R s m args below meth c H locs cells slots Q (F0 m pc ls (.int (nI a) :: rest)) :=
  lv_if_le hexec hb hdg ht (fun h => kt (Nat.eq_zero_of_not_pos (fun q => nI_nle q ha h))) (fun h => kf (Nat.pos_of_ne_zero (fun q => h (by rw [q]; decide))))
theorem xb_eq (hexec : p.tables.exec = Jvm.exec) (hb : c.code = cc) {q : Prop} {off : Int} {tgt : Nat} (hdg : decode cc pc = .ok (.ifCond .eq off, 3)) (ht : (pc : Int) + off = (tgt : Int)) (kt : ¬ q → W p l e R s m args below meth c H locs cells slots Q (F0 m tgt ls rest)) (kf : q → W p l e R s m args below meth c H locs cells slots Q (F0 m (pc + 3) ls rest)) : W p l e R s m args below meth c H locs cells slots Q (F0 m pc ls (.int (b2 q) :: rest)) :=
  lv_if_eq hexec hb hdg ht (fun h => kt (b2_e0.mp h)) (fun h => kf (Classical.byContradiction (fun z => h (b2_e0.mpr z))))
theorem xb_ne (hexec : p.tables.exec = Jvm.exec) (hb : c.code = cc) {q : Prop} {off : Int} {tgt : Nat} (hdg : decode cc pc = .ok (.ifCond .ne off, 3)) (ht : (pc : Int) + off = (tgt : Int)) (kt : q → W p l e R s m args below meth c H locs cells slots Q (F0 m tgt ls rest)) (kf : ¬ q → W p l e R s m args below meth c H locs cells slots Q (F0 m (pc + 3) ls rest)) : W p l e R s m args below meth c H locs cells slots Q (F0 m pc ls (.int (b2 q) :: rest)) :=
  lv_if_ne hexec hb hdg ht (fun h => kt (Classical.byContradiction (fun z => h (b2_e0.mpr z)))) (fun h => kf (b2_e0.mp h))
end NI
theorem sw_out2 {x : Int32} (h0 : ¬ x = 0) (h1 : ¬ x = 1) (h2 : ¬ x = 2) : x.toInt < 0 ∨ 2 < x.toInt := by
  have e0 := lv_neT h0 (a := 0) rfl
  have e1 := lv_neT h1 (a := 1) rfl
  have e2 := lv_neT h2 (a := 2) rfl
  omega
theorem sw_out3 {x : Int32} (h0 : ¬ x = 0) (h1 : ¬ x = 1) (h2 : ¬ x = 2) (h3 : ¬ x = 3) : x.toInt < 0 ∨ 3 < x.toInt := by
  have e0 := lv_neT h0 (a := 0) rfl
  have e1 := lv_neT h1 (a := 1) rfl
  have e2 := lv_neT h2 (a := 2) rfl
  have e3 := lv_neT h3 (a := 3) rfl
  omega
theorem sw_out4 {x : Int32} (h0 : ¬ x = 0) (h1 : ¬ x = 1) (h2 : ¬ x = 2) (h3 : ¬ x = 3) (h4 : ¬ x = 4) : x.toInt < 0 ∨ 4 < x.toInt := by
  have e0 := lv_neT h0 (a := 0) rfl
  have e1 := lv_neT h1 (a := 1) rfl
  have e2 := lv_neT h2 (a := 2) rfl
  have e3 := lv_neT h3 (a := 3) rfl
  have e4 := lv_neT h4 (a := 4) rfl
  omega
theorem sw_out6 {x : Int32} (h0 : ¬ x = 0) (h1 : ¬ x = 1) (h2 : ¬ x = 2) (h3 : ¬ x = 3) (h4 : ¬ x = 4) (h5 : ¬ x = 5) (h6 : ¬ x = 6) : x.toInt < 0 ∨ 6 < x.toInt := by
  have e0 := lv_neT h0 (a := 0) rfl
  have e1 := lv_neT h1 (a := 1) rfl
  have e2 := lv_neT h2 (a := 2) rfl
  have e3 := lv_neT h3 (a := 3) rfl
  have e4 := lv_neT h4 (a := 4) rfl
  have e5 := lv_neT h5 (a := 5) rfl
  have e6 := lv_neT h6 (a := 6) rfl
  omega
theorem sw_out34 {x : Int32} (h0 : ¬ x = 0) (h1 : ¬ x = 1) (h2 : ¬ x = 2) (h3 : ¬ x = 3) (h4 : ¬ x = 4) (h5 : ¬ x = 5) (h6 : ¬ x = 6) (h7 : ¬ x = 7) (h8 : ¬ x = 8) (h9 : ¬ x = 9) (h10 : ¬ x = 10) (h11 : ¬ x = 11) (h12 : ¬ x = 12) (h13 : ¬ x = 13) (h14 : ¬ x = 14) (h15 : ¬ x = 15) (h16 : ¬ x = 16) (h17 : ¬ x = 17) (h18 : ¬ x = 18) (h19 : ¬ x = 19) (h20 : ¬ x = 20) (h21 : ¬ x = 21) (h22 : ¬ x = 22) (h23 : ¬ x = 23) (h24 : ¬ x = 24) (h25 : ¬ x = 25) (h26 : ¬ x = 26) (h27 : ¬ x = 27) (h28 : ¬ x = 28) (h29 : ¬ x = 29) (h30 : ¬ x = 30) (h31 : ¬ x = 31) (h32 : ¬ x = 32) (h33 : ¬ x = 33) (h34 : ¬ x = 34) : x.toInt < 0 ∨ 34 < x.toInt := by
  have e0 := lv_neT h0 (a := 0) rfl
  have e1 := lv_neT h1 (a := 1) rfl
  have e2 := lv_neT h2 (a := 2) rfl
  have e3 := lv_neT h3 (a := 3) rfl
  have e4 := lv_neT h4 (a := 4) rfl
  have e5 := lv_neT h5 (a := 5) rfl
  have e6 := lv_neT h6 (a := 6) rfl
  have e7 := lv_neT h7 (a := 7) rfl
  have e8 := lv_neT h8 (a := 8) rfl
  have e9 := lv_neT h9 (a := 9) rfl
  have e10 := lv_neT h10 (a := 10) rfl
  have e11 := lv_neT h11 (a := 11) rfl
  have e12 := lv_neT h12 (a := 12) rfl
  have e13 := lv_neT h13 (a := 13) rfl
  have e14 := lv_neT h14 (a := 14) rfl
  have e15 := lv_neT h15 (a := 15) rfl
  have e16 := lv_neT h16 (a := 16) rfl
  have e17 := lv_neT h17 (a := 17) rfl
  have e18 := lv_neT h18 (a := 18) rfl
  have e19 := lv_neT h19 (a := 19) rfl
  have e20 := lv_neT h20 (a := 20) rfl
  have e21 := lv_neT h21 (a := 21) rfl
  have e22 := lv_neT h22 (a := 22) rfl
  have e23 := lv_neT h23 (a := 23) rfl
  have e24 := lv_neT h24 (a := 24) rfl
  have e25 := lv_neT h25 (a := 25) rfl
  have e26 := lv_neT h26 (a := 26) rfl
  have e27 := lv_neT h27 (a := 27) rfl
  have e28 := lv_neT h28 (a := 28) rfl
  have e29 := lv_neT h29 (a := 29) rfl
  have e30 := lv_neT h30 (a := 30) rfl
  have e31 := lv_neT h31 (a := 31) rfl
  have e32 := lv_neT h32 (a := 32) rfl
  have e33 := lv_neT h33 (a := 33) rfl
  have e34 := lv_neT h34 (a := 34) rfl
  omega
