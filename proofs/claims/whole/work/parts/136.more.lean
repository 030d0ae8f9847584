section CALLS2
variable {p : Program} {l : Launch} {e : Env} {R : Room} {s : State} {m : MethodId} {args : Array Value} {below : List Frame} {meth : Method} {c : Code} {H : Heap} {locs : List Loc} {Q : State → Prop}
variable {cc : ByteArray} {pc : Nat} {ls : Array Slot} {D : va_G} {y : Nat → ClassId} {H0 : Heap} {A0 : Nat → Prop} {nL : Nat} {Ts ws : List Cond} {own : String} {bytes : ByteArray} {maxL n index : Nat} {ret : Option FieldType} {rm : Room} {x : MethodName} {pre : va_W} {st : List Value} {lv : List (Nat × Value)} {cells slots : Nat}
set_option maxHeartbeats 4000000 in
theorem cStL {post : Int64 → Unit → Prop} (As rest : List Value) (FX : CallFix p m c cc nL s args Ts own) (hK : KK D y s) (hM : CtL l D y x ws rm As [] post (fun _ => []) (fun _ => False)) (cw : CallB R s args own index x bytes maxL ret ws rm 0 0 n ∧ (Cond.static x).before args s = true)
    (hst : st = As.reverse ++ rest) (hn : As.length = n) (hl : lv_has ls nL lv) (hroom : (rest.map fun v => v.category).sum ≤ 8) (hdg : decode cc pc = .ok (.invokestatic index, 3)) (hf : cells ≤ R.cells ∧ slots ≤ R.slots) (hP : va_P D vwCl pre H) (hS : va_S A0 H0 H locs)
    (k : ∀ (r : Int64) (H1 : Heap) (locs1 : List Loc), post r () → va_P D vwCl pre H1 → va_S A0 H0 H1 locs1 → W p l e R s m args below meth c H1 locs1 cells slots Q (F0 m (pc + 3) ls (.long r :: rest))) :
    W p l e R s m args below meth c H locs cells slots Q (F0 m pc ls st) :=
  va_calll (va_runS (As := As) (rest := rest) FX hM cw ⟨CPre.blind, CPre.at hK (fun k q h => by simp at h)⟩ rfl hn hl.1 hst (lv_room hroom) hdg hf) hS (fun q _ h => h.elim) (fun q h => h.elim) (fun r u t H1 locs1 ht _ hp hB hz hk hS1 => k r H1 locs1 hp (hP.kept (fun i q hi => hk q.1 (hP i q hi).lt (fun h => h))) hS1)
end CALLS2
