section SGO
variable {p : Program} {l : Launch} {e : Env} {R : Room} {s : State} {m : MethodId} {args : Array Value} {below : List Frame} {meth : Method} {c : Code} {H : Heap} {locs : List Loc} {cells slots : Nat} {Q : State → Prop}
variable {cc : ByteArray} {pc : Nat} {ls : Array Slot} {D : va_G} {cl : List vw_C} {A : Nat → Prop} {tys : List (ClassId × FieldType)}
theorem so_iret {β : Type} {v o : β} {Sc : List va_W} {Sf : β → List va_W} {rf : β → Int32} {r : Int32} (hm : some v = some o) (hx : p.tables.exec = Jvm.exec) (hb : c.code = cc) (hr : meth.sig.returnType = some .int) (hlocks : meth.locks = false) (hAe : A = va_A Sc.flatten s.heap.size) (hQ : Q = MQ below (cQi D cl tys s.heap.size Sc (rf o) (Sf o)) args s cells slots A) (hK : va_K D cl tys s) (hw : wk D cl A s.heap (Sf v) H locs) (he : rf v = r) (hdg : decode cc pc = .ok (.ireturn, 1)) : W p l e R s m args below meth c H locs cells slots Q (F0 m pc ls [.int r]) := by
  obtain rfl := Option.some.inj hm
  subst he
  exact sg_iret hx hb hr hlocks hAe hQ hK hw hdg
theorem so_zret {β : Type} {v o : β} {Sc : List va_W} {Sf : β → List va_W} {rf : β → Int32} {r : Int32} {ty : FieldType} (hm : some v = some o) (hx : p.tables.exec = Jvm.exec) (hb : c.code = cc) (hr : meth.sig.returnType = some ty) (hn : narrow ty (.int r) = .int r) (hlocks : meth.locks = false) (hAe : A = va_A Sc.flatten s.heap.size) (hQ : Q = MQ below (cQi D cl tys s.heap.size Sc (rf o) (Sf o)) args s cells slots A) (hK : va_K D cl tys s) (hw : wk D cl A s.heap (Sf v) H locs) (he : rf v = r) (hdg : decode cc pc = .ok (.ireturn, 1)) : W p l e R s m args below meth c H locs cells slots Q (F0 m pc ls [.int r]) := by
  obtain rfl := Option.some.inj hm
  subst he
  exact sg_zret hx hb hr hn hlocks hAe hQ hK hw hdg
theorem so_lret {β : Type} {v o : β} {Sc : List va_W} {Sf : β → List va_W} {rf : β → Int64} {r : Int64} (hm : some v = some o) (hx : p.tables.exec = Jvm.exec) (hb : c.code = cc) (hr : meth.sig.returnType = some .long) (hlocks : meth.locks = false) (hAe : A = va_A Sc.flatten s.heap.size) (hQ : Q = MQ below (cQl D cl tys s.heap.size Sc (rf o) (Sf o)) args s cells slots A) (hK : va_K D cl tys s) (hw : wk D cl A s.heap (Sf v) H locs) (he : rf v = r) (hdg : decode cc pc = .ok (.lreturn, 1)) : W p l e R s m args below meth c H locs cells slots Q (F0 m pc ls [.long r]) := by
  obtain rfl := Option.some.inj hm
  subst he
  exact sg_lret hx hb hr hlocks hAe hQ hK hw hdg
theorem so_vret {β : Type} {v o : β} {Sc : List va_W} {Sf : β → List va_W} (hm : some v = some o) (hx : p.tables.exec = Jvm.exec) (hb : c.code = cc) (hr : meth.sig.returnType = none) (hlocks : meth.locks = false) (hAe : A = va_A Sc.flatten s.heap.size) (hQ : Q = MQ below (cQv D cl tys s.heap.size Sc (Sf o)) args s cells slots A) (hK : va_K D cl tys s) (hw : wk D cl A s.heap (Sf v) H locs) (hdg : decode cc pc = .ok (.return_, 1)) : W p l e R s m args below meth c H locs cells slots Q (F0 m pc ls []) := by
  obtain rfl := Option.some.inj hm
  exact sg_vret hx hb hr hlocks hAe hQ hK hw hdg
end SGO
-- a method that lays references anew tells the addresses at its end
def cQiA (D : va_G) (cl : List vw_C) (tys : List (ClassId × FieldType)) (sz : Nat) (Sc : List va_W) (r : Int32) (S1 : ADs → List va_W) : Array Value → State → Outcome → State → Prop := va_Qi (fun x (_ : ADs) => x = r) (fun u t => va_P D cl (S1 u).flatten t.heap ∧ va_K D cl tys t ∧ va_D (va_A Sc.flatten sz) (S1 u).flatten) (va_A Sc.flatten sz)
section SGA
variable {p : Program} {l : Launch} {e : Env} {R : Room} {s : State} {m : MethodId} {args : Array Value} {below : List Frame} {meth : Method} {c : Code} {H : Heap} {locs : List Loc} {cells slots : Nat} {Q : State → Prop}
variable {cc : ByteArray} {pc : Nat} {ls : Array Slot} {rest st0 : List Value} {D : va_G} {cl : List vw_C} {A : Nat → Prop} {tys : List (ClassId × FieldType)} {S : List va_W} {H0 : Heap}
theorem so_iretA {β : Type} {v o : β} {Sc : List va_W} {Sf : β → ADs → List va_W} {rf : β → Int32} {r : Int32} (u : ADs) (hm : some v = some o) (hx : p.tables.exec = Jvm.exec) (hb : c.code = cc) (hr : meth.sig.returnType = some .int) (hlocks : meth.locks = false) (hAe : A = va_A Sc.flatten s.heap.size) (hQ : Q = MQ below (cQiA D cl tys s.heap.size Sc (rf o) (Sf o)) args s cells slots A) (hK : va_K D cl tys s) (hw : wk D cl A s.heap (Sf v u) H locs) (he : rf v = r) (hdg : decode cc pc = .ok (.ireturn, 1)) : W p l e R s m args below meth c H locs cells slots Q (F0 m pc ls [.int r]) := by
  obtain rfl := Option.some.inj hm
  subst he
  subst hQ
  subst hAe
  exact W.iret hx hb hr (fun t ht hW => ⟨⟨_, u, rfl, rfl, by rw [ht]; exact hw.1, va_K.moved hW.alike hK, hw.2.1⟩, hw.2.2.F ht⟩) hw.2.2.2.2 hdg hlocks
theorem sg_ciA {Sc Sr : List va_W} {S1 : ADs → List va_W} {r : Int32} {av : Array Value} (hr : va_Run p l e R s m args below meth c H locs cells slots 0 0 (F0 m pc ls st0) rest (cQiA D cl tys H.size Sc r S1 av) (va_A Sc.flatten H.size)) (hw : wk D cl A H0 S H locs) (hA : ∀ q, H0.size ≤ q → A q) (isC isR : List Nat) (hC : isC.map (fun i => S[i]?) = Sc.map some) (hR : isR.map (fun i => S[i]?) = Sr.map some) (hn : va_nd isR = true) (hdis : ∀ i ∈ isR, i ∉ isC)
    (kk : ∀ (u : ADs) (H1 : Heap) (locs1 : List Loc), wk D cl A H0 (Sr ++ S1 u) H1 locs1 → W p l e R s m args below meth c H1 locs1 cells slots Q (F0 m (pc + 3) ls (.int r :: rest))) : W p l e R s m args below meth c H locs cells slots Q (F0 m pc ls st0) :=
  va_calli hr hw.2.2 (fun q _ h => sg_free hw hA hC q h) (fun q h => sg_free hw hA hC q h) (fun r' u t H1 locs1 ht hvm hp hB hz hk hS => by
    obtain ⟨hP1, hK1, hD1⟩ := hB
    rw [ht] at hP1
    subst hp
    exact kk u H1 locs1 (sg_join hw hA hC hR hn hdis hk hP1 hD1 hS))
end SGA
