section SGO
variable {p : Program} {l : Launch} {e : Env} {R : Room} {s : State} {m : MethodId} {args : Array Value} {below : List Frame} {meth : Method} {c : Code} {H : Heap} {locs : List Loc} {cells slots : Nat} {Q : State → Prop}
variable {cc : ByteArray} {pc : Nat} {ls : Array Slot} {D : va_G} {cl : List vw_C} {A : Nat → Prop} {tys : List (ClassId × FieldType)}
theorem so_iret {β : Type} {v o : β} {Sc : List va_W} {Sf : β → List va_W} {rf : β → Int32} {r : Int32} (hm : some v = some o) (hx : p.tables.exec = Jvm.exec) (hb : c.code = cc) (hr : meth.sig.returnType = some .int) (hlocks : meth.locks = false) (hAe : A = va_A Sc.flatten s.heap.size) (hQ : Q = MQ below (cQi D cl tys s.heap.size Sc (rf o) (Sf o)) args s cells slots A) (hK : va_K D cl tys s) (hw : wk D cl A s.heap (Sf v) H locs) (he : rf v = r) (hdg : decode cc pc = .ok (.ireturn, 1)) : W p l e R s m args below meth c H locs cells slots Q (F0 m pc ls [.int r]) := by
  obtain rfl := Option.some.inj hm
  subst he
  exact sg_iret hx hb hr hlocks hAe hQ hK hw hdg
theorem so_zret {β : Type} {v o : β} {Sc : List va_W} {Sf : β → List va_W} {rf : β → Int32} {r : Int32} {ty : FieldType} (hm : some v = some o) (hx : p.tables.exec = Jvm.exec) (hb : c.code = cc) (hr : meth.sig.returnType = some ty) (hn : narrow ty (.int r) = .int r) (hlocks : meth.locks = false) (hAe : A = va_A Sc.flatten s.heap.size) (hQ : Q = MQ below (cQi D cl tys s.heap.size Sc (rf o) (Sf o)) args s cells slots A) (hK : va_K D cl tys s) (hw : wk D cl A s.heap (Sf v) H locs) (he : rf v = r) (hdg : decode cc pc = .ok (.ireturn, 1)) : W p l e R s m args below meth c H locs cells slots Q (F0 m pc ls [.int r]) := by
  obtain rfl := Option.some.inj hm
  subst he
  exact sg_zret hx hb hr hn hlocks hAe hQ hK hw hdg
theorem so_lret {β : Type} {v o : β} {Sc : List va_W} {Sf : β → List va_W} {rf : β → Int64} {r : Int64} (hm : some v = some o) (hx : p.tables.exec = Jvm.exec) (hb : c.code = cc) (hr : meth.sig.returnType = some .long) (hlocks : meth.locks = false) (hAe : A = va_A Sc.flatten s.heap.size) (hQ : Q = MQ below (cQl D cl tys s.heap.size Sc (rf o) (Sf o)) args s cells slots A) (hK : va_K D cl tys s) (hw : wk D cl A s.heap (Sf v) H locs) (he : rf v = r) (hdg : decode cc pc = .ok (.lreturn, 1)) : W p l e R s m args below meth c H locs cells slots Q (F0 m pc ls [.long r]) := by
  obtain rfl := Option.some.inj hm
  subst he
  exact sg_lret hx hb hr hlocks hAe hQ hK hw hdg
theorem so_vret {β : Type} {v o : β} {Sc : List va_W} {Sf : β → List va_W} (hm : some v = some o) (hx : p.tables.exec = Jvm.exec) (hb : c.code = cc) (hr : meth.sig.returnType = none) (hlocks : meth.locks = false) (hAe : A = va_A Sc.flatten s.heap.size) (hQ : Q = MQ below (cQv D cl tys s.heap.size Sc (Sf o)) args s cells slots A) (hK : va_K D cl tys s) (hw : wk D cl A s.heap (Sf v) H locs) (hdg : decode cc pc = .ok (.return_, 1)) : W p l e R s m args below meth c H locs cells slots Q (F0 m pc ls []) := by
  obtain rfl := Option.some.inj hm
  exact sg_vret hx hb hr hlocks hAe hQ hK hw hdg
end SGO
