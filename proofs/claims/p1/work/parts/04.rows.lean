-- 03.rows: rows over segments
def cP (D : va_G) (cl : List vw_C) (tys : List (ClassId × FieldType)) (av : List Value) (sz : Nat) (Sc : List va_W) : Array Value → State → Prop := va_Pc av (fun U => U.heap.size = sz ∧ va_P D cl Sc.flatten U.heap ∧ va_K D cl tys U ∧ va_D (fun _ => True) Sc.flatten ∧ NWs U)
def cB (D : va_G) (cl : List vw_C) (tys : List (ClassId × FieldType)) (sz : Nat) (Sc S1 : List va_W) : Unit → State → Prop := fun _ t => va_P D cl S1.flatten t.heap ∧ va_K D cl tys t ∧ va_D (va_A Sc.flatten sz) S1.flatten
def cQi (D : va_G) (cl : List vw_C) (tys : List (ClassId × FieldType)) (sz : Nat) (Sc : List va_W) (r : Int32) (S1 : List va_W) : Array Value → State → Outcome → State → Prop := va_Qi (fun x (_ : Unit) => x = r) (cB D cl tys sz Sc S1) (va_A Sc.flatten sz)
def cQl (D : va_G) (cl : List vw_C) (tys : List (ClassId × FieldType)) (sz : Nat) (Sc : List va_W) (r : Int64) (S1 : List va_W) : Array Value → State → Outcome → State → Prop := va_Ql (fun x (_ : Unit) => x = r) (cB D cl tys sz Sc S1) (va_A Sc.flatten sz)
def cQv (D : va_G) (cl : List vw_C) (tys : List (ClassId × FieldType)) (sz : Nat) (Sc : List va_W) (S1 : List va_W) : Array Value → State → Outcome → State → Prop := va_Qv (fun (_ : Unit) => True) (cB D cl tys sz Sc S1) (va_A Sc.flatten sz)
theorem cP_blind {D : va_G} {cl : List vw_C} {tys : List (ClassId × FieldType)} {av : List Value} {sz : Nat} {Sc : List va_W} : FrameBlind (cP D cl tys av sz Sc) := fun a U g mk q => by
  obtain ⟨q0, q1, qP, qK, qD, qN⟩ := q
  exact ⟨q0, q1, qP, va_K.moved (u := U) (U := U.calling g mk a) (Vm.Alike.refl U.vm) qK, qD, NWs.same (s := U) (U := U.calling g mk a) rfl qN⟩
section SG
variable {p : Program} {l : Launch} {e : Env} {R : Room} {s : State} {m : MethodId} {args : Array Value} {below : List Frame} {meth : Method} {c : Code} {H : Heap} {locs : List Loc} {cells slots : Nat} {Q : State → Prop}
variable {cc : ByteArray} {pc : Nat} {ls : Array Slot} {rest st0 : List Value} {D : va_G} {cl : List vw_C} {A : Nat → Prop} {a : Nat} {tys : List (ClassId × FieldType)} {S : List va_W} {H0 : Heap}
theorem sg_met {y : MethodName} {rm : Room} {av : List Value} {Sc : List va_W} {mc ms : Nat} {maxL : Nat} {ret : Option FieldType} (Qc : Nat → Array Value → State → Outcome → State → Prop) (hy : plainName y.cls = true) (hlen : (lg_sl av).length ≤ maxL)
    (body : ∀ (p : Program) (e : Env) (s : State) (m : MethodId) (args : Array Value) (below : List Frame) (meth : Method) (c : Code) (A : Nat → Prop) (Q : State → Prop) (ls : Array Slot), p.tables.exec = Jvm.exec → c.code = cc → meth.sig.returnType = ret → (∀ w ∈ BIG, w.before args s = true) → s.vm.findClass y.cls = some m.cls → meth.locks = false → c.maxLocals = maxL → meth.name = y.name → va_K D cl tys s → NWs s → (∀ q, s.heap.size ≤ q → A q) → A = va_A Sc.flatten s.heap.size → Q = MQ below (Qc s.heap.size) args s mc ms A → wk D cl A s.heap Sc s.heap [] → lv_has ls maxL (lv_args 0 av) → W p l e rm s m args below meth c s.heap [] 0 0 Q (F0 m 0 ls [])) : ∀ sz : Nat, Met l y (.code y cc maxL ret :: BIG) rm (cP D cl tys av sz Sc) (Qc sz) mc ms (va_A Sc.flatten sz) := by
  intro sz
  refine Met.ofW (cc := cc) (maxL := maxL) (ret := ret) hy rfl ?_
  intro p e s m args below meth c s₁ B hml hv
  obtain ⟨hargs, hsz, hP, hK, hD0, hNW⟩ := hv
  subst hsz
  have he : entryFrame m args maxL = F0 m 0 ((lg_sl av ++ List.replicate (maxL - (lg_sl av).length) Slot.unset).toArray) [] := by rw [hargs, lg_entry_eq]
  rw [he]
  exact body p e s m args below meth c _ _ _ B.exec B.bytes B.returns (fun w h => atoms_spec (ws := .code y cc maxL ret :: BIG) B.pre w (List.mem_cons_of_mem _ h)) (findClass_of_methodNamed B.named) B.notSynchronized hml (name_of_methodNamed B.named B.method).1 hK hNW (fun q h => Or.inr h) rfl rfl ⟨hP, hD0.self, va_S.rf⟩ (lv_entry av hlen)
theorem sg_metF {y : MethodName} {rm : Room} {av : List Value} {Sc : List va_W} {mc ms : Nat} {maxL : Nat} {ret : Option FieldType} (Qc : Nat → Array Value → State → Outcome → State → Prop) (hy : plainFor y = true) (hlen : (lg_sl av).length ≤ maxL)
    (body : ∀ (p : Program) (e : Env) (s : State) (m : MethodId) (args : Array Value) (below : List Frame) (meth : Method) (c : Code) (A : Nat → Prop) (Q : State → Prop) (ls : Array Slot), p.tables.exec = Jvm.exec → c.code = cc → meth.sig.returnType = ret → (∀ w ∈ BIG, w.before args s = true) → s.vm.findClass y.cls = some m.cls → meth.locks = false → c.maxLocals = maxL → meth.name = y.name → va_K D cl tys s → NWs s → (∀ q, s.heap.size ≤ q → A q) → A = va_A Sc.flatten s.heap.size → Q = MQ below (Qc s.heap.size) args s mc ms A → wk D cl A s.heap Sc s.heap [] → lv_has ls maxL (lv_args 0 av) → W p l e rm s m args below meth c s.heap [] 0 0 Q (F0 m 0 ls [])) : ∀ sz : Nat, Met l y (.code y cc maxL ret :: BIG) rm (cP D cl tys av sz Sc) (Qc sz) mc ms (va_A Sc.flatten sz) := by
  intro sz
  refine va_MetF (cc := cc) (maxL := maxL) (ret := ret) hy rfl ?_
  intro p e s m args below meth c s₁ B hml hv
  obtain ⟨hargs, hsz, hP, hK, hD0, hNW⟩ := hv
  subst hsz
  have he : entryFrame m args maxL = F0 m 0 ((lg_sl av ++ List.replicate (maxL - (lg_sl av).length) Slot.unset).toArray) [] := by rw [hargs, lg_entry_eq]
  rw [he]
  exact body p e s m args below meth c _ _ _ B.exec B.bytes B.returns (fun w h => atoms_spec (ws := .code y cc maxL ret :: BIG) B.pre w (List.mem_cons_of_mem _ h)) (findClass_of_methodNamed B.named) B.notSynchronized hml (name_of_methodNamed B.named B.method).1 hK hNW (fun q h => Or.inr h) rfl rfl ⟨hP, hD0.self, va_S.rf⟩ (lv_entry av hlen)
theorem sg_iret {Sc S1 : List va_W} {r : Int32} (hx : p.tables.exec = Jvm.exec) (hb : c.code = cc) (hr : meth.sig.returnType = some .int) (hlocks : meth.locks = false) (hAe : A = va_A Sc.flatten s.heap.size) (hQ : Q = MQ below (cQi D cl tys s.heap.size Sc r S1) args s cells slots A) (hK : va_K D cl tys s) (hw : wk D cl A s.heap S1 H locs) (hdg : decode cc pc = .ok (.ireturn, 1)) : W p l e R s m args below meth c H locs cells slots Q (F0 m pc ls [.int r]) := by
  subst hQ
  subst hAe
  exact W.iret hx hb hr (fun t ht hW => ⟨⟨r, (), rfl, rfl, by rw [ht]; exact hw.1, va_K.moved hW.alike hK, hw.2.1⟩, hw.2.2.F ht⟩) hw.2.2.2.2 hdg hlocks
theorem sg_zret {Sc S1 : List va_W} {r : Int32} {ty : FieldType} (hx : p.tables.exec = Jvm.exec) (hb : c.code = cc) (hr : meth.sig.returnType = some ty) (hn : narrow ty (.int r) = .int r) (hlocks : meth.locks = false) (hAe : A = va_A Sc.flatten s.heap.size) (hQ : Q = MQ below (cQi D cl tys s.heap.size Sc r S1) args s cells slots A) (hK : va_K D cl tys s) (hw : wk D cl A s.heap S1 H locs) (hdg : decode cc pc = .ok (.ireturn, 1)) : W p l e R s m args below meth c H locs cells slots Q (F0 m pc ls [.int r]) := by
  subst hQ
  subst hAe
  exact W.zret hx hb hr hn (fun t ht hW => ⟨⟨r, (), rfl, rfl, by rw [ht]; exact hw.1, va_K.moved hW.alike hK, hw.2.1⟩, hw.2.2.F ht⟩) hw.2.2.2.2 hdg hlocks
theorem sg_lret {Sc S1 : List va_W} {r : Int64} (hx : p.tables.exec = Jvm.exec) (hb : c.code = cc) (hr : meth.sig.returnType = some .long) (hlocks : meth.locks = false) (hAe : A = va_A Sc.flatten s.heap.size) (hQ : Q = MQ below (cQl D cl tys s.heap.size Sc r S1) args s cells slots A) (hK : va_K D cl tys s) (hw : wk D cl A s.heap S1 H locs) (hdg : decode cc pc = .ok (.lreturn, 1)) : W p l e R s m args below meth c H locs cells slots Q (F0 m pc ls [.long r]) := by
  subst hQ
  subst hAe
  exact W.lret hx hb hr (fun t ht hW => ⟨⟨r, (), rfl, rfl, by rw [ht]; exact hw.1, va_K.moved hW.alike hK, hw.2.1⟩, hw.2.2.F ht⟩) hw.2.2.2.2 hdg hlocks
theorem sg_vret {Sc S1 : List va_W} (hx : p.tables.exec = Jvm.exec) (hb : c.code = cc) (hr : meth.sig.returnType = none) (hlocks : meth.locks = false) (hAe : A = va_A Sc.flatten s.heap.size) (hQ : Q = MQ below (cQv D cl tys s.heap.size Sc S1) args s cells slots A) (hK : va_K D cl tys s) (hw : wk D cl A s.heap S1 H locs) (hdg : decode cc pc = .ok (.return_, 1)) : W p l e R s m args below meth c H locs cells slots Q (F0 m pc ls []) := by
  subst hQ
  subst hAe
  exact W.vret hx hb hr (fun t ht hW => ⟨⟨(), rfl, trivial, by rw [ht]; exact hw.1, va_K.moved hW.alike hK, hw.2.1⟩, hw.2.2.F ht⟩) hw.2.2.2.2 hdg hlocks
-- fields
theorem sg_get (hx : p.tables.exec = Jvm.exec) (hb : c.code = cc) {own ref C : String} {T : u_T} {N ci index : Nat} {Ts : List Cond} (hts : ∀ w ∈ Ts, w.before args s = true) (hin : ∀ w ∈ u_ws C T N, w ∈ Ts) (hown : s.vm.findClass own = some m.cls) (hK : va_K D cl tys s) (hw : wk D cl A H0 S H locs) (q0 : Nat) {fs : List Value} (he : S[q0]? = some [(a, .inr (ci, fs))]) (hc : cl[ci]? = some (C, T, N)) (k : Nat) (hk : k < N) (hlink : (Cond.fieldLink own index ref (T k).2.1 (T k).2.2.1).before args s = true) (hsame : ref = (T k).1) {v : Value} (hv : fs[k]? = some v) (hdg : decode cc pc = .ok (.getfield index, 3))
    (kk : W p l e R s m args below meth c H locs cells slots Q (F0 m (pc + 3) ls (v :: rest))) : W p l e R s m args below meth c H locs cells slots Q (F0 m pc ls (.ref a :: rest)) := by
  obtain ⟨k0, h1, -⟩ := sg_at (i := 0) he rfl
  exact va_get hx hb hts hin hown hK hw.1 k0 h1 hc k hk hlink (fun _ h => by rw [hsame]; exact h) hv hdg kk
theorem sg_getN (hx : p.tables.exec = Jvm.exec) (hb : c.code = cc) {own ref C host : String} {T : u_T} {N ci index : Nat} {Ts : List Cond} (hts : ∀ w ∈ Ts, w.before args s = true) (hin : ∀ w ∈ u_ws C T N, w ∈ Ts) (hown : s.vm.findClass own = some m.cls) (hK : va_K D cl tys s) (hw : wk D cl A H0 S H locs) (q0 : Nat) {fs : List Value} (he : S[q0]? = some [(a, .inr (ci, fs))]) (hc : cl[ci]? = some (C, T, N)) (k : Nat) (hk : k < N) (hlink : (Cond.fieldLinkNest own index ref (T k).2.1 (T k).2.2.1 host).before args s = true) (hsame : ref = (T k).1) {v : Value} (hv : fs[k]? = some v) (hdg : decode cc pc = .ok (.getfield index, 3))
    (kk : W p l e R s m args below meth c H locs cells slots Q (F0 m (pc + 3) ls (v :: rest))) : W p l e R s m args below meth c H locs cells slots Q (F0 m pc ls (.ref a :: rest)) := by
  obtain ⟨k0, h1, -⟩ := sg_at (i := 0) he rfl
  exact va_getN hx hb hts hin hown hK hw.1 k0 h1 hc k hk hlink (fun _ h => by rw [hsame]; exact h) hv hdg kk
theorem sg_put (hx : p.tables.exec = Jvm.exec) (hb : c.code = cc) {own ref C : String} {T : u_T} {N ci index : Nat} {Ts : List Cond} (hts : ∀ w ∈ Ts, w.before args s = true) (hin : ∀ w ∈ u_ws C T N, w ∈ Ts) (ty0 : Nat → FieldType) (hty : ∀ k, k < N → parseFieldDescriptor (T k).2.2.1 = some (ty0 k)) (hnm : ∀ a, a < N → ∀ b, b < N → a ≠ b → (T a).2.1 ≠ (T b).2.1) (hown : s.vm.findClass own = some m.cls) (hK : va_K D cl tys s) (hw : wk D cl A H0 S H locs) (q0 : Nat) {fs : List Value} (he : S[q0]? = some [(a, .inr (ci, fs))]) (hc : cl[ci]? = some (C, T, N)) (k : Nat) (hk : k < N) (hlink : (Cond.fieldLink own index ref (T k).2.1 (T k).2.2.1).before args s = true) (hsame : ref = (T k).1) (hfin : (T k).2.2.2 = false) {ty : FieldType} {v : Value} (hd : parseFieldDescriptor (T k).2.2.1 = some ty) (hn : narrow ty v = v) (hfit : fits ty v = true) (hl : k < fs.length) {S1 : List va_W} (hS1 : S.set q0 [(a, .inr (ci, fs.set k v))] = S1)
    (hdg : decode cc pc = .ok (.putfield index, 3)) (kk : ∀ (H1 : Heap) (locs1 : List Loc), wk D cl A H0 S1 H1 locs1 → W p l e R s m args below meth c H1 locs1 cells slots Q (F0 m (pc + 3) ls rest)) : W p l e R s m args below meth c H locs cells slots Q (F0 m pc ls (v :: .ref a :: rest)) := by
  obtain ⟨k0, h1, h2⟩ := sg_at (i := 0) he rfl
  refine va_put hx hb hts hin ty0 hty hnm hown hK hw.1 hw.2.1 hw.2.2 k0 h1 hc k hk hlink (fun _ h => by rw [hsame]; exact h) hfin hd hn hfit hl hdg (fun H1 locs1 p1 p2 p3 => kk H1 locs1 ?_)
  rw [h2] at p1 p2
  subst hS1
  exact ⟨p1, p2, p3⟩
theorem sg_putN (hx : p.tables.exec = Jvm.exec) (hb : c.code = cc) {own ref C host : String} {T : u_T} {N ci index : Nat} {Ts : List Cond} (hts : ∀ w ∈ Ts, w.before args s = true) (hin : ∀ w ∈ u_ws C T N, w ∈ Ts) (ty0 : Nat → FieldType) (hty : ∀ k, k < N → parseFieldDescriptor (T k).2.2.1 = some (ty0 k)) (hnm : ∀ a, a < N → ∀ b, b < N → a ≠ b → (T a).2.1 ≠ (T b).2.1) (hown : s.vm.findClass own = some m.cls) (hK : va_K D cl tys s) (hw : wk D cl A H0 S H locs) (q0 : Nat) {fs : List Value} (he : S[q0]? = some [(a, .inr (ci, fs))]) (hc : cl[ci]? = some (C, T, N)) (k : Nat) (hk : k < N) (hlink : (Cond.fieldLinkNest own index ref (T k).2.1 (T k).2.2.1 host).before args s = true) (hsame : ref = (T k).1) (hfin : (T k).2.2.2 = false) {ty : FieldType} {v : Value} (hd : parseFieldDescriptor (T k).2.2.1 = some ty) (hn : narrow ty v = v) (hfit : fits ty v = true) (hl : k < fs.length) {S1 : List va_W} (hS1 : S.set q0 [(a, .inr (ci, fs.set k v))] = S1)
    (hdg : decode cc pc = .ok (.putfield index, 3)) (kk : ∀ (H1 : Heap) (locs1 : List Loc), wk D cl A H0 S1 H1 locs1 → W p l e R s m args below meth c H1 locs1 cells slots Q (F0 m (pc + 3) ls rest)) : W p l e R s m args below meth c H locs cells slots Q (F0 m pc ls (v :: .ref a :: rest)) := by
  obtain ⟨k0, h1, h2⟩ := sg_at (i := 0) he rfl
  refine va_putN hx hb hts hin ty0 hty hnm hown hK hw.1 hw.2.1 hw.2.2 k0 h1 hc k hk hlink (fun _ h => by rw [hsame]; exact h) hfin hd hn hfit hl hdg (fun H1 locs1 p1 p2 p3 => kk H1 locs1 ?_)
  rw [h2] at p1 p2
  subst hS1
  exact ⟨p1, p2, p3⟩
theorem sg_putF (hx : p.tables.exec = Jvm.exec) (hb : c.code = cc) {own ref C : String} {T : u_T} {N ci index : Nat} {Ts : List Cond} (hts : ∀ w ∈ Ts, w.before args s = true) (hin : ∀ w ∈ u_ws C T N, w ∈ Ts) (ty0 : Nat → FieldType) (hty : ∀ k, k < N → parseFieldDescriptor (T k).2.2.1 = some (ty0 k)) (hnm : ∀ a, a < N → ∀ b, b < N → a ≠ b → (T a).2.1 ≠ (T b).2.1) (hown : s.vm.findClass own = some m.cls) (hK : va_K D cl tys s) (hw : wk D cl A H0 S H locs) (q0 : Nat) {fs : List Value} (he : S[q0]? = some [(a, .inr (ci, fs))]) (hc : cl[ci]? = some (C, T, N)) (k : Nat) (hk : k < N) (hlink : (Cond.fieldLink own index ref (T k).2.1 (T k).2.2.1).before args s = true) (hsame : ref = (T k).1) (hfin : (T k).2.2.2 = true) (hin2 : meth.name = "<init>") (hdecl : (T k).1 = own) {ty : FieldType} {v : Value} (hd : parseFieldDescriptor (T k).2.2.1 = some ty) (hn : narrow ty v = v) (hfit : fits ty v = true) (hl : k < fs.length) {S1 : List va_W} (hS1 : S.set q0 [(a, .inr (ci, fs.set k v))] = S1)
    (hdg : decode cc pc = .ok (.putfield index, 3)) (kk : ∀ (H1 : Heap) (locs1 : List Loc), wk D cl A H0 S1 H1 locs1 → W p l e R s m args below meth c H1 locs1 cells slots Q (F0 m (pc + 3) ls rest)) : W p l e R s m args below meth c H locs cells slots Q (F0 m pc ls (v :: .ref a :: rest)) := by
  obtain ⟨k0, h1, h2⟩ := sg_at (i := 0) he rfl
  refine va_putF hx hb hts hin ty0 hty hnm hown hK hw.1 hw.2.1 hw.2.2 k0 h1 hc k hk hlink (fun _ h => by rw [hsame]; exact h) hfin hin2 hdecl hd hn hfit hl hdg (fun H1 locs1 p1 p2 p3 => kk H1 locs1 ?_)
  rw [h2] at p1 p2
  subst hS1
  exact ⟨p1, p2, p3⟩
-- arrays of ints and longs; the model asks the index
theorem sg_iald (hx : p.tables.exec = Jvm.exec) (hb : c.code = cc) (hK : va_K D cl tys s) (hw : wk D cl A H0 S H locs) (q0 t0 : Nat) {cA : ClassId} {n : Nat} {f : Nat → Int32} (ha : S[q0]? = some [(a, .inl (cA, n, .inl f))]) (ht : tys[t0]? = some (cA, .int)) {i : Int32} (hdg : decode cc pc = .ok (.iaload, 1)) {β : Type} {k : Option β} {o : β} (hm : (if sg_in i n = true then k else none) = some o)
    (kk : k = some o → W p l e R s m args below meth c H locs cells slots Q (F0 m (pc + 1) ls (.int (f i.toNatClampNeg) :: rest))) : W p l e R s m args below meth c H locs cells slots Q (F0 m pc ls (.int i :: .ref a :: rest)) := by
  obtain ⟨hi, hm⟩ := it_n hm
  obtain ⟨k0, h1, -⟩ := sg_at (i := 0) ha rfl
  exact va_iald hx hb hK hw.1 k0 t0 h1 ht (sg_in_vp hi) hdg (kk hm)
theorem sg_lald (hx : p.tables.exec = Jvm.exec) (hb : c.code = cc) (hK : va_K D cl tys s) (hw : wk D cl A H0 S H locs) (q0 t0 : Nat) {cA : ClassId} {n : Nat} {f : Nat → Int64} (ha : S[q0]? = some [(a, .inl (cA, n, .inr (.inl f)))]) (ht : tys[t0]? = some (cA, .long)) {i : Int32} (hdg : decode cc pc = .ok (.laload, 1)) {β : Type} {k : Option β} {o : β} (hm : (if sg_in i n = true then k else none) = some o)
    (kk : k = some o → W p l e R s m args below meth c H locs cells slots Q (F0 m (pc + 1) ls (.long (f i.toNatClampNeg) :: rest))) : W p l e R s m args below meth c H locs cells slots Q (F0 m pc ls (.int i :: .ref a :: rest)) := by
  obtain ⟨hi, hm⟩ := it_n hm
  obtain ⟨k0, h1, -⟩ := sg_at (i := 0) ha rfl
  exact va_lald hx hb hK hw.1 k0 t0 h1 ht (sg_in_vp hi) hdg (kk hm)
theorem sg_iast (hx : p.tables.exec = Jvm.exec) (hb : c.code = cc) (hK : va_K D cl tys s) (hw : wk D cl A H0 S H locs) (q0 t0 : Nat) {cA : ClassId} {n : Nat} {f : Nat → Int32} (ha : S[q0]? = some [(a, .inl (cA, n, .inl f))]) (ht : tys[t0]? = some (cA, .int)) {i x : Int32} (hdg : decode cc pc = .ok (.iastore, 1)) {β : Type} {k : (Nat → Int32) → Option β} {o : β} {S1 : (Nat → Int32) → List va_W} (hS1 : ∀ g, S.set q0 [(a, .inl (cA, n, .inl g))] = S1 g) (hm : (if sg_in i n = true then zl (upd f i.toNatClampNeg x) k else none) = some o)
    (kk : ∀ (g : Nat → Int32) (H1 : Heap) (locs1 : List Loc), k g = some o → wk D cl A H0 (S1 g) H1 locs1 → W p l e R s m args below meth c H1 locs1 cells slots Q (F0 m (pc + 1) ls rest)) : W p l e R s m args below meth c H locs cells slots Q (F0 m pc ls (.int x :: .int i :: .ref a :: rest)) := by
  obtain ⟨hi, hm⟩ := it_n hm
  obtain ⟨k0, h1, h2⟩ := sg_at (i := 0) ha rfl
  refine va_iast hx hb hK hw.1 hw.2.1 hw.2.2 k0 t0 h1 ht (sg_in_vp hi) hdg (fun H1 locs1 p1 p2 p3 => kk _ H1 locs1 hm ?_)
  rw [h2] at p1 p2
  rw [← hS1]
  exact ⟨p1, p2, p3⟩
theorem sg_last (hx : p.tables.exec = Jvm.exec) (hb : c.code = cc) (hK : va_K D cl tys s) (hw : wk D cl A H0 S H locs) (q0 t0 : Nat) {cA : ClassId} {n : Nat} {f : Nat → Int64} (ha : S[q0]? = some [(a, .inl (cA, n, .inr (.inl f)))]) (ht : tys[t0]? = some (cA, .long)) {i : Int32} {x : Int64} (hdg : decode cc pc = .ok (.lastore, 1)) {β : Type} {k : (Nat → Int64) → Option β} {o : β} {S1 : (Nat → Int64) → List va_W} (hS1 : ∀ g, S.set q0 [(a, .inl (cA, n, .inr (.inl g)))] = S1 g) (hm : (if sg_in i n = true then zl (vp_updL f i.toNatClampNeg x) k else none) = some o)
    (kk : ∀ (g : Nat → Int64) (H1 : Heap) (locs1 : List Loc), k g = some o → wk D cl A H0 (S1 g) H1 locs1 → W p l e R s m args below meth c H1 locs1 cells slots Q (F0 m (pc + 1) ls rest)) : W p l e R s m args below meth c H locs cells slots Q (F0 m pc ls (.long x :: .int i :: .ref a :: rest)) := by
  obtain ⟨hi, hm⟩ := it_n hm
  obtain ⟨k0, h1, h2⟩ := sg_at (i := 0) ha rfl
  refine va_last hx hb hK hw.1 hw.2.1 hw.2.2 k0 t0 h1 ht (sg_in_vp hi) hdg (fun H1 locs1 p1 p2 p3 => kk _ H1 locs1 hm ?_)
  rw [h2] at p1 p2
  rw [← hS1]
  exact ⟨p1, p2, p3⟩
theorem sg_alen (hx : p.tables.exec = Jvm.exec) (hb : c.code = cc) (hK : va_K D cl tys s) (hw : wk D cl A H0 S H locs) (q0 t0 : Nat) {cA : ClassId} {x : vp_A} (ha : S[q0]? = some [(a, .inl (cA, x))]) {ty : FieldType} (ht : tys[t0]? = some (cA, ty)) {v : Int32} (hv : Int32.ofNat x.1 = v) (hdg : decode cc pc = .ok (.arraylength, 1))
    (kk : W p l e R s m args below meth c H locs cells slots Q (F0 m (pc + 1) ls (.int v :: rest))) : W p l e R s m args below meth c H locs cells slots Q (F0 m pc ls (.ref a :: rest)) := by
  obtain ⟨k0, h1, -⟩ := sg_at (i := 0) ha rfl
  exact va_alen hx hb hK hw.1 k0 t0 h1 ht hv hdg kk
-- a row of a grid
theorem sg_rald (hx : p.tables.exec = Jvm.exec) (hb : c.code = cc) (hK : va_K D cl tys s) (hw : wk D cl A H0 S H locs) (q0 t0 : Nat) {cA : ClassId} {n k0 r : Nat} {d : Nat → Nat} {M : Nat → Nat → Int32} (ha : S[q0]? = some (gl cA d n k0 M)) (hr : r < n) (ht : tys[t0]? = some (cA, .int)) {i : Int32} (hdg : decode cc pc = .ok (.iaload, 1)) {β : Type} {k : Option β} {o : β} (hm : (if sg_in i k0 = true then k else none) = some o)
    (kk : k = some o → W p l e R s m args below meth c H locs cells slots Q (F0 m (pc + 1) ls (.int (M r i.toNatClampNeg) :: rest))) : W p l e R s m args below meth c H locs cells slots Q (F0 m pc ls (.int i :: .ref (d r) :: rest)) := by
  obtain ⟨hi, hm⟩ := it_n hm
  obtain ⟨k1, h1, -⟩ := sg_at ha (gl_at hr)
  exact va_iald hx hb hK hw.1 k1 t0 h1 ht (sg_in_vp hi) hdg (kk hm)
theorem sg_rast (hx : p.tables.exec = Jvm.exec) (hb : c.code = cc) (hK : va_K D cl tys s) (hw : wk D cl A H0 S H locs) (q0 t0 : Nat) {cA : ClassId} {n k0 r : Nat} {d : Nat → Nat} {M : Nat → Nat → Int32} (ha : S[q0]? = some (gl cA d n k0 M)) (hr : r < n) (ht : tys[t0]? = some (cA, .int)) {i x : Int32} (hdg : decode cc pc = .ok (.iastore, 1)) {β : Type} {k : (Nat → Nat → Int32) → Option β} {o : β} {S1 : (Nat → Nat → Int32) → List va_W} (hS1 : ∀ g, S.set q0 (gl cA d n k0 g) = S1 g) (hm : (if sg_in i k0 = true then zl (gup M r i.toNatClampNeg x) k else none) = some o)
    (kk : ∀ (g : Nat → Nat → Int32) (H1 : Heap) (locs1 : List Loc), k g = some o → wk D cl A H0 (S1 g) H1 locs1 → W p l e R s m args below meth c H1 locs1 cells slots Q (F0 m (pc + 1) ls rest)) : W p l e R s m args below meth c H locs cells slots Q (F0 m pc ls (.int x :: .int i :: .ref (d r) :: rest)) := by
  obtain ⟨hi, hm⟩ := it_n hm
  obtain ⟨k1, h1, h2⟩ := sg_at ha (gl_at hr)
  refine va_iast hx hb hK hw.1 hw.2.1 hw.2.2 k1 t0 h1 ht (sg_in_vp hi) hdg (fun H1 locs1 p1 p2 p3 => kk _ H1 locs1 hm ?_)
  rw [h2, gl_set hr] at p1 p2
  rw [← hS1]
  exact ⟨p1, p2, p3⟩
theorem sg_lt {i : Int32} {n : Nat} (h : sg_in i n = true) : i.toNatClampNeg < n := by
  simp only [sg_in, Bool.and_eq_true, decide_eq_true_eq] at h
  exact h.2
-- calls
theorem sg_ci {Sc Sr S1 : List va_W} {r : Int32} {av : Array Value} {mc ms : Nat} (hr : va_Run p l e R s m args below meth c H locs cells slots mc ms (F0 m pc ls st0) rest (cQi D cl tys H.size Sc r S1 av) (va_A Sc.flatten H.size)) (hw : wk D cl A H0 S H locs) (hA : ∀ q, H0.size ≤ q → A q) (isC isR : List Nat) (hC : isC.map (fun i => S[i]?) = Sc.map some) (hR : isR.map (fun i => S[i]?) = Sr.map some) (hn : va_nd isR = true) (hdis : ∀ i ∈ isR, i ∉ isC)
    (kk : ∀ (H1 : Heap) (locs1 : List Loc), wk D cl A H0 (Sr ++ S1) H1 locs1 → W p l e R s m args below meth c H1 locs1 (cells + mc) (slots + ms) Q (F0 m (pc + 3) ls (.int r :: rest))) : W p l e R s m args below meth c H locs cells slots Q (F0 m pc ls st0) :=
  va_calli hr hw.2.2 (fun q _ h => sg_free hw hA hC q h) (fun q h => sg_free hw hA hC q h) (fun r' u t H1 locs1 ht hvm hp hB hz hk hS => by
    obtain ⟨hP1, hK1, hD1⟩ := hB
    rw [ht] at hP1
    subst hp
    exact kk H1 locs1 (sg_join hw hA hC hR hn hdis hk hP1 hD1 hS))
theorem sg_cl {Sc Sr S1 : List va_W} {r : Int64} {av : Array Value} {mc ms : Nat} (hr : va_Run p l e R s m args below meth c H locs cells slots mc ms (F0 m pc ls st0) rest (cQl D cl tys H.size Sc r S1 av) (va_A Sc.flatten H.size)) (hw : wk D cl A H0 S H locs) (hA : ∀ q, H0.size ≤ q → A q) (isC isR : List Nat) (hC : isC.map (fun i => S[i]?) = Sc.map some) (hR : isR.map (fun i => S[i]?) = Sr.map some) (hn : va_nd isR = true) (hdis : ∀ i ∈ isR, i ∉ isC)
    (kk : ∀ (H1 : Heap) (locs1 : List Loc), wk D cl A H0 (Sr ++ S1) H1 locs1 → W p l e R s m args below meth c H1 locs1 (cells + mc) (slots + ms) Q (F0 m (pc + 3) ls (.long r :: rest))) : W p l e R s m args below meth c H locs cells slots Q (F0 m pc ls st0) :=
  va_calll hr hw.2.2 (fun q _ h => sg_free hw hA hC q h) (fun q h => sg_free hw hA hC q h) (fun r' u t H1 locs1 ht hvm hp hB hz hk hS => by
    obtain ⟨hP1, hK1, hD1⟩ := hB
    rw [ht] at hP1
    subst hp
    exact kk H1 locs1 (sg_join hw hA hC hR hn hdis hk hP1 hD1 hS))
theorem sg_cv {Sc Sr S1 : List va_W} {av : Array Value} {mc ms : Nat} (hr : va_Run p l e R s m args below meth c H locs cells slots mc ms (F0 m pc ls st0) rest (cQv D cl tys H.size Sc S1 av) (va_A Sc.flatten H.size)) (hw : wk D cl A H0 S H locs) (hA : ∀ q, H0.size ≤ q → A q) (isC isR : List Nat) (hC : isC.map (fun i => S[i]?) = Sc.map some) (hR : isR.map (fun i => S[i]?) = Sr.map some) (hn : va_nd isR = true) (hdis : ∀ i ∈ isR, i ∉ isC)
    (kk : ∀ (H1 : Heap) (locs1 : List Loc), wk D cl A H0 (Sr ++ S1) H1 locs1 → W p l e R s m args below meth c H1 locs1 (cells + mc) (slots + ms) Q (F0 m (pc + 3) ls rest)) : W p l e R s m args below meth c H locs cells slots Q (F0 m pc ls st0) :=
  va_callv hr hw.2.2 (fun q _ h => sg_free hw hA hC q h) (fun q h => sg_free hw hA hC q h) (fun u t H1 locs1 ht hvm hp hB hz hk hS => by
    obtain ⟨hP1, hK1, hD1⟩ := hB
    rw [ht] at hP1
    exact kk H1 locs1 (sg_join hw hA hC hR hn hdis hk hP1 hD1 hS))
theorem sg_preS {Sc : List va_W} {av : List Value} (hK : va_K D cl tys s) (hNW : NWs s) (hw : wk D cl A H0 S H locs) (isC : List Nat) (hn : va_nd isC = true) (hC : isC.map (fun i => S[i]?) = Sc.map some) : PreS s H (cP D cl tys av H.size Sc) av := ⟨cP_blind, fun U hU hW => ⟨rfl, by rw [hU], by rw [hU]; exact sg_Psub hw.1 hC, va_K.moved hW.alike hK, (sg_Dsub hw.2.1 hn hC).weaken (fun _ _ _ _ => trivial), hNW.warm hW⟩⟩
theorem sg_preV {Sc : List va_W} {As : List Value} {b ci q0 : Nat} {fs : List Value} {q : vw_C} (hK : va_K D cl tys s) (hNW : NWs s) (hw : wk D cl A H0 S H locs) (isC : List Nat) (hn : va_nd isC = true) (hC : isC.map (fun i => S[i]?) = Sc.map some) (hc : cl[ci]? = some q) (he : S[q0]? = some [(b, .inr (ci, fs))]) : PreV s H q.1 b (cP D cl tys (.ref b :: As) H.size Sc) As := ⟨cP_blind, by
    obtain ⟨k0, h1, -⟩ := sg_at (i := 0) he rfl
    exact va_recv hK hw.1 hc h1, (sg_preS hK hNW hw isC hn hC).2⟩
-- branches: the model goes along
theorem bq_t {cnd : Prop} {d : Decidable cnd} {β : Type} {x y : Option β} {o : β} {G1 G2 G : Prop} (row : (cnd → G1) → (¬ cnd → G2) → G) (hm : @ite _ cnd d x y = some o) (k1 : x = some o → G1) (k2 : y = some o → G2) : G := row (fun h => k1 (it_t h hm)) (fun h => k2 (it_f h hm))
theorem bq_n {cnd : Prop} {d : Decidable cnd} {β : Type} {x y : Option β} {o : β} {G1 G2 G : Prop} (row : (¬ cnd → G1) → (cnd → G2) → G) (hm : @ite _ cnd d x y = some o) (k1 : y = some o → G1) (k2 : x = some o → G2) : G := row (fun h => k1 (it_f h hm)) (fun h => k2 (it_t h hm))
theorem nm_i {β : Type} {x : Int32} {k : Int32 → Option β} {o : β} (hm : zl x k = some o) (kk : ∀ y : Int32, k y = some o → W p l e R s m args below meth c H locs cells slots Q (F0 m pc ls (.int y :: rest))) : W p l e R s m args below meth c H locs cells slots Q (F0 m pc ls (.int x :: rest)) := kk x hm
theorem nm_l {β : Type} {x : Int64} {k : Int64 → Option β} {o : β} (hm : zl x k = some o) (kk : ∀ y : Int64, k y = some o → W p l e R s m args below meth c H locs cells slots Q (F0 m pc ls (.long y :: rest))) : W p l e R s m args below meth c H locs cells slots Q (F0 m pc ls (.long x :: rest)) := kk x hm
end SG
theorem it_c {cnd : Prop} {d : Decidable cnd} {β : Type} {x y : Option β} {o : β} {G : Prop} (hm : @ite _ cnd d x y = some o) (k1 : cnd → x = some o → G) (k2 : ¬ cnd → y = some o → G) : G := by
  by_cases h : cnd
  · exact k1 h (it_t h hm)
  · exact k2 h (it_f h hm)
def zb (x : Int32) : Bool := x == 0 || x == 1
theorem zb_n {x : Int32} (h : zb x = true) : narrow .boolean (.int x) = .int x := by
  unfold zb at h
  rcases Bool.or_eq_true_iff.mp h with q | q
  · have e : x = 0 := by simpa using q
    subst e
    rfl
  · have e : x = 1 := by simpa using q
    subst e
    rfl
theorem i32_ne {x y : Int32} (h : ¬ x = y) : x.toInt ≠ y.toInt := fun q => h (Int32.toInt_inj.mp q)
section SGB
variable {p : Program} {l : Launch} {e : Env} {R : Room} {s : State} {m : MethodId} {args : Array Value} {below : List Frame} {meth : Method} {c : Code} {H : Heap} {locs : List Loc} {cells slots : Nat} {Q : State → Prop}
variable {cc : ByteArray} {pc : Nat} {ls : Array Slot} {rest st0 : List Value} {D : va_G} {cl : List vw_C} {A : Nat → Prop} {a : Nat} {tys : List (ClassId × FieldType)} {S : List va_W} {H0 : Heap}
theorem sg_aald (hx : p.tables.exec = Jvm.exec) (hb : c.code = cc) (hK : va_K D cl tys s) (hw : wk D cl A H0 S H locs) (q0 t0 : Nat) {cA : ClassId} {n : Nat} {d : Nat → Nat} (ha : S[q0]? = some [(a, .inl (cA, gro n d))]) (ht : tys[t0]? = some (cA, .array .int)) {i : Int32} (hi : sg_in i n = true) (hdg : decode cc pc = .ok (.aaload, 1))
    (kk : W p l e R s m args below meth c H locs cells slots Q (F0 m (pc + 1) ls (.ref (d i.toNatClampNeg) :: rest))) : W p l e R s m args below meth c H locs cells slots Q (F0 m pc ls (.int i :: .ref a :: rest)) := by
  obtain ⟨k0, h1, -⟩ := sg_at (i := 0) ha rfl
  have hin := sg_in_vp hi
  have hlt : i.toNatClampNeg < n := sg_lt hi
  have hv : va_rf (if i.toNatClampNeg < n then some (d i.toNatClampNeg) else none) = .ref (d i.toNatClampNeg) := by rw [if_pos hlt]; rfl
  exact W.aald (v := .ref (d i.toNatClampNeg)) (ty := .array .int) hx hb (hw.1 k0 _ h1) ((hK.2 t0 _ ht).1 n (fun j => va_rf (if j < n then some (d j) else none))) rfl (fun q => by cases q) (by show ¬ (i < 0 ∨ (arrV _ _ _).slots.size ≤ _); rw [arrV_size]; exact hin) (by show (arrV cA n (fun j => va_rf (if j < n then some (d j) else none))).slots[_]? = _; rw [arrV_read _ _ hlt, hv]) rfl rfl hdg kk
theorem sg_ci0 {Sc Sr S1 : List va_W} {r : Int32} {av : Array Value} (hr : va_Run p l e R s m args below meth c H locs cells slots 0 0 (F0 m pc ls st0) rest (cQi D cl tys H.size Sc r S1 av) (va_A Sc.flatten H.size)) (hw : wk D cl A H0 S H locs) (hA : ∀ q, H0.size ≤ q → A q) (isC isR : List Nat) (hC : isC.map (fun i => S[i]?) = Sc.map some) (hR : isR.map (fun i => S[i]?) = Sr.map some) (hn : va_nd isR = true) (hdis : ∀ i ∈ isR, i ∉ isC)
    (kk : ∀ (H1 : Heap) (locs1 : List Loc), wk D cl A H0 (Sr ++ S1) H1 locs1 → W p l e R s m args below meth c H1 locs1 cells slots Q (F0 m (pc + 3) ls (.int r :: rest))) : W p l e R s m args below meth c H locs cells slots Q (F0 m pc ls st0) := sg_ci hr hw hA isC isR hC hR hn hdis kk
theorem sg_cl0 {Sc Sr S1 : List va_W} {r : Int64} {av : Array Value} (hr : va_Run p l e R s m args below meth c H locs cells slots 0 0 (F0 m pc ls st0) rest (cQl D cl tys H.size Sc r S1 av) (va_A Sc.flatten H.size)) (hw : wk D cl A H0 S H locs) (hA : ∀ q, H0.size ≤ q → A q) (isC isR : List Nat) (hC : isC.map (fun i => S[i]?) = Sc.map some) (hR : isR.map (fun i => S[i]?) = Sr.map some) (hn : va_nd isR = true) (hdis : ∀ i ∈ isR, i ∉ isC)
    (kk : ∀ (H1 : Heap) (locs1 : List Loc), wk D cl A H0 (Sr ++ S1) H1 locs1 → W p l e R s m args below meth c H1 locs1 cells slots Q (F0 m (pc + 3) ls (.long r :: rest))) : W p l e R s m args below meth c H locs cells slots Q (F0 m pc ls st0) := sg_cl hr hw hA isC isR hC hR hn hdis kk
theorem sg_cv0 {Sc Sr S1 : List va_W} {av : Array Value} (hr : va_Run p l e R s m args below meth c H locs cells slots 0 0 (F0 m pc ls st0) rest (cQv D cl tys H.size Sc S1 av) (va_A Sc.flatten H.size)) (hw : wk D cl A H0 S H locs) (hA : ∀ q, H0.size ≤ q → A q) (isC isR : List Nat) (hC : isC.map (fun i => S[i]?) = Sc.map some) (hR : isR.map (fun i => S[i]?) = Sr.map some) (hn : va_nd isR = true) (hdis : ∀ i ∈ isR, i ∉ isC)
    (kk : ∀ (H1 : Heap) (locs1 : List Loc), wk D cl A H0 (Sr ++ S1) H1 locs1 → W p l e R s m args below meth c H1 locs1 cells slots Q (F0 m (pc + 3) ls rest)) : W p l e R s m args below meth c H locs cells slots Q (F0 m pc ls st0) := sg_cv hr hw hA isC isR hC hR hn hdis kk
end SGB
-- what is made: a method that makes cells tells their addresses at its end
abbrev ADs : Type := List Nat × List (Nat → Nat)
def cQc (D : va_G) (cl : List vw_C) (tys : List (ClassId × FieldType)) (sz : Nat) (Sc : List va_W) (S1 : ADs → List va_W) : Array Value → State → Outcome → State → Prop := va_Qv (fun (_ : ADs) => True) (fun u t => va_P D cl (S1 u).flatten t.heap ∧ va_K D cl tys t ∧ va_D (va_A Sc.flatten sz) (S1 u).flatten) (va_A Sc.flatten sz)
section SGN
variable {p : Program} {l : Launch} {e : Env} {R : Room} {s : State} {m : MethodId} {args : Array Value} {below : List Frame} {meth : Method} {c : Code} {H : Heap} {locs : List Loc} {cells slots : Nat} {Q : State → Prop}
variable {cc : ByteArray} {pc : Nat} {ls : Array Slot} {rest st0 : List Value} {D : va_G} {cl : List vw_C} {A : Nat → Prop} {a : Nat} {tys : List (ClassId × FieldType)} {S : List va_W} {H0 : Heap}
theorem sg_cvc {Sc Sr : List va_W} {S1 : ADs → List va_W} {av : Array Value} {mc ms : Nat} (hr : va_Run p l e R s m args below meth c H locs cells slots mc ms (F0 m pc ls st0) rest (cQc D cl tys H.size Sc S1 av) (va_A Sc.flatten H.size)) (hw : wk D cl A H0 S H locs) (hA : ∀ q, H0.size ≤ q → A q) (isC isR : List Nat) (hC : isC.map (fun i => S[i]?) = Sc.map some) (hR : isR.map (fun i => S[i]?) = Sr.map some) (hn : va_nd isR = true) (hdis : ∀ i ∈ isR, i ∉ isC)
    (kk : ∀ (u : ADs) (H1 : Heap) (locs1 : List Loc), wk D cl A H0 (Sr ++ S1 u) H1 locs1 → W p l e R s m args below meth c H1 locs1 (cells + mc) (slots + ms) Q (F0 m (pc + 3) ls rest)) : W p l e R s m args below meth c H locs cells slots Q (F0 m pc ls st0) :=
  va_callv hr hw.2.2 (fun q _ h => sg_free hw hA hC q h) (fun q h => sg_free hw hA hC q h) (fun u t H1 locs1 ht hvm hp hB hz hk hS => by
    obtain ⟨hP1, hK1, hD1⟩ := hB
    rw [ht] at hP1
    exact kk u H1 locs1 (sg_join hw hA hC hR hn hdis hk hP1 hD1 hS))
theorem sg_cret {Sc : List va_W} {S1 : ADs → List va_W} (u : ADs) (hx : p.tables.exec = Jvm.exec) (hb : c.code = cc) (hr : meth.sig.returnType = none) (hlocks : meth.locks = false) (hAe : A = va_A Sc.flatten s.heap.size) (hQ : Q = MQ below (cQc D cl tys s.heap.size Sc S1) args s cells slots A) (hK : va_K D cl tys s) (hw : wk D cl A s.heap (S1 u) H locs) (hdg : decode cc pc = .ok (.return_, 1)) : W p l e R s m args below meth c H locs cells slots Q (F0 m pc ls []) := by
  subst hQ
  subst hAe
  exact W.vret hx hb hr (fun t ht hW => ⟨⟨u, rfl, trivial, by rw [ht]; exact hw.1, va_K.moved hW.alike hK, hw.2.1⟩, hw.2.2.F ht⟩) hw.2.2.2.2 hdg hlocks
theorem sg_new (hx : p.tables.exec = Jvm.exec) (hb : c.code = cc) {own C : String} {T : u_T} {N ci index : Nat} {Ts : List Cond} (hts : ∀ w ∈ Ts, w.before args s = true) (hin : ∀ w ∈ u_ws C T N, w ∈ Ts) (ty : Nat → FieldType) (hty : ∀ k, k < N → parseFieldDescriptor (T k).2.2.1 = some (ty k)) (hown : s.vm.findClass own = some m.cls) (hcl : (Cond.classLink own index C).before args s = true) (hinst : (Cond.instantiable C N).before args s = true) (hini : (Cond.initialized C).before args s = true)
    (hK : va_K D cl tys s) (hw : wk D cl A H0 S H locs) (hA : ∀ q, H0.size ≤ q → A q) (hc : cl[ci]? = some (C, T, N)) {fs : List Value} (hfs : ∀ j, j < N → defaultValue (ty j) = vp_V fs j) (hcells : cells + 1 ≤ R.cells) (hslots : slots + N ≤ R.slots) (hdg : decode cc pc = .ok (.new index, 3))
    (kk : ∀ (q : Nat) (H1 : Heap), wk D cl A H0 (S ++ [[(q, .inr (ci, fs))]]) H1 locs → W p l e R s m args below meth c H1 locs (cells + 1) (slots + N) Q (F0 m (pc + 3) ls (.ref q :: rest))) : W p l e R s m args below meth c H locs cells slots Q (F0 m pc ls rest) := by
  refine va_new hx hb hts hin ty hty hown hcl hinst hini hK hw.1 hw.2.1 hw.2.2 hA hc hfs hcells hslots hdg (fun q H1 p1 p2 p3 => kk q H1 ?_)
  have ef : (S ++ [[((q, .inr (ci, fs)) : Nat × va_E)]]).flatten = S.flatten ++ [((q, .inr (ci, fs)) : Nat × va_E)] := by rw [List.flatten_append]; rfl
  exact ⟨by rw [ef]; exact p1, by rw [ef]; exact p2, p3⟩
theorem sg_newi (hx : p.tables.exec = Jvm.exec) (hb : c.code = cc) (harr : (Cond.arrayClass .int).before args s = true) (hK : va_K D cl tys s) (hw : wk D cl A H0 S H locs) (hA : ∀ q, H0.size ≤ q → A q) (t0 : Nat) {cI : ClassId} (ht : tys[t0]? = some (cI, .int))
    {n : Int32} {N' : Nat} (hn : ¬ n < 0) (hN : n.toNatClampNeg = N') (hbytes : N' * componentBytes .int ≤ 536870912) (hcells : cells + 1 ≤ R.cells) (hslots : slots + N' ≤ R.slots) (hdg : decode cc pc = .ok (.newarray .int, 2))
    (kk : ∀ (q : Nat) (H1 : Heap), wk D cl A H0 (S ++ [[(q, .inl (cI, N', .inl (fun _ => 0)))]]) H1 locs → W p l e R s m args below meth c H1 locs (cells + 1) (slots + N') Q (F0 m (pc + 2) ls (.ref q :: rest))) : W p l e R s m args below meth c H locs cells slots Q (F0 m pc ls (.int n :: rest)) := by
  refine va_newa (atype := .int) (ty := .int) (a0 := (N', .inl (fun _ => 0))) hx hb harr rfl hK hw.1 hw.2.1 hw.2.2 hA (fun cA => vp_cell_i cA N' (fun _ => 0)) hn hN hbytes hcells hslots hdg (fun q cA H1 k1 p1 p2 p3 => ?_)
  have e1 : s.vm.findClass ("[" ++ FieldType.int.toString) = some cA := (k1.2 tys.length (cA, .int) (by simp)).2
  have e2 : s.vm.findClass ("[" ++ FieldType.int.toString) = some cI := (hK.2 t0 _ ht).2
  have e3 : cA = cI := Option.some.inj (e1.symm.trans e2)
  subst e3
  refine kk q H1 ?_
  have ef : (S ++ [[((q, .inl (cA, N', .inl (fun _ => 0))) : Nat × va_E)]]).flatten = S.flatten ++ [((q, .inl (cA, N', .inl (fun _ => 0))) : Nat × va_E)] := by rw [List.flatten_append]; rfl
  exact ⟨by rw [ef]; exact p1, by rw [ef]; exact p2, p3⟩
theorem sg_newl (hx : p.tables.exec = Jvm.exec) (hb : c.code = cc) (harr : (Cond.arrayClass .long).before args s = true) (hK : va_K D cl tys s) (hw : wk D cl A H0 S H locs) (hA : ∀ q, H0.size ≤ q → A q) (t0 : Nat) {cI : ClassId} (ht : tys[t0]? = some (cI, .long))
    {n : Int32} {N' : Nat} (hn : ¬ n < 0) (hN : n.toNatClampNeg = N') (hbytes : N' * componentBytes .long ≤ 536870912) (hcells : cells + 1 ≤ R.cells) (hslots : slots + N' ≤ R.slots) (hdg : decode cc pc = .ok (.newarray .long, 2))
    (kk : ∀ (q : Nat) (H1 : Heap), wk D cl A H0 (S ++ [[(q, .inl (cI, N', .inr (.inl (fun _ => 0))))]]) H1 locs → W p l e R s m args below meth c H1 locs (cells + 1) (slots + N') Q (F0 m (pc + 2) ls (.ref q :: rest))) : W p l e R s m args below meth c H locs cells slots Q (F0 m pc ls (.int n :: rest)) := by
  refine va_newa (atype := .long) (ty := .long) (a0 := (N', .inr (.inl (fun _ => 0)))) hx hb harr rfl hK hw.1 hw.2.1 hw.2.2 hA (fun cA => vp_cell_l cA N' (fun _ => 0)) hn hN hbytes hcells hslots hdg (fun q cA H1 k1 p1 p2 p3 => ?_)
  have e1 : s.vm.findClass ("[" ++ FieldType.long.toString) = some cA := (k1.2 tys.length (cA, .long) (by simp)).2
  have e2 : s.vm.findClass ("[" ++ FieldType.long.toString) = some cI := (hK.2 t0 _ ht).2
  have e3 : cA = cI := Option.some.inj (e1.symm.trans e2)
  subst e3
  refine kk q H1 ?_
  have ef : (S ++ [[((q, .inl (cA, N', .inr (.inl (fun _ => 0)))) : Nat × va_E)]]).flatten = S.flatten ++ [((q, .inl (cA, N', .inr (.inl (fun _ => 0)))) : Nat × va_E)] := by rw [List.flatten_append]; rfl
  exact ⟨by rw [ef]; exact p1, by rw [ef]; exact p2, p3⟩
end SGN

theorem i32_nk {x : Int32} (k : Int) (y : Int32) (hy : y.toInt = k) (h : ¬ x = y) : x.toInt ≠ k := fun q => h (Int32.toInt_inj.mp (q.trans hy.symm))
section SGZ
variable {p : Program} {l : Launch} {e : Env} {R : Room} {s : State} {m : MethodId} {args : Array Value} {below : List Frame} {meth : Method} {c : Code} {H : Heap} {locs : List Loc} {cells slots : Nat} {Q : State → Prop}
variable {cc : ByteArray} {pc : Nat} {ls : Array Slot} {rest st0 : List Value} {D : va_G} {cl : List vw_C} {A : Nat → Prop} {a : Nat} {tys : List (ClassId × FieldType)} {S : List va_W} {H0 : Heap}
theorem sg_zald (hx : p.tables.exec = Jvm.exec) (hb : c.code = cc) (hK : va_K D cl tys s) (hw : wk D cl A H0 S H locs) (q0 t0 : Nat) {cA : ClassId} {n : Nat} {f : Nat → Int32} (ha : S[q0]? = some [(a, .inl (cA, n, .inl f))]) (ht : tys[t0]? = some (cA, .boolean)) {i : Int32} (hdg : decode cc pc = .ok (.baload, 1)) {β : Type} {k : Option β} {o : β} (hm : (if sg_in i n = true then k else none) = some o)
    (kk : k = some o → W p l e R s m args below meth c H locs cells slots Q (F0 m (pc + 1) ls (.int (f i.toNatClampNeg) :: rest))) : W p l e R s m args below meth c H locs cells slots Q (F0 m pc ls (.int i :: .ref a :: rest)) := by
  obtain ⟨hi, hm⟩ := it_n hm
  obtain ⟨k0, h1, -⟩ := sg_at (i := 0) ha rfl
  exact va_zald hx hb hK hw.1 k0 t0 h1 ht (sg_in_vp hi) hdg (kk hm)
theorem sg_zast (hx : p.tables.exec = Jvm.exec) (hb : c.code = cc) (hK : va_K D cl tys s) (hw : wk D cl A H0 S H locs) (q0 t0 : Nat) {cA : ClassId} {n : Nat} {f : Nat → Int32} (ha : S[q0]? = some [(a, .inl (cA, n, .inl f))]) (ht : tys[t0]? = some (cA, .boolean)) {i x : Int32} (hdg : decode cc pc = .ok (.bastore, 1)) {β : Type} {k : (Nat → Int32) → Option β} {o : β} {S1 : (Nat → Int32) → List va_W} (hS1 : ∀ g, S.set q0 [(a, .inl (cA, n, .inl g))] = S1 g) (hm : (if sg_in i n = true then zl (upd f i.toNatClampNeg (vp_nar .boolean x)) k else none) = some o)
    (kk : ∀ (g : Nat → Int32) (H1 : Heap) (locs1 : List Loc), k g = some o → wk D cl A H0 (S1 g) H1 locs1 → W p l e R s m args below meth c H1 locs1 cells slots Q (F0 m (pc + 1) ls rest)) : W p l e R s m args below meth c H locs cells slots Q (F0 m pc ls (.int x :: .int i :: .ref a :: rest)) := by
  obtain ⟨hi, hm⟩ := it_n hm
  obtain ⟨k0, h1, h2⟩ := sg_at (i := 0) ha rfl
  refine va_zast hx hb hK hw.1 hw.2.1 hw.2.2 k0 t0 h1 ht (sg_in_vp hi) hdg (fun H1 locs1 p1 p2 p3 => kk _ H1 locs1 hm ?_)
  rw [h2] at p1 p2
  rw [← hS1]
  exact ⟨p1, p2, p3⟩
theorem sg_newz (hx : p.tables.exec = Jvm.exec) (hb : c.code = cc) (harr : (Cond.arrayClass .boolean).before args s = true) (hK : va_K D cl tys s) (hw : wk D cl A H0 S H locs) (hA : ∀ q, H0.size ≤ q → A q) (t0 : Nat) {cI : ClassId} (ht : tys[t0]? = some (cI, .boolean))
    {n : Int32} {N' : Nat} (hn : ¬ n < 0) (hN : n.toNatClampNeg = N') (hbytes : N' * componentBytes .boolean ≤ 536870912) (hcells : cells + 1 ≤ R.cells) (hslots : slots + N' ≤ R.slots) (hdg : decode cc pc = .ok (.newarray .boolean, 2))
    (kk : ∀ (q : Nat) (H1 : Heap), wk D cl A H0 (S ++ [[(q, .inl (cI, N', .inl (fun _ => 0)))]]) H1 locs → W p l e R s m args below meth c H1 locs (cells + 1) (slots + N') Q (F0 m (pc + 2) ls (.ref q :: rest))) : W p l e R s m args below meth c H locs cells slots Q (F0 m pc ls (.int n :: rest)) := by
  refine va_newa (atype := .boolean) (ty := .boolean) (a0 := (N', .inl (fun _ => 0))) hx hb harr rfl hK hw.1 hw.2.1 hw.2.2 hA (fun cA => vp_cell_i cA N' (fun _ => 0)) hn hN hbytes hcells hslots hdg (fun q cA H1 k1 p1 p2 p3 => ?_)
  have e1 : s.vm.findClass ("[" ++ FieldType.boolean.toString) = some cA := (k1.2 tys.length (cA, .boolean) (by simp)).2
  have e2 : s.vm.findClass ("[" ++ FieldType.boolean.toString) = some cI := (hK.2 t0 _ ht).2
  have e3 : cA = cI := Option.some.inj (e1.symm.trans e2)
  subst e3
  refine kk q H1 ?_
  have ef : (S ++ [[((q, .inl (cA, N', .inl (fun _ => 0))) : Nat × va_E)]]).flatten = S.flatten ++ [((q, .inl (cA, N', .inl (fun _ => 0))) : Nat × va_E)] := by rw [List.flatten_append]; rfl
  exact ⟨by rw [ef]; exact p1, by rw [ef]; exact p2, p3⟩
end SGZ

