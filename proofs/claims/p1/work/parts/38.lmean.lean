-- 38.lmean: a static method with a table of its own: its contract and its call; the law's mean
section XLA
variable {l : Launch} {D : va_G} {cl : List vw_C} {tys : List (ClassId × FieldType)} {cc : ByteArray}
theorem xl_tab {t : List ExceptionTableEntry} (h : t.map (fun h => (h.startPc, h.endPc, h.handlerPc, h.catchType)) = [(0, 9, 12, 13)]) : t = [⟨0, 9, 12, 13⟩] := by
  match t, h with
  | [⟨a, b, c, d⟩], h =>
    simp only [List.map_cons, List.map_nil, List.cons.injEq, Prod.mk.injEq, and_true] at h
    obtain ⟨rfl, rfl, rfl, rfl⟩ := h
    rfl
  | [], h => cases h
  | _ :: _ :: _, h => simp at h
theorem sg_metW {y : MethodName} {rm : Room} {av : List Value} {Sc : List va_W} {mc ms : Nat} {maxL : Nat} {ret : Option FieldType} (Qc : Nat → Array Value → State → Outcome → State → Prop) (hy : plainName y.cls = true) (hlen : (lg_sl av).length ≤ maxL)
    (body : ∀ (p : Program) (e : Env) (s : State) (m : MethodId) (args : Array Value) (below : List Frame) (meth : Method) (c : Code) (A : Nat → Prop) (Q : State → Prop) (ls : Array Slot), p.tables.exec = Jvm.exec → c.code = cc → meth.sig.returnType = ret → (∀ w ∈ BIG, w.before args s = true) → s.vm.findClass y.cls = some m.cls → meth.locks = false → c.maxLocals = maxL → va_K D cl tys s → NWs s → (∀ q, s.heap.size ≤ q → A q) → A = va_A Sc.flatten s.heap.size → Q = MQ below (Qc s.heap.size) args s mc ms A → wk D cl A s.heap Sc s.heap [] → lv_has ls maxL (lv_args 0 av) → xZ A s s.heap → c.exceptionTable.toList = [⟨0, 9, 12, 13⟩] → W p l e rm s m args below meth c s.heap [] 0 0 Q (F0 m 0 ls [])) : ∀ sz : Nat, Met l y (.codeWith y cc maxL ret [(0, 9, 12, 13)] :: BIG) rm (cPx D cl tys av sz Sc) (Qc sz) mc ms (va_A Sc.flatten sz) := by
  intro sz
  refine va_MetW (cc := cc) (maxL := maxL) (ret := ret) hy rfl ?_
  intro p e s m args below meth c s₁ B hml hv
  obtain ⟨⟨hargs, hsz, hP, hK, hD0, hNW⟩, hZ⟩ := hv
  subst hsz
  have ht : c.exceptionTable.toList = [⟨0, 9, 12, 13⟩] := by
    obtain ⟨m9, meth9, c9, hn9, h1, h2, -, -, h5, -⟩ := Cond.codeWith_spec (atoms_spec (ws := .codeWith y cc maxL ret [(0, 9, 12, 13)] :: BIG) B.pre _ List.mem_cons_self)
    cases hn9.symm.trans B.named
    cases h1.symm.trans B.method
    cases h2.symm.trans (Stand.of_body B).code
    exact xl_tab h5
  have he : entryFrame m args maxL = F0 m 0 ((lg_sl av ++ List.replicate (maxL - (lg_sl av).length) Slot.unset).toArray) [] := by rw [hargs, lg_entry_eq]
  rw [he]
  exact body p e s m args below meth c _ _ _ B.exec B.bytes B.returns (fun w h => atoms_spec (ws := .codeWith y cc maxL ret [(0, 9, 12, 13)] :: BIG) B.pre w (List.mem_cons_of_mem _ h)) (findClass_of_methodNamed B.named) B.notSynchronized hml hK hNW (fun q h => Or.inr h) rfl rfl ⟨hP, hD0.self, va_S.rf⟩ (lv_entry av hlen) (hZ.apart hP) ht
end XLA
section XLB
variable {p : Program} {l : Launch} {e : Env} {R : Room} {s : State} {m : MethodId} {args : Array Value} {below : List Frame} {meth : Method} {c : Code} {H : Heap} {locs : List Loc} {cells slots : Nat} {Q : State → Prop}
variable {cc : ByteArray} {pc : Nat} {ls : Array Slot} {rest st0 : List Value} {D : va_G} {cl : List vw_C} {A : Nat → Prop} {tys : List (ClassId × FieldType)} {S : List va_W} {H0 : Heap}
theorem sg_preVx {av : List Value} {sz : Nat} {Sc : List va_W} {As : List Value} {C : String} {b : Nat} {A9 : Nat → Prop} (h : PreV s H C b (cP D cl tys av sz Sc) As) (hZ : xZ A9 s H) : PreV s H C b (cPx D cl tys av sz Sc) As := ⟨cPx_blind, h.2.1, fun U hU hW => ⟨h.2.2 U hU hW, by rw [hU]; exact (hZ.warm hW).any⟩⟩
theorem sg_preSx {av : List Value} {sz : Nat} {Sc : List va_W} {As : List Value} {A9 : Nat → Prop} (h : PreS s H (cP D cl tys av sz Sc) As) (hZ : xZ A9 s H) : PreS s H (cPx D cl tys av sz Sc) As := ⟨cPx_blind, fun U hU hW => ⟨h.2 U hU hW, by rw [hU]; exact (hZ.warm hW).any⟩⟩
theorem sg_cx {y : MethodName} {bytes : ByteArray} {maxL nL mc ms n index : Nat} {ret : Option FieldType} {ws : List Cond} {rm : Room} {E : String} {Ts : List Cond} {own C name : String} {b : Addr} {As av : List Value} {Sc Sr : List va_W}
    (F : CallFix p m c cc nL s args Ts own) (hM : xMet l y ws rm (cPx D cl tys av H.size Sc) E (fun t => va_P D cl Sc.flatten t.heap) (va_A Sc.flatten H.size) (va_A Sc.flatten H.size) mc ms) (cw : CallW R s args own C index y bytes maxL ret ws rm mc ms n) (hp : PreV s H C b (cPx D cl tys av H.size Sc) As)
    (hn9 : As.length = n) (hsize : ls.size = nL) (hstack : st0 = As.reverse ++ .ref b :: rest) (hW : 2 * (F0 m pc ls st0).monitorRoom + (rest.map fun v => v.category).sum ≤ 8) (hdg : decode cc pc = .ok (.invokevirtual index, 3)) (hf : cells + mc ≤ R.cells ∧ slots + ms ≤ R.slots)
    (x : ExceptionTableEntry) (htab : c.exceptionTable.toList = [x]) (hx : covers x pc = true) (h0 : x.catchType ≠ 0) (hlink : (Cond.classLink own x.catchType name).before args s = true) (hcast : (Cond.castable E name).before args s = true)
    (hw : wk D cl A H0 S H locs) (hA : ∀ q, H0.size ≤ q → A q) (isC isR : List Nat) (hC : isC.map (fun i => S[i]?) = Sc.map some) (hR : isR.map (fun i => S[i]?) = Sr.map some) (hnC : va_nd isC = true) (hn : va_nd isR = true) (hdis : ∀ i ∈ isR, i ∉ isC)
    (kk : ∀ (q : Nat) (H1 : Heap) (locs1 : List Loc), wk D cl A H0 (Sr ++ Sc) H1 locs1 → W p l e R s m args below meth c H1 locs1 (cells + mc) (slots + ms) Q (F0 m x.handlerPc ls [.ref q])) : W p l e R s m args below meth c H locs cells slots Q (F0 m pc ls st0) := by
  refine xw_call (g := F0 m pc ls st0) F hM cw hp rfl hn9 hsize hstack hW hdg hf x htab hx h0 hlink hcast (fun q st₀ t H1 L e0 et _ hB hF hL => ?_)
  have hf9 := sg_free hw hA hC
  obtain ⟨hz, hk⟩ := hF
  rw [e0] at hz hk
  rw [et] at hz
  have hP1 : va_P D cl Sc.flatten H1 := by rw [← et]; exact hB
  have hk1 : ∀ q : Nat, q < H.size → ¬ va_A Sc.flatten H.size q → H1[q]? = H[q]? := fun q h1 h2 => by rw [← et]; exact hk q h1 h2
  refine kk q H1 (locs ++ L) (sg_join hw hA hC hR hn hdis hk1 hP1 (sg_Dsub hw.2.1 hnC hC).self ?_)
  refine ⟨Nat.le_trans hw.2.2.1 hz, fun q h1 h2 => ?_, fun z hz9 => ?_⟩
  · rw [hk1 q (Nat.lt_of_lt_of_le h1 hw.2.2.1) (fun z => h2 (hf9 q z))]
    exact hw.2.2.2.1 q h1 h2
  · rcases List.mem_append.mp hz9 with h | h
    · exact hw.2.2.2.2 z h
    · exact hf9 _ (hL z h)
theorem xl_runS {y : MethodName} {bytes : ByteArray} {maxL nL mc ms n index : Nat} {ret : Option FieldType} {hh : List (Nat × Nat × Nat × Nat)} {ws' : List Cond} {rm : Room} {Pc : Array Value → State → Prop} {Qc : Array Value → State → Outcome → State → Prop} {free : Addr → Prop} {Ts : List Cond} {own : String} {As : List Value} {g : JFrame}
    (F : CallFix p m c cc nL s args Ts own) (hM : Met l y (.codeWith y bytes maxL ret hh :: ws') rm Pc Qc mc ms free) (hT : GoodIn Ts (.codeWith y bytes maxL ret hh :: ws')) (hrc : rm.cells = mc) (hrs : rm.slots = ms) (hini : (Cond.initialized y.cls).before args s = true) (hl : (Cond.methodLink own index y).before args s = true) (hstt : (Cond.static y).before args s = true)
    (hd : y.cls ≠ "java/lang/invoke/MethodHandle" ∧ y.cls ≠ "java/lang/invoke/VarHandle" ∧ (parseMethodDescriptor y.desc).map (fun d => d.parameters.length) = some n) (hR : rm.frames + 1 ≤ R.frames ∧ 8 + (maxL + 11) + rm.locals ≤ R.locals)
    (hp : PreS s H Pc As) (hg : g.method = m) (hn : As.length = n) (hsize : g.locals.size = nL) (hstack : g.stack = As.reverse ++ rest) (hW : 2 * g.monitorRoom + (rest.map fun v => v.category).sum ≤ 8) (hdg : decode cc g.pc = .ok (.invokestatic index, 3)) (hf : cells + mc ≤ R.cells ∧ slots + ms ≤ R.slots) :
    va_Run p l e R s m args below meth c H locs cells slots mc ms g rest (Qc As.toArray) free := by
  obtain ⟨hx, hb, hml, ho, ht⟩ := F
  have hws : ∀ w ∈ (Cond.codeWith y bytes maxL ret hh :: ws'), ∀ (a' : Array Value) (U : State), s.WarmedH U.vm → w.before a' U = true := fun w hw a' U hW => word_at hW (hT w hw).2 (ht w (hT w hw).1)
  have hK : Back l R p e below s args y 3 8 (PreOf R mc ms Pc) (PostOf Qc mc ms free) := va_backW (bytes := bytes) (maxL := maxL) (ret := ret) (hh := hh) hM hp.1 hrc hrs hR.1 hR.2 hws List.mem_cons_self (fun a' U hW => word_at hW (Or.inl (by first | rfl | simp [Cond.onTables, Cond.keeps, Cond.steady])) hini)
  obtain ⟨mk, methM, cM, hnamed, hmethM, -, -, -, -, -, -, hsigM⟩ := Cond.codeWith_spec (ht _ (hT _ List.mem_cons_self).1)
  have hstatic : methM.isStatic = true := Cond.static_spec hnamed hmethM hstt
  obtain ⟨kP, hkP, -⟩ := className_of_methodNamed hnamed
  have hinitP : kP.init = .initialized := Cond.initialized_spec (findClass_of_methodNamed hnamed) hkP hini
  have hlen : ∀ sig, parseMethodDescriptor y.desc = some sig → As.length = sig.parameters.length := fun sig h => by
    have h9 := hd.2.2
    rw [h] at h9
    exact hn.trans (Option.some.inj h9).symm
  intro T hTT X
  obtain ⟨vm₁, X₁, hstep₁⟩ := X.invokestatic hx ho hl hnamed hmethM hstatic hkP hinitP ⟨hd.1, hd.2.1⟩ (g := g) hg (argsL := As) (rest := rest) (hlen _ hsigM) hstack (by rw [hb]; exact hdg)
  obtain ⟨v, ⟨U', l2, c2, s2⟩, X', ⟨g', mk', t, L, e1, e2, hq, h1, hL, h2, h3⟩, hsteps⟩ := hK m meth c ⟨T.setVm vm₁, locs, cells, slots⟩ { g with stack := rest } (.invokestatic index) mk As.toArray X₁ hg (hsize.trans hml.symm) (by rw [hb]; exact hdg) hW (X₁.named hnamed) ⟨hf.1, hf.2, hp.2 (T.setVm vm₁) hTT X₁.warmed⟩
  dsimp only [Pt.U, Pt.locs, Pt.cells, Pt.slots] at X' e1 e2 h1 h2 h3 hsteps
  subst h1; subst h2; subst h3
  exact ⟨v, (T.setVm vm₁).calling g' mk' As.toArray, t, U', L, hTT, X', hL, e1, e2, hq, fun target h => hstep₁ _ fun acts => by rw [doInvoke_state]; exact hsteps.trans h⟩
end XLB
theorem we_538 : ((Jvm.Cond.codeWith ({ cls := "JobNetsLaw", name := "mean", desc := "(LJobNets;II[J)I" } : Jvm.MethodName) method_3_code (5 : Nat) (Option.some Jvm.ClassFile.FieldType.int) [((0 : Nat), (9 : Nat), (12 : Nat), (13 : Nat))]) : Cond) ∈ BIG := bg_t 538 (by decide +kernel) rfl
theorem we_539 : ((Jvm.Cond.classLink "JobNetsLaw" (13 : Nat) "java/lang/ArithmeticException") : Cond) ∈ BIG := bg_t 539 (by decide +kernel) rfl
theorem d_L_mean_0 : decode method_3_code 0 = .ok (.aload_n 3, 1) := by decide +kernel
theorem d_L_mean_1 : decode method_3_code 1 = .ok (.iconst 0, 1) := by decide +kernel
theorem d_L_mean_2 : decode method_3_code 2 = .ok (.aload_n 0, 1) := by decide +kernel
theorem d_L_mean_3 : decode method_3_code 3 = .ok (.iload_n 1, 1) := by decide +kernel
theorem d_L_mean_4 : decode method_3_code 4 = .ok (.iload_n 2, 1) := by decide +kernel
theorem d_L_mean_5 : decode method_3_code 5 = .ok (.invokevirtual 7, 3) := by decide +kernel
theorem d_L_mean_8 : decode method_3_code 8 = .ok (.lastore, 1) := by decide +kernel
theorem d_L_mean_9 : decode method_3_code 9 = .ok (.goto 7, 3) := by decide +kernel
theorem d_L_mean_12 : decode method_3_code 12 = .ok (.astore 4, 2) := by decide +kernel
theorem d_L_mean_14 : decode method_3_code 14 = .ok (.iconst 1, 1) := by decide +kernel
theorem d_L_mean_15 : decode method_3_code 15 = .ok (.ireturn, 1) := by decide +kernel
theorem d_L_mean_16 : decode method_3_code 16 = .ok (.iconst 0, 1) := by decide +kernel
theorem d_L_mean_17 : decode method_3_code 17 = .ok (.ireturn, 1) := by decide +kernel
abbrev y_L_mean : MethodName := ⟨"JobNetsLaw", "mean", "(LJobNets;II[J)I"⟩
abbrev ws_L_mean : List Cond := .codeWith ⟨"JobNetsLaw", "mean", "(LJobNets;II[J)I"⟩ method_3_code 5 (some .int) [(0, 9, 12, 13)] :: BIG
abbrev sc_L_mean (cI cL cM cZ : ClassId) (q_p0 q_p0_calendars q_p0_reader q_p0_current q_p0_kept q_p0_latestRing q_p0_ringFinder q_p0_longest q_p0_net q_p0_spare q_p0_kept_sums q_p0_kept_counts q_p0_net_numbers q_p0_net_needCounts q_p0_net_needed q_p0_net_conditions q_p0_net_allNeeded q_p3 : Nat) (f_p0_kept_sums : Nat → Int64) (f_p0_kept_counts : Nat → Int32) (v_p0_net_jobs : Int32) (f_p3 : Nat → Int64) : List va_W := [[(q_p0, .inr (0, [.ref q_p0_calendars, .ref q_p0_reader, .ref q_p0_current, .ref q_p0_kept, .ref q_p0_latestRing, .ref q_p0_ringFinder, .ref q_p0_longest, .ref q_p0_net, .ref q_p0_spare]))], [(q_p0_kept, .inr (2, [.ref q_p0_kept_sums, .ref q_p0_kept_counts]))], [(q_p0_kept_sums, .inl (cL, 27, .inr (.inl f_p0_kept_sums)))], [(q_p0_kept_counts, .inl (cI, 27, .inl f_p0_kept_counts))], [(q_p0_net, .inr (4, [.ref q_p0_net_numbers, .ref q_p0_net_needCounts, .ref q_p0_net_needed, .ref q_p0_net_conditions, .ref q_p0_net_allNeeded, .int v_p0_net_jobs]))], [(q_p3, .inl (cL, 1, .inr (.inl f_p3)))]]
abbrev rm_L_mean : Room := { frames := 7, cells := 1, slots := 6, locals := 105 }
set_option maxHeartbeats 4000000 in
set_option maxRecDepth 100000 in
theorem ct_L_mean_r (l : Launch) (hl9 : l.stackTraces = false) (dC : Nat → ClassId) (dI : Nat → Nat → Nat) (cI cL cM cZ : ClassId) (q_p0 q_p0_calendars q_p0_reader q_p0_current q_p0_kept q_p0_latestRing q_p0_ringFinder q_p0_longest q_p0_net q_p0_spare q_p0_kept_sums q_p0_kept_counts q_p0_net_numbers q_p0_net_needCounts q_p0_net_needed q_p0_net_conditions q_p0_net_allNeeded q_p3 : Nat) (f_p0_kept_sums : Nat → Int64) (f_p0_kept_counts : Nat → Int32) (v_p0_net_jobs : Int32) (f_p3 : Nat → Int64) (a1_x : Int32) (a2_x : Int32) (N : Nat) (o : Int64) (hm : md_A_mean N f_p0_kept_sums f_p0_kept_counts v_p0_net_jobs a1_x a2_x = some o) : ∀ sz : Nat, Met l y_L_mean ws_L_mean rm_L_mean (cPx (dC, dI) vwCl [(cI, .int), (cL, .long), (cM, .array .int), (cZ, .boolean)] [.ref q_p0, .int a1_x, .int a2_x, .ref q_p3] sz (sc_L_mean cI cL cM cZ q_p0 q_p0_calendars q_p0_reader q_p0_current q_p0_kept q_p0_latestRing q_p0_ringFinder q_p0_longest q_p0_net q_p0_spare q_p0_kept_sums q_p0_kept_counts q_p0_net_numbers q_p0_net_needCounts q_p0_net_needed q_p0_net_conditions q_p0_net_allNeeded q_p3 f_p0_kept_sums f_p0_kept_counts v_p0_net_jobs f_p3)) (cQi (dC, dI) vwCl [(cI, .int), (cL, .long), (cM, .array .int), (cZ, .boolean)] sz (sc_L_mean cI cL cM cZ q_p0 q_p0_calendars q_p0_reader q_p0_current q_p0_kept q_p0_latestRing q_p0_ringFinder q_p0_longest q_p0_net q_p0_spare q_p0_kept_sums q_p0_kept_counts q_p0_net_numbers q_p0_net_needCounts q_p0_net_needed q_p0_net_conditions q_p0_net_allNeeded q_p3 f_p0_kept_sums f_p0_kept_counts v_p0_net_jobs f_p3) (0 : Int32) (sc_L_mean cI cL cM cZ q_p0 q_p0_calendars q_p0_reader q_p0_current q_p0_kept q_p0_latestRing q_p0_ringFinder q_p0_longest q_p0_net q_p0_spare q_p0_kept_sums q_p0_kept_counts q_p0_net_numbers q_p0_net_needCounts q_p0_net_needed q_p0_net_conditions q_p0_net_allNeeded q_p3 f_p0_kept_sums f_p0_kept_counts v_p0_net_jobs (vp_updL f_p3 0 o))) 1 6 (va_A ((sc_L_mean cI cL cM cZ q_p0 q_p0_calendars q_p0_reader q_p0_current q_p0_kept q_p0_latestRing q_p0_ringFinder q_p0_longest q_p0_net q_p0_spare q_p0_kept_sums q_p0_kept_counts q_p0_net_numbers q_p0_net_needCounts q_p0_net_needed q_p0_net_conditions q_p0_net_allNeeded q_p3 f_p0_kept_sums f_p0_kept_counts v_p0_net_jobs f_p3)).flatten sz) := by
  refine sg_metW (fun sz => cQi (dC, dI) vwCl [(cI, .int), (cL, .long), (cM, .array .int), (cZ, .boolean)] sz (sc_L_mean cI cL cM cZ q_p0 q_p0_calendars q_p0_reader q_p0_current q_p0_kept q_p0_latestRing q_p0_ringFinder q_p0_longest q_p0_net q_p0_spare q_p0_kept_sums q_p0_kept_counts q_p0_net_numbers q_p0_net_needCounts q_p0_net_needed q_p0_net_conditions q_p0_net_allNeeded q_p3 f_p0_kept_sums f_p0_kept_counts v_p0_net_jobs f_p3) (0 : Int32) (sc_L_mean cI cL cM cZ q_p0 q_p0_calendars q_p0_reader q_p0_current q_p0_kept q_p0_latestRing q_p0_ringFinder q_p0_longest q_p0_net q_p0_spare q_p0_kept_sums q_p0_kept_counts q_p0_net_numbers q_p0_net_needCounts q_p0_net_needed q_p0_net_conditions q_p0_net_allNeeded q_p3 f_p0_kept_sums f_p0_kept_counts v_p0_net_jobs (vp_updL f_p3 0 o))) (by decide) (Nat.le_of_ble_eq_true rfl) ?_
  intro p e s m args below meth c A Q ls hx hb hr hts hown hlocks hml hK hNW hA hAe hQ hw hl hZ htab
  have hl : lv_has ls 5 [(0, .ref q_p0), (1, .int a1_x), (2, .int a2_x), (3, .ref q_p3)] := hl
  have hw : wk (dC, dI) vwCl A s.heap [[(q_p0, .inr (0, [.ref q_p0_calendars, .ref q_p0_reader, .ref q_p0_current, .ref q_p0_kept, .ref q_p0_latestRing, .ref q_p0_ringFinder, .ref q_p0_longest, .ref q_p0_net, .ref q_p0_spare]))], [(q_p0_kept, .inr (2, [.ref q_p0_kept_sums, .ref q_p0_kept_counts]))], [(q_p0_kept_sums, .inl (cL, 27, .inr (.inl f_p0_kept_sums)))], [(q_p0_kept_counts, .inl (cI, 27, .inl f_p0_kept_counts))], [(q_p0_net, .inr (4, [.ref q_p0_net_numbers, .ref q_p0_net_needCounts, .ref q_p0_net_needed, .ref q_p0_net_conditions, .ref q_p0_net_allNeeded, .int v_p0_net_jobs]))], [(q_p3, .inl (cL, 1, .inr (.inl f_p3)))]] s.heap [] := hw
  refine lv_aload_n hx hb d_L_mean_0 rfl (lv_at hl 3 rfl) ?_
  refine lv_iconst (v := 0) hx hb d_L_mean_1 (by decide) ?_
  refine lv_aload_n hx hb d_L_mean_2 rfl (lv_at hl 0 rfl) ?_
  refine lv_iload_n hx hb d_L_mean_3 rfl (lv_at hl 1 rfl) ?_
  refine lv_iload_n hx hb d_L_mean_4 rfl (lv_at hl 2 rfl) ?_
  refine sg_cl0 (Sr := [[(q_p3, .inl (cL, 1, .inr (.inl f_p3)))]]) (va_runV (As := [.int a1_x, .int a2_x]) (rest := [.int 0, .ref q_p3]) ⟨hx, hb, hml, hown, hts⟩ (ct_A_mean l dC dI cI cL cM cZ q_p0 q_p0_calendars q_p0_reader q_p0_current q_p0_kept q_p0_latestRing q_p0_ringFinder q_p0_longest q_p0_net q_p0_spare q_p0_kept_sums q_p0_kept_counts q_p0_net_numbers q_p0_net_needCounts q_p0_net_needed q_p0_net_conditions q_p0_net_allNeeded f_p0_kept_sums f_p0_kept_counts v_p0_net_jobs a1_x a2_x N o hm _) (cwV 2 hts (gd_V wd_540 wd_541 wd_542 wd_1 wd_543) rfl rfl rfl (by decide +kernel) ⟨Nat.le_of_ble_eq_true rfl, Nat.le_of_ble_eq_true rfl⟩) (sg_preV (ci := 0) (q0 := 0) hK hNW hw [0, 1, 2, 3, 4] rfl rfl rfl rfl) rfl rfl hl.1 rfl (lv_room (Nat.le_of_ble_eq_true rfl)) d_L_mean_5 ⟨Nat.le_of_ble_eq_true rfl, Nat.le_of_ble_eq_true rfl⟩) hw hA [0, 1, 2, 3, 4] [5] rfl rfl rfl (by decide) (fun H locs hw => ?_)
  have hw : wk (dC, dI) vwCl A s.heap ([[(q_p3, .inl (cL, 1, .inr (.inl f_p3)))]] ++ [[(q_p0, .inr (0, [.ref q_p0_calendars, .ref q_p0_reader, .ref q_p0_current, .ref q_p0_kept, .ref q_p0_latestRing, .ref q_p0_ringFinder, .ref q_p0_longest, .ref q_p0_net, .ref q_p0_spare]))], [(q_p0_kept, .inr (2, [.ref q_p0_kept_sums, .ref q_p0_kept_counts]))], [(q_p0_kept_sums, .inl (cL, 27, .inr (.inl f_p0_kept_sums)))], [(q_p0_kept_counts, .inl (cI, 27, .inl f_p0_kept_counts))], [(q_p0_net, .inr (4, [.ref q_p0_net_numbers, .ref q_p0_net_needCounts, .ref q_p0_net_needed, .ref q_p0_net_conditions, .ref q_p0_net_allNeeded, .int v_p0_net_jobs]))]]) H locs := hw
  have hm9 : (if sg_in 0 1 = true then zl (vp_updL f_p3 (0 : Int32).toNatClampNeg o) (fun f => some f) else none) = some (vp_updL f_p3 0 o) := rfl
  refine sg_last (S1 := fun g => [[(q_p3, .inl (cL, 1, .inr (.inl g)))]] ++ [[(q_p0, .inr (0, [.ref q_p0_calendars, .ref q_p0_reader, .ref q_p0_current, .ref q_p0_kept, .ref q_p0_latestRing, .ref q_p0_ringFinder, .ref q_p0_longest, .ref q_p0_net, .ref q_p0_spare]))], [(q_p0_kept, .inr (2, [.ref q_p0_kept_sums, .ref q_p0_kept_counts]))], [(q_p0_kept_sums, .inl (cL, 27, .inr (.inl f_p0_kept_sums)))], [(q_p0_kept_counts, .inl (cI, 27, .inl f_p0_kept_counts))], [(q_p0_net, .inr (4, [.ref q_p0_net_numbers, .ref q_p0_net_needCounts, .ref q_p0_net_needed, .ref q_p0_net_conditions, .ref q_p0_net_allNeeded, .int v_p0_net_jobs]))]]) hx hb hK hw 0 1 rfl rfl d_L_mean_8 (fun _ => rfl) hm9 (fun g H locs hg hw => ?_)
  obtain rfl := Option.some.inj hg
  refine lv_goto (tgt := 16) hx hb d_L_mean_9 (by decide) ?_
  refine lv_iconst (v := 0) hx hb d_L_mean_16 (by decide) ?_
  refine W.widen (k := 1) (n := 6) (by decide) (by decide) ?_
  exact sg_iret hx hb hr hlocks hAe hQ hK (hw.sub [1, 2, 3, 4, 5, 0] (by decide) rfl) d_L_mean_17
set_option maxHeartbeats 4000000 in
set_option maxRecDepth 100000 in
theorem ct_L_mean_t (l : Launch) (hl9 : l.stackTraces = false) (dC : Nat → ClassId) (dI : Nat → Nat → Nat) (cI cL cM cZ : ClassId) (q_p0 q_p0_calendars q_p0_reader q_p0_current q_p0_kept q_p0_latestRing q_p0_ringFinder q_p0_longest q_p0_net q_p0_spare q_p0_kept_sums q_p0_kept_counts q_p0_net_numbers q_p0_net_needCounts q_p0_net_needed q_p0_net_conditions q_p0_net_allNeeded q_p3 : Nat) (f_p0_kept_sums : Nat → Int64) (f_p0_kept_counts : Nat → Int32) (v_p0_net_jobs : Int32) (f_p3 : Nat → Int64) (a1_x : Int32) (a2_x : Int32) (N : Nat) (o : Unit) (hm : mt_A_mean N f_p0_kept_sums f_p0_kept_counts v_p0_net_jobs a1_x a2_x = some o) : ∀ sz : Nat, Met l y_L_mean ws_L_mean rm_L_mean (cPx (dC, dI) vwCl [(cI, .int), (cL, .long), (cM, .array .int), (cZ, .boolean)] [.ref q_p0, .int a1_x, .int a2_x, .ref q_p3] sz (sc_L_mean cI cL cM cZ q_p0 q_p0_calendars q_p0_reader q_p0_current q_p0_kept q_p0_latestRing q_p0_ringFinder q_p0_longest q_p0_net q_p0_spare q_p0_kept_sums q_p0_kept_counts q_p0_net_numbers q_p0_net_needCounts q_p0_net_needed q_p0_net_conditions q_p0_net_allNeeded q_p3 f_p0_kept_sums f_p0_kept_counts v_p0_net_jobs f_p3)) (cQi (dC, dI) vwCl [(cI, .int), (cL, .long), (cM, .array .int), (cZ, .boolean)] sz (sc_L_mean cI cL cM cZ q_p0 q_p0_calendars q_p0_reader q_p0_current q_p0_kept q_p0_latestRing q_p0_ringFinder q_p0_longest q_p0_net q_p0_spare q_p0_kept_sums q_p0_kept_counts q_p0_net_numbers q_p0_net_needCounts q_p0_net_needed q_p0_net_conditions q_p0_net_allNeeded q_p3 f_p0_kept_sums f_p0_kept_counts v_p0_net_jobs f_p3) (1 : Int32) (sc_L_mean cI cL cM cZ q_p0 q_p0_calendars q_p0_reader q_p0_current q_p0_kept q_p0_latestRing q_p0_ringFinder q_p0_longest q_p0_net q_p0_spare q_p0_kept_sums q_p0_kept_counts q_p0_net_numbers q_p0_net_needCounts q_p0_net_needed q_p0_net_conditions q_p0_net_allNeeded q_p3 f_p0_kept_sums f_p0_kept_counts v_p0_net_jobs f_p3)) 1 6 (va_A ((sc_L_mean cI cL cM cZ q_p0 q_p0_calendars q_p0_reader q_p0_current q_p0_kept q_p0_latestRing q_p0_ringFinder q_p0_longest q_p0_net q_p0_spare q_p0_kept_sums q_p0_kept_counts q_p0_net_numbers q_p0_net_needCounts q_p0_net_needed q_p0_net_conditions q_p0_net_allNeeded q_p3 f_p0_kept_sums f_p0_kept_counts v_p0_net_jobs f_p3)).flatten sz) := by
  refine sg_metW (fun sz => cQi (dC, dI) vwCl [(cI, .int), (cL, .long), (cM, .array .int), (cZ, .boolean)] sz (sc_L_mean cI cL cM cZ q_p0 q_p0_calendars q_p0_reader q_p0_current q_p0_kept q_p0_latestRing q_p0_ringFinder q_p0_longest q_p0_net q_p0_spare q_p0_kept_sums q_p0_kept_counts q_p0_net_numbers q_p0_net_needCounts q_p0_net_needed q_p0_net_conditions q_p0_net_allNeeded q_p3 f_p0_kept_sums f_p0_kept_counts v_p0_net_jobs f_p3) (1 : Int32) (sc_L_mean cI cL cM cZ q_p0 q_p0_calendars q_p0_reader q_p0_current q_p0_kept q_p0_latestRing q_p0_ringFinder q_p0_longest q_p0_net q_p0_spare q_p0_kept_sums q_p0_kept_counts q_p0_net_numbers q_p0_net_needCounts q_p0_net_needed q_p0_net_conditions q_p0_net_allNeeded q_p3 f_p0_kept_sums f_p0_kept_counts v_p0_net_jobs f_p3)) (by decide) (Nat.le_of_ble_eq_true rfl) ?_
  intro p e s m args below meth c A Q ls hx hb hr hts hown hlocks hml hK hNW hA hAe hQ hw hl hZ htab
  have hl : lv_has ls 5 [(0, .ref q_p0), (1, .int a1_x), (2, .int a2_x), (3, .ref q_p3)] := hl
  have hw : wk (dC, dI) vwCl A s.heap [[(q_p0, .inr (0, [.ref q_p0_calendars, .ref q_p0_reader, .ref q_p0_current, .ref q_p0_kept, .ref q_p0_latestRing, .ref q_p0_ringFinder, .ref q_p0_longest, .ref q_p0_net, .ref q_p0_spare]))], [(q_p0_kept, .inr (2, [.ref q_p0_kept_sums, .ref q_p0_kept_counts]))], [(q_p0_kept_sums, .inl (cL, 27, .inr (.inl f_p0_kept_sums)))], [(q_p0_kept_counts, .inl (cI, 27, .inl f_p0_kept_counts))], [(q_p0_net, .inr (4, [.ref q_p0_net_numbers, .ref q_p0_net_needCounts, .ref q_p0_net_needed, .ref q_p0_net_conditions, .ref q_p0_net_allNeeded, .int v_p0_net_jobs]))], [(q_p3, .inl (cL, 1, .inr (.inl f_p3)))]] s.heap [] := hw
  refine lv_aload_n hx hb d_L_mean_0 rfl (lv_at hl 3 rfl) ?_
  refine lv_iconst (v := 0) hx hb d_L_mean_1 (by decide) ?_
  refine lv_aload_n hx hb d_L_mean_2 rfl (lv_at hl 0 rfl) ?_
  refine lv_iload_n hx hb d_L_mean_3 rfl (lv_at hl 1 rfl) ?_
  refine lv_iload_n hx hb d_L_mean_4 rfl (lv_at hl 2 rfl) ?_
  refine sg_cx (Sr := [[(q_p3, .inl (cL, 1, .inr (.inl f_p3)))]]) (As := [.int a1_x, .int a2_x]) (rest := [.int 0, .ref q_p3]) ⟨hx, hb, hml, hown, hts⟩ (xt_A_mean l hl9 dC dI cI cL cM cZ q_p0 q_p0_calendars q_p0_reader q_p0_current q_p0_kept q_p0_latestRing q_p0_ringFinder q_p0_longest q_p0_net q_p0_spare q_p0_kept_sums q_p0_kept_counts q_p0_net_numbers q_p0_net_needCounts q_p0_net_needed q_p0_net_conditions q_p0_net_allNeeded f_p0_kept_sums f_p0_kept_counts v_p0_net_jobs a1_x a2_x N o hm _) (cwV 2 hts (gd_V wd_540 wd_541 wd_542 wd_1 wd_543) rfl rfl rfl (by decide +kernel) ⟨Nat.le_of_ble_eq_true rfl, Nat.le_of_ble_eq_true rfl⟩) (sg_preVx (sg_preV (ci := 0) (q0 := 0) hK hNW hw [0, 1, 2, 3, 4] rfl rfl rfl rfl) hZ) rfl hl.1 rfl (lv_room (Nat.le_of_ble_eq_true rfl)) d_L_mean_5 ⟨Nat.le_of_ble_eq_true rfl, Nat.le_of_ble_eq_true rfl⟩ ⟨0, 9, 12, 13⟩ htab (by decide) (by decide) (hts _ we_539) (va_Nw.use rfl hZ.2.2.1.1) hw hA [0, 1, 2, 3, 4] [5] rfl rfl (by decide) (by decide) (by decide) (fun q9 H locs hw => ?_)
  have hw : wk (dC, dI) vwCl A s.heap ([[(q_p3, .inl (cL, 1, .inr (.inl f_p3)))]] ++ [[(q_p0, .inr (0, [.ref q_p0_calendars, .ref q_p0_reader, .ref q_p0_current, .ref q_p0_kept, .ref q_p0_latestRing, .ref q_p0_ringFinder, .ref q_p0_longest, .ref q_p0_net, .ref q_p0_spare]))], [(q_p0_kept, .inr (2, [.ref q_p0_kept_sums, .ref q_p0_kept_counts]))], [(q_p0_kept_sums, .inl (cL, 27, .inr (.inl f_p0_kept_sums)))], [(q_p0_kept_counts, .inl (cI, 27, .inl f_p0_kept_counts))], [(q_p0_net, .inr (4, [.ref q_p0_net_numbers, .ref q_p0_net_needCounts, .ref q_p0_net_needed, .ref q_p0_net_conditions, .ref q_p0_net_allNeeded, .int v_p0_net_jobs]))]]) H locs := hw
  refine lv_astore (lv' := [(4, .ref q9), (0, .ref q_p0), (1, .int a1_x), (2, .int a2_x), (3, .ref q_p3)]) hx hb d_L_mean_12 hl (by decide) rfl (fun ls hl => ?_)
  refine lv_iconst (v := 1) hx hb d_L_mean_14 (by decide) ?_
  exact sg_iret hx hb hr hlocks hAe hQ hK (hw.sub [1, 2, 3, 4, 5, 0] (by decide) rfl) d_L_mean_15
