-- 37.amean: what the throw asks of the tables; mean, where it returns and where it throws
theorem we_13 : ((Jvm.Cond.initialized "java/lang/Throwable") : Cond) ∈ BIG := bg_t 13 (by decide +kernel) rfl
theorem we_16 : ((Jvm.Cond.initialized "java/lang/ArithmeticException") : Cond) ∈ BIG := bg_t 16 (by decide +kernel) rfl
theorem we_23 : ((Jvm.Cond.instanceMethod ({ cls := "java/lang/Object", name := "<init>", desc := "()V" } : Jvm.MethodName)) : Cond) ∈ BIG := bg_t 23 (by decide +kernel) rfl
theorem we_24 : ((Jvm.Cond.code ({ cls := "java/lang/Object", name := "<init>", desc := "()V" } : Jvm.MethodName) object_method_1_code (1 : Nat) (Option.none : Option Jvm.ClassFile.FieldType)) : Cond) ∈ BIG := bg_t 24 (by decide +kernel) rfl
theorem we_544 : ((Jvm.Cond.classLink "JobNets" (189 : Nat) "java/lang/ArithmeticException") : Cond) ∈ BIG := bg_t 544 (by decide +kernel) rfl
theorem we_545 : ((Jvm.Cond.instantiable "java/lang/ArithmeticException" (6 : Nat)) : Cond) ∈ BIG := bg_t 545 (by decide +kernel) rfl
theorem we_553 : ((Jvm.Cond.selects "java/lang/ArithmeticException" ({ cls := "java/lang/Throwable", name := "fillInStackTrace", desc := "(I)Ljava/lang/Throwable;" } : Jvm.MethodName) ({ cls := "java/lang/Throwable", name := "fillInStackTrace", desc := "(I)Ljava/lang/Throwable;" } : Jvm.MethodName)) : Cond) ∈ BIG := bg_t 553 (by decide +kernel) rfl
theorem we_554 : ((Jvm.Cond.selects "java/lang/ArithmeticException" ({ cls := "java/lang/Throwable", name := "fillInStackTrace", desc := "()Ljava/lang/Throwable;" } : Jvm.MethodName) ({ cls := "java/lang/Throwable", name := "fillInStackTrace", desc := "()Ljava/lang/Throwable;" } : Jvm.MethodName)) : Cond) ∈ BIG := bg_t 554 (by decide +kernel) rfl
theorem we_555 : ((Jvm.Cond.lays "java/lang/ArithmeticException" "java/lang/Throwable" "cause" "Ljava/lang/Throwable;") : Cond) ∈ BIG := bg_t 555 (by decide +kernel) rfl
theorem we_556 : ((Jvm.Cond.lays "java/lang/Throwable" "java/lang/Throwable" "cause" "Ljava/lang/Throwable;") : Cond) ∈ BIG := bg_t 556 (by decide +kernel) rfl
theorem we_557 : ((Jvm.Cond.lays "java/lang/ArithmeticException" "java/lang/Throwable" "stackTrace" "[Ljava/lang/StackTraceElement;") : Cond) ∈ BIG := bg_t 557 (by decide +kernel) rfl
theorem we_558 : ((Jvm.Cond.lays "java/lang/Throwable" "java/lang/Throwable" "stackTrace" "[Ljava/lang/StackTraceElement;") : Cond) ∈ BIG := bg_t 558 (by decide +kernel) rfl
theorem we_559 : ((Jvm.Cond.lays "java/lang/ArithmeticException" "java/lang/Throwable" "suppressedExceptions" "Ljava/util/List;") : Cond) ∈ BIG := bg_t 559 (by decide +kernel) rfl
theorem we_560 : ((Jvm.Cond.lays "java/lang/Throwable" "java/lang/Throwable" "suppressedExceptions" "Ljava/util/List;") : Cond) ∈ BIG := bg_t 560 (by decide +kernel) rfl
theorem we_561 : ((Jvm.Cond.lays "java/lang/ArithmeticException" "java/lang/Throwable" "detailMessage" "Ljava/lang/String;") : Cond) ∈ BIG := bg_t 561 (by decide +kernel) rfl
theorem we_562 : ((Jvm.Cond.lays "java/lang/Throwable" "java/lang/Throwable" "detailMessage" "Ljava/lang/String;") : Cond) ∈ BIG := bg_t 562 (by decide +kernel) rfl
theorem we_563 : ((Jvm.Cond.lays "java/lang/ArithmeticException" "java/lang/Throwable" "backtrace" "Ljava/lang/Object;") : Cond) ∈ BIG := bg_t 563 (by decide +kernel) rfl
theorem we_564 : ((Jvm.Cond.lays "java/lang/Throwable" "java/lang/Throwable" "backtrace" "Ljava/lang/Object;") : Cond) ∈ BIG := bg_t 564 (by decide +kernel) rfl
theorem we_565 : ((Jvm.Cond.fieldLink "java/lang/Throwable" (198 : Nat) "java/lang/Throwable" "backtrace" "Ljava/lang/Object;") : Cond) ∈ BIG := bg_t 565 (by decide +kernel) rfl
theorem we_566 : ((Jvm.Cond.superclass "java/lang/Throwable" "java/lang/Object") : Cond) ∈ BIG := bg_t 566 (by decide +kernel) rfl
theorem we_567 : ((Jvm.Cond.instanceMethod ({ cls := "java/lang/Throwable", name := "<init>", desc := "()V" } : Jvm.MethodName)) : Cond) ∈ BIG := bg_t 567 (by decide +kernel) rfl
theorem we_568 : ((Jvm.Cond.code ({ cls := "java/lang/Throwable", name := "<init>", desc := "()V" } : Jvm.MethodName) prog_17_method_1_code (1 : Nat) (Option.none : Option Jvm.ClassFile.FieldType)) : Cond) ∈ BIG := bg_t 568 (by decide +kernel) rfl
theorem we_569 : ((Jvm.Cond.methodLink "java/lang/Throwable" (1 : Nat) ({ cls := "java/lang/Object", name := "<init>", desc := "()V" } : Jvm.MethodName)) : Cond) ∈ BIG := bg_t 569 (by decide +kernel) rfl
theorem we_570 : ((Jvm.Cond.fieldLink "java/lang/Throwable" (13 : Nat) "java/lang/Throwable" "UNASSIGNED_STACK" "[Ljava/lang/StackTraceElement;") : Cond) ∈ BIG := bg_t 570 (by decide +kernel) rfl
theorem we_572 : ((Jvm.Cond.fieldLink "java/lang/Throwable" (20 : Nat) "java/lang/Throwable" "SUPPRESSED_SENTINEL" "Ljava/util/List;") : Cond) ∈ BIG := bg_t 572 (by decide +kernel) rfl
theorem we_574 : ((Jvm.Cond.methodLink "java/lang/Throwable" (27 : Nat) ({ cls := "java/lang/Throwable", name := "fillInStackTrace", desc := "()Ljava/lang/Throwable;" } : Jvm.MethodName)) : Cond) ∈ BIG := bg_t 574 (by decide +kernel) rfl
theorem we_575 : ((Jvm.Cond.instanceMethod ({ cls := "java/lang/Throwable", name := "fillInStackTrace", desc := "()Ljava/lang/Throwable;" } : Jvm.MethodName)) : Cond) ∈ BIG := bg_t 575 (by decide +kernel) rfl
theorem we_577 : ((Jvm.Cond.codeSync ({ cls := "java/lang/Throwable", name := "fillInStackTrace", desc := "()Ljava/lang/Throwable;" } : Jvm.MethodName) prog_17_method_18_code (1 : Nat) (Option.some (Jvm.ClassFile.FieldType.object "java/lang/Throwable"))) : Cond) ∈ BIG := bg_t 577 (by decide +kernel) rfl
theorem we_578 : ((Jvm.Cond.methodLink "java/lang/Throwable" (202 : Nat) ({ cls := "java/lang/Throwable", name := "fillInStackTrace", desc := "(I)Ljava/lang/Throwable;" } : Jvm.MethodName)) : Cond) ∈ BIG := bg_t 578 (by decide +kernel) rfl
theorem we_580 : ((Jvm.Cond.instanceMethod ({ cls := "java/lang/Throwable", name := "fillInStackTrace", desc := "(I)Ljava/lang/Throwable;" } : Jvm.MethodName)) : Cond) ∈ BIG := bg_t 580 (by decide +kernel) rfl
theorem we_582 : ((Jvm.Cond.native ({ cls := "java/lang/Throwable", name := "fillInStackTrace", desc := "(I)Ljava/lang/Throwable;" } : Jvm.MethodName)) : Cond) ∈ BIG := bg_t 582 (by decide +kernel) rfl
theorem we_584 : ((Jvm.Cond.methodLink "JobNets" (193 : Nat) ({ cls := "java/lang/ArithmeticException", name := "<init>", desc := "(Ljava/lang/String;)V" } : Jvm.MethodName)) : Cond) ∈ BIG := bg_t 584 (by decide +kernel) rfl
theorem we_585 : ((Jvm.Cond.instanceMethod ({ cls := "java/lang/ArithmeticException", name := "<init>", desc := "(Ljava/lang/String;)V" } : Jvm.MethodName)) : Cond) ∈ BIG := bg_t 585 (by decide +kernel) rfl
theorem we_586 : ((Jvm.Cond.code ({ cls := "java/lang/ArithmeticException", name := "<init>", desc := "(Ljava/lang/String;)V" } : Jvm.MethodName) prog_12_method_2_code (2 : Nat) (Option.none : Option Jvm.ClassFile.FieldType)) : Cond) ∈ BIG := bg_t 586 (by decide +kernel) rfl
theorem we_587 : ((Jvm.Cond.methodLink "java/lang/ArithmeticException" (7 : Nat) ({ cls := "java/lang/RuntimeException", name := "<init>", desc := "(Ljava/lang/String;)V" } : Jvm.MethodName)) : Cond) ∈ BIG := bg_t 587 (by decide +kernel) rfl
theorem we_588 : ((Jvm.Cond.instanceMethod ({ cls := "java/lang/RuntimeException", name := "<init>", desc := "(Ljava/lang/String;)V" } : Jvm.MethodName)) : Cond) ∈ BIG := bg_t 588 (by decide +kernel) rfl
theorem we_589 : ((Jvm.Cond.code ({ cls := "java/lang/RuntimeException", name := "<init>", desc := "(Ljava/lang/String;)V" } : Jvm.MethodName) prog_15_method_2_code (2 : Nat) (Option.none : Option Jvm.ClassFile.FieldType)) : Cond) ∈ BIG := bg_t 589 (by decide +kernel) rfl
theorem we_590 : ((Jvm.Cond.methodLink "java/lang/RuntimeException" (7 : Nat) ({ cls := "java/lang/Exception", name := "<init>", desc := "(Ljava/lang/String;)V" } : Jvm.MethodName)) : Cond) ∈ BIG := bg_t 590 (by decide +kernel) rfl
theorem we_591 : ((Jvm.Cond.instanceMethod ({ cls := "java/lang/Exception", name := "<init>", desc := "(Ljava/lang/String;)V" } : Jvm.MethodName)) : Cond) ∈ BIG := bg_t 591 (by decide +kernel) rfl
theorem we_592 : ((Jvm.Cond.code ({ cls := "java/lang/Exception", name := "<init>", desc := "(Ljava/lang/String;)V" } : Jvm.MethodName) prog_13_method_2_code (2 : Nat) (Option.none : Option Jvm.ClassFile.FieldType)) : Cond) ∈ BIG := bg_t 592 (by decide +kernel) rfl
theorem we_593 : ((Jvm.Cond.methodLink "java/lang/Exception" (7 : Nat) ({ cls := "java/lang/Throwable", name := "<init>", desc := "(Ljava/lang/String;)V" } : Jvm.MethodName)) : Cond) ∈ BIG := bg_t 593 (by decide +kernel) rfl
theorem we_594 : ((Jvm.Cond.instanceMethod ({ cls := "java/lang/Throwable", name := "<init>", desc := "(Ljava/lang/String;)V" } : Jvm.MethodName)) : Cond) ∈ BIG := bg_t 594 (by decide +kernel) rfl
theorem we_595 : ((Jvm.Cond.code ({ cls := "java/lang/Throwable", name := "<init>", desc := "(Ljava/lang/String;)V" } : Jvm.MethodName) prog_17_method_2_code (2 : Nat) (Option.none : Option Jvm.ClassFile.FieldType)) : Cond) ∈ BIG := bg_t 595 (by decide +kernel) rfl
theorem we_597 : ((Jvm.Cond.fieldLink "java/lang/Throwable" (31 : Nat) "java/lang/Throwable" "detailMessage" "Ljava/lang/String;") : Cond) ∈ BIG := bg_t 597 (by decide +kernel) rfl
theorem we_598 : ((Jvm.Cond.fieldLink "java/lang/Throwable" (7 : Nat) "java/lang/Throwable" "cause" "Ljava/lang/Throwable;") : Cond) ∈ BIG := bg_t 598 (by decide +kernel) rfl
theorem we_599 : ((Jvm.Cond.fieldLink "java/lang/Throwable" (17 : Nat) "java/lang/Throwable" "stackTrace" "[Ljava/lang/StackTraceElement;") : Cond) ∈ BIG := bg_t 599 (by decide +kernel) rfl
theorem we_600 : ((Jvm.Cond.fieldLink "java/lang/Throwable" (24 : Nat) "java/lang/Throwable" "suppressedExceptions" "Ljava/util/List;") : Cond) ∈ BIG := bg_t 600 (by decide +kernel) rfl
theorem xo_atoms {args : Array Value} {U : State} {A : Nat → Prop} (h : ∀ w ∈ BIG, w.before args U = true) (hU : xz "UNASSIGNED_STACK" Bundle.steD A U U.heap) (hN : xz "SUPPRESSED_SENTINEL" Bundle.listD A U U.heap) (hn : xN U) : ∀ w ∈ Bundle.ownAtoms "JobNets" 193 "java/lang/ArithmeticException" ["java/lang/RuntimeException", "java/lang/Exception"], w.before args U = true :=
  (List.forall_mem_cons.mpr ⟨h _ we_13, (List.forall_mem_cons.mpr ⟨h _ we_566, (List.forall_mem_cons.mpr ⟨h _ we_575, (List.forall_mem_cons.mpr ⟨h _ we_577, (List.forall_mem_cons.mpr ⟨h _ we_580, (List.forall_mem_cons.mpr ⟨h _ we_582, (List.forall_mem_cons.mpr ⟨h _ we_567, (List.forall_mem_cons.mpr ⟨h _ we_568, (List.forall_mem_cons.mpr ⟨h _ we_23, (List.forall_mem_cons.mpr ⟨h _ we_24, (List.forall_mem_cons.mpr ⟨h _ we_569, (List.forall_mem_cons.mpr ⟨h _ we_574, (List.forall_mem_cons.mpr ⟨h _ we_578, (List.forall_mem_cons.mpr ⟨h _ we_598, (List.forall_mem_cons.mpr ⟨h _ we_556, (List.forall_mem_cons.mpr ⟨h _ we_599, (List.forall_mem_cons.mpr ⟨h _ we_558, (List.forall_mem_cons.mpr ⟨h _ we_600, (List.forall_mem_cons.mpr ⟨h _ we_560, (List.forall_mem_cons.mpr ⟨h _ we_570, (List.forall_mem_cons.mpr ⟨hU.lays, (List.forall_mem_cons.mpr ⟨h _ we_572, (List.forall_mem_cons.mpr ⟨hN.lays, (List.forall_mem_cons.mpr ⟨h _ we_562, (List.forall_mem_cons.mpr ⟨h _ we_594, (List.forall_mem_cons.mpr ⟨h _ we_595, (List.forall_mem_cons.mpr ⟨h _ we_597, (List.forall_mem_cons.mpr ⟨h _ we_562, (List.forall_mem_cons.mpr ⟨h _ we_585, (List.forall_mem_cons.mpr ⟨h _ we_586, (List.forall_mem_cons.mpr ⟨h _ we_587, (List.forall_mem_cons.mpr ⟨h _ we_588, (List.forall_mem_cons.mpr ⟨(va_Nw.use rfl hn.2.1), (List.forall_mem_cons.mpr ⟨h _ we_588, (List.forall_mem_cons.mpr ⟨h _ we_589, (List.forall_mem_cons.mpr ⟨h _ we_590, (List.forall_mem_cons.mpr ⟨h _ we_591, (List.forall_mem_cons.mpr ⟨(va_Nw.use rfl hn.2.2.1), (List.forall_mem_cons.mpr ⟨h _ we_591, (List.forall_mem_cons.mpr ⟨h _ we_592, (List.forall_mem_cons.mpr ⟨h _ we_593, (List.forall_mem_cons.mpr ⟨h _ we_594, (List.forall_mem_cons.mpr ⟨(va_Nw.use rfl hn.2.2.2), (List.forall_mem_cons.mpr ⟨h _ we_584, (List.forall_mem_cons.mpr ⟨h _ we_545, (List.forall_mem_cons.mpr ⟨(va_Nw.use rfl hn.1), (List.forall_mem_cons.mpr ⟨h _ we_553, (List.forall_mem_cons.mpr ⟨h _ we_554, (List.forall_mem_cons.mpr ⟨h _ we_555, (List.forall_mem_cons.mpr ⟨h _ we_557, (List.forall_mem_cons.mpr ⟨h _ we_559, (List.forall_mem_cons.mpr ⟨h _ we_561, (List.forall_mem_cons.mpr ⟨hU.ref, (List.forall_mem_cons.mpr ⟨hN.ref, (List.forall_mem_cons.mpr ⟨h _ we_565, (List.forall_mem_cons.mpr ⟨h _ we_564, (List.forall_mem_cons.mpr ⟨h _ we_563, (fun _ h => nomatch h)⟩)⟩)⟩)⟩)⟩)⟩)⟩)⟩)⟩)⟩)⟩)⟩)⟩)⟩)⟩)⟩)⟩)⟩)⟩)⟩)⟩)⟩)⟩)⟩)⟩)⟩)⟩)⟩)⟩)⟩)⟩)⟩)⟩)⟩)⟩)⟩)⟩)⟩)⟩)⟩)⟩)⟩)⟩)⟩)⟩)⟩)⟩)⟩)⟩)⟩)⟩)⟩)⟩)⟩)⟩)⟩)⟩)
section XO
variable {p : Program} {l : Launch} {e : Env} {R : Room} {s : State} {m : MethodId} {args : Array Value} {below : List Frame} {meth : Method} {c : Code} {H : Heap} {locs : List Loc} {Q : State → Prop}
variable {cc : ByteArray} {pc : Nat} {ls : Array Slot} {D : va_G} {cl : List vw_C} {A : Nat → Prop}
theorem xo_throw {Sc : List va_W} (hx : p.tables.exec = Jvm.exec) (hb : c.code = cc) (hl9 : l.stackTraces = false) (hown : s.vm.findClass "JobNets" = some m.cls) (hts : ∀ w ∈ BIG, w.before args s = true) (hQ : Q = xMQ below s "java/lang/ArithmeticException" (fun t => va_P D cl Sc.flatten t.heap) A A 1 6) (hw : wk D cl A s.heap Sc H locs) (hZ : xZ A s s.heap) (htab : ∀ x ∈ c.exceptionTable.toList, False) (hlocks : meth.locks = false) (hsize : ls.size = c.maxLocals)
    (d0 : decode cc pc = .ok (.new 189, 3)) (d3 : decode cc (pc + 3) = .ok (.dup, 1)) (d4 : decode cc (pc + 4) = .ok (.ldc 191, 2)) (d6 : decode cc (pc + 6) = .ok (.invokespecial 193, 3)) (d9 : decode cc (pc + 9) = .ok (.athrow, 1))
    (hRf : 6 ≤ R.frames) (hRl : 82 ≤ R.locals) (hRc : 0 + 1 ≤ R.cells) (hRs : 0 + 6 ≤ R.slots) : W p l e R s m args below meth c H locs 0 0 Q (F0 m pc ls []) := by
  subst hQ
  obtain ⟨h1, h2, hn, sa, h3⟩ := hZ.kept hw.2.2.2.1
  refine xw_throw (sa := sa) (text := "no time was kept") (names := ["java/lang/RuntimeException", "java/lang/Exception"]) (own := "JobNets") hx hb hl9 hown (by decide +kernel) (by decide +kernel) (fun U hv hh => ?_) hw.2.2 (fun _ h => h) (fun t _ hz hk => ?_) hsize d0 d3 d4 d6 d9 (fun x h => (htab x h).elim) (by simp only [List.length_cons, List.length_nil]; omega) (by simp only [List.length_cons, List.length_nil]; omega) hRc hRs hlocks
  · have hW : s.WarmedH U.vm := by rw [hv]; exact State.WarmedH.refl s
    have hU : ∀ w ∈ BIG, w.before args U = true := fun w hw => word_at hW (bg_g hw).2 (hts w hw)
    refine ⟨hU _ we_544, hU _ we_16, h3.warm hW, xo_atoms hU (A := A) ?_ ?_ (hn.warm hW)⟩
    · rw [hh]; exact h1.moved hW.alike
    · rw [hh]; exact h2.moved hW.alike
  · exact sg_Pin.mpr (fun q hq => (sg_Pin.mp hw.1 q hq).kept (hk q.1 (sg_Pin.mp hw.1 q hq).lt))
end XO
abbrev y_A_mean : MethodName := ⟨"JobNets", "mean", "(II)J"⟩
abbrev ws_A_mean : List Cond := .code ⟨"JobNets", "mean", "(II)J"⟩ prog_1_method_14_code 4 (Option.some .long) :: BIG
theorem d_A_mean_0 : decode prog_1_method_14_code 0 = .ok (.aload_n 0, 1) := by decide +kernel
theorem d_A_mean_1 : decode prog_1_method_14_code 1 = .ok (.getfield 61, 3) := by decide +kernel
theorem d_A_mean_4 : decode prog_1_method_14_code 4 = .ok (.iload_n 1, 1) := by decide +kernel
theorem d_A_mean_5 : decode prog_1_method_14_code 5 = .ok (.invokevirtual 107, 3) := by decide +kernel
theorem d_A_mean_8 : decode prog_1_method_14_code 8 = .ok (.ifCond .eq 12, 3) := by decide +kernel
theorem d_A_mean_11 : decode prog_1_method_14_code 11 = .ok (.iload_n 2, 1) := by decide +kernel
theorem d_A_mean_12 : decode prog_1_method_14_code 12 = .ok (.ifCond .lt 8, 3) := by decide +kernel
theorem d_A_mean_15 : decode prog_1_method_14_code 15 = .ok (.iload_n 2, 1) := by decide +kernel
theorem d_A_mean_16 : decode prog_1_method_14_code 16 = .ok (.iconst 1, 1) := by decide +kernel
theorem d_A_mean_17 : decode prog_1_method_14_code 17 = .ok (.if_icmp .le 7, 3) := by decide +kernel
theorem d_A_mean_20 : decode prog_1_method_14_code 20 = .ok (.ldc2_w 127, 3) := by decide +kernel
theorem d_A_mean_23 : decode prog_1_method_14_code 23 = .ok (.lreturn, 1) := by decide +kernel
theorem d_A_mean_24 : decode prog_1_method_14_code 24 = .ok (.aload_n 0, 1) := by decide +kernel
theorem d_A_mean_25 : decode prog_1_method_14_code 25 = .ok (.getfield 33, 3) := by decide +kernel
theorem d_A_mean_28 : decode prog_1_method_14_code 28 = .ok (.getfield 186, 3) := by decide +kernel
theorem d_A_mean_31 : decode prog_1_method_14_code 31 = .ok (.iload_n 1, 1) := by decide +kernel
theorem d_A_mean_32 : decode prog_1_method_14_code 32 = .ok (.iaload, 1) := by decide +kernel
theorem d_A_mean_33 : decode prog_1_method_14_code 33 = .ok (.istore_n 3, 1) := by decide +kernel
theorem d_A_mean_34 : decode prog_1_method_14_code 34 = .ok (.iload_n 3, 1) := by decide +kernel
theorem d_A_mean_35 : decode prog_1_method_14_code 35 = .ok (.ifCond .gt 13, 3) := by decide +kernel
theorem d_A_mean_38 : decode prog_1_method_14_code 38 = .ok (.new 189, 3) := by decide +kernel
theorem d_A_mean_41 : decode prog_1_method_14_code 41 = .ok (.dup, 1) := by decide +kernel
theorem d_A_mean_42 : decode prog_1_method_14_code 42 = .ok (.ldc 191, 2) := by decide +kernel
theorem d_A_mean_44 : decode prog_1_method_14_code 44 = .ok (.invokespecial 193, 3) := by decide +kernel
theorem d_A_mean_47 : decode prog_1_method_14_code 47 = .ok (.athrow, 1) := by decide +kernel
theorem d_A_mean_48 : decode prog_1_method_14_code 48 = .ok (.iload_n 2, 1) := by decide +kernel
theorem d_A_mean_49 : decode prog_1_method_14_code 49 = .ok (.ifCond .ne 18, 3) := by decide +kernel
theorem d_A_mean_52 : decode prog_1_method_14_code 52 = .ok (.aload_n 0, 1) := by decide +kernel
theorem d_A_mean_53 : decode prog_1_method_14_code 53 = .ok (.getfield 33, 3) := by decide +kernel
theorem d_A_mean_56 : decode prog_1_method_14_code 56 = .ok (.getfield 196, 3) := by decide +kernel
theorem d_A_mean_59 : decode prog_1_method_14_code 59 = .ok (.iload_n 1, 1) := by decide +kernel
theorem d_A_mean_60 : decode prog_1_method_14_code 60 = .ok (.laload, 1) := by decide +kernel
theorem d_A_mean_61 : decode prog_1_method_14_code 61 = .ok (.iload_n 3, 1) := by decide +kernel
theorem d_A_mean_62 : decode prog_1_method_14_code 62 = .ok (.i2l, 1) := by decide +kernel
theorem d_A_mean_63 : decode prog_1_method_14_code 63 = .ok (.ldiv, 1) := by decide +kernel
theorem d_A_mean_64 : decode prog_1_method_14_code 64 = .ok (.goto 15, 3) := by decide +kernel
theorem d_A_mean_67 : decode prog_1_method_14_code 67 = .ok (.aload_n 0, 1) := by decide +kernel
theorem d_A_mean_68 : decode prog_1_method_14_code 68 = .ok (.getfield 33, 3) := by decide +kernel
theorem d_A_mean_71 : decode prog_1_method_14_code 71 = .ok (.getfield 196, 3) := by decide +kernel
theorem d_A_mean_74 : decode prog_1_method_14_code 74 = .ok (.iload_n 1, 1) := by decide +kernel
theorem d_A_mean_75 : decode prog_1_method_14_code 75 = .ok (.laload, 1) := by decide +kernel
theorem d_A_mean_76 : decode prog_1_method_14_code 76 = .ok (.iload_n 3, 1) := by decide +kernel
theorem d_A_mean_77 : decode prog_1_method_14_code 77 = .ok (.i2l, 1) := by decide +kernel
theorem d_A_mean_78 : decode prog_1_method_14_code 78 = .ok (.lrem, 1) := by decide +kernel
theorem d_A_mean_79 : decode prog_1_method_14_code 79 = .ok (.lreturn, 1) := by decide +kernel
def md_A_mean (N : Nat) (f_p0_kept_sums : Nat → Int64) (f_p0_kept_counts : Nat → Int32) (v_p0_net_jobs : Int32) (a1_x : Int32) (a2_x : Int32) : Option (Int64) :=
  (zc (md_Net_has N v_p0_net_jobs a1_x) (fun o1 => (if o1 = 0 then (some (-1 : Int64)) else (if a2_x < 0 then (some (-1 : Int64)) else (if a2_x ≤ (1 : Int32) then (if sg_in a1_x 27 = true then (if 0 < (f_p0_kept_counts a1_x.toNatClampNeg) then (if a2_x = 0 then (if sg_in a1_x 27 = true then (if ¬ ((f_p0_kept_counts a1_x.toNatClampNeg).toInt64) = (0 : Int64) then (some ((f_p0_kept_sums a1_x.toNatClampNeg) / ((f_p0_kept_counts a1_x.toNatClampNeg).toInt64))) else none) else none) else (if sg_in a1_x 27 = true then (if ¬ ((f_p0_kept_counts a1_x.toNatClampNeg).toInt64) = (0 : Int64) then (some ((f_p0_kept_sums a1_x.toNatClampNeg) - (f_p0_kept_sums a1_x.toNatClampNeg) / ((f_p0_kept_counts a1_x.toNatClampNeg).toInt64) * ((f_p0_kept_counts a1_x.toNatClampNeg).toInt64))) else none) else none)) else none) else none) else (some (-1 : Int64)))))))
abbrev sc_A_mean (cI cL cM cZ : ClassId) (q_p0 q_p0_calendars q_p0_reader q_p0_current q_p0_kept q_p0_latestRing q_p0_ringFinder q_p0_longest q_p0_net q_p0_spare q_p0_kept_sums q_p0_kept_counts q_p0_net_numbers q_p0_net_needCounts q_p0_net_needed q_p0_net_conditions q_p0_net_allNeeded : Nat) (f_p0_kept_sums : Nat → Int64) (f_p0_kept_counts : Nat → Int32) (v_p0_net_jobs : Int32) : List va_W := [[(q_p0, .inr (0, [.ref q_p0_calendars, .ref q_p0_reader, .ref q_p0_current, .ref q_p0_kept, .ref q_p0_latestRing, .ref q_p0_ringFinder, .ref q_p0_longest, .ref q_p0_net, .ref q_p0_spare]))], [(q_p0_kept, .inr (2, [.ref q_p0_kept_sums, .ref q_p0_kept_counts]))], [(q_p0_kept_sums, .inl (cL, 27, .inr (.inl f_p0_kept_sums)))], [(q_p0_kept_counts, .inl (cI, 27, .inl f_p0_kept_counts))], [(q_p0_net, .inr (4, [.ref q_p0_net_numbers, .ref q_p0_net_needCounts, .ref q_p0_net_needed, .ref q_p0_net_conditions, .ref q_p0_net_allNeeded, .int v_p0_net_jobs]))]]
abbrev rm_A_mean : Room := { frames := 1, cells := 0, slots := 0, locals := 21 }
set_option maxHeartbeats 4000000 in
set_option maxRecDepth 100000 in
theorem ct_A_mean (l : Launch) (dC : Nat → ClassId) (dI : Nat → Nat → Nat) (cI cL cM cZ : ClassId) (q_p0 q_p0_calendars q_p0_reader q_p0_current q_p0_kept q_p0_latestRing q_p0_ringFinder q_p0_longest q_p0_net q_p0_spare q_p0_kept_sums q_p0_kept_counts q_p0_net_numbers q_p0_net_needCounts q_p0_net_needed q_p0_net_conditions q_p0_net_allNeeded : Nat) (f_p0_kept_sums : Nat → Int64) (f_p0_kept_counts : Nat → Int32) (v_p0_net_jobs : Int32) (a1_x : Int32) (a2_x : Int32) (N : Nat) (o : Int64) (hm : md_A_mean N f_p0_kept_sums f_p0_kept_counts v_p0_net_jobs a1_x a2_x = some o) : ∀ sz : Nat, Met l y_A_mean ws_A_mean rm_A_mean (cP (dC, dI) vwCl [(cI, .int), (cL, .long), (cM, .array .int), (cZ, .boolean)] [.ref q_p0, .int a1_x, .int a2_x] sz (sc_A_mean cI cL cM cZ q_p0 q_p0_calendars q_p0_reader q_p0_current q_p0_kept q_p0_latestRing q_p0_ringFinder q_p0_longest q_p0_net q_p0_spare q_p0_kept_sums q_p0_kept_counts q_p0_net_numbers q_p0_net_needCounts q_p0_net_needed q_p0_net_conditions q_p0_net_allNeeded f_p0_kept_sums f_p0_kept_counts v_p0_net_jobs)) (cQl (dC, dI) vwCl [(cI, .int), (cL, .long), (cM, .array .int), (cZ, .boolean)] sz (sc_A_mean cI cL cM cZ q_p0 q_p0_calendars q_p0_reader q_p0_current q_p0_kept q_p0_latestRing q_p0_ringFinder q_p0_longest q_p0_net q_p0_spare q_p0_kept_sums q_p0_kept_counts q_p0_net_numbers q_p0_net_needCounts q_p0_net_needed q_p0_net_conditions q_p0_net_allNeeded f_p0_kept_sums f_p0_kept_counts v_p0_net_jobs) o (sc_A_mean cI cL cM cZ q_p0 q_p0_calendars q_p0_reader q_p0_current q_p0_kept q_p0_latestRing q_p0_ringFinder q_p0_longest q_p0_net q_p0_spare q_p0_kept_sums q_p0_kept_counts q_p0_net_numbers q_p0_net_needCounts q_p0_net_needed q_p0_net_conditions q_p0_net_allNeeded f_p0_kept_sums f_p0_kept_counts v_p0_net_jobs)) 0 0 (va_A ((sc_A_mean cI cL cM cZ q_p0 q_p0_calendars q_p0_reader q_p0_current q_p0_kept q_p0_latestRing q_p0_ringFinder q_p0_longest q_p0_net q_p0_spare q_p0_kept_sums q_p0_kept_counts q_p0_net_numbers q_p0_net_needCounts q_p0_net_needed q_p0_net_conditions q_p0_net_allNeeded f_p0_kept_sums f_p0_kept_counts v_p0_net_jobs)).flatten sz) := by
  refine sg_met (fun sz => cQl (dC, dI) vwCl [(cI, .int), (cL, .long), (cM, .array .int), (cZ, .boolean)] sz (sc_A_mean cI cL cM cZ q_p0 q_p0_calendars q_p0_reader q_p0_current q_p0_kept q_p0_latestRing q_p0_ringFinder q_p0_longest q_p0_net q_p0_spare q_p0_kept_sums q_p0_kept_counts q_p0_net_numbers q_p0_net_needCounts q_p0_net_needed q_p0_net_conditions q_p0_net_allNeeded f_p0_kept_sums f_p0_kept_counts v_p0_net_jobs) o (sc_A_mean cI cL cM cZ q_p0 q_p0_calendars q_p0_reader q_p0_current q_p0_kept q_p0_latestRing q_p0_ringFinder q_p0_longest q_p0_net q_p0_spare q_p0_kept_sums q_p0_kept_counts q_p0_net_numbers q_p0_net_needCounts q_p0_net_needed q_p0_net_conditions q_p0_net_allNeeded f_p0_kept_sums f_p0_kept_counts v_p0_net_jobs)) (by decide) (Nat.le_of_ble_eq_true rfl) ?_
  intro p e s m args below meth c A Q ls hx hb hr hts hown hlocks hml hname hK hNW hA hAe hQ hw hl
  have hl : lv_has ls 4 [(0, .ref q_p0), (1, .int a1_x), (2, .int a2_x)] := hl
  have hw : wk (dC, dI) vwCl A s.heap [[(q_p0, .inr (0, [.ref q_p0_calendars, .ref q_p0_reader, .ref q_p0_current, .ref q_p0_kept, .ref q_p0_latestRing, .ref q_p0_ringFinder, .ref q_p0_longest, .ref q_p0_net, .ref q_p0_spare]))], [(q_p0_kept, .inr (2, [.ref q_p0_kept_sums, .ref q_p0_kept_counts]))], [(q_p0_kept_sums, .inl (cL, 27, .inr (.inl f_p0_kept_sums)))], [(q_p0_kept_counts, .inl (cI, 27, .inl f_p0_kept_counts))], [(q_p0_net, .inr (4, [.ref q_p0_net_numbers, .ref q_p0_net_needCounts, .ref q_p0_net_needed, .ref q_p0_net_conditions, .ref q_p0_net_allNeeded, .int v_p0_net_jobs]))]] s.heap [] := hw
  unfold md_A_mean at hm
  refine lv_aload_n hx hb d_A_mean_0 rfl (lv_at hl 0 rfl) ?_
  refine sg_get (D := (dC, dI)) (ci := 0) (v := .ref q_p0_net) (C := "JobNets") (T := T_0) (N := 9) hx hb hts hin_0 hown hK hw 0 rfl rfl 7 (by decide) (hts _ wd_229) rfl rfl d_A_mean_1 ?_
  refine lv_iload_n hx hb d_A_mean_4 rfl (lv_at hl 1 rfl) ?_
  obtain ⟨o1, h1, hm⟩ := zc_x hm
  refine sg_ci0 (Sr := [[(q_p0, .inr (0, [.ref q_p0_calendars, .ref q_p0_reader, .ref q_p0_current, .ref q_p0_kept, .ref q_p0_latestRing, .ref q_p0_ringFinder, .ref q_p0_longest, .ref q_p0_net, .ref q_p0_spare]))], [(q_p0_kept, .inr (2, [.ref q_p0_kept_sums, .ref q_p0_kept_counts]))], [(q_p0_kept_sums, .inl (cL, 27, .inr (.inl f_p0_kept_sums)))], [(q_p0_kept_counts, .inl (cI, 27, .inl f_p0_kept_counts))]]) (va_runV (As := [.int a1_x]) (rest := []) ⟨hx, hb, hml, hown, hts⟩ (ct_Net_has l dC dI cI cL cM cZ q_p0_net q_p0_net_numbers q_p0_net_needCounts q_p0_net_needed q_p0_net_conditions q_p0_net_allNeeded v_p0_net_jobs a1_x N o1 h1 _) (cwV 1 hts (gd_V wd_387 wd_388 wd_389 wd_9 wd_390) rfl rfl rfl (by decide +kernel) ⟨Nat.le_of_ble_eq_true rfl, Nat.le_of_ble_eq_true rfl⟩) (sg_preV (ci := 4) (q0 := 4) hK hNW hw [4] rfl rfl rfl rfl) rfl rfl hl.1 rfl (lv_room (Nat.le_of_ble_eq_true rfl)) d_A_mean_5 ⟨Nat.le_of_ble_eq_true rfl, Nat.le_of_ble_eq_true rfl⟩) hw hA [4] [0, 1, 2, 3] rfl rfl rfl (by decide) (fun H locs hw => ?_)
  have hw : wk (dC, dI) vwCl A s.heap [[(q_p0, .inr (0, [.ref q_p0_calendars, .ref q_p0_reader, .ref q_p0_current, .ref q_p0_kept, .ref q_p0_latestRing, .ref q_p0_ringFinder, .ref q_p0_longest, .ref q_p0_net, .ref q_p0_spare]))], [(q_p0_kept, .inr (2, [.ref q_p0_kept_sums, .ref q_p0_kept_counts]))], [(q_p0_kept_sums, .inl (cL, 27, .inr (.inl f_p0_kept_sums)))], [(q_p0_kept_counts, .inl (cI, 27, .inl f_p0_kept_counts))], [(q_p0_net, .inr (4, [.ref q_p0_net_numbers, .ref q_p0_net_needCounts, .ref q_p0_net_needed, .ref q_p0_net_conditions, .ref q_p0_net_allNeeded, .int v_p0_net_jobs]))]] H locs := hw
  refine bq_t (lv_if_eq (tgt := 20) hx hb d_A_mean_8 (by decide)) hm (fun hm => ?_) (fun hm => ?_)
  · refine lv_ldc2 hx hb (v := -1) hown (hts _ wd_398) d_A_mean_20 ?_
    exact so_lret (rf := fun z_ => z_) (Sf := fun z_ => sc_A_mean cI cL cM cZ q_p0 q_p0_calendars q_p0_reader q_p0_current q_p0_kept q_p0_latestRing q_p0_ringFinder q_p0_longest q_p0_net q_p0_spare q_p0_kept_sums q_p0_kept_counts q_p0_net_numbers q_p0_net_needCounts q_p0_net_needed q_p0_net_conditions q_p0_net_allNeeded f_p0_kept_sums f_p0_kept_counts v_p0_net_jobs) hm hx hb hr hlocks hAe hQ hK hw rfl d_A_mean_23
  · refine lv_iload_n hx hb d_A_mean_11 rfl (lv_at hl 2 rfl) ?_
    refine bq_t (lv_if_lt (tgt := 20) hx hb d_A_mean_12 (by decide)) hm (fun hm => ?_) (fun hm => ?_)
    · refine lv_ldc2 hx hb (v := -1) hown (hts _ wd_398) d_A_mean_20 ?_
      exact so_lret (rf := fun z_ => z_) (Sf := fun z_ => sc_A_mean cI cL cM cZ q_p0 q_p0_calendars q_p0_reader q_p0_current q_p0_kept q_p0_latestRing q_p0_ringFinder q_p0_longest q_p0_net q_p0_spare q_p0_kept_sums q_p0_kept_counts q_p0_net_numbers q_p0_net_needCounts q_p0_net_needed q_p0_net_conditions q_p0_net_allNeeded f_p0_kept_sums f_p0_kept_counts v_p0_net_jobs) hm hx hb hr hlocks hAe hQ hK hw rfl d_A_mean_23
    · refine lv_iload_n hx hb d_A_mean_15 rfl (lv_at hl 2 rfl) ?_
      refine lv_iconst (v := 1) hx hb d_A_mean_16 (by decide) ?_
      refine bq_t (lv_icmp_le (tgt := 24) hx hb d_A_mean_17 (by decide)) hm (fun hm => ?_) (fun hm => ?_)
      · refine lv_aload_n hx hb d_A_mean_24 rfl (lv_at hl 0 rfl) ?_
        refine sg_get (D := (dC, dI)) (ci := 0) (v := .ref q_p0_kept) (C := "JobNets") (T := T_0) (N := 9) hx hb hts hin_0 hown hK hw 0 rfl rfl 3 (by decide) (hts _ wd_225) rfl rfl d_A_mean_25 ?_
        refine sg_getN (D := (dC, dI)) (ci := 2) (v := .ref q_p0_kept_counts) (C := "JobNets$KeptTimes") (T := T_2) (N := 2) hx hb hts hin_2 hown hK hw 1 rfl rfl 1 (by decide) (nF_9 hNW) rfl rfl d_A_mean_28 ?_
        refine lv_iload_n hx hb d_A_mean_31 rfl (lv_at hl 1 rfl) ?_
        refine sg_iald hx hb hK hw 3 0 rfl rfl d_A_mean_32 hm (fun hm => ?_)
        refine lv_istore_n (lv' := [(3, .int (f_p0_kept_counts a1_x.toNatClampNeg)), (0, .ref q_p0), (1, .int a1_x), (2, .int a2_x)]) hx hb d_A_mean_33 rfl hl (by decide) rfl (fun ls hl => ?_)
        refine lv_iload_n hx hb d_A_mean_34 rfl (lv_at hl 0 rfl) ?_
        refine bq_t (lv_if_gt (tgt := 48) hx hb d_A_mean_35 (by decide)) hm (fun hm => ?_) (fun hm => ?_)
        · refine lv_iload_n hx hb d_A_mean_48 rfl (lv_at hl 3 rfl) ?_
          refine bq_n (lv_if_ne (tgt := 67) hx hb d_A_mean_49 (by decide)) hm (fun hm => ?_) (fun hm => ?_)
          · refine lv_aload_n hx hb d_A_mean_67 rfl (lv_at hl 1 rfl) ?_
            refine sg_get (D := (dC, dI)) (ci := 0) (v := .ref q_p0_kept) (C := "JobNets") (T := T_0) (N := 9) hx hb hts hin_0 hown hK hw 0 rfl rfl 3 (by decide) (hts _ wd_225) rfl rfl d_A_mean_68 ?_
            refine sg_getN (D := (dC, dI)) (ci := 2) (v := .ref q_p0_kept_sums) (C := "JobNets$KeptTimes") (T := T_2) (N := 2) hx hb hts hin_2 hown hK hw 1 rfl rfl 0 (by decide) (nF_8 hNW) rfl rfl d_A_mean_71 ?_
            refine lv_iload_n hx hb d_A_mean_74 rfl (lv_at hl 2 rfl) ?_
            refine sg_lald hx hb hK hw 2 1 rfl rfl d_A_mean_75 hm (fun hm => ?_)
            refine lv_iload_n hx hb d_A_mean_76 rfl (lv_at hl 0 rfl) ?_
            refine lv_i2l hx hb d_A_mean_77 rfl ?_
            obtain ⟨hne, hm⟩ := it_n hm
            refine lv_lrem hx hb d_A_mean_78 hne ?_
            exact so_lret (rf := fun z_ => z_) (Sf := fun z_ => sc_A_mean cI cL cM cZ q_p0 q_p0_calendars q_p0_reader q_p0_current q_p0_kept q_p0_latestRing q_p0_ringFinder q_p0_longest q_p0_net q_p0_spare q_p0_kept_sums q_p0_kept_counts q_p0_net_numbers q_p0_net_needCounts q_p0_net_needed q_p0_net_conditions q_p0_net_allNeeded f_p0_kept_sums f_p0_kept_counts v_p0_net_jobs) hm hx hb hr hlocks hAe hQ hK hw rfl d_A_mean_79
          · refine lv_aload_n hx hb d_A_mean_52 rfl (lv_at hl 1 rfl) ?_
            refine sg_get (D := (dC, dI)) (ci := 0) (v := .ref q_p0_kept) (C := "JobNets") (T := T_0) (N := 9) hx hb hts hin_0 hown hK hw 0 rfl rfl 3 (by decide) (hts _ wd_225) rfl rfl d_A_mean_53 ?_
            refine sg_getN (D := (dC, dI)) (ci := 2) (v := .ref q_p0_kept_sums) (C := "JobNets$KeptTimes") (T := T_2) (N := 2) hx hb hts hin_2 hown hK hw 1 rfl rfl 0 (by decide) (nF_8 hNW) rfl rfl d_A_mean_56 ?_
            refine lv_iload_n hx hb d_A_mean_59 rfl (lv_at hl 2 rfl) ?_
            refine sg_lald hx hb hK hw 2 1 rfl rfl d_A_mean_60 hm (fun hm => ?_)
            refine lv_iload_n hx hb d_A_mean_61 rfl (lv_at hl 0 rfl) ?_
            refine lv_i2l hx hb d_A_mean_62 rfl ?_
            obtain ⟨hne, hm⟩ := it_n hm
            refine lv_ldiv hx hb d_A_mean_63 hne ?_
            refine lv_goto (tgt := 79) hx hb d_A_mean_64 (by decide) ?_
            exact so_lret (rf := fun z_ => z_) (Sf := fun z_ => sc_A_mean cI cL cM cZ q_p0 q_p0_calendars q_p0_reader q_p0_current q_p0_kept q_p0_latestRing q_p0_ringFinder q_p0_longest q_p0_net q_p0_spare q_p0_kept_sums q_p0_kept_counts q_p0_net_numbers q_p0_net_needCounts q_p0_net_needed q_p0_net_conditions q_p0_net_allNeeded f_p0_kept_sums f_p0_kept_counts v_p0_net_jobs) hm hx hb hr hlocks hAe hQ hK hw rfl d_A_mean_79
        · cases hm
      · refine lv_ldc2 hx hb (v := -1) hown (hts _ wd_398) d_A_mean_20 ?_
        exact so_lret (rf := fun z_ => z_) (Sf := fun z_ => sc_A_mean cI cL cM cZ q_p0 q_p0_calendars q_p0_reader q_p0_current q_p0_kept q_p0_latestRing q_p0_ringFinder q_p0_longest q_p0_net q_p0_spare q_p0_kept_sums q_p0_kept_counts q_p0_net_numbers q_p0_net_needCounts q_p0_net_needed q_p0_net_conditions q_p0_net_allNeeded f_p0_kept_sums f_p0_kept_counts v_p0_net_jobs) hm hx hb hr hlocks hAe hQ hK hw rfl d_A_mean_23
def mt_A_mean (N : Nat) (f_p0_kept_sums : Nat → Int64) (f_p0_kept_counts : Nat → Int32) (v_p0_net_jobs : Int32) (a1_x : Int32) (a2_x : Int32) : Option Unit :=
  (zc (md_Net_has N v_p0_net_jobs a1_x) (fun o1 => (if o1 = 0 then none else (if a2_x < 0 then none else (if a2_x ≤ (1 : Int32) then (if sg_in a1_x 27 = true then (if 0 < (f_p0_kept_counts a1_x.toNatClampNeg) then (if a2_x = 0 then (if sg_in a1_x 27 = true then (if ¬ ((f_p0_kept_counts a1_x.toNatClampNeg).toInt64) = (0 : Int64) then none else none) else none) else (if sg_in a1_x 27 = true then (if ¬ ((f_p0_kept_counts a1_x.toNatClampNeg).toInt64) = (0 : Int64) then none else none) else none)) else (some ())) else none) else none)))))
abbrev rmx_A_mean : Room := { frames := 6, cells := 1, slots := 6, locals := 82 }
set_option maxHeartbeats 4000000 in
set_option maxRecDepth 100000 in
theorem xt_A_mean (l : Launch) (hl9 : l.stackTraces = false) (dC : Nat → ClassId) (dI : Nat → Nat → Nat) (cI cL cM cZ : ClassId) (q_p0 q_p0_calendars q_p0_reader q_p0_current q_p0_kept q_p0_latestRing q_p0_ringFinder q_p0_longest q_p0_net q_p0_spare q_p0_kept_sums q_p0_kept_counts q_p0_net_numbers q_p0_net_needCounts q_p0_net_needed q_p0_net_conditions q_p0_net_allNeeded : Nat) (f_p0_kept_sums : Nat → Int64) (f_p0_kept_counts : Nat → Int32) (v_p0_net_jobs : Int32) (a1_x : Int32) (a2_x : Int32) (N : Nat) (o : Unit) (hm : mt_A_mean N f_p0_kept_sums f_p0_kept_counts v_p0_net_jobs a1_x a2_x = some o) : ∀ sz : Nat, xMet l y_A_mean ws_A_mean rmx_A_mean (cPx (dC, dI) vwCl [(cI, .int), (cL, .long), (cM, .array .int), (cZ, .boolean)] [.ref q_p0, .int a1_x, .int a2_x] sz (sc_A_mean cI cL cM cZ q_p0 q_p0_calendars q_p0_reader q_p0_current q_p0_kept q_p0_latestRing q_p0_ringFinder q_p0_longest q_p0_net q_p0_spare q_p0_kept_sums q_p0_kept_counts q_p0_net_numbers q_p0_net_needCounts q_p0_net_needed q_p0_net_conditions q_p0_net_allNeeded f_p0_kept_sums f_p0_kept_counts v_p0_net_jobs)) "java/lang/ArithmeticException" (fun t => va_P (dC, dI) vwCl ((sc_A_mean cI cL cM cZ q_p0 q_p0_calendars q_p0_reader q_p0_current q_p0_kept q_p0_latestRing q_p0_ringFinder q_p0_longest q_p0_net q_p0_spare q_p0_kept_sums q_p0_kept_counts q_p0_net_numbers q_p0_net_needCounts q_p0_net_needed q_p0_net_conditions q_p0_net_allNeeded f_p0_kept_sums f_p0_kept_counts v_p0_net_jobs)).flatten t.heap) (va_A ((sc_A_mean cI cL cM cZ q_p0 q_p0_calendars q_p0_reader q_p0_current q_p0_kept q_p0_latestRing q_p0_ringFinder q_p0_longest q_p0_net q_p0_spare q_p0_kept_sums q_p0_kept_counts q_p0_net_numbers q_p0_net_needCounts q_p0_net_needed q_p0_net_conditions q_p0_net_allNeeded f_p0_kept_sums f_p0_kept_counts v_p0_net_jobs)).flatten sz) (va_A ((sc_A_mean cI cL cM cZ q_p0 q_p0_calendars q_p0_reader q_p0_current q_p0_kept q_p0_latestRing q_p0_ringFinder q_p0_longest q_p0_net q_p0_spare q_p0_kept_sums q_p0_kept_counts q_p0_net_numbers q_p0_net_needCounts q_p0_net_needed q_p0_net_conditions q_p0_net_allNeeded f_p0_kept_sums f_p0_kept_counts v_p0_net_jobs)).flatten sz) 1 6 := by
  refine sg_metX (by decide) (Nat.le_of_ble_eq_true rfl) ?_
  intro p e s m args below meth c A Q ls hx hb hr hts hown hlocks hml hname hK hNW hA hAe hQ hw hl hZ htab
  have hl : lv_has ls 4 [(0, .ref q_p0), (1, .int a1_x), (2, .int a2_x)] := hl
  have hw : wk (dC, dI) vwCl A s.heap [[(q_p0, .inr (0, [.ref q_p0_calendars, .ref q_p0_reader, .ref q_p0_current, .ref q_p0_kept, .ref q_p0_latestRing, .ref q_p0_ringFinder, .ref q_p0_longest, .ref q_p0_net, .ref q_p0_spare]))], [(q_p0_kept, .inr (2, [.ref q_p0_kept_sums, .ref q_p0_kept_counts]))], [(q_p0_kept_sums, .inl (cL, 27, .inr (.inl f_p0_kept_sums)))], [(q_p0_kept_counts, .inl (cI, 27, .inl f_p0_kept_counts))], [(q_p0_net, .inr (4, [.ref q_p0_net_numbers, .ref q_p0_net_needCounts, .ref q_p0_net_needed, .ref q_p0_net_conditions, .ref q_p0_net_allNeeded, .int v_p0_net_jobs]))]] s.heap [] := hw
  unfold mt_A_mean at hm
  refine lv_aload_n hx hb d_A_mean_0 rfl (lv_at hl 0 rfl) ?_
  refine sg_get (D := (dC, dI)) (ci := 0) (v := .ref q_p0_net) (C := "JobNets") (T := T_0) (N := 9) hx hb hts hin_0 hown hK hw 0 rfl rfl 7 (by decide) (hts _ wd_229) rfl rfl d_A_mean_1 ?_
  refine lv_iload_n hx hb d_A_mean_4 rfl (lv_at hl 1 rfl) ?_
  obtain ⟨o1, h1, hm⟩ := zc_x hm
  refine sg_ci0 (Sr := [[(q_p0, .inr (0, [.ref q_p0_calendars, .ref q_p0_reader, .ref q_p0_current, .ref q_p0_kept, .ref q_p0_latestRing, .ref q_p0_ringFinder, .ref q_p0_longest, .ref q_p0_net, .ref q_p0_spare]))], [(q_p0_kept, .inr (2, [.ref q_p0_kept_sums, .ref q_p0_kept_counts]))], [(q_p0_kept_sums, .inl (cL, 27, .inr (.inl f_p0_kept_sums)))], [(q_p0_kept_counts, .inl (cI, 27, .inl f_p0_kept_counts))]]) (va_runV (As := [.int a1_x]) (rest := []) ⟨hx, hb, hml, hown, hts⟩ (ct_Net_has l dC dI cI cL cM cZ q_p0_net q_p0_net_numbers q_p0_net_needCounts q_p0_net_needed q_p0_net_conditions q_p0_net_allNeeded v_p0_net_jobs a1_x N o1 h1 _) (cwV 1 hts (gd_V wd_387 wd_388 wd_389 wd_9 wd_390) rfl rfl rfl (by decide +kernel) ⟨Nat.le_of_ble_eq_true rfl, Nat.le_of_ble_eq_true rfl⟩) (sg_preV (ci := 4) (q0 := 4) hK hNW hw [4] rfl rfl rfl rfl) rfl rfl hl.1 rfl (lv_room (Nat.le_of_ble_eq_true rfl)) d_A_mean_5 ⟨Nat.le_of_ble_eq_true rfl, Nat.le_of_ble_eq_true rfl⟩) hw hA [4] [0, 1, 2, 3] rfl rfl rfl (by decide) (fun H locs hw => ?_)
  have hw : wk (dC, dI) vwCl A s.heap [[(q_p0, .inr (0, [.ref q_p0_calendars, .ref q_p0_reader, .ref q_p0_current, .ref q_p0_kept, .ref q_p0_latestRing, .ref q_p0_ringFinder, .ref q_p0_longest, .ref q_p0_net, .ref q_p0_spare]))], [(q_p0_kept, .inr (2, [.ref q_p0_kept_sums, .ref q_p0_kept_counts]))], [(q_p0_kept_sums, .inl (cL, 27, .inr (.inl f_p0_kept_sums)))], [(q_p0_kept_counts, .inl (cI, 27, .inl f_p0_kept_counts))], [(q_p0_net, .inr (4, [.ref q_p0_net_numbers, .ref q_p0_net_needCounts, .ref q_p0_net_needed, .ref q_p0_net_conditions, .ref q_p0_net_allNeeded, .int v_p0_net_jobs]))]] H locs := hw
  refine bq_t (lv_if_eq (tgt := 20) hx hb d_A_mean_8 (by decide)) hm (fun hm => ?_) (fun hm => ?_)
  · refine lv_ldc2 hx hb (v := -1) hown (hts _ wd_398) d_A_mean_20 ?_
    cases hm
  · refine lv_iload_n hx hb d_A_mean_11 rfl (lv_at hl 2 rfl) ?_
    refine bq_t (lv_if_lt (tgt := 20) hx hb d_A_mean_12 (by decide)) hm (fun hm => ?_) (fun hm => ?_)
    · refine lv_ldc2 hx hb (v := -1) hown (hts _ wd_398) d_A_mean_20 ?_
      cases hm
    · refine lv_iload_n hx hb d_A_mean_15 rfl (lv_at hl 2 rfl) ?_
      refine lv_iconst (v := 1) hx hb d_A_mean_16 (by decide) ?_
      refine bq_t (lv_icmp_le (tgt := 24) hx hb d_A_mean_17 (by decide)) hm (fun hm => ?_) (fun hm => ?_)
      · refine lv_aload_n hx hb d_A_mean_24 rfl (lv_at hl 0 rfl) ?_
        refine sg_get (D := (dC, dI)) (ci := 0) (v := .ref q_p0_kept) (C := "JobNets") (T := T_0) (N := 9) hx hb hts hin_0 hown hK hw 0 rfl rfl 3 (by decide) (hts _ wd_225) rfl rfl d_A_mean_25 ?_
        refine sg_getN (D := (dC, dI)) (ci := 2) (v := .ref q_p0_kept_counts) (C := "JobNets$KeptTimes") (T := T_2) (N := 2) hx hb hts hin_2 hown hK hw 1 rfl rfl 1 (by decide) (nF_9 hNW) rfl rfl d_A_mean_28 ?_
        refine lv_iload_n hx hb d_A_mean_31 rfl (lv_at hl 1 rfl) ?_
        refine sg_iald hx hb hK hw 3 0 rfl rfl d_A_mean_32 hm (fun hm => ?_)
        refine lv_istore_n (lv' := [(3, .int (f_p0_kept_counts a1_x.toNatClampNeg)), (0, .ref q_p0), (1, .int a1_x), (2, .int a2_x)]) hx hb d_A_mean_33 rfl hl (by decide) rfl (fun ls hl => ?_)
        refine lv_iload_n hx hb d_A_mean_34 rfl (lv_at hl 0 rfl) ?_
        refine bq_t (lv_if_gt (tgt := 48) hx hb d_A_mean_35 (by decide)) hm (fun hm => ?_) (fun hm => ?_)
        · refine lv_iload_n hx hb d_A_mean_48 rfl (lv_at hl 3 rfl) ?_
          refine bq_n (lv_if_ne (tgt := 67) hx hb d_A_mean_49 (by decide)) hm (fun hm => ?_) (fun hm => ?_)
          · refine lv_aload_n hx hb d_A_mean_67 rfl (lv_at hl 1 rfl) ?_
            refine sg_get (D := (dC, dI)) (ci := 0) (v := .ref q_p0_kept) (C := "JobNets") (T := T_0) (N := 9) hx hb hts hin_0 hown hK hw 0 rfl rfl 3 (by decide) (hts _ wd_225) rfl rfl d_A_mean_68 ?_
            refine sg_getN (D := (dC, dI)) (ci := 2) (v := .ref q_p0_kept_sums) (C := "JobNets$KeptTimes") (T := T_2) (N := 2) hx hb hts hin_2 hown hK hw 1 rfl rfl 0 (by decide) (nF_8 hNW) rfl rfl d_A_mean_71 ?_
            refine lv_iload_n hx hb d_A_mean_74 rfl (lv_at hl 2 rfl) ?_
            refine sg_lald hx hb hK hw 2 1 rfl rfl d_A_mean_75 hm (fun hm => ?_)
            refine lv_iload_n hx hb d_A_mean_76 rfl (lv_at hl 0 rfl) ?_
            refine lv_i2l hx hb d_A_mean_77 rfl ?_
            obtain ⟨hne, hm⟩ := it_n hm
            refine lv_lrem hx hb d_A_mean_78 hne ?_
            cases hm
          · refine lv_aload_n hx hb d_A_mean_52 rfl (lv_at hl 1 rfl) ?_
            refine sg_get (D := (dC, dI)) (ci := 0) (v := .ref q_p0_kept) (C := "JobNets") (T := T_0) (N := 9) hx hb hts hin_0 hown hK hw 0 rfl rfl 3 (by decide) (hts _ wd_225) rfl rfl d_A_mean_53 ?_
            refine sg_getN (D := (dC, dI)) (ci := 2) (v := .ref q_p0_kept_sums) (C := "JobNets$KeptTimes") (T := T_2) (N := 2) hx hb hts hin_2 hown hK hw 1 rfl rfl 0 (by decide) (nF_8 hNW) rfl rfl d_A_mean_56 ?_
            refine lv_iload_n hx hb d_A_mean_59 rfl (lv_at hl 2 rfl) ?_
            refine sg_lald hx hb hK hw 2 1 rfl rfl d_A_mean_60 hm (fun hm => ?_)
            refine lv_iload_n hx hb d_A_mean_61 rfl (lv_at hl 0 rfl) ?_
            refine lv_i2l hx hb d_A_mean_62 rfl ?_
            obtain ⟨hne, hm⟩ := it_n hm
            refine lv_ldiv hx hb d_A_mean_63 hne ?_
            refine lv_goto (tgt := 79) hx hb d_A_mean_64 (by decide) ?_
            cases hm
        · exact xo_throw hx hb hl9 hown hts hQ hw hZ htab hlocks (hl.1.trans hml.symm) d_A_mean_38 d_A_mean_41 d_A_mean_42 d_A_mean_44 d_A_mean_47 (Nat.le_of_ble_eq_true rfl) (Nat.le_of_ble_eq_true rfl) (Nat.le_of_ble_eq_true rfl) (Nat.le_of_ble_eq_true rfl)
      · refine lv_ldc2 hx hb (v := -1) hown (hts _ wd_398) d_A_mean_20 ?_
        cases hm
