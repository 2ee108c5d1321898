theorem d_Rin_init_0 : decode prog_7_method_1_code 0 = .ok (.aload_n 0, 1) := by decide +kernel
theorem d_Rin_init_1 : decode prog_7_method_1_code 1 = .ok (.invokespecial 3, 3) := by decide +kernel
theorem d_Rin_init_4 : decode prog_7_method_1_code 4 = .ok (.aload_n 0, 1) := by decide +kernel
theorem d_Rin_init_5 : decode prog_7_method_1_code 5 = .ok (.bipush 26, 2) := by decide +kernel
theorem d_Rin_init_7 : decode prog_7_method_1_code 7 = .ok (.newarray .int, 2) := by decide +kernel
theorem d_Rin_init_9 : decode prog_7_method_1_code 9 = .ok (.putfield 9, 3) := by decide +kernel
theorem d_Rin_init_12 : decode prog_7_method_1_code 12 = .ok (.aload_n 0, 1) := by decide +kernel
theorem d_Rin_init_13 : decode prog_7_method_1_code 13 = .ok (.bipush 27, 2) := by decide +kernel
theorem d_Rin_init_15 : decode prog_7_method_1_code 15 = .ok (.newarray .int, 2) := by decide +kernel
theorem d_Rin_init_17 : decode prog_7_method_1_code 17 = .ok (.putfield 15, 3) := by decide +kernel
theorem d_Rin_init_20 : decode prog_7_method_1_code 20 = .ok (.return_, 1) := by decide +kernel
def sd_Rin_init (cI cL cM cZ : ClassId) (q_p0 : Nat) (u : ADs) : List va_W := [[(q_p0, .inr (6, [.ref (u.1.getD 0 0), .ref (u.1.getD 1 0)]))], [((u.1.getD 0 0), .inl (cI, 26, .inl (fun _ => 0)))], [((u.1.getD 1 0), .inl (cI, 27, .inl (fun _ => 0)))]]
abbrev rm_Rin_init : Room := { frames := 1, cells := 2, slots := 53, locals := 20 }
set_option maxHeartbeats 4000000 in
set_option maxRecDepth 100000 in
theorem ct_Rin_init (l : Launch) (dC : Nat → ClassId) (dI : Nat → Nat → Nat) (cI cL cM cZ : ClassId) (q_p0 : Nat) : ∀ sz : Nat, Met l y_Rin_init ws_Rin_init rm_Rin_init (cP (dC, dI) vwCl [(cI, .int), (cL, .long), (cM, .array .int), (cZ, .boolean)] [.ref q_p0] sz [[(q_p0, .inr (6, [.null, .null]))]]) (cQc (dC, dI) vwCl [(cI, .int), (cL, .long), (cM, .array .int), (cZ, .boolean)] sz [[(q_p0, .inr (6, [.null, .null]))]] (sd_Rin_init cI cL cM cZ q_p0)) 2 53 (va_A (List.flatten [[(q_p0, .inr (6, [.null, .null]))]]) sz) := by
  refine sg_met (y := y_Rin_init) (cc := prog_7_method_1_code) (maxL := 1) (ret := none) (rm := rm_Rin_init) (av := [.ref q_p0]) (Sc := [[(q_p0, .inr (6, [.null, .null]))]]) (mc := 2) (ms := 53) (D := (dC, dI)) (cl := vwCl) (tys := [(cI, .int), (cL, .long), (cM, .array .int), (cZ, .boolean)]) (fun sz => cQc (dC, dI) vwCl [(cI, .int), (cL, .long), (cM, .array .int), (cZ, .boolean)] sz [[(q_p0, .inr (6, [.null, .null]))]] (sd_Rin_init cI cL cM cZ q_p0)) (by decide) (Nat.le_of_ble_eq_true rfl) ?_
  intro p e s m args below meth c A Q ls hx hb hr hts hown hlocks hml hname hK hNW hA hAe hQ hw hl
  have hl : lv_has ls 1 [(0, .ref q_p0)] := hl
  have hw : wk (dC, dI) vwCl A s.heap [[(q_p0, .inr (6, [.null, .null]))]] s.heap [] := hw
  refine lv_aload_n hx hb d_Rin_init_0 rfl (lv_at hl 0 rfl) ?_
  refine W.objInit hx hb hown (hts _ wd_150) (hts _ wd_23) (hts _ wd_24) rfl (by rw [hml]; exact hl.1) rfl d_Rin_init_1 (Nat.le_of_ble_eq_true rfl) (Nat.le_of_ble_eq_true rfl) ?_
  refine W.eq (g2 := F0 m 4 ls []) rfl ?_
  refine lv_aload_n hx hb d_Rin_init_4 rfl (lv_at hl 0 rfl) ?_
  refine lv_bipush (v := 26) hx hb d_Rin_init_5 (by decide) ?_
  refine sg_newi hx hb (hts _ wd_49) hK hw hA 0 rfl (N' := 26) (by decide) (by decide) (by decide) (Nat.le_of_ble_eq_true rfl) (Nat.le_of_ble_eq_true rfl) d_Rin_init_7 (fun q_p0_queue H hw => ?_)
  have hw : wk (dC, dI) vwCl A s.heap [[(q_p0, .inr (6, [.null, .null]))], [(q_p0_queue, .inl (cI, 26, .inl (fun _ => 0)))]] H _ := hw
  refine sg_putF (D := (dC, dI)) (ci := 6) (v := .ref q_p0_queue) (ty := .array .int) (C := "JobNets$RingFinder") (T := T_6) (N := 2) (S1 := [[(q_p0, .inr (6, [.ref q_p0_queue, .null]))], [(q_p0_queue, .inl (cI, 26, .inl (fun _ => 0)))]]) hx hb hts hin_6 ty_6 tok_6 nd_6 hown hK hw 0 rfl rfl 0 (by decide) (hts _ wd_151) rfl rfl hname rfl (by decide +kernel) rfl rfl (Nat.le_of_ble_eq_true rfl) rfl d_Rin_init_9 (fun H locs hw => ?_)
  refine lv_aload_n hx hb d_Rin_init_12 rfl (lv_at hl 0 rfl) ?_
  refine lv_bipush (v := 27) hx hb d_Rin_init_13 (by decide) ?_
  refine sg_newi hx hb (hts _ wd_49) hK hw hA 0 rfl (N' := 27) (by decide) (by decide) (by decide) (Nat.le_of_ble_eq_true rfl) (Nat.le_of_ble_eq_true rfl) d_Rin_init_15 (fun q_p0_before H hw => ?_)
  have hw : wk (dC, dI) vwCl A s.heap [[(q_p0, .inr (6, [.ref q_p0_queue, .null]))], [(q_p0_queue, .inl (cI, 26, .inl (fun _ => 0)))], [(q_p0_before, .inl (cI, 27, .inl (fun _ => 0)))]] H _ := hw
  refine sg_putF (D := (dC, dI)) (ci := 6) (v := .ref q_p0_before) (ty := .array .int) (C := "JobNets$RingFinder") (T := T_6) (N := 2) (S1 := [[(q_p0, .inr (6, [.ref q_p0_queue, .ref q_p0_before]))], [(q_p0_queue, .inl (cI, 26, .inl (fun _ => 0)))], [(q_p0_before, .inl (cI, 27, .inl (fun _ => 0)))]]) hx hb hts hin_6 ty_6 tok_6 nd_6 hown hK hw 0 rfl rfl 1 (by decide) (hts _ wd_152) rfl rfl hname rfl (by decide +kernel) rfl rfl (Nat.le_of_ble_eq_true rfl) rfl d_Rin_init_17 (fun H locs hw => ?_)
  exact sg_cret ([q_p0_queue, q_p0_before], []) hx hb hr hlocks hAe hQ hK (hw.sub [0, 1, 2] (by decide) rfl) d_Rin_init_20
theorem d_Rin_queueNeeded_0 : decode prog_7_method_4_code 0 = .ok (.iload_n 3, 1) := by decide +kernel
theorem d_Rin_queueNeeded_1 : decode prog_7_method_4_code 1 = .ok (.istore 4, 2) := by decide +kernel
theorem d_Rin_queueNeeded_3 : decode prog_7_method_4_code 3 = .ok (.iconst 0, 1) := by decide +kernel
theorem d_Rin_queueNeeded_4 : decode prog_7_method_4_code 4 = .ok (.istore 5, 2) := by decide +kernel
theorem d_Rin_queueNeeded_6 : decode prog_7_method_4_code 6 = .ok (.iload 5, 2) := by decide +kernel
theorem d_Rin_queueNeeded_8 : decode prog_7_method_4_code 8 = .ok (.aload_n 1, 1) := by decide +kernel
theorem d_Rin_queueNeeded_9 : decode prog_7_method_4_code 9 = .ok (.getfield 24, 3) := by decide +kernel
theorem d_Rin_queueNeeded_12 : decode prog_7_method_4_code 12 = .ok (.iload_n 2, 1) := by decide +kernel
theorem d_Rin_queueNeeded_13 : decode prog_7_method_4_code 13 = .ok (.iaload, 1) := by decide +kernel
theorem d_Rin_queueNeeded_14 : decode prog_7_method_4_code 14 = .ok (.if_icmp .ge 58, 3) := by decide +kernel
theorem d_Rin_queueNeeded_17 : decode prog_7_method_4_code 17 = .ok (.aload_n 1, 1) := by decide +kernel
theorem d_Rin_queueNeeded_18 : decode prog_7_method_4_code 18 = .ok (.getfield 27, 3) := by decide +kernel
theorem d_Rin_queueNeeded_21 : decode prog_7_method_4_code 21 = .ok (.iload_n 2, 1) := by decide +kernel
theorem d_Rin_queueNeeded_22 : decode prog_7_method_4_code 22 = .ok (.aaload, 1) := by decide +kernel
theorem d_Rin_queueNeeded_23 : decode prog_7_method_4_code 23 = .ok (.iload 5, 2) := by decide +kernel
theorem d_Rin_queueNeeded_25 : decode prog_7_method_4_code 25 = .ok (.iaload, 1) := by decide +kernel
theorem d_Rin_queueNeeded_26 : decode prog_7_method_4_code 26 = .ok (.istore 6, 2) := by decide +kernel
theorem d_Rin_queueNeeded_28 : decode prog_7_method_4_code 28 = .ok (.aload_n 0, 1) := by decide +kernel
theorem d_Rin_queueNeeded_29 : decode prog_7_method_4_code 29 = .ok (.getfield 15, 3) := by decide +kernel
theorem d_Rin_queueNeeded_32 : decode prog_7_method_4_code 32 = .ok (.iload 6, 2) := by decide +kernel
theorem d_Rin_queueNeeded_34 : decode prog_7_method_4_code 34 = .ok (.iaload, 1) := by decide +kernel
theorem d_Rin_queueNeeded_35 : decode prog_7_method_4_code 35 = .ok (.iconst (-1), 1) := by decide +kernel
theorem d_Rin_queueNeeded_36 : decode prog_7_method_4_code 36 = .ok (.if_icmp .ne 30, 3) := by decide +kernel
theorem d_Rin_queueNeeded_39 : decode prog_7_method_4_code 39 = .ok (.iload 4, 2) := by decide +kernel
theorem d_Rin_queueNeeded_41 : decode prog_7_method_4_code 41 = .ok (.bipush 26, 2) := by decide +kernel
theorem d_Rin_queueNeeded_43 : decode prog_7_method_4_code 43 = .ok (.if_icmp .ge 23, 3) := by decide +kernel
theorem d_Rin_queueNeeded_46 : decode prog_7_method_4_code 46 = .ok (.aload_n 0, 1) := by decide +kernel
theorem d_Rin_queueNeeded_47 : decode prog_7_method_4_code 47 = .ok (.getfield 15, 3) := by decide +kernel
theorem d_Rin_queueNeeded_50 : decode prog_7_method_4_code 50 = .ok (.iload 6, 2) := by decide +kernel
theorem d_Rin_queueNeeded_52 : decode prog_7_method_4_code 52 = .ok (.iload_n 2, 1) := by decide +kernel
theorem d_Rin_queueNeeded_53 : decode prog_7_method_4_code 53 = .ok (.iastore, 1) := by decide +kernel
theorem d_Rin_queueNeeded_54 : decode prog_7_method_4_code 54 = .ok (.aload_n 0, 1) := by decide +kernel
theorem d_Rin_queueNeeded_55 : decode prog_7_method_4_code 55 = .ok (.getfield 9, 3) := by decide +kernel
theorem d_Rin_queueNeeded_58 : decode prog_7_method_4_code 58 = .ok (.iload 4, 2) := by decide +kernel
theorem d_Rin_queueNeeded_60 : decode prog_7_method_4_code 60 = .ok (.iload 6, 2) := by decide +kernel
theorem d_Rin_queueNeeded_62 : decode prog_7_method_4_code 62 = .ok (.iastore, 1) := by decide +kernel
theorem d_Rin_queueNeeded_63 : decode prog_7_method_4_code 63 = .ok (.iinc 4 1, 3) := by decide +kernel
theorem d_Rin_queueNeeded_66 : decode prog_7_method_4_code 66 = .ok (.iinc 5 1, 3) := by decide +kernel
theorem d_Rin_queueNeeded_69 : decode prog_7_method_4_code 69 = .ok (.goto (-63), 3) := by decide +kernel
theorem d_Rin_queueNeeded_72 : decode prog_7_method_4_code 72 = .ok (.iload 4, 2) := by decide +kernel
theorem d_Rin_queueNeeded_74 : decode prog_7_method_4_code 74 = .ok (.ireturn, 1) := by decide +kernel
def md_Rin_queueNeeded_F6 (f_p1_needCounts : Nat → Int32) (g_p1_needed : Nat → Nat → Int32) (a2_x : Int32) (rec6 : Int32 → Int32 → (Nat → Int32) → (Nat → Int32) → Option (Int32 × (Nat → Int32) × (Nat → Int32))) (x1 : Int32) (x2 : Int32) (f3 : Nat → Int32) (f4 : Nat → Int32) : Option (Int32 × (Nat → Int32) × (Nat → Int32)) :=
  (if sg_in a2_x 27 = true then (if (f_p1_needCounts a2_x.toNatClampNeg) ≤ x1 then (some (x2, f3, f4)) else (if sg_in a2_x 27 = true then (if sg_in x1 20 = true then (zl (g_p1_needed a2_x.toNatClampNeg x1.toNatClampNeg) (fun x6 => (if sg_in x6 27 = true then (if (f4 x6.toNatClampNeg) = (-1 : Int32) then (if (26 : Int32) ≤ x2 then (rec6 (x1 + 1) x2 f3 f4) else (if sg_in x6 27 = true then zl (upd f4 x6.toNatClampNeg a2_x) (fun f7 => (if sg_in x2 26 = true then zl (upd f3 x2.toNatClampNeg x6) (fun f8 => (rec6 (x1 + 1) (x2 + 1) f8 f7)) else none)) else none)) else (rec6 (x1 + 1) x2 f3 f4)) else none))) else none) else none)) else none)
def md_Rin_queueNeeded (N : Nat) (f_p0_queue : Nat → Int32) (f_p0_before : Nat → Int32) (f_p1_needCounts : Nat → Int32) (g_p1_needed : Nat → Nat → Int32) (a2_x : Int32) (a3_x : Int32) : Option (Int32 × (Nat → Int32) × (Nat → Int32)) :=
  (fx4 (md_Rin_queueNeeded_F6 f_p1_needCounts g_p1_needed a2_x) N (0 : Int32) a3_x f_p0_queue f_p0_before)
abbrev sc_Rin_queueNeeded (cI cL cM cZ : ClassId) (q_p0 q_p1 q_p0_queue q_p0_before q_p1_numbers q_p1_needCounts q_p1_needed q_p1_conditions q_p1_allNeeded : Nat) (d_p1_needed : Nat → Nat) (f_p0_queue : Nat → Int32) (f_p0_before : Nat → Int32) (v_p1_jobs : Int32) (f_p1_needCounts : Nat → Int32) (g_p1_needed : Nat → Nat → Int32) : List va_W := [[(q_p0, .inr (6, [.ref q_p0_queue, .ref q_p0_before]))], [(q_p0_queue, .inl (cI, 26, .inl f_p0_queue))], [(q_p0_before, .inl (cI, 27, .inl f_p0_before))], [(q_p1, .inr (4, [.ref q_p1_numbers, .ref q_p1_needCounts, .ref q_p1_needed, .ref q_p1_conditions, .ref q_p1_allNeeded, .int v_p1_jobs]))], [(q_p1_needCounts, .inl (cI, 27, .inl f_p1_needCounts))], [(q_p1_needed, .inl (cM, gro 27 d_p1_needed))], gl cI d_p1_needed 27 20 g_p1_needed]
abbrev rm_Rin_queueNeeded : Room := { frames := 0, cells := 0, slots := 0, locals := 0 }
set_option maxHeartbeats 4000000 in
set_option maxRecDepth 100000 in
theorem ct_Rin_queueNeeded (l : Launch) (dC : Nat → ClassId) (dI : Nat → Nat → Nat) (cI cL cM cZ : ClassId) (q_p0 q_p1 q_p0_queue q_p0_before q_p1_numbers q_p1_needCounts q_p1_needed q_p1_conditions q_p1_allNeeded : Nat) (d_p1_needed : Nat → Nat) (f_p0_queue : Nat → Int32) (f_p0_before : Nat → Int32) (v_p1_jobs : Int32) (f_p1_needCounts : Nat → Int32) (g_p1_needed : Nat → Nat → Int32) (a2_x : Int32) (a3_x : Int32) (N : Nat) (o : Int32 × (Nat → Int32) × (Nat → Int32)) (hm : md_Rin_queueNeeded N f_p0_queue f_p0_before f_p1_needCounts g_p1_needed a2_x a3_x = some o) : ∀ sz : Nat, Met l y_Rin_queueNeeded ws_Rin_queueNeeded rm_Rin_queueNeeded (cP (dC, dI) vwCl [(cI, .int), (cL, .long), (cM, .array .int), (cZ, .boolean)] [.ref q_p0, .ref q_p1, .int a2_x, .int a3_x] sz (sc_Rin_queueNeeded cI cL cM cZ q_p0 q_p1 q_p0_queue q_p0_before q_p1_numbers q_p1_needCounts q_p1_needed q_p1_conditions q_p1_allNeeded d_p1_needed f_p0_queue f_p0_before v_p1_jobs f_p1_needCounts g_p1_needed)) (cQi (dC, dI) vwCl [(cI, .int), (cL, .long), (cM, .array .int), (cZ, .boolean)] sz (sc_Rin_queueNeeded cI cL cM cZ q_p0 q_p1 q_p0_queue q_p0_before q_p1_numbers q_p1_needCounts q_p1_needed q_p1_conditions q_p1_allNeeded d_p1_needed f_p0_queue f_p0_before v_p1_jobs f_p1_needCounts g_p1_needed) o.1 (sc_Rin_queueNeeded cI cL cM cZ q_p0 q_p1 q_p0_queue q_p0_before q_p1_numbers q_p1_needCounts q_p1_needed q_p1_conditions q_p1_allNeeded d_p1_needed o.2.1 o.2.2 v_p1_jobs f_p1_needCounts g_p1_needed)) 0 0 (va_A ((sc_Rin_queueNeeded cI cL cM cZ q_p0 q_p1 q_p0_queue q_p0_before q_p1_numbers q_p1_needCounts q_p1_needed q_p1_conditions q_p1_allNeeded d_p1_needed f_p0_queue f_p0_before v_p1_jobs f_p1_needCounts g_p1_needed)).flatten sz) := by
  refine sg_met (fun sz => cQi (dC, dI) vwCl [(cI, .int), (cL, .long), (cM, .array .int), (cZ, .boolean)] sz (sc_Rin_queueNeeded cI cL cM cZ q_p0 q_p1 q_p0_queue q_p0_before q_p1_numbers q_p1_needCounts q_p1_needed q_p1_conditions q_p1_allNeeded d_p1_needed f_p0_queue f_p0_before v_p1_jobs f_p1_needCounts g_p1_needed) o.1 (sc_Rin_queueNeeded cI cL cM cZ q_p0 q_p1 q_p0_queue q_p0_before q_p1_numbers q_p1_needCounts q_p1_needed q_p1_conditions q_p1_allNeeded d_p1_needed o.2.1 o.2.2 v_p1_jobs f_p1_needCounts g_p1_needed)) (by decide) (Nat.le_of_ble_eq_true rfl) ?_
  intro p e s m args below meth c A Q ls hx hb hr hts hown hlocks hml hname hK hNW hA hAe hQ hw hl
  have hl : lv_has ls 7 [(0, .ref q_p0), (1, .ref q_p1), (2, .int a2_x), (3, .int a3_x)] := hl
  have hw : wk (dC, dI) vwCl A s.heap [[(q_p0, .inr (6, [.ref q_p0_queue, .ref q_p0_before]))], [(q_p0_queue, .inl (cI, 26, .inl f_p0_queue))], [(q_p0_before, .inl (cI, 27, .inl f_p0_before))], [(q_p1, .inr (4, [.ref q_p1_numbers, .ref q_p1_needCounts, .ref q_p1_needed, .ref q_p1_conditions, .ref q_p1_allNeeded, .int v_p1_jobs]))], [(q_p1_needCounts, .inl (cI, 27, .inl f_p1_needCounts))], [(q_p1_needed, .inl (cM, gro 27 d_p1_needed))], gl cI d_p1_needed 27 20 g_p1_needed] s.heap [] := hw
  unfold md_Rin_queueNeeded at hm
  refine lv_iload_n hx hb d_Rin_queueNeeded_0 rfl (lv_at hl 3 rfl) ?_
  refine lv_istore (lv' := [(4, .int a3_x), (0, .ref q_p0), (1, .ref q_p1), (2, .int a2_x), (3, .int a3_x)]) hx hb d_Rin_queueNeeded_1 hl (by decide) rfl (fun ls hl => ?_)
  refine lv_iconst (v := 0) hx hb d_Rin_queueNeeded_3 (by decide) ?_
  refine lv_istore (lv' := [(5, .int (0 : Int32)), (4, .int a3_x), (0, .ref q_p0), (1, .ref q_p1), (2, .int a2_x), (3, .int a3_x)]) hx hb d_Rin_queueNeeded_4 hl (by decide) rfl (fun ls hl => ?_)
  obtain ⟨Fn6, hFn6, hm⟩ := fx4_x hm
  have L6 : ∀ (n : Nat) (x1 : Int32) (x2 : Int32) (f3 : Nat → Int32) (f4 : Nat → Int32), fx4 Fn6 n x1 x2 f3 f4 = some o → ∀ (H : Heap) (locs : List Loc) (ls : Array Slot), wk (dC, dI) vwCl A s.heap [[(q_p0, .inr (6, [.ref q_p0_queue, .ref q_p0_before]))], [(q_p0_queue, .inl (cI, 26, .inl f3))], [(q_p0_before, .inl (cI, 27, .inl f4))], [(q_p1, .inr (4, [.ref q_p1_numbers, .ref q_p1_needCounts, .ref q_p1_needed, .ref q_p1_conditions, .ref q_p1_allNeeded, .int v_p1_jobs]))], [(q_p1_needCounts, .inl (cI, 27, .inl f_p1_needCounts))], [(q_p1_needed, .inl (cM, gro 27 d_p1_needed))], gl cI d_p1_needed 27 20 g_p1_needed] H locs → lv_has ls 7 [(5, .int x1), (4, .int x2), (0, .ref q_p0), (1, .ref q_p1), (2, .int a2_x)] → W p l e rm_Rin_queueNeeded s m args below meth c H locs 0 0 Q (F0 m 6 ls []) := by
    intro n
    induction n with
    | zero => intro x1 x2 f3 f4 hm; exact (fx4_0 hm).elim
    | succ n ih6 =>
      intro x1 x2 f3 f4 hm H locs ls hw hl
      have hm := fx4_s hFn6 hm
      unfold md_Rin_queueNeeded_F6 at hm
      refine lv_iload hx hb d_Rin_queueNeeded_6 (lv_at hl 0 rfl) ?_
      refine lv_aload_n hx hb d_Rin_queueNeeded_8 rfl (lv_at hl 3 rfl) ?_
      refine sg_getN (D := (dC, dI)) (ci := 4) (v := .ref q_p1_needCounts) (C := "JobNets$Net") (T := T_4) (N := 6) hx hb hts hin_4 hown hK hw 3 rfl rfl 1 (by decide) (nF_16 hNW) rfl rfl d_Rin_queueNeeded_9 ?_
      refine lv_iload_n hx hb d_Rin_queueNeeded_12 rfl (lv_at hl 4 rfl) ?_
      refine sg_iald hx hb hK hw 4 0 rfl rfl d_Rin_queueNeeded_13 hm (fun hm => ?_)
      refine bq_t (lv_icmp_ge (tgt := 72) hx hb d_Rin_queueNeeded_14 (by decide)) hm (fun hm => ?_) (fun hm => ?_)
      · refine lv_iload hx hb d_Rin_queueNeeded_72 (lv_at hl 1 rfl) ?_
        exact so_iret (rf := fun z_ => z_.1) (Sf := fun z_ => sc_Rin_queueNeeded cI cL cM cZ q_p0 q_p1 q_p0_queue q_p0_before q_p1_numbers q_p1_needCounts q_p1_needed q_p1_conditions q_p1_allNeeded d_p1_needed z_.2.1 z_.2.2 v_p1_jobs f_p1_needCounts g_p1_needed) hm hx hb hr hlocks hAe hQ hK hw rfl d_Rin_queueNeeded_74
      · refine lv_aload_n hx hb d_Rin_queueNeeded_17 rfl (lv_at hl 3 rfl) ?_
        refine sg_getN (D := (dC, dI)) (ci := 4) (v := .ref q_p1_needed) (C := "JobNets$Net") (T := T_4) (N := 6) hx hb hts hin_4 hown hK hw 3 rfl rfl 2 (by decide) (nF_20 hNW) rfl rfl d_Rin_queueNeeded_18 ?_
        refine lv_iload_n hx hb d_Rin_queueNeeded_21 rfl (lv_at hl 4 rfl) ?_
        obtain ⟨hi5, hm⟩ := it_n hm
        refine sg_aald hx hb hK hw 5 2 rfl rfl hi5 d_Rin_queueNeeded_22 ?_
        refine lv_iload hx hb d_Rin_queueNeeded_23 (lv_at hl 0 rfl) ?_
        refine sg_rald hx hb hK hw 6 0 rfl (sg_lt hi5) rfl d_Rin_queueNeeded_25 hm (fun hm => ?_)
        refine nm_i hm (fun x6 hm => ?_)
        refine lv_istore (lv' := [(6, .int x6), (5, .int x1), (4, .int x2), (0, .ref q_p0), (1, .ref q_p1), (2, .int a2_x)]) hx hb d_Rin_queueNeeded_26 hl (by decide) rfl (fun ls hl => ?_)
        refine lv_aload_n hx hb d_Rin_queueNeeded_28 rfl (lv_at hl 3 rfl) ?_
        refine sg_get (D := (dC, dI)) (ci := 6) (v := .ref q_p0_before) (C := "JobNets$RingFinder") (T := T_6) (N := 2) hx hb hts hin_6 hown hK hw 0 rfl rfl 1 (by decide) (hts _ wd_152) rfl rfl d_Rin_queueNeeded_29 ?_
        refine lv_iload hx hb d_Rin_queueNeeded_32 (lv_at hl 0 rfl) ?_
        refine sg_iald hx hb hK hw 2 0 rfl rfl d_Rin_queueNeeded_34 hm (fun hm => ?_)
        refine lv_iconst (v := -1) hx hb d_Rin_queueNeeded_35 (by decide) ?_
        refine bq_n (lv_icmp_ne (tgt := 66) hx hb d_Rin_queueNeeded_36 (by decide)) hm (fun hm => ?_) (fun hm => ?_)
        · refine lv_iinc (v := x1 + 1) (lv' := [(5, .int (x1 + 1)), (6, .int x6), (4, .int x2), (0, .ref q_p0), (1, .ref q_p1), (2, .int a2_x)]) hx hb d_Rin_queueNeeded_66 hl (k := 1) rfl rfl (by decide) rfl (fun ls hl => ?_)
          refine lv_goto (tgt := 6) hx hb d_Rin_queueNeeded_69 (by decide) ?_
          exact ih6 (x1 + 1) x2 f3 f4 hm _ _ _ hw (lv_sub hl [0, 2, 3, 4, 5] rfl)
        · refine lv_iload hx hb d_Rin_queueNeeded_39 (lv_at hl 2 rfl) ?_
          refine lv_bipush (v := 26) hx hb d_Rin_queueNeeded_41 (by decide) ?_
          refine bq_t (lv_icmp_ge (tgt := 66) hx hb d_Rin_queueNeeded_43 (by decide)) hm (fun hm => ?_) (fun hm => ?_)
          · refine lv_iinc (v := x1 + 1) (lv' := [(5, .int (x1 + 1)), (6, .int x6), (4, .int x2), (0, .ref q_p0), (1, .ref q_p1), (2, .int a2_x)]) hx hb d_Rin_queueNeeded_66 hl (k := 1) rfl rfl (by decide) rfl (fun ls hl => ?_)
            refine lv_goto (tgt := 6) hx hb d_Rin_queueNeeded_69 (by decide) ?_
            exact ih6 (x1 + 1) x2 f3 f4 hm _ _ _ hw (lv_sub hl [0, 2, 3, 4, 5] rfl)
          · refine lv_aload_n hx hb d_Rin_queueNeeded_46 rfl (lv_at hl 3 rfl) ?_
            refine sg_get (D := (dC, dI)) (ci := 6) (v := .ref q_p0_before) (C := "JobNets$RingFinder") (T := T_6) (N := 2) hx hb hts hin_6 hown hK hw 0 rfl rfl 1 (by decide) (hts _ wd_152) rfl rfl d_Rin_queueNeeded_47 ?_
            refine lv_iload hx hb d_Rin_queueNeeded_50 (lv_at hl 0 rfl) ?_
            refine lv_iload_n hx hb d_Rin_queueNeeded_52 rfl (lv_at hl 5 rfl) ?_
            refine sg_iast (S1 := fun f7 => [[(q_p0, .inr (6, [.ref q_p0_queue, .ref q_p0_before]))], [(q_p0_queue, .inl (cI, 26, .inl f3))], [(q_p0_before, .inl (cI, 27, .inl f7))], [(q_p1, .inr (4, [.ref q_p1_numbers, .ref q_p1_needCounts, .ref q_p1_needed, .ref q_p1_conditions, .ref q_p1_allNeeded, .int v_p1_jobs]))], [(q_p1_needCounts, .inl (cI, 27, .inl f_p1_needCounts))], [(q_p1_needed, .inl (cM, gro 27 d_p1_needed))], gl cI d_p1_needed 27 20 g_p1_needed]) hx hb hK hw 2 0 rfl rfl d_Rin_queueNeeded_53 (fun _ => rfl) hm (fun f7 H locs hm hw => ?_)
            refine lv_aload_n hx hb d_Rin_queueNeeded_54 rfl (lv_at hl 3 rfl) ?_
            refine sg_get (D := (dC, dI)) (ci := 6) (v := .ref q_p0_queue) (C := "JobNets$RingFinder") (T := T_6) (N := 2) hx hb hts hin_6 hown hK hw 0 rfl rfl 0 (by decide) (hts _ wd_151) rfl rfl d_Rin_queueNeeded_55 ?_
            refine lv_iload hx hb d_Rin_queueNeeded_58 (lv_at hl 2 rfl) ?_
            refine lv_iload hx hb d_Rin_queueNeeded_60 (lv_at hl 0 rfl) ?_
            refine sg_iast (S1 := fun f8 => [[(q_p0, .inr (6, [.ref q_p0_queue, .ref q_p0_before]))], [(q_p0_queue, .inl (cI, 26, .inl f8))], [(q_p0_before, .inl (cI, 27, .inl f7))], [(q_p1, .inr (4, [.ref q_p1_numbers, .ref q_p1_needCounts, .ref q_p1_needed, .ref q_p1_conditions, .ref q_p1_allNeeded, .int v_p1_jobs]))], [(q_p1_needCounts, .inl (cI, 27, .inl f_p1_needCounts))], [(q_p1_needed, .inl (cM, gro 27 d_p1_needed))], gl cI d_p1_needed 27 20 g_p1_needed]) hx hb hK hw 1 0 rfl rfl d_Rin_queueNeeded_62 (fun _ => rfl) hm (fun f8 H locs hm hw => ?_)
            refine lv_iinc (v := x2 + 1) (lv' := [(4, .int (x2 + 1)), (6, .int x6), (5, .int x1), (0, .ref q_p0), (1, .ref q_p1), (2, .int a2_x)]) hx hb d_Rin_queueNeeded_63 hl (k := 2) rfl rfl (by decide) rfl (fun ls hl => ?_)
            refine lv_iinc (v := x1 + 1) (lv' := [(5, .int (x1 + 1)), (4, .int (x2 + 1)), (6, .int x6), (0, .ref q_p0), (1, .ref q_p1), (2, .int a2_x)]) hx hb d_Rin_queueNeeded_66 hl (k := 2) rfl rfl (by decide) rfl (fun ls hl => ?_)
            refine lv_goto (tgt := 6) hx hb d_Rin_queueNeeded_69 (by decide) ?_
            exact ih6 (x1 + 1) (x2 + 1) f8 f7 hm _ _ _ hw (lv_sub hl [0, 1, 3, 4, 5] rfl)
  exact L6 _ _ _ _ _ hm _ _ _ hw (lv_sub hl [0, 1, 2, 3, 4] rfl)
theorem d_Tex_init_0 : decode prog_8_method_1_code 0 = .ok (.aload_n 0, 1) := by decide +kernel
theorem d_Tex_init_1 : decode prog_8_method_1_code 1 = .ok (.invokespecial 3, 3) := by decide +kernel
theorem d_Tex_init_4 : decode prog_8_method_1_code 4 = .ok (.aload_n 0, 1) := by decide +kernel
theorem d_Tex_init_5 : decode prog_8_method_1_code 5 = .ok (.sipush 2000, 3) := by decide +kernel
theorem d_Tex_init_8 : decode prog_8_method_1_code 8 = .ok (.newarray .int, 2) := by decide +kernel
theorem d_Tex_init_10 : decode prog_8_method_1_code 10 = .ok (.putfield 9, 3) := by decide +kernel
theorem d_Tex_init_13 : decode prog_8_method_1_code 13 = .ok (.aload_n 0, 1) := by decide +kernel
theorem d_Tex_init_14 : decode prog_8_method_1_code 14 = .ok (.bipush 26, 2) := by decide +kernel
theorem d_Tex_init_16 : decode prog_8_method_1_code 16 = .ok (.newarray .int, 2) := by decide +kernel
theorem d_Tex_init_18 : decode prog_8_method_1_code 18 = .ok (.putfield 15, 3) := by decide +kernel
theorem d_Tex_init_21 : decode prog_8_method_1_code 21 = .ok (.aload_n 0, 1) := by decide +kernel
theorem d_Tex_init_22 : decode prog_8_method_1_code 22 = .ok (.sipush 520, 3) := by decide +kernel
theorem d_Tex_init_25 : decode prog_8_method_1_code 25 = .ok (.newarray .int, 2) := by decide +kernel
theorem d_Tex_init_27 : decode prog_8_method_1_code 27 = .ok (.putfield 18, 3) := by decide +kernel
theorem d_Tex_init_30 : decode prog_8_method_1_code 30 = .ok (.aload_n 0, 1) := by decide +kernel
theorem d_Tex_init_31 : decode prog_8_method_1_code 31 = .ok (.sipush 520, 3) := by decide +kernel
theorem d_Tex_init_34 : decode prog_8_method_1_code 34 = .ok (.newarray .int, 2) := by decide +kernel
theorem d_Tex_init_36 : decode prog_8_method_1_code 36 = .ok (.putfield 21, 3) := by decide +kernel
theorem d_Tex_init_39 : decode prog_8_method_1_code 39 = .ok (.aload_n 0, 1) := by decide +kernel
theorem d_Tex_init_40 : decode prog_8_method_1_code 40 = .ok (.sipush 520, 3) := by decide +kernel
theorem d_Tex_init_43 : decode prog_8_method_1_code 43 = .ok (.newarray .int, 2) := by decide +kernel
theorem d_Tex_init_45 : decode prog_8_method_1_code 45 = .ok (.putfield 24, 3) := by decide +kernel
theorem d_Tex_init_48 : decode prog_8_method_1_code 48 = .ok (.aload_n 0, 1) := by decide +kernel
theorem d_Tex_init_49 : decode prog_8_method_1_code 49 = .ok (.iconst 0, 1) := by decide +kernel
theorem d_Tex_init_50 : decode prog_8_method_1_code 50 = .ok (.putfield 27, 3) := by decide +kernel
theorem d_Tex_init_53 : decode prog_8_method_1_code 53 = .ok (.aload_n 0, 1) := by decide +kernel
theorem d_Tex_init_54 : decode prog_8_method_1_code 54 = .ok (.iconst 0, 1) := by decide +kernel
theorem d_Tex_init_55 : decode prog_8_method_1_code 55 = .ok (.putfield 31, 3) := by decide +kernel
theorem d_Tex_init_58 : decode prog_8_method_1_code 58 = .ok (.aload_n 0, 1) := by decide +kernel
theorem d_Tex_init_59 : decode prog_8_method_1_code 59 = .ok (.iconst 0, 1) := by decide +kernel
theorem d_Tex_init_60 : decode prog_8_method_1_code 60 = .ok (.putfield 34, 3) := by decide +kernel
theorem d_Tex_init_63 : decode prog_8_method_1_code 63 = .ok (.aload_n 0, 1) := by decide +kernel
theorem d_Tex_init_64 : decode prog_8_method_1_code 64 = .ok (.iconst 0, 1) := by decide +kernel
theorem d_Tex_init_65 : decode prog_8_method_1_code 65 = .ok (.putfield 37, 3) := by decide +kernel
theorem d_Tex_init_68 : decode prog_8_method_1_code 68 = .ok (.return_, 1) := by decide +kernel
def sd_Tex_init (cI cL cM cZ : ClassId) (q_p0 : Nat) (u : ADs) : List va_W := [[(q_p0, .inr (7, [.ref (u.1.getD 0 0), .ref (u.1.getD 1 0), .ref (u.1.getD 2 0), .ref (u.1.getD 3 0), .ref (u.1.getD 4 0), .int 0, .int 0, .int 0, .int 0]))], [((u.1.getD 0 0), .inl (cI, 2000, .inl (fun _ => 0)))], [((u.1.getD 1 0), .inl (cI, 26, .inl (fun _ => 0)))], [((u.1.getD 2 0), .inl (cI, 520, .inl (fun _ => 0)))], [((u.1.getD 3 0), .inl (cI, 520, .inl (fun _ => 0)))], [((u.1.getD 4 0), .inl (cI, 520, .inl (fun _ => 0)))]]
abbrev rm_Tex_init : Room := { frames := 1, cells := 5, slots := 3586, locals := 20 }
set_option maxHeartbeats 4000000 in
set_option maxRecDepth 100000 in
theorem ct_Tex_init (l : Launch) (dC : Nat → ClassId) (dI : Nat → Nat → Nat) (cI cL cM cZ : ClassId) (q_p0 : Nat) : ∀ sz : Nat, Met l y_Tex_init ws_Tex_init rm_Tex_init (cP (dC, dI) vwCl [(cI, .int), (cL, .long), (cM, .array .int), (cZ, .boolean)] [.ref q_p0] sz [[(q_p0, .inr (7, [.null, .null, .null, .null, .null, .int 0, .int 0, .int 0, .int 0]))]]) (cQc (dC, dI) vwCl [(cI, .int), (cL, .long), (cM, .array .int), (cZ, .boolean)] sz [[(q_p0, .inr (7, [.null, .null, .null, .null, .null, .int 0, .int 0, .int 0, .int 0]))]] (sd_Tex_init cI cL cM cZ q_p0)) 5 3586 (va_A (List.flatten [[(q_p0, .inr (7, [.null, .null, .null, .null, .null, .int 0, .int 0, .int 0, .int 0]))]]) sz) := by
  refine sg_met (y := y_Tex_init) (cc := prog_8_method_1_code) (maxL := 1) (ret := none) (rm := rm_Tex_init) (av := [.ref q_p0]) (Sc := [[(q_p0, .inr (7, [.null, .null, .null, .null, .null, .int 0, .int 0, .int 0, .int 0]))]]) (mc := 5) (ms := 3586) (D := (dC, dI)) (cl := vwCl) (tys := [(cI, .int), (cL, .long), (cM, .array .int), (cZ, .boolean)]) (fun sz => cQc (dC, dI) vwCl [(cI, .int), (cL, .long), (cM, .array .int), (cZ, .boolean)] sz [[(q_p0, .inr (7, [.null, .null, .null, .null, .null, .int 0, .int 0, .int 0, .int 0]))]] (sd_Tex_init cI cL cM cZ q_p0)) (by decide) (Nat.le_of_ble_eq_true rfl) ?_
  intro p e s m args below meth c A Q ls hx hb hr hts hown hlocks hml hname hK hNW hA hAe hQ hw hl
  have hl : lv_has ls 1 [(0, .ref q_p0)] := hl
  have hw : wk (dC, dI) vwCl A s.heap [[(q_p0, .inr (7, [.null, .null, .null, .null, .null, .int 0, .int 0, .int 0, .int 0]))]] s.heap [] := hw
  refine lv_aload_n hx hb d_Tex_init_0 rfl (lv_at hl 0 rfl) ?_
  refine W.objInit hx hb hown (hts _ wd_55) (hts _ wd_23) (hts _ wd_24) rfl (by rw [hml]; exact hl.1) rfl d_Tex_init_1 (Nat.le_of_ble_eq_true rfl) (Nat.le_of_ble_eq_true rfl) ?_
  refine W.eq (g2 := F0 m 4 ls []) rfl ?_
  refine lv_aload_n hx hb d_Tex_init_4 rfl (lv_at hl 0 rfl) ?_
  refine lv_sipush (v := 2000) hx hb d_Tex_init_5 (by decide) ?_
  refine sg_newi hx hb (hts _ wd_49) hK hw hA 0 rfl (N' := 2000) (by decide) (by decide) (by decide) (Nat.le_of_ble_eq_true rfl) (Nat.le_of_ble_eq_true rfl) d_Tex_init_8 (fun q_p0_text H hw => ?_)
  have hw : wk (dC, dI) vwCl A s.heap [[(q_p0, .inr (7, [.null, .null, .null, .null, .null, .int 0, .int 0, .int 0, .int 0]))], [(q_p0_text, .inl (cI, 2000, .inl (fun _ => 0)))]] H _ := hw
  refine sg_putF (D := (dC, dI)) (ci := 7) (v := .ref q_p0_text) (ty := .array .int) (C := "JobNets$TextReader") (T := T_7) (N := 9) (S1 := [[(q_p0, .inr (7, [.ref q_p0_text, .null, .null, .null, .null, .int 0, .int 0, .int 0, .int 0]))], [(q_p0_text, .inl (cI, 2000, .inl (fun _ => 0)))]]) hx hb hts hin_7 ty_7 tok_7 nd_7 hown hK hw 0 rfl rfl 0 (by decide) (hts _ wd_56) rfl rfl hname rfl (by decide +kernel) rfl rfl (Nat.le_of_ble_eq_true rfl) rfl d_Tex_init_10 (fun H locs hw => ?_)
  refine lv_aload_n hx hb d_Tex_init_13 rfl (lv_at hl 0 rfl) ?_
  refine lv_bipush (v := 26) hx hb d_Tex_init_14 (by decide) ?_
  refine sg_newi hx hb (hts _ wd_49) hK hw hA 0 rfl (N' := 26) (by decide) (by decide) (by decide) (Nat.le_of_ble_eq_true rfl) (Nat.le_of_ble_eq_true rfl) d_Tex_init_16 (fun q_p0_jobOfLetter H hw => ?_)
  have hw : wk (dC, dI) vwCl A s.heap [[(q_p0, .inr (7, [.ref q_p0_text, .null, .null, .null, .null, .int 0, .int 0, .int 0, .int 0]))], [(q_p0_text, .inl (cI, 2000, .inl (fun _ => 0)))], [(q_p0_jobOfLetter, .inl (cI, 26, .inl (fun _ => 0)))]] H _ := hw
  refine sg_putF (D := (dC, dI)) (ci := 7) (v := .ref q_p0_jobOfLetter) (ty := .array .int) (C := "JobNets$TextReader") (T := T_7) (N := 9) (S1 := [[(q_p0, .inr (7, [.ref q_p0_text, .ref q_p0_jobOfLetter, .null, .null, .null, .int 0, .int 0, .int 0, .int 0]))], [(q_p0_text, .inl (cI, 2000, .inl (fun _ => 0)))], [(q_p0_jobOfLetter, .inl (cI, 26, .inl (fun _ => 0)))]]) hx hb hts hin_7 ty_7 tok_7 nd_7 hown hK hw 0 rfl rfl 1 (by decide) (hts _ wd_57) rfl rfl hname rfl (by decide +kernel) rfl rfl (Nat.le_of_ble_eq_true rfl) rfl d_Tex_init_18 (fun H locs hw => ?_)
  refine lv_aload_n hx hb d_Tex_init_21 rfl (lv_at hl 0 rfl) ?_
  refine lv_sipush (v := 520) hx hb d_Tex_init_22 (by decide) ?_
  refine sg_newi hx hb (hts _ wd_49) hK hw hA 0 rfl (N' := 520) (by decide) (by decide) (by decide) (Nat.le_of_ble_eq_true rfl) (Nat.le_of_ble_eq_true rfl) d_Tex_init_25 (fun q_p0_owners H hw => ?_)
  have hw : wk (dC, dI) vwCl A s.heap [[(q_p0, .inr (7, [.ref q_p0_text, .ref q_p0_jobOfLetter, .null, .null, .null, .int 0, .int 0, .int 0, .int 0]))], [(q_p0_text, .inl (cI, 2000, .inl (fun _ => 0)))], [(q_p0_jobOfLetter, .inl (cI, 26, .inl (fun _ => 0)))], [(q_p0_owners, .inl (cI, 520, .inl (fun _ => 0)))]] H _ := hw
  refine sg_putF (D := (dC, dI)) (ci := 7) (v := .ref q_p0_owners) (ty := .array .int) (C := "JobNets$TextReader") (T := T_7) (N := 9) (S1 := [[(q_p0, .inr (7, [.ref q_p0_text, .ref q_p0_jobOfLetter, .ref q_p0_owners, .null, .null, .int 0, .int 0, .int 0, .int 0]))], [(q_p0_text, .inl (cI, 2000, .inl (fun _ => 0)))], [(q_p0_jobOfLetter, .inl (cI, 26, .inl (fun _ => 0)))], [(q_p0_owners, .inl (cI, 520, .inl (fun _ => 0)))]]) hx hb hts hin_7 ty_7 tok_7 nd_7 hown hK hw 0 rfl rfl 2 (by decide) (hts _ wd_58) rfl rfl hname rfl (by decide +kernel) rfl rfl (Nat.le_of_ble_eq_true rfl) rfl d_Tex_init_27 (fun H locs hw => ?_)
  refine lv_aload_n hx hb d_Tex_init_30 rfl (lv_at hl 0 rfl) ?_
  refine lv_sipush (v := 520) hx hb d_Tex_init_31 (by decide) ?_
  refine sg_newi hx hb (hts _ wd_49) hK hw hA 0 rfl (N' := 520) (by decide) (by decide) (by decide) (Nat.le_of_ble_eq_true rfl) (Nat.le_of_ble_eq_true rfl) d_Tex_init_34 (fun q_p0_namePlaces H hw => ?_)
  have hw : wk (dC, dI) vwCl A s.heap [[(q_p0, .inr (7, [.ref q_p0_text, .ref q_p0_jobOfLetter, .ref q_p0_owners, .null, .null, .int 0, .int 0, .int 0, .int 0]))], [(q_p0_text, .inl (cI, 2000, .inl (fun _ => 0)))], [(q_p0_jobOfLetter, .inl (cI, 26, .inl (fun _ => 0)))], [(q_p0_owners, .inl (cI, 520, .inl (fun _ => 0)))], [(q_p0_namePlaces, .inl (cI, 520, .inl (fun _ => 0)))]] H _ := hw
  refine sg_putF (D := (dC, dI)) (ci := 7) (v := .ref q_p0_namePlaces) (ty := .array .int) (C := "JobNets$TextReader") (T := T_7) (N := 9) (S1 := [[(q_p0, .inr (7, [.ref q_p0_text, .ref q_p0_jobOfLetter, .ref q_p0_owners, .ref q_p0_namePlaces, .null, .int 0, .int 0, .int 0, .int 0]))], [(q_p0_text, .inl (cI, 2000, .inl (fun _ => 0)))], [(q_p0_jobOfLetter, .inl (cI, 26, .inl (fun _ => 0)))], [(q_p0_owners, .inl (cI, 520, .inl (fun _ => 0)))], [(q_p0_namePlaces, .inl (cI, 520, .inl (fun _ => 0)))]]) hx hb hts hin_7 ty_7 tok_7 nd_7 hown hK hw 0 rfl rfl 3 (by decide) (hts _ wd_59) rfl rfl hname rfl (by decide +kernel) rfl rfl (Nat.le_of_ble_eq_true rfl) rfl d_Tex_init_36 (fun H locs hw => ?_)
  refine lv_aload_n hx hb d_Tex_init_39 rfl (lv_at hl 0 rfl) ?_
  refine lv_sipush (v := 520) hx hb d_Tex_init_40 (by decide) ?_
  refine sg_newi hx hb (hts _ wd_49) hK hw hA 0 rfl (N' := 520) (by decide) (by decide) (by decide) (Nat.le_of_ble_eq_true rfl) (Nat.le_of_ble_eq_true rfl) d_Tex_init_43 (fun q_p0_conditions H hw => ?_)
  have hw : wk (dC, dI) vwCl A s.heap [[(q_p0, .inr (7, [.ref q_p0_text, .ref q_p0_jobOfLetter, .ref q_p0_owners, .ref q_p0_namePlaces, .null, .int 0, .int 0, .int 0, .int 0]))], [(q_p0_text, .inl (cI, 2000, .inl (fun _ => 0)))], [(q_p0_jobOfLetter, .inl (cI, 26, .inl (fun _ => 0)))], [(q_p0_owners, .inl (cI, 520, .inl (fun _ => 0)))], [(q_p0_namePlaces, .inl (cI, 520, .inl (fun _ => 0)))], [(q_p0_conditions, .inl (cI, 520, .inl (fun _ => 0)))]] H _ := hw
  refine sg_putF (D := (dC, dI)) (ci := 7) (v := .ref q_p0_conditions) (ty := .array .int) (C := "JobNets$TextReader") (T := T_7) (N := 9) (S1 := [[(q_p0, .inr (7, [.ref q_p0_text, .ref q_p0_jobOfLetter, .ref q_p0_owners, .ref q_p0_namePlaces, .ref q_p0_conditions, .int 0, .int 0, .int 0, .int 0]))], [(q_p0_text, .inl (cI, 2000, .inl (fun _ => 0)))], [(q_p0_jobOfLetter, .inl (cI, 26, .inl (fun _ => 0)))], [(q_p0_owners, .inl (cI, 520, .inl (fun _ => 0)))], [(q_p0_namePlaces, .inl (cI, 520, .inl (fun _ => 0)))], [(q_p0_conditions, .inl (cI, 520, .inl (fun _ => 0)))]]) hx hb hts hin_7 ty_7 tok_7 nd_7 hown hK hw 0 rfl rfl 4 (by decide) (hts _ wd_60) rfl rfl hname rfl (by decide +kernel) rfl rfl (Nat.le_of_ble_eq_true rfl) rfl d_Tex_init_45 (fun H locs hw => ?_)
  refine lv_aload_n hx hb d_Tex_init_48 rfl (lv_at hl 0 rfl) ?_
  refine lv_iconst (v := 0) hx hb d_Tex_init_49 (by decide) ?_
  refine sg_put (D := (dC, dI)) (ci := 7) (v := .int 0) (ty := .int) (C := "JobNets$TextReader") (T := T_7) (N := 9) (S1 := [[(q_p0, .inr (7, [.ref q_p0_text, .ref q_p0_jobOfLetter, .ref q_p0_owners, .ref q_p0_namePlaces, .ref q_p0_conditions, .int 0, .int 0, .int 0, .int 0]))], [(q_p0_text, .inl (cI, 2000, .inl (fun _ => 0)))], [(q_p0_jobOfLetter, .inl (cI, 26, .inl (fun _ => 0)))], [(q_p0_owners, .inl (cI, 520, .inl (fun _ => 0)))], [(q_p0_namePlaces, .inl (cI, 520, .inl (fun _ => 0)))], [(q_p0_conditions, .inl (cI, 520, .inl (fun _ => 0)))]]) hx hb hts hin_7 ty_7 tok_7 nd_7 hown hK hw 0 rfl rfl 5 (by decide) (hts _ wd_61) rfl rfl (by decide +kernel) rfl rfl (Nat.le_of_ble_eq_true rfl) rfl d_Tex_init_50 (fun H locs hw => ?_)
  refine lv_aload_n hx hb d_Tex_init_53 rfl (lv_at hl 0 rfl) ?_
  refine lv_iconst (v := 0) hx hb d_Tex_init_54 (by decide) ?_
  refine sg_put (D := (dC, dI)) (ci := 7) (v := .int 0) (ty := .int) (C := "JobNets$TextReader") (T := T_7) (N := 9) (S1 := [[(q_p0, .inr (7, [.ref q_p0_text, .ref q_p0_jobOfLetter, .ref q_p0_owners, .ref q_p0_namePlaces, .ref q_p0_conditions, .int 0, .int 0, .int 0, .int 0]))], [(q_p0_text, .inl (cI, 2000, .inl (fun _ => 0)))], [(q_p0_jobOfLetter, .inl (cI, 26, .inl (fun _ => 0)))], [(q_p0_owners, .inl (cI, 520, .inl (fun _ => 0)))], [(q_p0_namePlaces, .inl (cI, 520, .inl (fun _ => 0)))], [(q_p0_conditions, .inl (cI, 520, .inl (fun _ => 0)))]]) hx hb hts hin_7 ty_7 tok_7 nd_7 hown hK hw 0 rfl rfl 6 (by decide) (hts _ wd_62) rfl rfl (by decide +kernel) rfl rfl (Nat.le_of_ble_eq_true rfl) rfl d_Tex_init_55 (fun H locs hw => ?_)
  refine lv_aload_n hx hb d_Tex_init_58 rfl (lv_at hl 0 rfl) ?_
  refine lv_iconst (v := 0) hx hb d_Tex_init_59 (by decide) ?_
  refine sg_put (D := (dC, dI)) (ci := 7) (v := .int 0) (ty := .int) (C := "JobNets$TextReader") (T := T_7) (N := 9) (S1 := [[(q_p0, .inr (7, [.ref q_p0_text, .ref q_p0_jobOfLetter, .ref q_p0_owners, .ref q_p0_namePlaces, .ref q_p0_conditions, .int 0, .int 0, .int 0, .int 0]))], [(q_p0_text, .inl (cI, 2000, .inl (fun _ => 0)))], [(q_p0_jobOfLetter, .inl (cI, 26, .inl (fun _ => 0)))], [(q_p0_owners, .inl (cI, 520, .inl (fun _ => 0)))], [(q_p0_namePlaces, .inl (cI, 520, .inl (fun _ => 0)))], [(q_p0_conditions, .inl (cI, 520, .inl (fun _ => 0)))]]) hx hb hts hin_7 ty_7 tok_7 nd_7 hown hK hw 0 rfl rfl 7 (by decide) (hts _ wd_63) rfl rfl (by decide +kernel) rfl rfl (Nat.le_of_ble_eq_true rfl) rfl d_Tex_init_60 (fun H locs hw => ?_)
  refine lv_aload_n hx hb d_Tex_init_63 rfl (lv_at hl 0 rfl) ?_
  refine lv_iconst (v := 0) hx hb d_Tex_init_64 (by decide) ?_
  refine sg_put (D := (dC, dI)) (ci := 7) (v := .int 0) (ty := .int) (C := "JobNets$TextReader") (T := T_7) (N := 9) (S1 := [[(q_p0, .inr (7, [.ref q_p0_text, .ref q_p0_jobOfLetter, .ref q_p0_owners, .ref q_p0_namePlaces, .ref q_p0_conditions, .int 0, .int 0, .int 0, .int 0]))], [(q_p0_text, .inl (cI, 2000, .inl (fun _ => 0)))], [(q_p0_jobOfLetter, .inl (cI, 26, .inl (fun _ => 0)))], [(q_p0_owners, .inl (cI, 520, .inl (fun _ => 0)))], [(q_p0_namePlaces, .inl (cI, 520, .inl (fun _ => 0)))], [(q_p0_conditions, .inl (cI, 520, .inl (fun _ => 0)))]]) hx hb hts hin_7 ty_7 tok_7 nd_7 hown hK hw 0 rfl rfl 8 (by decide) (hts _ wd_64) rfl rfl (by decide +kernel) rfl rfl (Nat.le_of_ble_eq_true rfl) rfl d_Tex_init_65 (fun H locs hw => ?_)
  exact sg_cret ([q_p0_text, q_p0_jobOfLetter, q_p0_owners, q_p0_namePlaces, q_p0_conditions], []) hx hb hr hlocks hAe hQ hK (hw.sub [0, 1, 2, 3, 4, 5] (by decide) rfl) d_Tex_init_68
theorem d_Tex_append_0 : decode prog_8_method_2_code 0 = .ok (.aload_n 0, 1) := by decide +kernel
theorem d_Tex_append_1 : decode prog_8_method_2_code 1 = .ok (.getfield 31, 3) := by decide +kernel
theorem d_Tex_append_4 : decode prog_8_method_2_code 4 = .ok (.sipush 2000, 3) := by decide +kernel
theorem d_Tex_append_7 : decode prog_8_method_2_code 7 = .ok (.if_icmp .ge 23, 3) := by decide +kernel
theorem d_Tex_append_10 : decode prog_8_method_2_code 10 = .ok (.aload_n 0, 1) := by decide +kernel
theorem d_Tex_append_11 : decode prog_8_method_2_code 11 = .ok (.getfield 9, 3) := by decide +kernel
theorem d_Tex_append_14 : decode prog_8_method_2_code 14 = .ok (.aload_n 0, 1) := by decide +kernel
theorem d_Tex_append_15 : decode prog_8_method_2_code 15 = .ok (.getfield 31, 3) := by decide +kernel
theorem d_Tex_append_18 : decode prog_8_method_2_code 18 = .ok (.iload_n 1, 1) := by decide +kernel
theorem d_Tex_append_19 : decode prog_8_method_2_code 19 = .ok (.iastore, 1) := by decide +kernel
theorem d_Tex_append_20 : decode prog_8_method_2_code 20 = .ok (.aload_n 0, 1) := by decide +kernel
theorem d_Tex_append_21 : decode prog_8_method_2_code 21 = .ok (.dup, 1) := by decide +kernel
theorem d_Tex_append_22 : decode prog_8_method_2_code 22 = .ok (.getfield 31, 3) := by decide +kernel
theorem d_Tex_append_25 : decode prog_8_method_2_code 25 = .ok (.iconst 1, 1) := by decide +kernel
theorem d_Tex_append_26 : decode prog_8_method_2_code 26 = .ok (.iadd, 1) := by decide +kernel
theorem d_Tex_append_27 : decode prog_8_method_2_code 27 = .ok (.putfield 31, 3) := by decide +kernel
theorem d_Tex_append_30 : decode prog_8_method_2_code 30 = .ok (.return_, 1) := by decide +kernel
def md_Tex_append (N : Nat) (v_p0_length : Int32) (f_p0_text : Nat → Int32) (a1_x : Int32) : Option (Int32 × (Nat → Int32)) :=
  (if (2000 : Int32) ≤ v_p0_length then (some (v_p0_length, f_p0_text)) else (if sg_in v_p0_length 2000 = true then zl (upd f_p0_text v_p0_length.toNatClampNeg a1_x) (fun f1 => (some (v_p0_length + (1 : Int32), f1))) else none))
abbrev sc_Tex_append (cI cL cM cZ : ClassId) (q_p0 q_p0_text q_p0_jobOfLetter q_p0_owners q_p0_namePlaces q_p0_conditions : Nat) (v_p0_pending : Int32) (v_p0_length : Int32) (v_p0_at : Int32) (v_p0_number : Int32) (f_p0_text : Nat → Int32) : List va_W := [[(q_p0, .inr (7, [.ref q_p0_text, .ref q_p0_jobOfLetter, .ref q_p0_owners, .ref q_p0_namePlaces, .ref q_p0_conditions, .int v_p0_pending, .int v_p0_length, .int v_p0_at, .int v_p0_number]))], [(q_p0_text, .inl (cI, 2000, .inl f_p0_text))]]
abbrev rm_Tex_append : Room := { frames := 0, cells := 0, slots := 0, locals := 0 }
set_option maxHeartbeats 4000000 in
set_option maxRecDepth 100000 in
theorem ct_Tex_append (l : Launch) (dC : Nat → ClassId) (dI : Nat → Nat → Nat) (cI cL cM cZ : ClassId) (q_p0 q_p0_text q_p0_jobOfLetter q_p0_owners q_p0_namePlaces q_p0_conditions : Nat) (v_p0_pending : Int32) (v_p0_length : Int32) (v_p0_at : Int32) (v_p0_number : Int32) (f_p0_text : Nat → Int32) (a1_x : Int32) (N : Nat) (o : Int32 × (Nat → Int32)) (hm : md_Tex_append N v_p0_length f_p0_text a1_x = some o) : ∀ sz : Nat, Met l y_Tex_append ws_Tex_append rm_Tex_append (cP (dC, dI) vwCl [(cI, .int), (cL, .long), (cM, .array .int), (cZ, .boolean)] [.ref q_p0, .int a1_x] sz (sc_Tex_append cI cL cM cZ q_p0 q_p0_text q_p0_jobOfLetter q_p0_owners q_p0_namePlaces q_p0_conditions v_p0_pending v_p0_length v_p0_at v_p0_number f_p0_text)) (cQv (dC, dI) vwCl [(cI, .int), (cL, .long), (cM, .array .int), (cZ, .boolean)] sz (sc_Tex_append cI cL cM cZ q_p0 q_p0_text q_p0_jobOfLetter q_p0_owners q_p0_namePlaces q_p0_conditions v_p0_pending v_p0_length v_p0_at v_p0_number f_p0_text) (sc_Tex_append cI cL cM cZ q_p0 q_p0_text q_p0_jobOfLetter q_p0_owners q_p0_namePlaces q_p0_conditions v_p0_pending o.1 v_p0_at v_p0_number o.2)) 0 0 (va_A ((sc_Tex_append cI cL cM cZ q_p0 q_p0_text q_p0_jobOfLetter q_p0_owners q_p0_namePlaces q_p0_conditions v_p0_pending v_p0_length v_p0_at v_p0_number f_p0_text)).flatten sz) := by
  refine sg_met (fun sz => cQv (dC, dI) vwCl [(cI, .int), (cL, .long), (cM, .array .int), (cZ, .boolean)] sz (sc_Tex_append cI cL cM cZ q_p0 q_p0_text q_p0_jobOfLetter q_p0_owners q_p0_namePlaces q_p0_conditions v_p0_pending v_p0_length v_p0_at v_p0_number f_p0_text) (sc_Tex_append cI cL cM cZ q_p0 q_p0_text q_p0_jobOfLetter q_p0_owners q_p0_namePlaces q_p0_conditions v_p0_pending o.1 v_p0_at v_p0_number o.2)) (by decide) (Nat.le_of_ble_eq_true rfl) ?_
  intro p e s m args below meth c A Q ls hx hb hr hts hown hlocks hml hname hK hNW hA hAe hQ hw hl
  have hl : lv_has ls 2 [(0, .ref q_p0), (1, .int a1_x)] := hl
  have hw : wk (dC, dI) vwCl A s.heap [[(q_p0, .inr (7, [.ref q_p0_text, .ref q_p0_jobOfLetter, .ref q_p0_owners, .ref q_p0_namePlaces, .ref q_p0_conditions, .int v_p0_pending, .int v_p0_length, .int v_p0_at, .int v_p0_number]))], [(q_p0_text, .inl (cI, 2000, .inl f_p0_text))]] s.heap [] := hw
  unfold md_Tex_append at hm
  refine lv_aload_n hx hb d_Tex_append_0 rfl (lv_at hl 0 rfl) ?_
  refine sg_get (D := (dC, dI)) (ci := 7) (v := .int v_p0_length) (C := "JobNets$TextReader") (T := T_7) (N := 9) hx hb hts hin_7 hown hK hw 0 rfl rfl 6 (by decide) (hts _ wd_62) rfl rfl d_Tex_append_1 ?_
  refine lv_sipush (v := 2000) hx hb d_Tex_append_4 (by decide) ?_
  refine bq_t (lv_icmp_ge (tgt := 30) hx hb d_Tex_append_7 (by decide)) hm (fun hm => ?_) (fun hm => ?_)
  · exact so_vret (Sf := fun z_ => sc_Tex_append cI cL cM cZ q_p0 q_p0_text q_p0_jobOfLetter q_p0_owners q_p0_namePlaces q_p0_conditions v_p0_pending z_.1 v_p0_at v_p0_number z_.2) hm hx hb hr hlocks hAe hQ hK hw d_Tex_append_30
  · refine lv_aload_n hx hb d_Tex_append_10 rfl (lv_at hl 0 rfl) ?_
    refine sg_get (D := (dC, dI)) (ci := 7) (v := .ref q_p0_text) (C := "JobNets$TextReader") (T := T_7) (N := 9) hx hb hts hin_7 hown hK hw 0 rfl rfl 0 (by decide) (hts _ wd_56) rfl rfl d_Tex_append_11 ?_
    refine lv_aload_n hx hb d_Tex_append_14 rfl (lv_at hl 0 rfl) ?_
    refine sg_get (D := (dC, dI)) (ci := 7) (v := .int v_p0_length) (C := "JobNets$TextReader") (T := T_7) (N := 9) hx hb hts hin_7 hown hK hw 0 rfl rfl 6 (by decide) (hts _ wd_62) rfl rfl d_Tex_append_15 ?_
    refine lv_iload_n hx hb d_Tex_append_18 rfl (lv_at hl 1 rfl) ?_
    refine sg_iast (S1 := fun f1 => [[(q_p0, .inr (7, [.ref q_p0_text, .ref q_p0_jobOfLetter, .ref q_p0_owners, .ref q_p0_namePlaces, .ref q_p0_conditions, .int v_p0_pending, .int v_p0_length, .int v_p0_at, .int v_p0_number]))], [(q_p0_text, .inl (cI, 2000, .inl f1))]]) hx hb hK hw 1 0 rfl rfl d_Tex_append_19 (fun _ => rfl) hm (fun f1 H locs hm hw => ?_)
    refine lv_aload_n hx hb d_Tex_append_20 rfl (lv_at hl 0 rfl) ?_
    refine lv_dup hx hb d_Tex_append_21 rfl ?_
    refine sg_get (D := (dC, dI)) (ci := 7) (v := .int v_p0_length) (C := "JobNets$TextReader") (T := T_7) (N := 9) hx hb hts hin_7 hown hK hw 0 rfl rfl 6 (by decide) (hts _ wd_62) rfl rfl d_Tex_append_22 ?_
    refine lv_iconst (v := 1) hx hb d_Tex_append_25 (by decide) ?_
    refine lv_iadd hx hb d_Tex_append_26 ?_
    refine sg_put (D := (dC, dI)) (ci := 7) (v := .int (v_p0_length + (1 : Int32))) (ty := .int) (C := "JobNets$TextReader") (T := T_7) (N := 9) (S1 := [[(q_p0, .inr (7, [.ref q_p0_text, .ref q_p0_jobOfLetter, .ref q_p0_owners, .ref q_p0_namePlaces, .ref q_p0_conditions, .int v_p0_pending, .int (v_p0_length + (1 : Int32)), .int v_p0_at, .int v_p0_number]))], [(q_p0_text, .inl (cI, 2000, .inl f1))]]) hx hb hts hin_7 ty_7 tok_7 nd_7 hown hK hw 0 rfl rfl 6 (by decide) (hts _ wd_62) rfl rfl (by decide +kernel) rfl rfl (Nat.le_of_ble_eq_true rfl) rfl d_Tex_append_27 (fun H locs hw => ?_)
    exact so_vret (Sf := fun z_ => sc_Tex_append cI cL cM cZ q_p0 q_p0_text q_p0_jobOfLetter q_p0_owners q_p0_namePlaces q_p0_conditions v_p0_pending z_.1 v_p0_at v_p0_number z_.2) hm hx hb hr hlocks hAe hQ hK hw d_Tex_append_30
theorem d_Tex_forget_0 : decode prog_8_method_3_code 0 = .ok (.aload_n 0, 1) := by decide +kernel
theorem d_Tex_forget_1 : decode prog_8_method_3_code 1 = .ok (.iconst 0, 1) := by decide +kernel
theorem d_Tex_forget_2 : decode prog_8_method_3_code 2 = .ok (.putfield 31, 3) := by decide +kernel
theorem d_Tex_forget_5 : decode prog_8_method_3_code 5 = .ok (.return_, 1) := by decide +kernel
def md_Tex_forget (N : Nat) (v_p0_length : Int32) : Option (Int32) :=
  (some (0 : Int32))
abbrev sc_Tex_forget (cI cL cM cZ : ClassId) (q_p0 q_p0_text q_p0_jobOfLetter q_p0_owners q_p0_namePlaces q_p0_conditions : Nat) (v_p0_pending : Int32) (v_p0_length : Int32) (v_p0_at : Int32) (v_p0_number : Int32) : List va_W := [[(q_p0, .inr (7, [.ref q_p0_text, .ref q_p0_jobOfLetter, .ref q_p0_owners, .ref q_p0_namePlaces, .ref q_p0_conditions, .int v_p0_pending, .int v_p0_length, .int v_p0_at, .int v_p0_number]))]]
abbrev rm_Tex_forget : Room := { frames := 0, cells := 0, slots := 0, locals := 0 }
set_option maxHeartbeats 4000000 in
set_option maxRecDepth 100000 in
theorem ct_Tex_forget (l : Launch) (dC : Nat → ClassId) (dI : Nat → Nat → Nat) (cI cL cM cZ : ClassId) (q_p0 q_p0_text q_p0_jobOfLetter q_p0_owners q_p0_namePlaces q_p0_conditions : Nat) (v_p0_pending : Int32) (v_p0_length : Int32) (v_p0_at : Int32) (v_p0_number : Int32) (N : Nat) (o : Int32) (hm : md_Tex_forget N v_p0_length = some o) : ∀ sz : Nat, Met l y_Tex_forget ws_Tex_forget rm_Tex_forget (cP (dC, dI) vwCl [(cI, .int), (cL, .long), (cM, .array .int), (cZ, .boolean)] [.ref q_p0] sz (sc_Tex_forget cI cL cM cZ q_p0 q_p0_text q_p0_jobOfLetter q_p0_owners q_p0_namePlaces q_p0_conditions v_p0_pending v_p0_length v_p0_at v_p0_number)) (cQv (dC, dI) vwCl [(cI, .int), (cL, .long), (cM, .array .int), (cZ, .boolean)] sz (sc_Tex_forget cI cL cM cZ q_p0 q_p0_text q_p0_jobOfLetter q_p0_owners q_p0_namePlaces q_p0_conditions v_p0_pending v_p0_length v_p0_at v_p0_number) (sc_Tex_forget cI cL cM cZ q_p0 q_p0_text q_p0_jobOfLetter q_p0_owners q_p0_namePlaces q_p0_conditions v_p0_pending o v_p0_at v_p0_number)) 0 0 (va_A ((sc_Tex_forget cI cL cM cZ q_p0 q_p0_text q_p0_jobOfLetter q_p0_owners q_p0_namePlaces q_p0_conditions v_p0_pending v_p0_length v_p0_at v_p0_number)).flatten sz) := by
  refine sg_met (fun sz => cQv (dC, dI) vwCl [(cI, .int), (cL, .long), (cM, .array .int), (cZ, .boolean)] sz (sc_Tex_forget cI cL cM cZ q_p0 q_p0_text q_p0_jobOfLetter q_p0_owners q_p0_namePlaces q_p0_conditions v_p0_pending v_p0_length v_p0_at v_p0_number) (sc_Tex_forget cI cL cM cZ q_p0 q_p0_text q_p0_jobOfLetter q_p0_owners q_p0_namePlaces q_p0_conditions v_p0_pending o v_p0_at v_p0_number)) (by decide) (Nat.le_of_ble_eq_true rfl) ?_
  intro p e s m args below meth c A Q ls hx hb hr hts hown hlocks hml hname hK hNW hA hAe hQ hw hl
  have hl : lv_has ls 1 [(0, .ref q_p0)] := hl
  have hw : wk (dC, dI) vwCl A s.heap [[(q_p0, .inr (7, [.ref q_p0_text, .ref q_p0_jobOfLetter, .ref q_p0_owners, .ref q_p0_namePlaces, .ref q_p0_conditions, .int v_p0_pending, .int v_p0_length, .int v_p0_at, .int v_p0_number]))]] s.heap [] := hw
  unfold md_Tex_forget at hm
  refine lv_aload_n hx hb d_Tex_forget_0 rfl (lv_at hl 0 rfl) ?_
  refine lv_iconst (v := 0) hx hb d_Tex_forget_1 (by decide) ?_
  refine sg_put (D := (dC, dI)) (ci := 7) (v := .int (0 : Int32)) (ty := .int) (C := "JobNets$TextReader") (T := T_7) (N := 9) (S1 := [[(q_p0, .inr (7, [.ref q_p0_text, .ref q_p0_jobOfLetter, .ref q_p0_owners, .ref q_p0_namePlaces, .ref q_p0_conditions, .int v_p0_pending, .int (0 : Int32), .int v_p0_at, .int v_p0_number]))]]) hx hb hts hin_7 ty_7 tok_7 nd_7 hown hK hw 0 rfl rfl 6 (by decide) (hts _ wd_62) rfl rfl (by decide +kernel) rfl rfl (Nat.le_of_ble_eq_true rfl) rfl d_Tex_forget_2 (fun H locs hw => ?_)
  exact so_vret (Sf := fun z_ => sc_Tex_forget cI cL cM cZ q_p0 q_p0_text q_p0_jobOfLetter q_p0_owners q_p0_namePlaces q_p0_conditions v_p0_pending z_ v_p0_at v_p0_number) hm hx hb hr hlocks hAe hQ hK hw d_Tex_forget_5
theorem d_Tex_place_0 : decode prog_8_method_4_code 0 = .ok (.aload_n 0, 1) := by decide +kernel
theorem d_Tex_place_1 : decode prog_8_method_4_code 1 = .ok (.getfield 34, 3) := by decide +kernel
theorem d_Tex_place_4 : decode prog_8_method_4_code 4 = .ok (.ireturn, 1) := by decide +kernel
def md_Tex_place (N : Nat) (v_p0_at : Int32) : Option (Int32) :=
  (some v_p0_at)
abbrev sc_Tex_place (cI cL cM cZ : ClassId) (q_p0 q_p0_text q_p0_jobOfLetter q_p0_owners q_p0_namePlaces q_p0_conditions : Nat) (v_p0_pending : Int32) (v_p0_length : Int32) (v_p0_at : Int32) (v_p0_number : Int32) : List va_W := [[(q_p0, .inr (7, [.ref q_p0_text, .ref q_p0_jobOfLetter, .ref q_p0_owners, .ref q_p0_namePlaces, .ref q_p0_conditions, .int v_p0_pending, .int v_p0_length, .int v_p0_at, .int v_p0_number]))]]
abbrev rm_Tex_place : Room := { frames := 0, cells := 0, slots := 0, locals := 0 }
set_option maxHeartbeats 4000000 in
set_option maxRecDepth 100000 in
theorem ct_Tex_place (l : Launch) (dC : Nat → ClassId) (dI : Nat → Nat → Nat) (cI cL cM cZ : ClassId) (q_p0 q_p0_text q_p0_jobOfLetter q_p0_owners q_p0_namePlaces q_p0_conditions : Nat) (v_p0_pending : Int32) (v_p0_length : Int32) (v_p0_at : Int32) (v_p0_number : Int32) (N : Nat) (o : Int32) (hm : md_Tex_place N v_p0_at = some o) : ∀ sz : Nat, Met l y_Tex_place ws_Tex_place rm_Tex_place (cP (dC, dI) vwCl [(cI, .int), (cL, .long), (cM, .array .int), (cZ, .boolean)] [.ref q_p0] sz (sc_Tex_place cI cL cM cZ q_p0 q_p0_text q_p0_jobOfLetter q_p0_owners q_p0_namePlaces q_p0_conditions v_p0_pending v_p0_length v_p0_at v_p0_number)) (cQi (dC, dI) vwCl [(cI, .int), (cL, .long), (cM, .array .int), (cZ, .boolean)] sz (sc_Tex_place cI cL cM cZ q_p0 q_p0_text q_p0_jobOfLetter q_p0_owners q_p0_namePlaces q_p0_conditions v_p0_pending v_p0_length v_p0_at v_p0_number) o (sc_Tex_place cI cL cM cZ q_p0 q_p0_text q_p0_jobOfLetter q_p0_owners q_p0_namePlaces q_p0_conditions v_p0_pending v_p0_length v_p0_at v_p0_number)) 0 0 (va_A ((sc_Tex_place cI cL cM cZ q_p0 q_p0_text q_p0_jobOfLetter q_p0_owners q_p0_namePlaces q_p0_conditions v_p0_pending v_p0_length v_p0_at v_p0_number)).flatten sz) := by
  refine sg_met (fun sz => cQi (dC, dI) vwCl [(cI, .int), (cL, .long), (cM, .array .int), (cZ, .boolean)] sz (sc_Tex_place cI cL cM cZ q_p0 q_p0_text q_p0_jobOfLetter q_p0_owners q_p0_namePlaces q_p0_conditions v_p0_pending v_p0_length v_p0_at v_p0_number) o (sc_Tex_place cI cL cM cZ q_p0 q_p0_text q_p0_jobOfLetter q_p0_owners q_p0_namePlaces q_p0_conditions v_p0_pending v_p0_length v_p0_at v_p0_number)) (by decide) (Nat.le_of_ble_eq_true rfl) ?_
  intro p e s m args below meth c A Q ls hx hb hr hts hown hlocks hml hname hK hNW hA hAe hQ hw hl
  have hl : lv_has ls 1 [(0, .ref q_p0)] := hl
  have hw : wk (dC, dI) vwCl A s.heap [[(q_p0, .inr (7, [.ref q_p0_text, .ref q_p0_jobOfLetter, .ref q_p0_owners, .ref q_p0_namePlaces, .ref q_p0_conditions, .int v_p0_pending, .int v_p0_length, .int v_p0_at, .int v_p0_number]))]] s.heap [] := hw
  unfold md_Tex_place at hm
  refine lv_aload_n hx hb d_Tex_place_0 rfl (lv_at hl 0 rfl) ?_
  refine sg_get (D := (dC, dI)) (ci := 7) (v := .int v_p0_at) (C := "JobNets$TextReader") (T := T_7) (N := 9) hx hb hts hin_7 hown hK hw 0 rfl rfl 7 (by decide) (hts _ wd_63) rfl rfl d_Tex_place_1 ?_
  exact so_iret (rf := fun z_ => z_) (Sf := fun z_ => sc_Tex_place cI cL cM cZ q_p0 q_p0_text q_p0_jobOfLetter q_p0_owners q_p0_namePlaces q_p0_conditions v_p0_pending v_p0_length v_p0_at v_p0_number) hm hx hb hr hlocks hAe hQ hK hw rfl d_Tex_place_4
theorem d_Tex_parseNumber_0 : decode prog_8_method_7_code 0 = .ok (.aload_n 0, 1) := by decide +kernel
theorem d_Tex_parseNumber_1 : decode prog_8_method_7_code 1 = .ok (.iconst 0, 1) := by decide +kernel
theorem d_Tex_parseNumber_2 : decode prog_8_method_7_code 2 = .ok (.putfield 37, 3) := by decide +kernel
theorem d_Tex_parseNumber_5 : decode prog_8_method_7_code 5 = .ok (.iconst 0, 1) := by decide +kernel
theorem d_Tex_parseNumber_6 : decode prog_8_method_7_code 6 = .ok (.istore_n 1, 1) := by decide +kernel
theorem d_Tex_parseNumber_7 : decode prog_8_method_7_code 7 = .ok (.aload_n 0, 1) := by decide +kernel
theorem d_Tex_parseNumber_8 : decode prog_8_method_7_code 8 = .ok (.getfield 34, 3) := by decide +kernel
theorem d_Tex_parseNumber_11 : decode prog_8_method_7_code 11 = .ok (.aload_n 0, 1) := by decide +kernel
theorem d_Tex_parseNumber_12 : decode prog_8_method_7_code 12 = .ok (.getfield 31, 3) := by decide +kernel
theorem d_Tex_parseNumber_15 : decode prog_8_method_7_code 15 = .ok (.if_icmp .ge 79, 3) := by decide +kernel
theorem d_Tex_parseNumber_18 : decode prog_8_method_7_code 18 = .ok (.aload_n 0, 1) := by decide +kernel
theorem d_Tex_parseNumber_19 : decode prog_8_method_7_code 19 = .ok (.getfield 9, 3) := by decide +kernel
theorem d_Tex_parseNumber_22 : decode prog_8_method_7_code 22 = .ok (.aload_n 0, 1) := by decide +kernel
theorem d_Tex_parseNumber_23 : decode prog_8_method_7_code 23 = .ok (.getfield 34, 3) := by decide +kernel
theorem d_Tex_parseNumber_26 : decode prog_8_method_7_code 26 = .ok (.iaload, 1) := by decide +kernel
theorem d_Tex_parseNumber_27 : decode prog_8_method_7_code 27 = .ok (.bipush 48, 2) := by decide +kernel
theorem d_Tex_parseNumber_29 : decode prog_8_method_7_code 29 = .ok (.if_icmp .lt 65, 3) := by decide +kernel
theorem d_Tex_parseNumber_32 : decode prog_8_method_7_code 32 = .ok (.aload_n 0, 1) := by decide +kernel
theorem d_Tex_parseNumber_33 : decode prog_8_method_7_code 33 = .ok (.getfield 9, 3) := by decide +kernel
theorem d_Tex_parseNumber_36 : decode prog_8_method_7_code 36 = .ok (.aload_n 0, 1) := by decide +kernel
theorem d_Tex_parseNumber_37 : decode prog_8_method_7_code 37 = .ok (.getfield 34, 3) := by decide +kernel
theorem d_Tex_parseNumber_40 : decode prog_8_method_7_code 40 = .ok (.iaload, 1) := by decide +kernel
theorem d_Tex_parseNumber_41 : decode prog_8_method_7_code 41 = .ok (.bipush 57, 2) := by decide +kernel
theorem d_Tex_parseNumber_43 : decode prog_8_method_7_code 43 = .ok (.if_icmp .gt 51, 3) := by decide +kernel
theorem d_Tex_parseNumber_46 : decode prog_8_method_7_code 46 = .ok (.iload_n 1, 1) := by decide +kernel
theorem d_Tex_parseNumber_47 : decode prog_8_method_7_code 47 = .ok (.bipush 6, 2) := by decide +kernel
theorem d_Tex_parseNumber_49 : decode prog_8_method_7_code 49 = .ok (.if_icmp .ne 5, 3) := by decide +kernel
theorem d_Tex_parseNumber_52 : decode prog_8_method_7_code 52 = .ok (.iconst 0, 1) := by decide +kernel
theorem d_Tex_parseNumber_53 : decode prog_8_method_7_code 53 = .ok (.ireturn, 1) := by decide +kernel
theorem d_Tex_parseNumber_54 : decode prog_8_method_7_code 54 = .ok (.aload_n 0, 1) := by decide +kernel
theorem d_Tex_parseNumber_55 : decode prog_8_method_7_code 55 = .ok (.aload_n 0, 1) := by decide +kernel
theorem d_Tex_parseNumber_56 : decode prog_8_method_7_code 56 = .ok (.getfield 37, 3) := by decide +kernel
theorem d_Tex_parseNumber_59 : decode prog_8_method_7_code 59 = .ok (.bipush 10, 2) := by decide +kernel
theorem d_Tex_parseNumber_61 : decode prog_8_method_7_code 61 = .ok (.imul, 1) := by decide +kernel
theorem d_Tex_parseNumber_62 : decode prog_8_method_7_code 62 = .ok (.aload_n 0, 1) := by decide +kernel
theorem d_Tex_parseNumber_63 : decode prog_8_method_7_code 63 = .ok (.getfield 9, 3) := by decide +kernel
theorem d_Tex_parseNumber_66 : decode prog_8_method_7_code 66 = .ok (.aload_n 0, 1) := by decide +kernel
theorem d_Tex_parseNumber_67 : decode prog_8_method_7_code 67 = .ok (.getfield 34, 3) := by decide +kernel
theorem d_Tex_parseNumber_70 : decode prog_8_method_7_code 70 = .ok (.iaload, 1) := by decide +kernel
theorem d_Tex_parseNumber_71 : decode prog_8_method_7_code 71 = .ok (.bipush 48, 2) := by decide +kernel
theorem d_Tex_parseNumber_73 : decode prog_8_method_7_code 73 = .ok (.isub, 1) := by decide +kernel
theorem d_Tex_parseNumber_74 : decode prog_8_method_7_code 74 = .ok (.iadd, 1) := by decide +kernel
theorem d_Tex_parseNumber_75 : decode prog_8_method_7_code 75 = .ok (.putfield 37, 3) := by decide +kernel
theorem d_Tex_parseNumber_78 : decode prog_8_method_7_code 78 = .ok (.iinc 1 1, 3) := by decide +kernel
theorem d_Tex_parseNumber_81 : decode prog_8_method_7_code 81 = .ok (.aload_n 0, 1) := by decide +kernel
theorem d_Tex_parseNumber_82 : decode prog_8_method_7_code 82 = .ok (.dup, 1) := by decide +kernel
theorem d_Tex_parseNumber_83 : decode prog_8_method_7_code 83 = .ok (.getfield 34, 3) := by decide +kernel
theorem d_Tex_parseNumber_86 : decode prog_8_method_7_code 86 = .ok (.iconst 1, 1) := by decide +kernel
theorem d_Tex_parseNumber_87 : decode prog_8_method_7_code 87 = .ok (.iadd, 1) := by decide +kernel
theorem d_Tex_parseNumber_88 : decode prog_8_method_7_code 88 = .ok (.putfield 34, 3) := by decide +kernel
theorem d_Tex_parseNumber_91 : decode prog_8_method_7_code 91 = .ok (.goto (-84), 3) := by decide +kernel
theorem d_Tex_parseNumber_94 : decode prog_8_method_7_code 94 = .ok (.iload_n 1, 1) := by decide +kernel
theorem d_Tex_parseNumber_95 : decode prog_8_method_7_code 95 = .ok (.ifCond .le 7, 3) := by decide +kernel
theorem d_Tex_parseNumber_98 : decode prog_8_method_7_code 98 = .ok (.iconst 1, 1) := by decide +kernel
theorem d_Tex_parseNumber_99 : decode prog_8_method_7_code 99 = .ok (.goto 4, 3) := by decide +kernel
theorem d_Tex_parseNumber_102 : decode prog_8_method_7_code 102 = .ok (.iconst 0, 1) := by decide +kernel
theorem d_Tex_parseNumber_103 : decode prog_8_method_7_code 103 = .ok (.ireturn, 1) := by decide +kernel
def md_Tex_parseNumber_F7 (v_p0_length : Int32) (f_p0_text : Nat → Int32) (rec7 : Int32 → Int32 → Int32 → Option (Int32 × Int32 × Int32)) (x1 : Int32) (x2 : Int32) (x3 : Int32) : Option (Int32 × Int32 × Int32) :=
  (if v_p0_length ≤ x2 then (if x1 ≤ 0 then (some ((0 : Int32), x2, x3)) else (some ((1 : Int32), x2, x3))) else (if sg_in x2 2000 = true then (if (f_p0_text x2.toNatClampNeg) < (48 : Int32) then (if x1 ≤ 0 then (some ((0 : Int32), x2, x3)) else (some ((1 : Int32), x2, x3))) else (if sg_in x2 2000 = true then (if (57 : Int32) < (f_p0_text x2.toNatClampNeg) then (if x1 ≤ 0 then (some ((0 : Int32), x2, x3)) else (some ((1 : Int32), x2, x3))) else (if x1 = (6 : Int32) then (some ((0 : Int32), x2, x3)) else (if sg_in x2 2000 = true then (zl ((x3 * (10 : Int32)) + ((f_p0_text x2.toNatClampNeg) - (48 : Int32))) (fun x4 => (rec7 (x1 + 1) (x2 + (1 : Int32)) x4))) else none))) else none)) else none))
def md_Tex_parseNumber (N : Nat) (v_p0_length : Int32) (v_p0_at : Int32) (v_p0_number : Int32) (f_p0_text : Nat → Int32) : Option (Int32 × Int32 × Int32) :=
  (fx3 (md_Tex_parseNumber_F7 v_p0_length f_p0_text) N (0 : Int32) v_p0_at (0 : Int32))
abbrev sc_Tex_parseNumber (cI cL cM cZ : ClassId) (q_p0 q_p0_text q_p0_jobOfLetter q_p0_owners q_p0_namePlaces q_p0_conditions : Nat) (v_p0_pending : Int32) (v_p0_length : Int32) (v_p0_at : Int32) (v_p0_number : Int32) (f_p0_text : Nat → Int32) : List va_W := [[(q_p0, .inr (7, [.ref q_p0_text, .ref q_p0_jobOfLetter, .ref q_p0_owners, .ref q_p0_namePlaces, .ref q_p0_conditions, .int v_p0_pending, .int v_p0_length, .int v_p0_at, .int v_p0_number]))], [(q_p0_text, .inl (cI, 2000, .inl f_p0_text))]]
abbrev rm_Tex_parseNumber : Room := { frames := 0, cells := 0, slots := 0, locals := 0 }
set_option maxHeartbeats 4000000 in
set_option maxRecDepth 100000 in
theorem ct_Tex_parseNumber (l : Launch) (dC : Nat → ClassId) (dI : Nat → Nat → Nat) (cI cL cM cZ : ClassId) (q_p0 q_p0_text q_p0_jobOfLetter q_p0_owners q_p0_namePlaces q_p0_conditions : Nat) (v_p0_pending : Int32) (v_p0_length : Int32) (v_p0_at : Int32) (v_p0_number : Int32) (f_p0_text : Nat → Int32) (N : Nat) (o : Int32 × Int32 × Int32) (hm : md_Tex_parseNumber N v_p0_length v_p0_at v_p0_number f_p0_text = some o) : ∀ sz : Nat, Met l y_Tex_parseNumber ws_Tex_parseNumber rm_Tex_parseNumber (cP (dC, dI) vwCl [(cI, .int), (cL, .long), (cM, .array .int), (cZ, .boolean)] [.ref q_p0] sz (sc_Tex_parseNumber cI cL cM cZ q_p0 q_p0_text q_p0_jobOfLetter q_p0_owners q_p0_namePlaces q_p0_conditions v_p0_pending v_p0_length v_p0_at v_p0_number f_p0_text)) (cQi (dC, dI) vwCl [(cI, .int), (cL, .long), (cM, .array .int), (cZ, .boolean)] sz (sc_Tex_parseNumber cI cL cM cZ q_p0 q_p0_text q_p0_jobOfLetter q_p0_owners q_p0_namePlaces q_p0_conditions v_p0_pending v_p0_length v_p0_at v_p0_number f_p0_text) o.1 (sc_Tex_parseNumber cI cL cM cZ q_p0 q_p0_text q_p0_jobOfLetter q_p0_owners q_p0_namePlaces q_p0_conditions v_p0_pending v_p0_length o.2.1 o.2.2 f_p0_text)) 0 0 (va_A ((sc_Tex_parseNumber cI cL cM cZ q_p0 q_p0_text q_p0_jobOfLetter q_p0_owners q_p0_namePlaces q_p0_conditions v_p0_pending v_p0_length v_p0_at v_p0_number f_p0_text)).flatten sz) := by
  refine sg_met (fun sz => cQi (dC, dI) vwCl [(cI, .int), (cL, .long), (cM, .array .int), (cZ, .boolean)] sz (sc_Tex_parseNumber cI cL cM cZ q_p0 q_p0_text q_p0_jobOfLetter q_p0_owners q_p0_namePlaces q_p0_conditions v_p0_pending v_p0_length v_p0_at v_p0_number f_p0_text) o.1 (sc_Tex_parseNumber cI cL cM cZ q_p0 q_p0_text q_p0_jobOfLetter q_p0_owners q_p0_namePlaces q_p0_conditions v_p0_pending v_p0_length o.2.1 o.2.2 f_p0_text)) (by decide) (Nat.le_of_ble_eq_true rfl) ?_
  intro p e s m args below meth c A Q ls hx hb hr hts hown hlocks hml hname hK hNW hA hAe hQ hw hl
  have hl : lv_has ls 2 [(0, .ref q_p0)] := hl
  have hw : wk (dC, dI) vwCl A s.heap [[(q_p0, .inr (7, [.ref q_p0_text, .ref q_p0_jobOfLetter, .ref q_p0_owners, .ref q_p0_namePlaces, .ref q_p0_conditions, .int v_p0_pending, .int v_p0_length, .int v_p0_at, .int v_p0_number]))], [(q_p0_text, .inl (cI, 2000, .inl f_p0_text))]] s.heap [] := hw
  unfold md_Tex_parseNumber at hm
  refine lv_aload_n hx hb d_Tex_parseNumber_0 rfl (lv_at hl 0 rfl) ?_
  refine lv_iconst (v := 0) hx hb d_Tex_parseNumber_1 (by decide) ?_
  refine sg_put (D := (dC, dI)) (ci := 7) (v := .int (0 : Int32)) (ty := .int) (C := "JobNets$TextReader") (T := T_7) (N := 9) (S1 := [[(q_p0, .inr (7, [.ref q_p0_text, .ref q_p0_jobOfLetter, .ref q_p0_owners, .ref q_p0_namePlaces, .ref q_p0_conditions, .int v_p0_pending, .int v_p0_length, .int v_p0_at, .int (0 : Int32)]))], [(q_p0_text, .inl (cI, 2000, .inl f_p0_text))]]) hx hb hts hin_7 ty_7 tok_7 nd_7 hown hK hw 0 rfl rfl 8 (by decide) (hts _ wd_64) rfl rfl (by decide +kernel) rfl rfl (Nat.le_of_ble_eq_true rfl) rfl d_Tex_parseNumber_2 (fun H locs hw => ?_)
  refine lv_iconst (v := 0) hx hb d_Tex_parseNumber_5 (by decide) ?_
  refine lv_istore_n (lv' := [(1, .int (0 : Int32)), (0, .ref q_p0)]) hx hb d_Tex_parseNumber_6 rfl hl (by decide) rfl (fun ls hl => ?_)
  obtain ⟨Fn7, hFn7, hm⟩ := fx3_x hm
  have L7 : ∀ (n : Nat) (x1 : Int32) (x2 : Int32) (x3 : Int32), fx3 Fn7 n x1 x2 x3 = some o → ∀ (H : Heap) (locs : List Loc) (ls : Array Slot), wk (dC, dI) vwCl A s.heap [[(q_p0, .inr (7, [.ref q_p0_text, .ref q_p0_jobOfLetter, .ref q_p0_owners, .ref q_p0_namePlaces, .ref q_p0_conditions, .int v_p0_pending, .int v_p0_length, .int x2, .int x3]))], [(q_p0_text, .inl (cI, 2000, .inl f_p0_text))]] H locs → lv_has ls 2 [(1, .int x1), (0, .ref q_p0)] → W p l e rm_Tex_parseNumber s m args below meth c H locs 0 0 Q (F0 m 7 ls []) := by
    intro n
    induction n with
    | zero => intro x1 x2 x3 hm; exact (fx3_0 hm).elim
    | succ n ih7 =>
      intro x1 x2 x3 hm H locs ls hw hl
      have hm := fx3_s hFn7 hm
      unfold md_Tex_parseNumber_F7 at hm
      refine lv_aload_n hx hb d_Tex_parseNumber_7 rfl (lv_at hl 1 rfl) ?_
      refine sg_get (D := (dC, dI)) (ci := 7) (v := .int x2) (C := "JobNets$TextReader") (T := T_7) (N := 9) hx hb hts hin_7 hown hK hw 0 rfl rfl 7 (by decide) (hts _ wd_63) rfl rfl d_Tex_parseNumber_8 ?_
      refine lv_aload_n hx hb d_Tex_parseNumber_11 rfl (lv_at hl 1 rfl) ?_
      refine sg_get (D := (dC, dI)) (ci := 7) (v := .int v_p0_length) (C := "JobNets$TextReader") (T := T_7) (N := 9) hx hb hts hin_7 hown hK hw 0 rfl rfl 6 (by decide) (hts _ wd_62) rfl rfl d_Tex_parseNumber_12 ?_
      refine bq_t (lv_icmp_ge (tgt := 94) hx hb d_Tex_parseNumber_15 (by decide)) hm (fun hm => ?_) (fun hm => ?_)
      · refine lv_iload_n hx hb d_Tex_parseNumber_94 rfl (lv_at hl 0 rfl) ?_
        refine bq_t (lv_if_le (tgt := 102) hx hb d_Tex_parseNumber_95 (by decide)) hm (fun hm => ?_) (fun hm => ?_)
        · refine lv_iconst (v := 0) hx hb d_Tex_parseNumber_102 (by decide) ?_
          exact so_zret (rf := fun z_ => z_.1) (Sf := fun z_ => sc_Tex_parseNumber cI cL cM cZ q_p0 q_p0_text q_p0_jobOfLetter q_p0_owners q_p0_namePlaces q_p0_conditions v_p0_pending v_p0_length z_.2.1 z_.2.2 f_p0_text) hm hx hb hr rfl hlocks hAe hQ hK hw rfl d_Tex_parseNumber_103
        · refine lv_iconst (v := 1) hx hb d_Tex_parseNumber_98 (by decide) ?_
          refine lv_goto (tgt := 103) hx hb d_Tex_parseNumber_99 (by decide) ?_
          exact so_zret (rf := fun z_ => z_.1) (Sf := fun z_ => sc_Tex_parseNumber cI cL cM cZ q_p0 q_p0_text q_p0_jobOfLetter q_p0_owners q_p0_namePlaces q_p0_conditions v_p0_pending v_p0_length z_.2.1 z_.2.2 f_p0_text) hm hx hb hr rfl hlocks hAe hQ hK hw rfl d_Tex_parseNumber_103
      · refine lv_aload_n hx hb d_Tex_parseNumber_18 rfl (lv_at hl 1 rfl) ?_
        refine sg_get (D := (dC, dI)) (ci := 7) (v := .ref q_p0_text) (C := "JobNets$TextReader") (T := T_7) (N := 9) hx hb hts hin_7 hown hK hw 0 rfl rfl 0 (by decide) (hts _ wd_56) rfl rfl d_Tex_parseNumber_19 ?_
        refine lv_aload_n hx hb d_Tex_parseNumber_22 rfl (lv_at hl 1 rfl) ?_
        refine sg_get (D := (dC, dI)) (ci := 7) (v := .int x2) (C := "JobNets$TextReader") (T := T_7) (N := 9) hx hb hts hin_7 hown hK hw 0 rfl rfl 7 (by decide) (hts _ wd_63) rfl rfl d_Tex_parseNumber_23 ?_
        refine sg_iald hx hb hK hw 1 0 rfl rfl d_Tex_parseNumber_26 hm (fun hm => ?_)
        refine lv_bipush (v := 48) hx hb d_Tex_parseNumber_27 (by decide) ?_
        refine bq_t (lv_icmp_lt (tgt := 94) hx hb d_Tex_parseNumber_29 (by decide)) hm (fun hm => ?_) (fun hm => ?_)
        · refine lv_iload_n hx hb d_Tex_parseNumber_94 rfl (lv_at hl 0 rfl) ?_
          refine bq_t (lv_if_le (tgt := 102) hx hb d_Tex_parseNumber_95 (by decide)) hm (fun hm => ?_) (fun hm => ?_)
          · refine lv_iconst (v := 0) hx hb d_Tex_parseNumber_102 (by decide) ?_
            exact so_zret (rf := fun z_ => z_.1) (Sf := fun z_ => sc_Tex_parseNumber cI cL cM cZ q_p0 q_p0_text q_p0_jobOfLetter q_p0_owners q_p0_namePlaces q_p0_conditions v_p0_pending v_p0_length z_.2.1 z_.2.2 f_p0_text) hm hx hb hr rfl hlocks hAe hQ hK hw rfl d_Tex_parseNumber_103
          · refine lv_iconst (v := 1) hx hb d_Tex_parseNumber_98 (by decide) ?_
            refine lv_goto (tgt := 103) hx hb d_Tex_parseNumber_99 (by decide) ?_
            exact so_zret (rf := fun z_ => z_.1) (Sf := fun z_ => sc_Tex_parseNumber cI cL cM cZ q_p0 q_p0_text q_p0_jobOfLetter q_p0_owners q_p0_namePlaces q_p0_conditions v_p0_pending v_p0_length z_.2.1 z_.2.2 f_p0_text) hm hx hb hr rfl hlocks hAe hQ hK hw rfl d_Tex_parseNumber_103
        · refine lv_aload_n hx hb d_Tex_parseNumber_32 rfl (lv_at hl 1 rfl) ?_
          refine sg_get (D := (dC, dI)) (ci := 7) (v := .ref q_p0_text) (C := "JobNets$TextReader") (T := T_7) (N := 9) hx hb hts hin_7 hown hK hw 0 rfl rfl 0 (by decide) (hts _ wd_56) rfl rfl d_Tex_parseNumber_33 ?_
          refine lv_aload_n hx hb d_Tex_parseNumber_36 rfl (lv_at hl 1 rfl) ?_
          refine sg_get (D := (dC, dI)) (ci := 7) (v := .int x2) (C := "JobNets$TextReader") (T := T_7) (N := 9) hx hb hts hin_7 hown hK hw 0 rfl rfl 7 (by decide) (hts _ wd_63) rfl rfl d_Tex_parseNumber_37 ?_
          refine sg_iald hx hb hK hw 1 0 rfl rfl d_Tex_parseNumber_40 hm (fun hm => ?_)
          refine lv_bipush (v := 57) hx hb d_Tex_parseNumber_41 (by decide) ?_
          refine bq_t (lv_icmp_gt (tgt := 94) hx hb d_Tex_parseNumber_43 (by decide)) hm (fun hm => ?_) (fun hm => ?_)
          · refine lv_iload_n hx hb d_Tex_parseNumber_94 rfl (lv_at hl 0 rfl) ?_
            refine bq_t (lv_if_le (tgt := 102) hx hb d_Tex_parseNumber_95 (by decide)) hm (fun hm => ?_) (fun hm => ?_)
            · refine lv_iconst (v := 0) hx hb d_Tex_parseNumber_102 (by decide) ?_
              exact so_zret (rf := fun z_ => z_.1) (Sf := fun z_ => sc_Tex_parseNumber cI cL cM cZ q_p0 q_p0_text q_p0_jobOfLetter q_p0_owners q_p0_namePlaces q_p0_conditions v_p0_pending v_p0_length z_.2.1 z_.2.2 f_p0_text) hm hx hb hr rfl hlocks hAe hQ hK hw rfl d_Tex_parseNumber_103
            · refine lv_iconst (v := 1) hx hb d_Tex_parseNumber_98 (by decide) ?_
              refine lv_goto (tgt := 103) hx hb d_Tex_parseNumber_99 (by decide) ?_
              exact so_zret (rf := fun z_ => z_.1) (Sf := fun z_ => sc_Tex_parseNumber cI cL cM cZ q_p0 q_p0_text q_p0_jobOfLetter q_p0_owners q_p0_namePlaces q_p0_conditions v_p0_pending v_p0_length z_.2.1 z_.2.2 f_p0_text) hm hx hb hr rfl hlocks hAe hQ hK hw rfl d_Tex_parseNumber_103
          · refine lv_iload_n hx hb d_Tex_parseNumber_46 rfl (lv_at hl 0 rfl) ?_
            refine lv_bipush (v := 6) hx hb d_Tex_parseNumber_47 (by decide) ?_
            refine bq_n (lv_icmp_ne (tgt := 54) hx hb d_Tex_parseNumber_49 (by decide)) hm (fun hm => ?_) (fun hm => ?_)
            · refine lv_aload_n hx hb d_Tex_parseNumber_54 rfl (lv_at hl 1 rfl) ?_
              refine lv_aload_n hx hb d_Tex_parseNumber_55 rfl (lv_at hl 1 rfl) ?_
              refine sg_get (D := (dC, dI)) (ci := 7) (v := .int x3) (C := "JobNets$TextReader") (T := T_7) (N := 9) hx hb hts hin_7 hown hK hw 0 rfl rfl 8 (by decide) (hts _ wd_64) rfl rfl d_Tex_parseNumber_56 ?_
              refine lv_bipush (v := 10) hx hb d_Tex_parseNumber_59 (by decide) ?_
              refine lv_imul hx hb d_Tex_parseNumber_61 ?_
              refine lv_aload_n hx hb d_Tex_parseNumber_62 rfl (lv_at hl 1 rfl) ?_
              refine sg_get (D := (dC, dI)) (ci := 7) (v := .ref q_p0_text) (C := "JobNets$TextReader") (T := T_7) (N := 9) hx hb hts hin_7 hown hK hw 0 rfl rfl 0 (by decide) (hts _ wd_56) rfl rfl d_Tex_parseNumber_63 ?_
              refine lv_aload_n hx hb d_Tex_parseNumber_66 rfl (lv_at hl 1 rfl) ?_
              refine sg_get (D := (dC, dI)) (ci := 7) (v := .int x2) (C := "JobNets$TextReader") (T := T_7) (N := 9) hx hb hts hin_7 hown hK hw 0 rfl rfl 7 (by decide) (hts _ wd_63) rfl rfl d_Tex_parseNumber_67 ?_
              refine sg_iald hx hb hK hw 1 0 rfl rfl d_Tex_parseNumber_70 hm (fun hm => ?_)
              refine lv_bipush (v := 48) hx hb d_Tex_parseNumber_71 (by decide) ?_
              refine lv_isub hx hb d_Tex_parseNumber_73 ?_
              refine lv_iadd hx hb d_Tex_parseNumber_74 ?_
              refine nm_i hm (fun x4 hm => ?_)
              refine sg_put (D := (dC, dI)) (ci := 7) (v := .int x4) (ty := .int) (C := "JobNets$TextReader") (T := T_7) (N := 9) (S1 := [[(q_p0, .inr (7, [.ref q_p0_text, .ref q_p0_jobOfLetter, .ref q_p0_owners, .ref q_p0_namePlaces, .ref q_p0_conditions, .int v_p0_pending, .int v_p0_length, .int x2, .int x4]))], [(q_p0_text, .inl (cI, 2000, .inl f_p0_text))]]) hx hb hts hin_7 ty_7 tok_7 nd_7 hown hK hw 0 rfl rfl 8 (by decide) (hts _ wd_64) rfl rfl (by decide +kernel) rfl rfl (Nat.le_of_ble_eq_true rfl) rfl d_Tex_parseNumber_75 (fun H locs hw => ?_)
              refine lv_iinc (v := x1 + 1) (lv' := [(1, .int (x1 + 1)), (0, .ref q_p0)]) hx hb d_Tex_parseNumber_78 hl (k := 0) rfl rfl (by decide) rfl (fun ls hl => ?_)
              refine lv_aload_n hx hb d_Tex_parseNumber_81 rfl (lv_at hl 1 rfl) ?_
              refine lv_dup hx hb d_Tex_parseNumber_82 rfl ?_
              refine sg_get (D := (dC, dI)) (ci := 7) (v := .int x2) (C := "JobNets$TextReader") (T := T_7) (N := 9) hx hb hts hin_7 hown hK hw 0 rfl rfl 7 (by decide) (hts _ wd_63) rfl rfl d_Tex_parseNumber_83 ?_
              refine lv_iconst (v := 1) hx hb d_Tex_parseNumber_86 (by decide) ?_
              refine lv_iadd hx hb d_Tex_parseNumber_87 ?_
              refine sg_put (D := (dC, dI)) (ci := 7) (v := .int (x2 + (1 : Int32))) (ty := .int) (C := "JobNets$TextReader") (T := T_7) (N := 9) (S1 := [[(q_p0, .inr (7, [.ref q_p0_text, .ref q_p0_jobOfLetter, .ref q_p0_owners, .ref q_p0_namePlaces, .ref q_p0_conditions, .int v_p0_pending, .int v_p0_length, .int (x2 + (1 : Int32)), .int x4]))], [(q_p0_text, .inl (cI, 2000, .inl f_p0_text))]]) hx hb hts hin_7 ty_7 tok_7 nd_7 hown hK hw 0 rfl rfl 7 (by decide) (hts _ wd_63) rfl rfl (by decide +kernel) rfl rfl (Nat.le_of_ble_eq_true rfl) rfl d_Tex_parseNumber_88 (fun H locs hw => ?_)
              refine lv_goto (tgt := 7) hx hb d_Tex_parseNumber_91 (by decide) ?_
              exact ih7 (x1 + 1) (x2 + (1 : Int32)) x4 hm _ _ _ hw hl
            · refine lv_iconst (v := 0) hx hb d_Tex_parseNumber_52 (by decide) ?_
              exact so_zret (rf := fun z_ => z_.1) (Sf := fun z_ => sc_Tex_parseNumber cI cL cM cZ q_p0 q_p0_text q_p0_jobOfLetter q_p0_owners q_p0_namePlaces q_p0_conditions v_p0_pending v_p0_length z_.2.1 z_.2.2 f_p0_text) hm hx hb hr rfl hlocks hAe hQ hK hw rfl d_Tex_parseNumber_53
  exact L7 _ _ _ _ hm _ _ _ hw hl
theorem d_Tex_addNeeds_0 : decode prog_8_method_10_code 0 = .ok (.iconst 0, 1) := by decide +kernel
theorem d_Tex_addNeeds_1 : decode prog_8_method_10_code 1 = .ok (.istore_n 2, 1) := by decide +kernel
theorem d_Tex_addNeeds_2 : decode prog_8_method_10_code 2 = .ok (.iload_n 2, 1) := by decide +kernel
theorem d_Tex_addNeeds_3 : decode prog_8_method_10_code 3 = .ok (.aload_n 0, 1) := by decide +kernel
theorem d_Tex_addNeeds_4 : decode prog_8_method_10_code 4 = .ok (.getfield 27, 3) := by decide +kernel
theorem d_Tex_addNeeds_7 : decode prog_8_method_10_code 7 = .ok (.if_icmp .ge 62, 3) := by decide +kernel
theorem d_Tex_addNeeds_10 : decode prog_8_method_10_code 10 = .ok (.aload_n 0, 1) := by decide +kernel
theorem d_Tex_addNeeds_11 : decode prog_8_method_10_code 11 = .ok (.getfield 15, 3) := by decide +kernel
theorem d_Tex_addNeeds_14 : decode prog_8_method_10_code 14 = .ok (.aload_n 0, 1) := by decide +kernel
theorem d_Tex_addNeeds_15 : decode prog_8_method_10_code 15 = .ok (.getfield 9, 3) := by decide +kernel
theorem d_Tex_addNeeds_18 : decode prog_8_method_10_code 18 = .ok (.aload_n 0, 1) := by decide +kernel
theorem d_Tex_addNeeds_19 : decode prog_8_method_10_code 19 = .ok (.getfield 21, 3) := by decide +kernel
theorem d_Tex_addNeeds_22 : decode prog_8_method_10_code 22 = .ok (.iload_n 2, 1) := by decide +kernel
theorem d_Tex_addNeeds_23 : decode prog_8_method_10_code 23 = .ok (.iaload, 1) := by decide +kernel
theorem d_Tex_addNeeds_24 : decode prog_8_method_10_code 24 = .ok (.iaload, 1) := by decide +kernel
theorem d_Tex_addNeeds_25 : decode prog_8_method_10_code 25 = .ok (.bipush 97, 2) := by decide +kernel
theorem d_Tex_addNeeds_27 : decode prog_8_method_10_code 27 = .ok (.isub, 1) := by decide +kernel
theorem d_Tex_addNeeds_28 : decode prog_8_method_10_code 28 = .ok (.iaload, 1) := by decide +kernel
theorem d_Tex_addNeeds_29 : decode prog_8_method_10_code 29 = .ok (.istore_n 3, 1) := by decide +kernel
theorem d_Tex_addNeeds_30 : decode prog_8_method_10_code 30 = .ok (.iload_n 3, 1) := by decide +kernel
theorem d_Tex_addNeeds_31 : decode prog_8_method_10_code 31 = .ok (.ifCond .ne 15, 3) := by decide +kernel
theorem d_Tex_addNeeds_34 : decode prog_8_method_10_code 34 = .ok (.aload_n 0, 1) := by decide +kernel
theorem d_Tex_addNeeds_35 : decode prog_8_method_10_code 35 = .ok (.aload_n 0, 1) := by decide +kernel
theorem d_Tex_addNeeds_36 : decode prog_8_method_10_code 36 = .ok (.getfield 21, 3) := by decide +kernel
theorem d_Tex_addNeeds_39 : decode prog_8_method_10_code 39 = .ok (.iload_n 2, 1) := by decide +kernel
theorem d_Tex_addNeeds_40 : decode prog_8_method_10_code 40 = .ok (.iaload, 1) := by decide +kernel
theorem d_Tex_addNeeds_41 : decode prog_8_method_10_code 41 = .ok (.putfield 34, 3) := by decide +kernel
theorem d_Tex_addNeeds_44 : decode prog_8_method_10_code 44 = .ok (.iconst 0, 1) := by decide +kernel
theorem d_Tex_addNeeds_45 : decode prog_8_method_10_code 45 = .ok (.ireturn, 1) := by decide +kernel
theorem d_Tex_addNeeds_46 : decode prog_8_method_10_code 46 = .ok (.aload_n 1, 1) := by decide +kernel
theorem d_Tex_addNeeds_47 : decode prog_8_method_10_code 47 = .ok (.aload_n 0, 1) := by decide +kernel
theorem d_Tex_addNeeds_48 : decode prog_8_method_10_code 48 = .ok (.getfield 18, 3) := by decide +kernel
theorem d_Tex_addNeeds_51 : decode prog_8_method_10_code 51 = .ok (.iload_n 2, 1) := by decide +kernel
theorem d_Tex_addNeeds_52 : decode prog_8_method_10_code 52 = .ok (.iaload, 1) := by decide +kernel
theorem d_Tex_addNeeds_53 : decode prog_8_method_10_code 53 = .ok (.iload_n 3, 1) := by decide +kernel
theorem d_Tex_addNeeds_54 : decode prog_8_method_10_code 54 = .ok (.aload_n 0, 1) := by decide +kernel
theorem d_Tex_addNeeds_55 : decode prog_8_method_10_code 55 = .ok (.getfield 24, 3) := by decide +kernel
theorem d_Tex_addNeeds_58 : decode prog_8_method_10_code 58 = .ok (.iload_n 2, 1) := by decide +kernel
theorem d_Tex_addNeeds_59 : decode prog_8_method_10_code 59 = .ok (.iaload, 1) := by decide +kernel
theorem d_Tex_addNeeds_60 : decode prog_8_method_10_code 60 = .ok (.invokevirtual 87, 3) := by decide +kernel
theorem d_Tex_addNeeds_63 : decode prog_8_method_10_code 63 = .ok (.iinc 2 1, 3) := by decide +kernel
theorem d_Tex_addNeeds_66 : decode prog_8_method_10_code 66 = .ok (.goto (-64), 3) := by decide +kernel
theorem d_Tex_addNeeds_69 : decode prog_8_method_10_code 69 = .ok (.iconst 1, 1) := by decide +kernel
theorem d_Tex_addNeeds_70 : decode prog_8_method_10_code 70 = .ok (.ireturn, 1) := by decide +kernel
def md_Tex_addNeeds_F2 (v_p0_pending : Int32) (v_p0_at : Int32) (f_p0_text : Nat → Int32) (f_p0_jobOfLetter : Nat → Int32) (f_p0_owners : Nat → Int32) (f_p0_namePlaces : Nat → Int32) (f_p0_conditions : Nat → Int32) (v_p1_jobs : Int32) (N : Nat) (rec2 : Int32 → (Nat → Int32) → (Nat → Nat → Int32) → (Nat → Nat → Int32) → (Nat → Int32) → Option (Int32 × Int32 × (Nat → Int32) × (Nat → Nat → Int32) × (Nat → Nat → Int32) × (Nat → Int32))) (x1 : Int32) (f2 : Nat → Int32) (g3 : Nat → Nat → Int32) (g4 : Nat → Nat → Int32) (f5 : Nat → Int32) : Option (Int32 × Int32 × (Nat → Int32) × (Nat → Nat → Int32) × (Nat → Nat → Int32) × (Nat → Int32)) :=
  (if v_p0_pending ≤ x1 then (some ((1 : Int32), v_p0_at, f2, g3, g4, f5)) else (if sg_in x1 520 = true then (if sg_in (f_p0_namePlaces x1.toNatClampNeg) 2000 = true then (if sg_in ((f_p0_text (f_p0_namePlaces x1.toNatClampNeg).toNatClampNeg) - (97 : Int32)) 26 = true then (zl (f_p0_jobOfLetter ((f_p0_text (f_p0_namePlaces x1.toNatClampNeg).toNatClampNeg) - (97 : Int32)).toNatClampNeg) (fun x6 => (if x6 = 0 then (if sg_in x1 520 = true then (some ((0 : Int32), f_p0_namePlaces x1.toNatClampNeg, f2, g3, g4, f5)) else none) else (if sg_in x1 520 = true then (if sg_in x1 520 = true then (zc (md_Net_addNeed N v_p1_jobs f2 g3 g4 f5 (f_p0_owners x1.toNatClampNeg) x6 (f_p0_conditions x1.toNatClampNeg)) (fun o7 => (rec2 (x1 + 1) o7.1 o7.2.1 o7.2.2.1 o7.2.2.2))) else none) else none)))) else none) else none) else none))
def md_Tex_addNeeds (N : Nat) (v_p0_pending : Int32) (v_p0_at : Int32) (f_p0_text : Nat → Int32) (f_p0_jobOfLetter : Nat → Int32) (f_p0_owners : Nat → Int32) (f_p0_namePlaces : Nat → Int32) (f_p0_conditions : Nat → Int32) (v_p1_jobs : Int32) (f_p1_needCounts : Nat → Int32) (g_p1_needed : Nat → Nat → Int32) (g_p1_conditions : Nat → Nat → Int32) (f_p1_allNeeded : Nat → Int32) : Option (Int32 × Int32 × (Nat → Int32) × (Nat → Nat → Int32) × (Nat → Nat → Int32) × (Nat → Int32)) :=
  (fx5 (md_Tex_addNeeds_F2 v_p0_pending v_p0_at f_p0_text f_p0_jobOfLetter f_p0_owners f_p0_namePlaces f_p0_conditions v_p1_jobs N) N (0 : Int32) f_p1_needCounts g_p1_needed g_p1_conditions f_p1_allNeeded)
abbrev sc_Tex_addNeeds (cI cL cM cZ : ClassId) (q_p0 q_p1 q_p0_text q_p0_jobOfLetter q_p0_owners q_p0_namePlaces q_p0_conditions q_p1_numbers q_p1_needCounts q_p1_needed q_p1_conditions q_p1_allNeeded : Nat) (d_p1_needed d_p1_conditions : Nat → Nat) (v_p0_pending : Int32) (v_p0_length : Int32) (v_p0_at : Int32) (v_p0_number : Int32) (f_p0_text : Nat → Int32) (f_p0_jobOfLetter : Nat → Int32) (f_p0_owners : Nat → Int32) (f_p0_namePlaces : Nat → Int32) (f_p0_conditions : Nat → Int32) (v_p1_jobs : Int32) (f_p1_needCounts : Nat → Int32) (g_p1_needed : Nat → Nat → Int32) (g_p1_conditions : Nat → Nat → Int32) (f_p1_allNeeded : Nat → Int32) : List va_W := [[(q_p0, .inr (7, [.ref q_p0_text, .ref q_p0_jobOfLetter, .ref q_p0_owners, .ref q_p0_namePlaces, .ref q_p0_conditions, .int v_p0_pending, .int v_p0_length, .int v_p0_at, .int v_p0_number]))], [(q_p0_text, .inl (cI, 2000, .inl f_p0_text))], [(q_p0_jobOfLetter, .inl (cI, 26, .inl f_p0_jobOfLetter))], [(q_p0_owners, .inl (cI, 520, .inl f_p0_owners))], [(q_p0_namePlaces, .inl (cI, 520, .inl f_p0_namePlaces))], [(q_p0_conditions, .inl (cI, 520, .inl f_p0_conditions))], [(q_p1, .inr (4, [.ref q_p1_numbers, .ref q_p1_needCounts, .ref q_p1_needed, .ref q_p1_conditions, .ref q_p1_allNeeded, .int v_p1_jobs]))], [(q_p1_needCounts, .inl (cI, 27, .inl f_p1_needCounts))], [(q_p1_needed, .inl (cM, gro 27 d_p1_needed))], gl cI d_p1_needed 27 20 g_p1_needed, [(q_p1_conditions, .inl (cM, gro 27 d_p1_conditions))], gl cI d_p1_conditions 27 20 g_p1_conditions, [(q_p1_allNeeded, .inl (cI, 27, .inl f_p1_allNeeded))]]
abbrev rm_Tex_addNeeds : Room := { frames := 2, cells := 0, slots := 0, locals := 48 }
set_option maxHeartbeats 4000000 in
set_option maxRecDepth 100000 in
theorem ct_Tex_addNeeds (l : Launch) (dC : Nat → ClassId) (dI : Nat → Nat → Nat) (cI cL cM cZ : ClassId) (q_p0 q_p1 q_p0_text q_p0_jobOfLetter q_p0_owners q_p0_namePlaces q_p0_conditions q_p1_numbers q_p1_needCounts q_p1_needed q_p1_conditions q_p1_allNeeded : Nat) (d_p1_needed d_p1_conditions : Nat → Nat) (v_p0_pending : Int32) (v_p0_length : Int32) (v_p0_at : Int32) (v_p0_number : Int32) (f_p0_text : Nat → Int32) (f_p0_jobOfLetter : Nat → Int32) (f_p0_owners : Nat → Int32) (f_p0_namePlaces : Nat → Int32) (f_p0_conditions : Nat → Int32) (v_p1_jobs : Int32) (f_p1_needCounts : Nat → Int32) (g_p1_needed : Nat → Nat → Int32) (g_p1_conditions : Nat → Nat → Int32) (f_p1_allNeeded : Nat → Int32) (N : Nat) (o : Int32 × Int32 × (Nat → Int32) × (Nat → Nat → Int32) × (Nat → Nat → Int32) × (Nat → Int32)) (hm : md_Tex_addNeeds N v_p0_pending v_p0_at f_p0_text f_p0_jobOfLetter f_p0_owners f_p0_namePlaces f_p0_conditions v_p1_jobs f_p1_needCounts g_p1_needed g_p1_conditions f_p1_allNeeded = some o) : ∀ sz : Nat, Met l y_Tex_addNeeds ws_Tex_addNeeds rm_Tex_addNeeds (cP (dC, dI) vwCl [(cI, .int), (cL, .long), (cM, .array .int), (cZ, .boolean)] [.ref q_p0, .ref q_p1] sz (sc_Tex_addNeeds cI cL cM cZ q_p0 q_p1 q_p0_text q_p0_jobOfLetter q_p0_owners q_p0_namePlaces q_p0_conditions q_p1_numbers q_p1_needCounts q_p1_needed q_p1_conditions q_p1_allNeeded d_p1_needed d_p1_conditions v_p0_pending v_p0_length v_p0_at v_p0_number f_p0_text f_p0_jobOfLetter f_p0_owners f_p0_namePlaces f_p0_conditions v_p1_jobs f_p1_needCounts g_p1_needed g_p1_conditions f_p1_allNeeded)) (cQi (dC, dI) vwCl [(cI, .int), (cL, .long), (cM, .array .int), (cZ, .boolean)] sz (sc_Tex_addNeeds cI cL cM cZ q_p0 q_p1 q_p0_text q_p0_jobOfLetter q_p0_owners q_p0_namePlaces q_p0_conditions q_p1_numbers q_p1_needCounts q_p1_needed q_p1_conditions q_p1_allNeeded d_p1_needed d_p1_conditions v_p0_pending v_p0_length v_p0_at v_p0_number f_p0_text f_p0_jobOfLetter f_p0_owners f_p0_namePlaces f_p0_conditions v_p1_jobs f_p1_needCounts g_p1_needed g_p1_conditions f_p1_allNeeded) o.1 (sc_Tex_addNeeds cI cL cM cZ q_p0 q_p1 q_p0_text q_p0_jobOfLetter q_p0_owners q_p0_namePlaces q_p0_conditions q_p1_numbers q_p1_needCounts q_p1_needed q_p1_conditions q_p1_allNeeded d_p1_needed d_p1_conditions v_p0_pending v_p0_length o.2.1 v_p0_number f_p0_text f_p0_jobOfLetter f_p0_owners f_p0_namePlaces f_p0_conditions v_p1_jobs o.2.2.1 o.2.2.2.1 o.2.2.2.2.1 o.2.2.2.2.2)) 0 0 (va_A ((sc_Tex_addNeeds cI cL cM cZ q_p0 q_p1 q_p0_text q_p0_jobOfLetter q_p0_owners q_p0_namePlaces q_p0_conditions q_p1_numbers q_p1_needCounts q_p1_needed q_p1_conditions q_p1_allNeeded d_p1_needed d_p1_conditions v_p0_pending v_p0_length v_p0_at v_p0_number f_p0_text f_p0_jobOfLetter f_p0_owners f_p0_namePlaces f_p0_conditions v_p1_jobs f_p1_needCounts g_p1_needed g_p1_conditions f_p1_allNeeded)).flatten sz) := by
  refine sg_met (fun sz => cQi (dC, dI) vwCl [(cI, .int), (cL, .long), (cM, .array .int), (cZ, .boolean)] sz (sc_Tex_addNeeds cI cL cM cZ q_p0 q_p1 q_p0_text q_p0_jobOfLetter q_p0_owners q_p0_namePlaces q_p0_conditions q_p1_numbers q_p1_needCounts q_p1_needed q_p1_conditions q_p1_allNeeded d_p1_needed d_p1_conditions v_p0_pending v_p0_length v_p0_at v_p0_number f_p0_text f_p0_jobOfLetter f_p0_owners f_p0_namePlaces f_p0_conditions v_p1_jobs f_p1_needCounts g_p1_needed g_p1_conditions f_p1_allNeeded) o.1 (sc_Tex_addNeeds cI cL cM cZ q_p0 q_p1 q_p0_text q_p0_jobOfLetter q_p0_owners q_p0_namePlaces q_p0_conditions q_p1_numbers q_p1_needCounts q_p1_needed q_p1_conditions q_p1_allNeeded d_p1_needed d_p1_conditions v_p0_pending v_p0_length o.2.1 v_p0_number f_p0_text f_p0_jobOfLetter f_p0_owners f_p0_namePlaces f_p0_conditions v_p1_jobs o.2.2.1 o.2.2.2.1 o.2.2.2.2.1 o.2.2.2.2.2)) (by decide) (Nat.le_of_ble_eq_true rfl) ?_
  intro p e s m args below meth c A Q ls hx hb hr hts hown hlocks hml hname hK hNW hA hAe hQ hw hl
  have hl : lv_has ls 4 [(0, .ref q_p0), (1, .ref q_p1)] := hl
  have hw : wk (dC, dI) vwCl A s.heap [[(q_p0, .inr (7, [.ref q_p0_text, .ref q_p0_jobOfLetter, .ref q_p0_owners, .ref q_p0_namePlaces, .ref q_p0_conditions, .int v_p0_pending, .int v_p0_length, .int v_p0_at, .int v_p0_number]))], [(q_p0_text, .inl (cI, 2000, .inl f_p0_text))], [(q_p0_jobOfLetter, .inl (cI, 26, .inl f_p0_jobOfLetter))], [(q_p0_owners, .inl (cI, 520, .inl f_p0_owners))], [(q_p0_namePlaces, .inl (cI, 520, .inl f_p0_namePlaces))], [(q_p0_conditions, .inl (cI, 520, .inl f_p0_conditions))], [(q_p1, .inr (4, [.ref q_p1_numbers, .ref q_p1_needCounts, .ref q_p1_needed, .ref q_p1_conditions, .ref q_p1_allNeeded, .int v_p1_jobs]))], [(q_p1_needCounts, .inl (cI, 27, .inl f_p1_needCounts))], [(q_p1_needed, .inl (cM, gro 27 d_p1_needed))], gl cI d_p1_needed 27 20 g_p1_needed, [(q_p1_conditions, .inl (cM, gro 27 d_p1_conditions))], gl cI d_p1_conditions 27 20 g_p1_conditions, [(q_p1_allNeeded, .inl (cI, 27, .inl f_p1_allNeeded))]] s.heap [] := hw
  unfold md_Tex_addNeeds at hm
  refine lv_iconst (v := 0) hx hb d_Tex_addNeeds_0 (by decide) ?_
  refine lv_istore_n (lv' := [(2, .int (0 : Int32)), (0, .ref q_p0), (1, .ref q_p1)]) hx hb d_Tex_addNeeds_1 rfl hl (by decide) rfl (fun ls hl => ?_)
  obtain ⟨Fn2, hFn2, hm⟩ := fx5_x hm
  have L2 : ∀ (n : Nat) (x1 : Int32) (f2 : Nat → Int32) (g3 : Nat → Nat → Int32) (g4 : Nat → Nat → Int32) (f5 : Nat → Int32), fx5 Fn2 n x1 f2 g3 g4 f5 = some o → ∀ (H : Heap) (locs : List Loc) (ls : Array Slot), wk (dC, dI) vwCl A s.heap [[(q_p0, .inr (7, [.ref q_p0_text, .ref q_p0_jobOfLetter, .ref q_p0_owners, .ref q_p0_namePlaces, .ref q_p0_conditions, .int v_p0_pending, .int v_p0_length, .int v_p0_at, .int v_p0_number]))], [(q_p0_text, .inl (cI, 2000, .inl f_p0_text))], [(q_p0_jobOfLetter, .inl (cI, 26, .inl f_p0_jobOfLetter))], [(q_p0_owners, .inl (cI, 520, .inl f_p0_owners))], [(q_p0_namePlaces, .inl (cI, 520, .inl f_p0_namePlaces))], [(q_p0_conditions, .inl (cI, 520, .inl f_p0_conditions))], [(q_p1, .inr (4, [.ref q_p1_numbers, .ref q_p1_needCounts, .ref q_p1_needed, .ref q_p1_conditions, .ref q_p1_allNeeded, .int v_p1_jobs]))], [(q_p1_needCounts, .inl (cI, 27, .inl f2))], [(q_p1_needed, .inl (cM, gro 27 d_p1_needed))], gl cI d_p1_needed 27 20 g3, [(q_p1_conditions, .inl (cM, gro 27 d_p1_conditions))], gl cI d_p1_conditions 27 20 g4, [(q_p1_allNeeded, .inl (cI, 27, .inl f5))]] H locs → lv_has ls 4 [(2, .int x1), (0, .ref q_p0), (1, .ref q_p1)] → W p l e rm_Tex_addNeeds s m args below meth c H locs 0 0 Q (F0 m 2 ls []) := by
    intro n
    induction n with
    | zero => intro x1 f2 g3 g4 f5 hm; exact (fx5_0 hm).elim
    | succ n ih2 =>
      intro x1 f2 g3 g4 f5 hm H locs ls hw hl
      have hm := fx5_s hFn2 hm
      unfold md_Tex_addNeeds_F2 at hm
      refine lv_iload_n hx hb d_Tex_addNeeds_2 rfl (lv_at hl 0 rfl) ?_
      refine lv_aload_n hx hb d_Tex_addNeeds_3 rfl (lv_at hl 1 rfl) ?_
      refine sg_get (D := (dC, dI)) (ci := 7) (v := .int v_p0_pending) (C := "JobNets$TextReader") (T := T_7) (N := 9) hx hb hts hin_7 hown hK hw 0 rfl rfl 5 (by decide) (hts _ wd_61) rfl rfl d_Tex_addNeeds_4 ?_
      refine bq_t (lv_icmp_ge (tgt := 69) hx hb d_Tex_addNeeds_7 (by decide)) hm (fun hm => ?_) (fun hm => ?_)
      · refine lv_iconst (v := 1) hx hb d_Tex_addNeeds_69 (by decide) ?_
        exact so_zret (rf := fun z_ => z_.1) (Sf := fun z_ => sc_Tex_addNeeds cI cL cM cZ q_p0 q_p1 q_p0_text q_p0_jobOfLetter q_p0_owners q_p0_namePlaces q_p0_conditions q_p1_numbers q_p1_needCounts q_p1_needed q_p1_conditions q_p1_allNeeded d_p1_needed d_p1_conditions v_p0_pending v_p0_length z_.2.1 v_p0_number f_p0_text f_p0_jobOfLetter f_p0_owners f_p0_namePlaces f_p0_conditions v_p1_jobs z_.2.2.1 z_.2.2.2.1 z_.2.2.2.2.1 z_.2.2.2.2.2) hm hx hb hr rfl hlocks hAe hQ hK hw rfl d_Tex_addNeeds_70
      · refine lv_aload_n hx hb d_Tex_addNeeds_10 rfl (lv_at hl 1 rfl) ?_
        refine sg_get (D := (dC, dI)) (ci := 7) (v := .ref q_p0_jobOfLetter) (C := "JobNets$TextReader") (T := T_7) (N := 9) hx hb hts hin_7 hown hK hw 0 rfl rfl 1 (by decide) (hts _ wd_57) rfl rfl d_Tex_addNeeds_11 ?_
        refine lv_aload_n hx hb d_Tex_addNeeds_14 rfl (lv_at hl 1 rfl) ?_
        refine sg_get (D := (dC, dI)) (ci := 7) (v := .ref q_p0_text) (C := "JobNets$TextReader") (T := T_7) (N := 9) hx hb hts hin_7 hown hK hw 0 rfl rfl 0 (by decide) (hts _ wd_56) rfl rfl d_Tex_addNeeds_15 ?_
        refine lv_aload_n hx hb d_Tex_addNeeds_18 rfl (lv_at hl 1 rfl) ?_
        refine sg_get (D := (dC, dI)) (ci := 7) (v := .ref q_p0_namePlaces) (C := "JobNets$TextReader") (T := T_7) (N := 9) hx hb hts hin_7 hown hK hw 0 rfl rfl 3 (by decide) (hts _ wd_59) rfl rfl d_Tex_addNeeds_19 ?_
        refine lv_iload_n hx hb d_Tex_addNeeds_22 rfl (lv_at hl 0 rfl) ?_
        refine sg_iald hx hb hK hw 4 0 rfl rfl d_Tex_addNeeds_23 hm (fun hm => ?_)
        refine sg_iald hx hb hK hw 1 0 rfl rfl d_Tex_addNeeds_24 hm (fun hm => ?_)
        refine lv_bipush (v := 97) hx hb d_Tex_addNeeds_25 (by decide) ?_
        refine lv_isub hx hb d_Tex_addNeeds_27 ?_
        refine sg_iald hx hb hK hw 2 0 rfl rfl d_Tex_addNeeds_28 hm (fun hm => ?_)
        refine nm_i hm (fun x6 hm => ?_)
        refine lv_istore_n (lv' := [(3, .int x6), (2, .int x1), (0, .ref q_p0), (1, .ref q_p1)]) hx hb d_Tex_addNeeds_29 rfl hl (by decide) rfl (fun ls hl => ?_)
        refine lv_iload_n hx hb d_Tex_addNeeds_30 rfl (lv_at hl 0 rfl) ?_
        refine bq_n (lv_if_ne (tgt := 46) hx hb d_Tex_addNeeds_31 (by decide)) hm (fun hm => ?_) (fun hm => ?_)
        · refine lv_aload_n hx hb d_Tex_addNeeds_46 rfl (lv_at hl 3 rfl) ?_
          refine lv_aload_n hx hb d_Tex_addNeeds_47 rfl (lv_at hl 2 rfl) ?_
          refine sg_get (D := (dC, dI)) (ci := 7) (v := .ref q_p0_owners) (C := "JobNets$TextReader") (T := T_7) (N := 9) hx hb hts hin_7 hown hK hw 0 rfl rfl 2 (by decide) (hts _ wd_58) rfl rfl d_Tex_addNeeds_48 ?_
          refine lv_iload_n hx hb d_Tex_addNeeds_51 rfl (lv_at hl 1 rfl) ?_
          refine sg_iald hx hb hK hw 3 0 rfl rfl d_Tex_addNeeds_52 hm (fun hm => ?_)
          refine lv_iload_n hx hb d_Tex_addNeeds_53 rfl (lv_at hl 0 rfl) ?_
          refine lv_aload_n hx hb d_Tex_addNeeds_54 rfl (lv_at hl 2 rfl) ?_
          refine sg_get (D := (dC, dI)) (ci := 7) (v := .ref q_p0_conditions) (C := "JobNets$TextReader") (T := T_7) (N := 9) hx hb hts hin_7 hown hK hw 0 rfl rfl 4 (by decide) (hts _ wd_60) rfl rfl d_Tex_addNeeds_55 ?_
          refine lv_iload_n hx hb d_Tex_addNeeds_58 rfl (lv_at hl 1 rfl) ?_
          refine sg_iald hx hb hK hw 5 0 rfl rfl d_Tex_addNeeds_59 hm (fun hm => ?_)
          obtain ⟨o7, h7, hm⟩ := zc_x hm
          refine sg_cv0 (Sr := [[(q_p0, .inr (7, [.ref q_p0_text, .ref q_p0_jobOfLetter, .ref q_p0_owners, .ref q_p0_namePlaces, .ref q_p0_conditions, .int v_p0_pending, .int v_p0_length, .int v_p0_at, .int v_p0_number]))], [(q_p0_text, .inl (cI, 2000, .inl f_p0_text))], [(q_p0_jobOfLetter, .inl (cI, 26, .inl f_p0_jobOfLetter))], [(q_p0_owners, .inl (cI, 520, .inl f_p0_owners))], [(q_p0_namePlaces, .inl (cI, 520, .inl f_p0_namePlaces))], [(q_p0_conditions, .inl (cI, 520, .inl f_p0_conditions))]]) (va_runV (As := [.int (f_p0_owners x1.toNatClampNeg), .int x6, .int (f_p0_conditions x1.toNatClampNeg)]) (rest := []) ⟨hx, hb, hml, hown, hts⟩ (ct_Net_addNeed l dC dI cI cL cM cZ q_p1 q_p1_numbers q_p1_needCounts q_p1_needed q_p1_conditions q_p1_allNeeded d_p1_needed d_p1_conditions v_p1_jobs f2 g3 g4 f5 (f_p0_owners x1.toNatClampNeg) x6 (f_p0_conditions x1.toNatClampNeg) N o7 h7 _) (cwV 3 hts (gd_V wd_306 wd_307 wd_308 wd_9 wd_309) rfl rfl rfl (by decide +kernel) ⟨Nat.le_of_ble_eq_true rfl, Nat.le_of_ble_eq_true rfl⟩) (sg_preV (ci := 4) (q0 := 6) hK hNW hw [6, 7, 8, 9, 10, 11, 12] rfl rfl rfl rfl) rfl rfl hl.1 rfl (lv_room (Nat.le_of_ble_eq_true rfl)) d_Tex_addNeeds_60 ⟨Nat.le_of_ble_eq_true rfl, Nat.le_of_ble_eq_true rfl⟩) hw hA [6, 7, 8, 9, 10, 11, 12] [0, 1, 2, 3, 4, 5] rfl rfl rfl (by decide) (fun H locs hw => ?_)
          have hw : wk (dC, dI) vwCl A s.heap [[(q_p0, .inr (7, [.ref q_p0_text, .ref q_p0_jobOfLetter, .ref q_p0_owners, .ref q_p0_namePlaces, .ref q_p0_conditions, .int v_p0_pending, .int v_p0_length, .int v_p0_at, .int v_p0_number]))], [(q_p0_text, .inl (cI, 2000, .inl f_p0_text))], [(q_p0_jobOfLetter, .inl (cI, 26, .inl f_p0_jobOfLetter))], [(q_p0_owners, .inl (cI, 520, .inl f_p0_owners))], [(q_p0_namePlaces, .inl (cI, 520, .inl f_p0_namePlaces))], [(q_p0_conditions, .inl (cI, 520, .inl f_p0_conditions))], [(q_p1, .inr (4, [.ref q_p1_numbers, .ref q_p1_needCounts, .ref q_p1_needed, .ref q_p1_conditions, .ref q_p1_allNeeded, .int v_p1_jobs]))], [(q_p1_needCounts, .inl (cI, 27, .inl o7.1))], [(q_p1_needed, .inl (cM, gro 27 d_p1_needed))], gl cI d_p1_needed 27 20 o7.2.1, [(q_p1_conditions, .inl (cM, gro 27 d_p1_conditions))], gl cI d_p1_conditions 27 20 o7.2.2.1, [(q_p1_allNeeded, .inl (cI, 27, .inl o7.2.2.2))]] H locs := hw
          refine lv_iinc (v := x1 + 1) (lv' := [(2, .int (x1 + 1)), (3, .int x6), (0, .ref q_p0), (1, .ref q_p1)]) hx hb d_Tex_addNeeds_63 hl (k := 1) rfl rfl (by decide) rfl (fun ls hl => ?_)
          refine lv_goto (tgt := 2) hx hb d_Tex_addNeeds_66 (by decide) ?_
          exact ih2 (x1 + 1) o7.1 o7.2.1 o7.2.2.1 o7.2.2.2 hm _ _ _ hw (lv_sub hl [0, 2, 3] rfl)
        · refine lv_aload_n hx hb d_Tex_addNeeds_34 rfl (lv_at hl 2 rfl) ?_
          refine lv_aload_n hx hb d_Tex_addNeeds_35 rfl (lv_at hl 2 rfl) ?_
          refine sg_get (D := (dC, dI)) (ci := 7) (v := .ref q_p0_namePlaces) (C := "JobNets$TextReader") (T := T_7) (N := 9) hx hb hts hin_7 hown hK hw 0 rfl rfl 3 (by decide) (hts _ wd_59) rfl rfl d_Tex_addNeeds_36 ?_
          refine lv_iload_n hx hb d_Tex_addNeeds_39 rfl (lv_at hl 1 rfl) ?_
          refine sg_iald hx hb hK hw 4 0 rfl rfl d_Tex_addNeeds_40 hm (fun hm => ?_)
          refine sg_put (D := (dC, dI)) (ci := 7) (v := .int (f_p0_namePlaces x1.toNatClampNeg)) (ty := .int) (C := "JobNets$TextReader") (T := T_7) (N := 9) (S1 := [[(q_p0, .inr (7, [.ref q_p0_text, .ref q_p0_jobOfLetter, .ref q_p0_owners, .ref q_p0_namePlaces, .ref q_p0_conditions, .int v_p0_pending, .int v_p0_length, .int (f_p0_namePlaces x1.toNatClampNeg), .int v_p0_number]))], [(q_p0_text, .inl (cI, 2000, .inl f_p0_text))], [(q_p0_jobOfLetter, .inl (cI, 26, .inl f_p0_jobOfLetter))], [(q_p0_owners, .inl (cI, 520, .inl f_p0_owners))], [(q_p0_namePlaces, .inl (cI, 520, .inl f_p0_namePlaces))], [(q_p0_conditions, .inl (cI, 520, .inl f_p0_conditions))], [(q_p1, .inr (4, [.ref q_p1_numbers, .ref q_p1_needCounts, .ref q_p1_needed, .ref q_p1_conditions, .ref q_p1_allNeeded, .int v_p1_jobs]))], [(q_p1_needCounts, .inl (cI, 27, .inl f2))], [(q_p1_needed, .inl (cM, gro 27 d_p1_needed))], gl cI d_p1_needed 27 20 g3, [(q_p1_conditions, .inl (cM, gro 27 d_p1_conditions))], gl cI d_p1_conditions 27 20 g4, [(q_p1_allNeeded, .inl (cI, 27, .inl f5))]]) hx hb hts hin_7 ty_7 tok_7 nd_7 hown hK hw 0 rfl rfl 7 (by decide) (hts _ wd_63) rfl rfl (by decide +kernel) rfl rfl (Nat.le_of_ble_eq_true rfl) rfl d_Tex_addNeeds_41 (fun H locs hw => ?_)
          refine lv_iconst (v := 0) hx hb d_Tex_addNeeds_44 (by decide) ?_
          exact so_zret (rf := fun z_ => z_.1) (Sf := fun z_ => sc_Tex_addNeeds cI cL cM cZ q_p0 q_p1 q_p0_text q_p0_jobOfLetter q_p0_owners q_p0_namePlaces q_p0_conditions q_p1_numbers q_p1_needCounts q_p1_needed q_p1_conditions q_p1_allNeeded d_p1_needed d_p1_conditions v_p0_pending v_p0_length z_.2.1 v_p0_number f_p0_text f_p0_jobOfLetter f_p0_owners f_p0_namePlaces f_p0_conditions v_p1_jobs z_.2.2.1 z_.2.2.2.1 z_.2.2.2.2.1 z_.2.2.2.2.2) hm hx hb hr rfl hlocks hAe hQ hK hw rfl d_Tex_addNeeds_45
  exact L2 _ _ _ _ _ _ hm _ _ _ hw hl
theorem d_Tex_isHere_0 : decode prog_8_method_11_code 0 = .ok (.aload_n 0, 1) := by decide +kernel
theorem d_Tex_isHere_1 : decode prog_8_method_11_code 1 = .ok (.getfield 34, 3) := by decide +kernel
theorem d_Tex_isHere_4 : decode prog_8_method_11_code 4 = .ok (.aload_n 0, 1) := by decide +kernel
theorem d_Tex_isHere_5 : decode prog_8_method_11_code 5 = .ok (.getfield 31, 3) := by decide +kernel
theorem d_Tex_isHere_8 : decode prog_8_method_11_code 8 = .ok (.if_icmp .ge 20, 3) := by decide +kernel
theorem d_Tex_isHere_11 : decode prog_8_method_11_code 11 = .ok (.aload_n 0, 1) := by decide +kernel
theorem d_Tex_isHere_12 : decode prog_8_method_11_code 12 = .ok (.getfield 9, 3) := by decide +kernel
theorem d_Tex_isHere_15 : decode prog_8_method_11_code 15 = .ok (.aload_n 0, 1) := by decide +kernel
theorem d_Tex_isHere_16 : decode prog_8_method_11_code 16 = .ok (.getfield 34, 3) := by decide +kernel
theorem d_Tex_isHere_19 : decode prog_8_method_11_code 19 = .ok (.iaload, 1) := by decide +kernel
theorem d_Tex_isHere_20 : decode prog_8_method_11_code 20 = .ok (.iload_n 1, 1) := by decide +kernel
theorem d_Tex_isHere_21 : decode prog_8_method_11_code 21 = .ok (.if_icmp .ne 7, 3) := by decide +kernel
theorem d_Tex_isHere_24 : decode prog_8_method_11_code 24 = .ok (.iconst 1, 1) := by decide +kernel
theorem d_Tex_isHere_25 : decode prog_8_method_11_code 25 = .ok (.goto 4, 3) := by decide +kernel
theorem d_Tex_isHere_28 : decode prog_8_method_11_code 28 = .ok (.iconst 0, 1) := by decide +kernel
theorem d_Tex_isHere_29 : decode prog_8_method_11_code 29 = .ok (.ireturn, 1) := by decide +kernel
def md_Tex_isHere (N : Nat) (v_p0_length : Int32) (v_p0_at : Int32) (f_p0_text : Nat → Int32) (a1_x : Int32) : Option (Int32) :=
  (if v_p0_length ≤ v_p0_at then (some (0 : Int32)) else (if sg_in v_p0_at 2000 = true then (if (f_p0_text v_p0_at.toNatClampNeg) = a1_x then (some (1 : Int32)) else (some (0 : Int32))) else none))
abbrev sc_Tex_isHere (cI cL cM cZ : ClassId) (q_p0 q_p0_text q_p0_jobOfLetter q_p0_owners q_p0_namePlaces q_p0_conditions : Nat) (v_p0_pending : Int32) (v_p0_length : Int32) (v_p0_at : Int32) (v_p0_number : Int32) (f_p0_text : Nat → Int32) : List va_W := [[(q_p0, .inr (7, [.ref q_p0_text, .ref q_p0_jobOfLetter, .ref q_p0_owners, .ref q_p0_namePlaces, .ref q_p0_conditions, .int v_p0_pending, .int v_p0_length, .int v_p0_at, .int v_p0_number]))], [(q_p0_text, .inl (cI, 2000, .inl f_p0_text))]]
abbrev rm_Tex_isHere : Room := { frames := 0, cells := 0, slots := 0, locals := 0 }
set_option maxHeartbeats 4000000 in
set_option maxRecDepth 100000 in
theorem ct_Tex_isHere (l : Launch) (dC : Nat → ClassId) (dI : Nat → Nat → Nat) (cI cL cM cZ : ClassId) (q_p0 q_p0_text q_p0_jobOfLetter q_p0_owners q_p0_namePlaces q_p0_conditions : Nat) (v_p0_pending : Int32) (v_p0_length : Int32) (v_p0_at : Int32) (v_p0_number : Int32) (f_p0_text : Nat → Int32) (a1_x : Int32) (N : Nat) (o : Int32) (hm : md_Tex_isHere N v_p0_length v_p0_at f_p0_text a1_x = some o) : ∀ sz : Nat, Met l y_Tex_isHere ws_Tex_isHere rm_Tex_isHere (cP (dC, dI) vwCl [(cI, .int), (cL, .long), (cM, .array .int), (cZ, .boolean)] [.ref q_p0, .int a1_x] sz (sc_Tex_isHere cI cL cM cZ q_p0 q_p0_text q_p0_jobOfLetter q_p0_owners q_p0_namePlaces q_p0_conditions v_p0_pending v_p0_length v_p0_at v_p0_number f_p0_text)) (cQi (dC, dI) vwCl [(cI, .int), (cL, .long), (cM, .array .int), (cZ, .boolean)] sz (sc_Tex_isHere cI cL cM cZ q_p0 q_p0_text q_p0_jobOfLetter q_p0_owners q_p0_namePlaces q_p0_conditions v_p0_pending v_p0_length v_p0_at v_p0_number f_p0_text) o (sc_Tex_isHere cI cL cM cZ q_p0 q_p0_text q_p0_jobOfLetter q_p0_owners q_p0_namePlaces q_p0_conditions v_p0_pending v_p0_length v_p0_at v_p0_number f_p0_text)) 0 0 (va_A ((sc_Tex_isHere cI cL cM cZ q_p0 q_p0_text q_p0_jobOfLetter q_p0_owners q_p0_namePlaces q_p0_conditions v_p0_pending v_p0_length v_p0_at v_p0_number f_p0_text)).flatten sz) := by
  refine sg_met (fun sz => cQi (dC, dI) vwCl [(cI, .int), (cL, .long), (cM, .array .int), (cZ, .boolean)] sz (sc_Tex_isHere cI cL cM cZ q_p0 q_p0_text q_p0_jobOfLetter q_p0_owners q_p0_namePlaces q_p0_conditions v_p0_pending v_p0_length v_p0_at v_p0_number f_p0_text) o (sc_Tex_isHere cI cL cM cZ q_p0 q_p0_text q_p0_jobOfLetter q_p0_owners q_p0_namePlaces q_p0_conditions v_p0_pending v_p0_length v_p0_at v_p0_number f_p0_text)) (by decide) (Nat.le_of_ble_eq_true rfl) ?_
  intro p e s m args below meth c A Q ls hx hb hr hts hown hlocks hml hname hK hNW hA hAe hQ hw hl
  have hl : lv_has ls 2 [(0, .ref q_p0), (1, .int a1_x)] := hl
  have hw : wk (dC, dI) vwCl A s.heap [[(q_p0, .inr (7, [.ref q_p0_text, .ref q_p0_jobOfLetter, .ref q_p0_owners, .ref q_p0_namePlaces, .ref q_p0_conditions, .int v_p0_pending, .int v_p0_length, .int v_p0_at, .int v_p0_number]))], [(q_p0_text, .inl (cI, 2000, .inl f_p0_text))]] s.heap [] := hw
  unfold md_Tex_isHere at hm
  refine lv_aload_n hx hb d_Tex_isHere_0 rfl (lv_at hl 0 rfl) ?_
  refine sg_get (D := (dC, dI)) (ci := 7) (v := .int v_p0_at) (C := "JobNets$TextReader") (T := T_7) (N := 9) hx hb hts hin_7 hown hK hw 0 rfl rfl 7 (by decide) (hts _ wd_63) rfl rfl d_Tex_isHere_1 ?_
  refine lv_aload_n hx hb d_Tex_isHere_4 rfl (lv_at hl 0 rfl) ?_
  refine sg_get (D := (dC, dI)) (ci := 7) (v := .int v_p0_length) (C := "JobNets$TextReader") (T := T_7) (N := 9) hx hb hts hin_7 hown hK hw 0 rfl rfl 6 (by decide) (hts _ wd_62) rfl rfl d_Tex_isHere_5 ?_
  refine bq_t (lv_icmp_ge (tgt := 28) hx hb d_Tex_isHere_8 (by decide)) hm (fun hm => ?_) (fun hm => ?_)
  · refine lv_iconst (v := 0) hx hb d_Tex_isHere_28 (by decide) ?_
    exact so_zret (rf := fun z_ => z_) (Sf := fun z_ => sc_Tex_isHere cI cL cM cZ q_p0 q_p0_text q_p0_jobOfLetter q_p0_owners q_p0_namePlaces q_p0_conditions v_p0_pending v_p0_length v_p0_at v_p0_number f_p0_text) hm hx hb hr rfl hlocks hAe hQ hK hw rfl d_Tex_isHere_29
  · refine lv_aload_n hx hb d_Tex_isHere_11 rfl (lv_at hl 0 rfl) ?_
    refine sg_get (D := (dC, dI)) (ci := 7) (v := .ref q_p0_text) (C := "JobNets$TextReader") (T := T_7) (N := 9) hx hb hts hin_7 hown hK hw 0 rfl rfl 0 (by decide) (hts _ wd_56) rfl rfl d_Tex_isHere_12 ?_
    refine lv_aload_n hx hb d_Tex_isHere_15 rfl (lv_at hl 0 rfl) ?_
    refine sg_get (D := (dC, dI)) (ci := 7) (v := .int v_p0_at) (C := "JobNets$TextReader") (T := T_7) (N := 9) hx hb hts hin_7 hown hK hw 0 rfl rfl 7 (by decide) (hts _ wd_63) rfl rfl d_Tex_isHere_16 ?_
    refine sg_iald hx hb hK hw 1 0 rfl rfl d_Tex_isHere_19 hm (fun hm => ?_)
    refine lv_iload_n hx hb d_Tex_isHere_20 rfl (lv_at hl 1 rfl) ?_
    refine bq_n (lv_icmp_ne (tgt := 28) hx hb d_Tex_isHere_21 (by decide)) hm (fun hm => ?_) (fun hm => ?_)
    · refine lv_iconst (v := 0) hx hb d_Tex_isHere_28 (by decide) ?_
      exact so_zret (rf := fun z_ => z_) (Sf := fun z_ => sc_Tex_isHere cI cL cM cZ q_p0 q_p0_text q_p0_jobOfLetter q_p0_owners q_p0_namePlaces q_p0_conditions v_p0_pending v_p0_length v_p0_at v_p0_number f_p0_text) hm hx hb hr rfl hlocks hAe hQ hK hw rfl d_Tex_isHere_29
    · refine lv_iconst (v := 1) hx hb d_Tex_isHere_24 (by decide) ?_
      refine lv_goto (tgt := 29) hx hb d_Tex_isHere_25 (by decide) ?_
      exact so_zret (rf := fun z_ => z_) (Sf := fun z_ => sc_Tex_isHere cI cL cM cZ q_p0 q_p0_text q_p0_jobOfLetter q_p0_owners q_p0_namePlaces q_p0_conditions v_p0_pending v_p0_length v_p0_at v_p0_number f_p0_text) hm hx hb hr rfl hlocks hAe hQ hK hw rfl d_Tex_isHere_29
theorem d_Tex_letterHere_0 : decode prog_8_method_12_code 0 = .ok (.aload_n 0, 1) := by decide +kernel
theorem d_Tex_letterHere_1 : decode prog_8_method_12_code 1 = .ok (.getfield 34, 3) := by decide +kernel
theorem d_Tex_letterHere_4 : decode prog_8_method_12_code 4 = .ok (.aload_n 0, 1) := by decide +kernel
theorem d_Tex_letterHere_5 : decode prog_8_method_12_code 5 = .ok (.getfield 31, 3) := by decide +kernel
theorem d_Tex_letterHere_8 : decode prog_8_method_12_code 8 = .ok (.if_icmp .ge 31, 3) := by decide +kernel
theorem d_Tex_letterHere_11 : decode prog_8_method_12_code 11 = .ok (.aload_n 0, 1) := by decide +kernel
theorem d_Tex_letterHere_12 : decode prog_8_method_12_code 12 = .ok (.getfield 9, 3) := by decide +kernel
theorem d_Tex_letterHere_15 : decode prog_8_method_12_code 15 = .ok (.aload_n 0, 1) := by decide +kernel
theorem d_Tex_letterHere_16 : decode prog_8_method_12_code 16 = .ok (.getfield 34, 3) := by decide +kernel
theorem d_Tex_letterHere_19 : decode prog_8_method_12_code 19 = .ok (.iaload, 1) := by decide +kernel
theorem d_Tex_letterHere_20 : decode prog_8_method_12_code 20 = .ok (.bipush 97, 2) := by decide +kernel
theorem d_Tex_letterHere_22 : decode prog_8_method_12_code 22 = .ok (.if_icmp .lt 17, 3) := by decide +kernel
theorem d_Tex_letterHere_25 : decode prog_8_method_12_code 25 = .ok (.aload_n 0, 1) := by decide +kernel
theorem d_Tex_letterHere_26 : decode prog_8_method_12_code 26 = .ok (.getfield 9, 3) := by decide +kernel
theorem d_Tex_letterHere_29 : decode prog_8_method_12_code 29 = .ok (.aload_n 0, 1) := by decide +kernel
theorem d_Tex_letterHere_30 : decode prog_8_method_12_code 30 = .ok (.getfield 34, 3) := by decide +kernel
theorem d_Tex_letterHere_33 : decode prog_8_method_12_code 33 = .ok (.iaload, 1) := by decide +kernel
theorem d_Tex_letterHere_34 : decode prog_8_method_12_code 34 = .ok (.bipush 122, 2) := by decide +kernel
theorem d_Tex_letterHere_36 : decode prog_8_method_12_code 36 = .ok (.if_icmp .le 5, 3) := by decide +kernel
theorem d_Tex_letterHere_39 : decode prog_8_method_12_code 39 = .ok (.iconst (-1), 1) := by decide +kernel
theorem d_Tex_letterHere_40 : decode prog_8_method_12_code 40 = .ok (.ireturn, 1) := by decide +kernel
theorem d_Tex_letterHere_41 : decode prog_8_method_12_code 41 = .ok (.aload_n 0, 1) := by decide +kernel
theorem d_Tex_letterHere_42 : decode prog_8_method_12_code 42 = .ok (.getfield 9, 3) := by decide +kernel
theorem d_Tex_letterHere_45 : decode prog_8_method_12_code 45 = .ok (.aload_n 0, 1) := by decide +kernel
theorem d_Tex_letterHere_46 : decode prog_8_method_12_code 46 = .ok (.getfield 34, 3) := by decide +kernel
theorem d_Tex_letterHere_49 : decode prog_8_method_12_code 49 = .ok (.iaload, 1) := by decide +kernel
theorem d_Tex_letterHere_50 : decode prog_8_method_12_code 50 = .ok (.bipush 97, 2) := by decide +kernel
theorem d_Tex_letterHere_52 : decode prog_8_method_12_code 52 = .ok (.isub, 1) := by decide +kernel
theorem d_Tex_letterHere_53 : decode prog_8_method_12_code 53 = .ok (.ireturn, 1) := by decide +kernel
def md_Tex_letterHere (N : Nat) (v_p0_length : Int32) (v_p0_at : Int32) (f_p0_text : Nat → Int32) : Option (Int32) :=
  (if v_p0_length ≤ v_p0_at then (some (-1 : Int32)) else (if sg_in v_p0_at 2000 = true then (if (f_p0_text v_p0_at.toNatClampNeg) < (97 : Int32) then (some (-1 : Int32)) else (if sg_in v_p0_at 2000 = true then (if (f_p0_text v_p0_at.toNatClampNeg) ≤ (122 : Int32) then (if sg_in v_p0_at 2000 = true then (some ((f_p0_text v_p0_at.toNatClampNeg) - (97 : Int32))) else none) else (some (-1 : Int32))) else none)) else none))
abbrev sc_Tex_letterHere (cI cL cM cZ : ClassId) (q_p0 q_p0_text q_p0_jobOfLetter q_p0_owners q_p0_namePlaces q_p0_conditions : Nat) (v_p0_pending : Int32) (v_p0_length : Int32) (v_p0_at : Int32) (v_p0_number : Int32) (f_p0_text : Nat → Int32) : List va_W := [[(q_p0, .inr (7, [.ref q_p0_text, .ref q_p0_jobOfLetter, .ref q_p0_owners, .ref q_p0_namePlaces, .ref q_p0_conditions, .int v_p0_pending, .int v_p0_length, .int v_p0_at, .int v_p0_number]))], [(q_p0_text, .inl (cI, 2000, .inl f_p0_text))]]
abbrev rm_Tex_letterHere : Room := { frames := 0, cells := 0, slots := 0, locals := 0 }
set_option maxHeartbeats 4000000 in
set_option maxRecDepth 100000 in
theorem ct_Tex_letterHere (l : Launch) (dC : Nat → ClassId) (dI : Nat → Nat → Nat) (cI cL cM cZ : ClassId) (q_p0 q_p0_text q_p0_jobOfLetter q_p0_owners q_p0_namePlaces q_p0_conditions : Nat) (v_p0_pending : Int32) (v_p0_length : Int32) (v_p0_at : Int32) (v_p0_number : Int32) (f_p0_text : Nat → Int32) (N : Nat) (o : Int32) (hm : md_Tex_letterHere N v_p0_length v_p0_at f_p0_text = some o) : ∀ sz : Nat, Met l y_Tex_letterHere ws_Tex_letterHere rm_Tex_letterHere (cP (dC, dI) vwCl [(cI, .int), (cL, .long), (cM, .array .int), (cZ, .boolean)] [.ref q_p0] sz (sc_Tex_letterHere cI cL cM cZ q_p0 q_p0_text q_p0_jobOfLetter q_p0_owners q_p0_namePlaces q_p0_conditions v_p0_pending v_p0_length v_p0_at v_p0_number f_p0_text)) (cQi (dC, dI) vwCl [(cI, .int), (cL, .long), (cM, .array .int), (cZ, .boolean)] sz (sc_Tex_letterHere cI cL cM cZ q_p0 q_p0_text q_p0_jobOfLetter q_p0_owners q_p0_namePlaces q_p0_conditions v_p0_pending v_p0_length v_p0_at v_p0_number f_p0_text) o (sc_Tex_letterHere cI cL cM cZ q_p0 q_p0_text q_p0_jobOfLetter q_p0_owners q_p0_namePlaces q_p0_conditions v_p0_pending v_p0_length v_p0_at v_p0_number f_p0_text)) 0 0 (va_A ((sc_Tex_letterHere cI cL cM cZ q_p0 q_p0_text q_p0_jobOfLetter q_p0_owners q_p0_namePlaces q_p0_conditions v_p0_pending v_p0_length v_p0_at v_p0_number f_p0_text)).flatten sz) := by
  refine sg_met (fun sz => cQi (dC, dI) vwCl [(cI, .int), (cL, .long), (cM, .array .int), (cZ, .boolean)] sz (sc_Tex_letterHere cI cL cM cZ q_p0 q_p0_text q_p0_jobOfLetter q_p0_owners q_p0_namePlaces q_p0_conditions v_p0_pending v_p0_length v_p0_at v_p0_number f_p0_text) o (sc_Tex_letterHere cI cL cM cZ q_p0 q_p0_text q_p0_jobOfLetter q_p0_owners q_p0_namePlaces q_p0_conditions v_p0_pending v_p0_length v_p0_at v_p0_number f_p0_text)) (by decide) (Nat.le_of_ble_eq_true rfl) ?_
  intro p e s m args below meth c A Q ls hx hb hr hts hown hlocks hml hname hK hNW hA hAe hQ hw hl
  have hl : lv_has ls 1 [(0, .ref q_p0)] := hl
  have hw : wk (dC, dI) vwCl A s.heap [[(q_p0, .inr (7, [.ref q_p0_text, .ref q_p0_jobOfLetter, .ref q_p0_owners, .ref q_p0_namePlaces, .ref q_p0_conditions, .int v_p0_pending, .int v_p0_length, .int v_p0_at, .int v_p0_number]))], [(q_p0_text, .inl (cI, 2000, .inl f_p0_text))]] s.heap [] := hw
  unfold md_Tex_letterHere at hm
  refine lv_aload_n hx hb d_Tex_letterHere_0 rfl (lv_at hl 0 rfl) ?_
  refine sg_get (D := (dC, dI)) (ci := 7) (v := .int v_p0_at) (C := "JobNets$TextReader") (T := T_7) (N := 9) hx hb hts hin_7 hown hK hw 0 rfl rfl 7 (by decide) (hts _ wd_63) rfl rfl d_Tex_letterHere_1 ?_
  refine lv_aload_n hx hb d_Tex_letterHere_4 rfl (lv_at hl 0 rfl) ?_
  refine sg_get (D := (dC, dI)) (ci := 7) (v := .int v_p0_length) (C := "JobNets$TextReader") (T := T_7) (N := 9) hx hb hts hin_7 hown hK hw 0 rfl rfl 6 (by decide) (hts _ wd_62) rfl rfl d_Tex_letterHere_5 ?_
  refine bq_t (lv_icmp_ge (tgt := 39) hx hb d_Tex_letterHere_8 (by decide)) hm (fun hm => ?_) (fun hm => ?_)
  · refine lv_iconst (v := -1) hx hb d_Tex_letterHere_39 (by decide) ?_
    exact so_iret (rf := fun z_ => z_) (Sf := fun z_ => sc_Tex_letterHere cI cL cM cZ q_p0 q_p0_text q_p0_jobOfLetter q_p0_owners q_p0_namePlaces q_p0_conditions v_p0_pending v_p0_length v_p0_at v_p0_number f_p0_text) hm hx hb hr hlocks hAe hQ hK hw rfl d_Tex_letterHere_40
  · refine lv_aload_n hx hb d_Tex_letterHere_11 rfl (lv_at hl 0 rfl) ?_
    refine sg_get (D := (dC, dI)) (ci := 7) (v := .ref q_p0_text) (C := "JobNets$TextReader") (T := T_7) (N := 9) hx hb hts hin_7 hown hK hw 0 rfl rfl 0 (by decide) (hts _ wd_56) rfl rfl d_Tex_letterHere_12 ?_
    refine lv_aload_n hx hb d_Tex_letterHere_15 rfl (lv_at hl 0 rfl) ?_
    refine sg_get (D := (dC, dI)) (ci := 7) (v := .int v_p0_at) (C := "JobNets$TextReader") (T := T_7) (N := 9) hx hb hts hin_7 hown hK hw 0 rfl rfl 7 (by decide) (hts _ wd_63) rfl rfl d_Tex_letterHere_16 ?_
    refine sg_iald hx hb hK hw 1 0 rfl rfl d_Tex_letterHere_19 hm (fun hm => ?_)
    refine lv_bipush (v := 97) hx hb d_Tex_letterHere_20 (by decide) ?_
    refine bq_t (lv_icmp_lt (tgt := 39) hx hb d_Tex_letterHere_22 (by decide)) hm (fun hm => ?_) (fun hm => ?_)
    · refine lv_iconst (v := -1) hx hb d_Tex_letterHere_39 (by decide) ?_
      exact so_iret (rf := fun z_ => z_) (Sf := fun z_ => sc_Tex_letterHere cI cL cM cZ q_p0 q_p0_text q_p0_jobOfLetter q_p0_owners q_p0_namePlaces q_p0_conditions v_p0_pending v_p0_length v_p0_at v_p0_number f_p0_text) hm hx hb hr hlocks hAe hQ hK hw rfl d_Tex_letterHere_40
    · refine lv_aload_n hx hb d_Tex_letterHere_25 rfl (lv_at hl 0 rfl) ?_
      refine sg_get (D := (dC, dI)) (ci := 7) (v := .ref q_p0_text) (C := "JobNets$TextReader") (T := T_7) (N := 9) hx hb hts hin_7 hown hK hw 0 rfl rfl 0 (by decide) (hts _ wd_56) rfl rfl d_Tex_letterHere_26 ?_
      refine lv_aload_n hx hb d_Tex_letterHere_29 rfl (lv_at hl 0 rfl) ?_
      refine sg_get (D := (dC, dI)) (ci := 7) (v := .int v_p0_at) (C := "JobNets$TextReader") (T := T_7) (N := 9) hx hb hts hin_7 hown hK hw 0 rfl rfl 7 (by decide) (hts _ wd_63) rfl rfl d_Tex_letterHere_30 ?_
      refine sg_iald hx hb hK hw 1 0 rfl rfl d_Tex_letterHere_33 hm (fun hm => ?_)
      refine lv_bipush (v := 122) hx hb d_Tex_letterHere_34 (by decide) ?_
      refine bq_t (lv_icmp_le (tgt := 41) hx hb d_Tex_letterHere_36 (by decide)) hm (fun hm => ?_) (fun hm => ?_)
      · refine lv_aload_n hx hb d_Tex_letterHere_41 rfl (lv_at hl 0 rfl) ?_
        refine sg_get (D := (dC, dI)) (ci := 7) (v := .ref q_p0_text) (C := "JobNets$TextReader") (T := T_7) (N := 9) hx hb hts hin_7 hown hK hw 0 rfl rfl 0 (by decide) (hts _ wd_56) rfl rfl d_Tex_letterHere_42 ?_
        refine lv_aload_n hx hb d_Tex_letterHere_45 rfl (lv_at hl 0 rfl) ?_
        refine sg_get (D := (dC, dI)) (ci := 7) (v := .int v_p0_at) (C := "JobNets$TextReader") (T := T_7) (N := 9) hx hb hts hin_7 hown hK hw 0 rfl rfl 7 (by decide) (hts _ wd_63) rfl rfl d_Tex_letterHere_46 ?_
        refine sg_iald hx hb hK hw 1 0 rfl rfl d_Tex_letterHere_49 hm (fun hm => ?_)
        refine lv_bipush (v := 97) hx hb d_Tex_letterHere_50 (by decide) ?_
        refine lv_isub hx hb d_Tex_letterHere_52 ?_
        exact so_iret (rf := fun z_ => z_) (Sf := fun z_ => sc_Tex_letterHere cI cL cM cZ q_p0 q_p0_text q_p0_jobOfLetter q_p0_owners q_p0_namePlaces q_p0_conditions v_p0_pending v_p0_length v_p0_at v_p0_number f_p0_text) hm hx hb hr hlocks hAe hQ hK hw rfl d_Tex_letterHere_53
      · refine lv_iconst (v := -1) hx hb d_Tex_letterHere_39 (by decide) ?_
        exact so_iret (rf := fun z_ => z_) (Sf := fun z_ => sc_Tex_letterHere cI cL cM cZ q_p0 q_p0_text q_p0_jobOfLetter q_p0_owners q_p0_namePlaces q_p0_conditions v_p0_pending v_p0_length v_p0_at v_p0_number f_p0_text) hm hx hb hr hlocks hAe hQ hK hw rfl d_Tex_letterHere_40
