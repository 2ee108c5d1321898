theorem d_Net_has_0 : decode prog_5_method_3_code 0 = .ok (.iload_n 1, 1) := by decide +kernel
theorem d_Net_has_1 : decode prog_5_method_3_code 1 = .ok (.iconst 1, 1) := by decide +kernel
theorem d_Net_has_2 : decode prog_5_method_3_code 2 = .ok (.if_icmp .lt 15, 3) := by decide +kernel
theorem d_Net_has_5 : decode prog_5_method_3_code 5 = .ok (.iload_n 1, 1) := by decide +kernel
theorem d_Net_has_6 : decode prog_5_method_3_code 6 = .ok (.aload_n 0, 1) := by decide +kernel
theorem d_Net_has_7 : decode prog_5_method_3_code 7 = .ok (.getfield 29, 3) := by decide +kernel
theorem d_Net_has_10 : decode prog_5_method_3_code 10 = .ok (.if_icmp .gt 7, 3) := by decide +kernel
theorem d_Net_has_13 : decode prog_5_method_3_code 13 = .ok (.iconst 1, 1) := by decide +kernel
theorem d_Net_has_14 : decode prog_5_method_3_code 14 = .ok (.goto 4, 3) := by decide +kernel
theorem d_Net_has_17 : decode prog_5_method_3_code 17 = .ok (.iconst 0, 1) := by decide +kernel
theorem d_Net_has_18 : decode prog_5_method_3_code 18 = .ok (.ireturn, 1) := by decide +kernel
def md_Net_has (N : Nat) (v_p0_jobs : Int32) (a1_x : Int32) : Option (Int32) :=
  (if a1_x < (1 : Int32) then (some (0 : Int32)) else (if v_p0_jobs < a1_x then (some (0 : Int32)) else (some (1 : Int32))))
abbrev sc_Net_has (cI cL cM cZ : ClassId) (q_p0 q_p0_numbers q_p0_needCounts q_p0_needed q_p0_conditions q_p0_allNeeded : Nat) (v_p0_jobs : Int32) : List va_W := [[(q_p0, .inr (4, [.ref q_p0_numbers, .ref q_p0_needCounts, .ref q_p0_needed, .ref q_p0_conditions, .ref q_p0_allNeeded, .int v_p0_jobs]))]]
abbrev rm_Net_has : Room := { frames := 0, cells := 0, slots := 0, locals := 0 }
set_option maxHeartbeats 4000000 in
set_option maxRecDepth 100000 in
theorem ct_Net_has (l : Launch) (dC : Nat → ClassId) (dI : Nat → Nat → Nat) (cI cL cM cZ : ClassId) (q_p0 q_p0_numbers q_p0_needCounts q_p0_needed q_p0_conditions q_p0_allNeeded : Nat) (v_p0_jobs : Int32) (a1_x : Int32) (N : Nat) (o : Int32) (hm : md_Net_has N v_p0_jobs a1_x = some o) : ∀ sz : Nat, Met l y_Net_has ws_Net_has rm_Net_has (cP (dC, dI) vwCl [(cI, .int), (cL, .long), (cM, .array .int), (cZ, .boolean)] [.ref q_p0, .int a1_x] sz (sc_Net_has cI cL cM cZ q_p0 q_p0_numbers q_p0_needCounts q_p0_needed q_p0_conditions q_p0_allNeeded v_p0_jobs)) (cQi (dC, dI) vwCl [(cI, .int), (cL, .long), (cM, .array .int), (cZ, .boolean)] sz (sc_Net_has cI cL cM cZ q_p0 q_p0_numbers q_p0_needCounts q_p0_needed q_p0_conditions q_p0_allNeeded v_p0_jobs) o (sc_Net_has cI cL cM cZ q_p0 q_p0_numbers q_p0_needCounts q_p0_needed q_p0_conditions q_p0_allNeeded v_p0_jobs)) 0 0 (va_A ((sc_Net_has cI cL cM cZ q_p0 q_p0_numbers q_p0_needCounts q_p0_needed q_p0_conditions q_p0_allNeeded v_p0_jobs)).flatten sz) := by
  refine sg_met (fun sz => cQi (dC, dI) vwCl [(cI, .int), (cL, .long), (cM, .array .int), (cZ, .boolean)] sz (sc_Net_has cI cL cM cZ q_p0 q_p0_numbers q_p0_needCounts q_p0_needed q_p0_conditions q_p0_allNeeded v_p0_jobs) o (sc_Net_has cI cL cM cZ q_p0 q_p0_numbers q_p0_needCounts q_p0_needed q_p0_conditions q_p0_allNeeded v_p0_jobs)) (by decide) (Nat.le_of_ble_eq_true rfl) ?_
  intro p e s m args below meth c A Q ls hx hb hr hts hown hlocks hml hname hK hNW hA hAe hQ hw hl
  have hl : lv_has ls 2 [(0, .ref q_p0), (1, .int a1_x)] := hl
  have hw : wk (dC, dI) vwCl A s.heap [[(q_p0, .inr (4, [.ref q_p0_numbers, .ref q_p0_needCounts, .ref q_p0_needed, .ref q_p0_conditions, .ref q_p0_allNeeded, .int v_p0_jobs]))]] s.heap [] := hw
  unfold md_Net_has at hm
  refine lv_iload_n hx hb d_Net_has_0 rfl (lv_at hl 1 rfl) ?_
  refine lv_iconst (v := 1) hx hb d_Net_has_1 (by decide) ?_
  refine bq_t (lv_icmp_lt (tgt := 17) hx hb d_Net_has_2 (by decide)) hm (fun hm => ?_) (fun hm => ?_)
  · refine lv_iconst (v := 0) hx hb d_Net_has_17 (by decide) ?_
    exact so_zret (rf := fun z_ => z_) (Sf := fun z_ => sc_Net_has cI cL cM cZ q_p0 q_p0_numbers q_p0_needCounts q_p0_needed q_p0_conditions q_p0_allNeeded v_p0_jobs) hm hx hb hr rfl hlocks hAe hQ hK hw rfl d_Net_has_18
  · refine lv_iload_n hx hb d_Net_has_5 rfl (lv_at hl 1 rfl) ?_
    refine lv_aload_n hx hb d_Net_has_6 rfl (lv_at hl 0 rfl) ?_
    refine sg_get (D := (dC, dI)) (ci := 4) (v := .int v_p0_jobs) (C := "JobNets$Net") (T := T_4) (N := 6) hx hb hts hin_4 hown hK hw 0 rfl rfl 5 (by decide) (hts _ wd_203) rfl rfl d_Net_has_7 ?_
    refine bq_t (lv_icmp_gt (tgt := 17) hx hb d_Net_has_10 (by decide)) hm (fun hm => ?_) (fun hm => ?_)
    · refine lv_iconst (v := 0) hx hb d_Net_has_17 (by decide) ?_
      exact so_zret (rf := fun z_ => z_) (Sf := fun z_ => sc_Net_has cI cL cM cZ q_p0 q_p0_numbers q_p0_needCounts q_p0_needed q_p0_conditions q_p0_allNeeded v_p0_jobs) hm hx hb hr rfl hlocks hAe hQ hK hw rfl d_Net_has_18
    · refine lv_iconst (v := 1) hx hb d_Net_has_13 (by decide) ?_
      refine lv_goto (tgt := 18) hx hb d_Net_has_14 (by decide) ?_
      exact so_zret (rf := fun z_ => z_) (Sf := fun z_ => sc_Net_has cI cL cM cZ q_p0 q_p0_numbers q_p0_needCounts q_p0_needed q_p0_conditions q_p0_allNeeded v_p0_jobs) hm hx hb hr rfl hlocks hAe hQ hK hw rfl d_Net_has_18
theorem d_Net_needsAtAnyDepth_0 : decode prog_5_method_4_code 0 = .ok (.aload_n 0, 1) := by decide +kernel
theorem d_Net_needsAtAnyDepth_1 : decode prog_5_method_4_code 1 = .ok (.getfield 26, 3) := by decide +kernel
theorem d_Net_needsAtAnyDepth_4 : decode prog_5_method_4_code 4 = .ok (.iload_n 1, 1) := by decide +kernel
theorem d_Net_needsAtAnyDepth_5 : decode prog_5_method_4_code 5 = .ok (.iaload, 1) := by decide +kernel
theorem d_Net_needsAtAnyDepth_6 : decode prog_5_method_4_code 6 = .ok (.iload_n 2, 1) := by decide +kernel
theorem d_Net_needsAtAnyDepth_7 : decode prog_5_method_4_code 7 = .ok (.ishr, 1) := by decide +kernel
theorem d_Net_needsAtAnyDepth_8 : decode prog_5_method_4_code 8 = .ok (.iconst 1, 1) := by decide +kernel
theorem d_Net_needsAtAnyDepth_9 : decode prog_5_method_4_code 9 = .ok (.iand, 1) := by decide +kernel
theorem d_Net_needsAtAnyDepth_10 : decode prog_5_method_4_code 10 = .ok (.ifCond .eq 7, 3) := by decide +kernel
theorem d_Net_needsAtAnyDepth_13 : decode prog_5_method_4_code 13 = .ok (.iconst 1, 1) := by decide +kernel
theorem d_Net_needsAtAnyDepth_14 : decode prog_5_method_4_code 14 = .ok (.goto 4, 3) := by decide +kernel
theorem d_Net_needsAtAnyDepth_17 : decode prog_5_method_4_code 17 = .ok (.iconst 0, 1) := by decide +kernel
theorem d_Net_needsAtAnyDepth_18 : decode prog_5_method_4_code 18 = .ok (.ireturn, 1) := by decide +kernel
def md_Net_needsAtAnyDepth (N : Nat) (f_p0_allNeeded : Nat → Int32) (a1_x : Int32) (a2_x : Int32) : Option (Int32) :=
  (if sg_in a1_x 27 = true then (if (((f_p0_allNeeded a1_x.toNatClampNeg) >>> (a2_x &&& 31)) &&& (1 : Int32)) = 0 then (some (0 : Int32)) else (some (1 : Int32))) else none)
abbrev sc_Net_needsAtAnyDepth (cI cL cM cZ : ClassId) (q_p0 q_p0_numbers q_p0_needCounts q_p0_needed q_p0_conditions q_p0_allNeeded : Nat) (v_p0_jobs : Int32) (f_p0_allNeeded : Nat → Int32) : List va_W := [[(q_p0, .inr (4, [.ref q_p0_numbers, .ref q_p0_needCounts, .ref q_p0_needed, .ref q_p0_conditions, .ref q_p0_allNeeded, .int v_p0_jobs]))], [(q_p0_allNeeded, .inl (cI, 27, .inl f_p0_allNeeded))]]
abbrev rm_Net_needsAtAnyDepth : Room := { frames := 0, cells := 0, slots := 0, locals := 0 }
set_option maxHeartbeats 4000000 in
set_option maxRecDepth 100000 in
theorem ct_Net_needsAtAnyDepth (l : Launch) (dC : Nat → ClassId) (dI : Nat → Nat → Nat) (cI cL cM cZ : ClassId) (q_p0 q_p0_numbers q_p0_needCounts q_p0_needed q_p0_conditions q_p0_allNeeded : Nat) (v_p0_jobs : Int32) (f_p0_allNeeded : Nat → Int32) (a1_x : Int32) (a2_x : Int32) (N : Nat) (o : Int32) (hm : md_Net_needsAtAnyDepth N f_p0_allNeeded a1_x a2_x = some o) : ∀ sz : Nat, Met l y_Net_needsAtAnyDepth ws_Net_needsAtAnyDepth rm_Net_needsAtAnyDepth (cP (dC, dI) vwCl [(cI, .int), (cL, .long), (cM, .array .int), (cZ, .boolean)] [.ref q_p0, .int a1_x, .int a2_x] sz (sc_Net_needsAtAnyDepth cI cL cM cZ q_p0 q_p0_numbers q_p0_needCounts q_p0_needed q_p0_conditions q_p0_allNeeded v_p0_jobs f_p0_allNeeded)) (cQi (dC, dI) vwCl [(cI, .int), (cL, .long), (cM, .array .int), (cZ, .boolean)] sz (sc_Net_needsAtAnyDepth cI cL cM cZ q_p0 q_p0_numbers q_p0_needCounts q_p0_needed q_p0_conditions q_p0_allNeeded v_p0_jobs f_p0_allNeeded) o (sc_Net_needsAtAnyDepth cI cL cM cZ q_p0 q_p0_numbers q_p0_needCounts q_p0_needed q_p0_conditions q_p0_allNeeded v_p0_jobs f_p0_allNeeded)) 0 0 (va_A ((sc_Net_needsAtAnyDepth cI cL cM cZ q_p0 q_p0_numbers q_p0_needCounts q_p0_needed q_p0_conditions q_p0_allNeeded v_p0_jobs f_p0_allNeeded)).flatten sz) := by
  refine sg_met (fun sz => cQi (dC, dI) vwCl [(cI, .int), (cL, .long), (cM, .array .int), (cZ, .boolean)] sz (sc_Net_needsAtAnyDepth cI cL cM cZ q_p0 q_p0_numbers q_p0_needCounts q_p0_needed q_p0_conditions q_p0_allNeeded v_p0_jobs f_p0_allNeeded) o (sc_Net_needsAtAnyDepth cI cL cM cZ q_p0 q_p0_numbers q_p0_needCounts q_p0_needed q_p0_conditions q_p0_allNeeded v_p0_jobs f_p0_allNeeded)) (by decide) (Nat.le_of_ble_eq_true rfl) ?_
  intro p e s m args below meth c A Q ls hx hb hr hts hown hlocks hml hname hK hNW hA hAe hQ hw hl
  have hl : lv_has ls 3 [(0, .ref q_p0), (1, .int a1_x), (2, .int a2_x)] := hl
  have hw : wk (dC, dI) vwCl A s.heap [[(q_p0, .inr (4, [.ref q_p0_numbers, .ref q_p0_needCounts, .ref q_p0_needed, .ref q_p0_conditions, .ref q_p0_allNeeded, .int v_p0_jobs]))], [(q_p0_allNeeded, .inl (cI, 27, .inl f_p0_allNeeded))]] s.heap [] := hw
  unfold md_Net_needsAtAnyDepth at hm
  refine lv_aload_n hx hb d_Net_needsAtAnyDepth_0 rfl (lv_at hl 0 rfl) ?_
  refine sg_get (D := (dC, dI)) (ci := 4) (v := .ref q_p0_allNeeded) (C := "JobNets$Net") (T := T_4) (N := 6) hx hb hts hin_4 hown hK hw 0 rfl rfl 4 (by decide) (hts _ wd_201) rfl rfl d_Net_needsAtAnyDepth_1 ?_
  refine lv_iload_n hx hb d_Net_needsAtAnyDepth_4 rfl (lv_at hl 1 rfl) ?_
  refine sg_iald hx hb hK hw 1 0 rfl rfl d_Net_needsAtAnyDepth_5 hm (fun hm => ?_)
  refine lv_iload_n hx hb d_Net_needsAtAnyDepth_6 rfl (lv_at hl 2 rfl) ?_
  refine lv_ishr hx hb d_Net_needsAtAnyDepth_7 ?_
  refine lv_iconst (v := 1) hx hb d_Net_needsAtAnyDepth_8 (by decide) ?_
  refine lv_iand hx hb d_Net_needsAtAnyDepth_9 ?_
  refine bq_t (lv_if_eq (tgt := 17) hx hb d_Net_needsAtAnyDepth_10 (by decide)) hm (fun hm => ?_) (fun hm => ?_)
  · refine lv_iconst (v := 0) hx hb d_Net_needsAtAnyDepth_17 (by decide) ?_
    exact so_zret (rf := fun z_ => z_) (Sf := fun z_ => sc_Net_needsAtAnyDepth cI cL cM cZ q_p0 q_p0_numbers q_p0_needCounts q_p0_needed q_p0_conditions q_p0_allNeeded v_p0_jobs f_p0_allNeeded) hm hx hb hr rfl hlocks hAe hQ hK hw rfl d_Net_needsAtAnyDepth_18
  · refine lv_iconst (v := 1) hx hb d_Net_needsAtAnyDepth_13 (by decide) ?_
    refine lv_goto (tgt := 18) hx hb d_Net_needsAtAnyDepth_14 (by decide) ?_
    exact so_zret (rf := fun z_ => z_) (Sf := fun z_ => sc_Net_needsAtAnyDepth cI cL cM cZ q_p0 q_p0_numbers q_p0_needCounts q_p0_needed q_p0_conditions q_p0_allNeeded v_p0_jobs f_p0_allNeeded) hm hx hb hr rfl hlocks hAe hQ hK hw rfl d_Net_needsAtAnyDepth_18
theorem d_Net_closesRing_0 : decode prog_5_method_5_code 0 = .ok (.iload_n 1, 1) := by decide +kernel
theorem d_Net_closesRing_1 : decode prog_5_method_5_code 1 = .ok (.iload_n 2, 1) := by decide +kernel
theorem d_Net_closesRing_2 : decode prog_5_method_5_code 2 = .ok (.if_icmp .eq 12, 3) := by decide +kernel
theorem d_Net_closesRing_5 : decode prog_5_method_5_code 5 = .ok (.aload_n 0, 1) := by decide +kernel
theorem d_Net_closesRing_6 : decode prog_5_method_5_code 6 = .ok (.iload_n 2, 1) := by decide +kernel
theorem d_Net_closesRing_7 : decode prog_5_method_5_code 7 = .ok (.iload_n 1, 1) := by decide +kernel
theorem d_Net_closesRing_8 : decode prog_5_method_5_code 8 = .ok (.invokevirtual 39, 3) := by decide +kernel
theorem d_Net_closesRing_11 : decode prog_5_method_5_code 11 = .ok (.ifCond .eq 7, 3) := by decide +kernel
theorem d_Net_closesRing_14 : decode prog_5_method_5_code 14 = .ok (.iconst 1, 1) := by decide +kernel
theorem d_Net_closesRing_15 : decode prog_5_method_5_code 15 = .ok (.goto 4, 3) := by decide +kernel
theorem d_Net_closesRing_18 : decode prog_5_method_5_code 18 = .ok (.iconst 0, 1) := by decide +kernel
theorem d_Net_closesRing_19 : decode prog_5_method_5_code 19 = .ok (.ireturn, 1) := by decide +kernel
def md_Net_closesRing (N : Nat) (f_p0_allNeeded : Nat → Int32) (a1_x : Int32) (a2_x : Int32) : Option (Int32) :=
  (if a1_x = a2_x then (some (1 : Int32)) else (zc (md_Net_needsAtAnyDepth N f_p0_allNeeded a2_x a1_x) (fun o1 => (if o1 = 0 then (some (0 : Int32)) else (some (1 : Int32))))))
abbrev sc_Net_closesRing (cI cL cM cZ : ClassId) (q_p0 q_p0_numbers q_p0_needCounts q_p0_needed q_p0_conditions q_p0_allNeeded : Nat) (v_p0_jobs : Int32) (f_p0_allNeeded : Nat → Int32) : List va_W := [[(q_p0, .inr (4, [.ref q_p0_numbers, .ref q_p0_needCounts, .ref q_p0_needed, .ref q_p0_conditions, .ref q_p0_allNeeded, .int v_p0_jobs]))], [(q_p0_allNeeded, .inl (cI, 27, .inl f_p0_allNeeded))]]
abbrev rm_Net_closesRing : Room := { frames := 1, cells := 0, slots := 0, locals := 22 }
set_option maxHeartbeats 4000000 in
set_option maxRecDepth 100000 in
theorem ct_Net_closesRing (l : Launch) (dC : Nat → ClassId) (dI : Nat → Nat → Nat) (cI cL cM cZ : ClassId) (q_p0 q_p0_numbers q_p0_needCounts q_p0_needed q_p0_conditions q_p0_allNeeded : Nat) (v_p0_jobs : Int32) (f_p0_allNeeded : Nat → Int32) (a1_x : Int32) (a2_x : Int32) (N : Nat) (o : Int32) (hm : md_Net_closesRing N f_p0_allNeeded a1_x a2_x = some o) : ∀ sz : Nat, Met l y_Net_closesRing ws_Net_closesRing rm_Net_closesRing (cP (dC, dI) vwCl [(cI, .int), (cL, .long), (cM, .array .int), (cZ, .boolean)] [.ref q_p0, .int a1_x, .int a2_x] sz (sc_Net_closesRing cI cL cM cZ q_p0 q_p0_numbers q_p0_needCounts q_p0_needed q_p0_conditions q_p0_allNeeded v_p0_jobs f_p0_allNeeded)) (cQi (dC, dI) vwCl [(cI, .int), (cL, .long), (cM, .array .int), (cZ, .boolean)] sz (sc_Net_closesRing cI cL cM cZ q_p0 q_p0_numbers q_p0_needCounts q_p0_needed q_p0_conditions q_p0_allNeeded v_p0_jobs f_p0_allNeeded) o (sc_Net_closesRing cI cL cM cZ q_p0 q_p0_numbers q_p0_needCounts q_p0_needed q_p0_conditions q_p0_allNeeded v_p0_jobs f_p0_allNeeded)) 0 0 (va_A ((sc_Net_closesRing cI cL cM cZ q_p0 q_p0_numbers q_p0_needCounts q_p0_needed q_p0_conditions q_p0_allNeeded v_p0_jobs f_p0_allNeeded)).flatten sz) := by
  refine sg_met (fun sz => cQi (dC, dI) vwCl [(cI, .int), (cL, .long), (cM, .array .int), (cZ, .boolean)] sz (sc_Net_closesRing cI cL cM cZ q_p0 q_p0_numbers q_p0_needCounts q_p0_needed q_p0_conditions q_p0_allNeeded v_p0_jobs f_p0_allNeeded) o (sc_Net_closesRing cI cL cM cZ q_p0 q_p0_numbers q_p0_needCounts q_p0_needed q_p0_conditions q_p0_allNeeded v_p0_jobs f_p0_allNeeded)) (by decide) (Nat.le_of_ble_eq_true rfl) ?_
  intro p e s m args below meth c A Q ls hx hb hr hts hown hlocks hml hname hK hNW hA hAe hQ hw hl
  have hl : lv_has ls 3 [(0, .ref q_p0), (1, .int a1_x), (2, .int a2_x)] := hl
  have hw : wk (dC, dI) vwCl A s.heap [[(q_p0, .inr (4, [.ref q_p0_numbers, .ref q_p0_needCounts, .ref q_p0_needed, .ref q_p0_conditions, .ref q_p0_allNeeded, .int v_p0_jobs]))], [(q_p0_allNeeded, .inl (cI, 27, .inl f_p0_allNeeded))]] s.heap [] := hw
  unfold md_Net_closesRing at hm
  refine lv_iload_n hx hb d_Net_closesRing_0 rfl (lv_at hl 1 rfl) ?_
  refine lv_iload_n hx hb d_Net_closesRing_1 rfl (lv_at hl 2 rfl) ?_
  refine bq_t (lv_icmp_eq (tgt := 14) hx hb d_Net_closesRing_2 (by decide)) hm (fun hm => ?_) (fun hm => ?_)
  · refine lv_iconst (v := 1) hx hb d_Net_closesRing_14 (by decide) ?_
    refine lv_goto (tgt := 19) hx hb d_Net_closesRing_15 (by decide) ?_
    exact so_zret (rf := fun z_ => z_) (Sf := fun z_ => sc_Net_closesRing cI cL cM cZ q_p0 q_p0_numbers q_p0_needCounts q_p0_needed q_p0_conditions q_p0_allNeeded v_p0_jobs f_p0_allNeeded) hm hx hb hr rfl hlocks hAe hQ hK hw rfl d_Net_closesRing_19
  · refine lv_aload_n hx hb d_Net_closesRing_5 rfl (lv_at hl 0 rfl) ?_
    refine lv_iload_n hx hb d_Net_closesRing_6 rfl (lv_at hl 2 rfl) ?_
    refine lv_iload_n hx hb d_Net_closesRing_7 rfl (lv_at hl 1 rfl) ?_
    obtain ⟨o1, h1, hm⟩ := zc_x hm
    refine sg_ci0 (Sr := []) (va_runV (As := [.int a2_x, .int a1_x]) (rest := []) ⟨hx, hb, hml, hown, hts⟩ (ct_Net_needsAtAnyDepth l dC dI cI cL cM cZ q_p0 q_p0_numbers q_p0_needCounts q_p0_needed q_p0_conditions q_p0_allNeeded v_p0_jobs f_p0_allNeeded a2_x a1_x N o1 h1 _) (cwV 2 hts (gd_V wd_310 wd_311 wd_312 wd_9 wd_313) rfl rfl rfl (by decide +kernel) ⟨Nat.le_of_ble_eq_true rfl, Nat.le_of_ble_eq_true rfl⟩) (sg_preV (ci := 4) (q0 := 0) hK hNW hw [0, 1] rfl rfl rfl rfl) rfl rfl hl.1 rfl (lv_room (Nat.le_of_ble_eq_true rfl)) d_Net_closesRing_8 ⟨Nat.le_of_ble_eq_true rfl, Nat.le_of_ble_eq_true rfl⟩) hw hA [0, 1] [] rfl rfl rfl (by decide) (fun H locs hw => ?_)
    have hw : wk (dC, dI) vwCl A s.heap [[(q_p0, .inr (4, [.ref q_p0_numbers, .ref q_p0_needCounts, .ref q_p0_needed, .ref q_p0_conditions, .ref q_p0_allNeeded, .int v_p0_jobs]))], [(q_p0_allNeeded, .inl (cI, 27, .inl f_p0_allNeeded))]] H locs := hw
    refine bq_t (lv_if_eq (tgt := 18) hx hb d_Net_closesRing_11 (by decide)) hm (fun hm => ?_) (fun hm => ?_)
    · refine lv_iconst (v := 0) hx hb d_Net_closesRing_18 (by decide) ?_
      exact so_zret (rf := fun z_ => z_) (Sf := fun z_ => sc_Net_closesRing cI cL cM cZ q_p0 q_p0_numbers q_p0_needCounts q_p0_needed q_p0_conditions q_p0_allNeeded v_p0_jobs f_p0_allNeeded) hm hx hb hr rfl hlocks hAe hQ hK hw rfl d_Net_closesRing_19
    · refine lv_iconst (v := 1) hx hb d_Net_closesRing_14 (by decide) ?_
      refine lv_goto (tgt := 19) hx hb d_Net_closesRing_15 (by decide) ?_
      exact so_zret (rf := fun z_ => z_) (Sf := fun z_ => sc_Net_closesRing cI cL cM cZ q_p0 q_p0_numbers q_p0_needCounts q_p0_needed q_p0_conditions q_p0_allNeeded v_p0_jobs f_p0_allNeeded) hm hx hb hr rfl hlocks hAe hQ hK hw rfl d_Net_closesRing_19
theorem d_Net_addNeed_0 : decode prog_5_method_6_code 0 = .ok (.aload_n 0, 1) := by decide +kernel
theorem d_Net_addNeed_1 : decode prog_5_method_6_code 1 = .ok (.getfield 16, 3) := by decide +kernel
theorem d_Net_addNeed_4 : decode prog_5_method_6_code 4 = .ok (.iload_n 1, 1) := by decide +kernel
theorem d_Net_addNeed_5 : decode prog_5_method_6_code 5 = .ok (.iaload, 1) := by decide +kernel
theorem d_Net_addNeed_6 : decode prog_5_method_6_code 6 = .ok (.istore 4, 2) := by decide +kernel
theorem d_Net_addNeed_8 : decode prog_5_method_6_code 8 = .ok (.iload 4, 2) := by decide +kernel
theorem d_Net_addNeed_10 : decode prog_5_method_6_code 10 = .ok (.bipush 20, 2) := by decide +kernel
theorem d_Net_addNeed_12 : decode prog_5_method_6_code 12 = .ok (.if_icmp .lt 4, 3) := by decide +kernel
theorem d_Net_addNeed_15 : decode prog_5_method_6_code 15 = .ok (.return_, 1) := by decide +kernel
theorem d_Net_addNeed_16 : decode prog_5_method_6_code 16 = .ok (.aload_n 0, 1) := by decide +kernel
theorem d_Net_addNeed_17 : decode prog_5_method_6_code 17 = .ok (.getfield 20, 3) := by decide +kernel
theorem d_Net_addNeed_20 : decode prog_5_method_6_code 20 = .ok (.iload_n 1, 1) := by decide +kernel
theorem d_Net_addNeed_21 : decode prog_5_method_6_code 21 = .ok (.aaload, 1) := by decide +kernel
theorem d_Net_addNeed_22 : decode prog_5_method_6_code 22 = .ok (.iload 4, 2) := by decide +kernel
theorem d_Net_addNeed_24 : decode prog_5_method_6_code 24 = .ok (.iload_n 2, 1) := by decide +kernel
theorem d_Net_addNeed_25 : decode prog_5_method_6_code 25 = .ok (.iastore, 1) := by decide +kernel
theorem d_Net_addNeed_26 : decode prog_5_method_6_code 26 = .ok (.aload_n 0, 1) := by decide +kernel
theorem d_Net_addNeed_27 : decode prog_5_method_6_code 27 = .ok (.getfield 23, 3) := by decide +kernel
theorem d_Net_addNeed_30 : decode prog_5_method_6_code 30 = .ok (.iload_n 1, 1) := by decide +kernel
theorem d_Net_addNeed_31 : decode prog_5_method_6_code 31 = .ok (.aaload, 1) := by decide +kernel
theorem d_Net_addNeed_32 : decode prog_5_method_6_code 32 = .ok (.iload 4, 2) := by decide +kernel
theorem d_Net_addNeed_34 : decode prog_5_method_6_code 34 = .ok (.iload_n 3, 1) := by decide +kernel
theorem d_Net_addNeed_35 : decode prog_5_method_6_code 35 = .ok (.iastore, 1) := by decide +kernel
theorem d_Net_addNeed_36 : decode prog_5_method_6_code 36 = .ok (.aload_n 0, 1) := by decide +kernel
theorem d_Net_addNeed_37 : decode prog_5_method_6_code 37 = .ok (.getfield 16, 3) := by decide +kernel
theorem d_Net_addNeed_40 : decode prog_5_method_6_code 40 = .ok (.iload_n 1, 1) := by decide +kernel
theorem d_Net_addNeed_41 : decode prog_5_method_6_code 41 = .ok (.iload 4, 2) := by decide +kernel
theorem d_Net_addNeed_43 : decode prog_5_method_6_code 43 = .ok (.iconst 1, 1) := by decide +kernel
theorem d_Net_addNeed_44 : decode prog_5_method_6_code 44 = .ok (.iadd, 1) := by decide +kernel
theorem d_Net_addNeed_45 : decode prog_5_method_6_code 45 = .ok (.iastore, 1) := by decide +kernel
theorem d_Net_addNeed_46 : decode prog_5_method_6_code 46 = .ok (.aload_n 0, 1) := by decide +kernel
theorem d_Net_addNeed_47 : decode prog_5_method_6_code 47 = .ok (.getfield 26, 3) := by decide +kernel
theorem d_Net_addNeed_50 : decode prog_5_method_6_code 50 = .ok (.iload_n 2, 1) := by decide +kernel
theorem d_Net_addNeed_51 : decode prog_5_method_6_code 51 = .ok (.iaload, 1) := by decide +kernel
theorem d_Net_addNeed_52 : decode prog_5_method_6_code 52 = .ok (.iconst 1, 1) := by decide +kernel
theorem d_Net_addNeed_53 : decode prog_5_method_6_code 53 = .ok (.iload_n 2, 1) := by decide +kernel
theorem d_Net_addNeed_54 : decode prog_5_method_6_code 54 = .ok (.ishl, 1) := by decide +kernel
theorem d_Net_addNeed_55 : decode prog_5_method_6_code 55 = .ok (.ior, 1) := by decide +kernel
theorem d_Net_addNeed_56 : decode prog_5_method_6_code 56 = .ok (.istore 5, 2) := by decide +kernel
theorem d_Net_addNeed_58 : decode prog_5_method_6_code 58 = .ok (.iconst 1, 1) := by decide +kernel
theorem d_Net_addNeed_59 : decode prog_5_method_6_code 59 = .ok (.istore 6, 2) := by decide +kernel
theorem d_Net_addNeed_61 : decode prog_5_method_6_code 61 = .ok (.iload 6, 2) := by decide +kernel
theorem d_Net_addNeed_63 : decode prog_5_method_6_code 63 = .ok (.aload_n 0, 1) := by decide +kernel
theorem d_Net_addNeed_64 : decode prog_5_method_6_code 64 = .ok (.getfield 29, 3) := by decide +kernel
theorem d_Net_addNeed_67 : decode prog_5_method_6_code 67 = .ok (.if_icmp .gt 37, 3) := by decide +kernel
theorem d_Net_addNeed_70 : decode prog_5_method_6_code 70 = .ok (.iload 6, 2) := by decide +kernel
theorem d_Net_addNeed_72 : decode prog_5_method_6_code 72 = .ok (.iload_n 1, 1) := by decide +kernel
theorem d_Net_addNeed_73 : decode prog_5_method_6_code 73 = .ok (.if_icmp .eq 13, 3) := by decide +kernel
theorem d_Net_addNeed_76 : decode prog_5_method_6_code 76 = .ok (.aload_n 0, 1) := by decide +kernel
theorem d_Net_addNeed_77 : decode prog_5_method_6_code 77 = .ok (.iload 6, 2) := by decide +kernel
theorem d_Net_addNeed_79 : decode prog_5_method_6_code 79 = .ok (.iload_n 1, 1) := by decide +kernel
theorem d_Net_addNeed_80 : decode prog_5_method_6_code 80 = .ok (.invokevirtual 39, 3) := by decide +kernel
theorem d_Net_addNeed_83 : decode prog_5_method_6_code 83 = .ok (.ifCond .eq 15, 3) := by decide +kernel
theorem d_Net_addNeed_86 : decode prog_5_method_6_code 86 = .ok (.aload_n 0, 1) := by decide +kernel
theorem d_Net_addNeed_87 : decode prog_5_method_6_code 87 = .ok (.getfield 26, 3) := by decide +kernel
theorem d_Net_addNeed_90 : decode prog_5_method_6_code 90 = .ok (.iload 6, 2) := by decide +kernel
theorem d_Net_addNeed_92 : decode prog_5_method_6_code 92 = .ok (.dup2, 1) := by decide +kernel
theorem d_Net_addNeed_93 : decode prog_5_method_6_code 93 = .ok (.iaload, 1) := by decide +kernel
theorem d_Net_addNeed_94 : decode prog_5_method_6_code 94 = .ok (.iload 5, 2) := by decide +kernel
theorem d_Net_addNeed_96 : decode prog_5_method_6_code 96 = .ok (.ior, 1) := by decide +kernel
theorem d_Net_addNeed_97 : decode prog_5_method_6_code 97 = .ok (.iastore, 1) := by decide +kernel
theorem d_Net_addNeed_98 : decode prog_5_method_6_code 98 = .ok (.iinc 6 1, 3) := by decide +kernel
theorem d_Net_addNeed_101 : decode prog_5_method_6_code 101 = .ok (.goto (-40), 3) := by decide +kernel
theorem d_Net_addNeed_104 : decode prog_5_method_6_code 104 = .ok (.return_, 1) := by decide +kernel
def md_Net_addNeed_F61 (v_p0_jobs : Int32) (a1_x : Int32) (N : Nat) (g2 : Nat → Nat → Int32) (g4 : Nat → Nat → Int32) (f5 : Nat → Int32) (x6 : Int32) (rec61 : Int32 → (Nat → Int32) → Option ((Nat → Int32) × (Nat → Nat → Int32) × (Nat → Nat → Int32) × (Nat → Int32))) (x7 : Int32) (f8 : Nat → Int32) : Option ((Nat → Int32) × (Nat → Nat → Int32) × (Nat → Nat → Int32) × (Nat → Int32)) :=
  (if v_p0_jobs < x7 then (some (f5, g2, g4, f8)) else (if x7 = a1_x then (if sg_in x7 27 = true then (if sg_in x7 27 = true then zl (upd f8 x7.toNatClampNeg ((f8 x7.toNatClampNeg) ||| x6)) (fun f9 => (rec61 (x7 + 1) f9)) else none) else none) else (zc (md_Net_needsAtAnyDepth N f8 x7 a1_x) (fun o10 => (if o10 = 0 then (rec61 (x7 + 1) f8) else (if sg_in x7 27 = true then (if sg_in x7 27 = true then zl (upd f8 x7.toNatClampNeg ((f8 x7.toNatClampNeg) ||| x6)) (fun f11 => (rec61 (x7 + 1) f11)) else none) else none))))))
def md_Net_addNeed (N : Nat) (v_p0_jobs : Int32) (f_p0_needCounts : Nat → Int32) (g_p0_needed : Nat → Nat → Int32) (g_p0_conditions : Nat → Nat → Int32) (f_p0_allNeeded : Nat → Int32) (a1_x : Int32) (a2_x : Int32) (a3_x : Int32) : Option ((Nat → Int32) × (Nat → Nat → Int32) × (Nat → Nat → Int32) × (Nat → Int32)) :=
  (if sg_in a1_x 27 = true then (if (f_p0_needCounts a1_x.toNatClampNeg) < (20 : Int32) then (if sg_in a1_x 27 = true then (if sg_in (f_p0_needCounts a1_x.toNatClampNeg) 20 = true then zl (gup g_p0_needed a1_x.toNatClampNeg (f_p0_needCounts a1_x.toNatClampNeg).toNatClampNeg a2_x) (fun g2 => (if sg_in a1_x 27 = true then (if sg_in (f_p0_needCounts a1_x.toNatClampNeg) 20 = true then zl (gup g_p0_conditions a1_x.toNatClampNeg (f_p0_needCounts a1_x.toNatClampNeg).toNatClampNeg a3_x) (fun g4 => (if sg_in a1_x 27 = true then zl (upd f_p0_needCounts a1_x.toNatClampNeg ((f_p0_needCounts a1_x.toNatClampNeg) + (1 : Int32))) (fun f5 => (if sg_in a2_x 27 = true then (zl ((f_p0_allNeeded a2_x.toNatClampNeg) ||| ((1 : Int32) <<< (a2_x &&& 31))) (fun x6 => (fx2 (md_Net_addNeed_F61 v_p0_jobs a1_x N g2 g4 f5 x6) N (1 : Int32) f_p0_allNeeded))) else none)) else none)) else none) else none)) else none) else none) else (some (f_p0_needCounts, g_p0_needed, g_p0_conditions, f_p0_allNeeded))) else none)
abbrev sc_Net_addNeed (cI cL cM cZ : ClassId) (q_p0 q_p0_numbers q_p0_needCounts q_p0_needed q_p0_conditions q_p0_allNeeded : Nat) (d_p0_needed d_p0_conditions : Nat → Nat) (v_p0_jobs : Int32) (f_p0_needCounts : Nat → Int32) (g_p0_needed : Nat → Nat → Int32) (g_p0_conditions : Nat → Nat → Int32) (f_p0_allNeeded : Nat → Int32) : List va_W := [[(q_p0, .inr (4, [.ref q_p0_numbers, .ref q_p0_needCounts, .ref q_p0_needed, .ref q_p0_conditions, .ref q_p0_allNeeded, .int v_p0_jobs]))], [(q_p0_needCounts, .inl (cI, 27, .inl f_p0_needCounts))], [(q_p0_needed, .inl (cM, gro 27 d_p0_needed))], gl cI d_p0_needed 27 20 g_p0_needed, [(q_p0_conditions, .inl (cM, gro 27 d_p0_conditions))], gl cI d_p0_conditions 27 20 g_p0_conditions, [(q_p0_allNeeded, .inl (cI, 27, .inl f_p0_allNeeded))]]
abbrev rm_Net_addNeed : Room := { frames := 1, cells := 0, slots := 0, locals := 22 }
set_option maxHeartbeats 4000000 in
set_option maxRecDepth 100000 in
theorem ct_Net_addNeed (l : Launch) (dC : Nat → ClassId) (dI : Nat → Nat → Nat) (cI cL cM cZ : ClassId) (q_p0 q_p0_numbers q_p0_needCounts q_p0_needed q_p0_conditions q_p0_allNeeded : Nat) (d_p0_needed d_p0_conditions : Nat → Nat) (v_p0_jobs : Int32) (f_p0_needCounts : Nat → Int32) (g_p0_needed : Nat → Nat → Int32) (g_p0_conditions : Nat → Nat → Int32) (f_p0_allNeeded : Nat → Int32) (a1_x : Int32) (a2_x : Int32) (a3_x : Int32) (N : Nat) (o : (Nat → Int32) × (Nat → Nat → Int32) × (Nat → Nat → Int32) × (Nat → Int32)) (hm : md_Net_addNeed N v_p0_jobs f_p0_needCounts g_p0_needed g_p0_conditions f_p0_allNeeded a1_x a2_x a3_x = some o) : ∀ sz : Nat, Met l y_Net_addNeed ws_Net_addNeed rm_Net_addNeed (cP (dC, dI) vwCl [(cI, .int), (cL, .long), (cM, .array .int), (cZ, .boolean)] [.ref q_p0, .int a1_x, .int a2_x, .int a3_x] sz (sc_Net_addNeed cI cL cM cZ q_p0 q_p0_numbers q_p0_needCounts q_p0_needed q_p0_conditions q_p0_allNeeded d_p0_needed d_p0_conditions v_p0_jobs f_p0_needCounts g_p0_needed g_p0_conditions f_p0_allNeeded)) (cQv (dC, dI) vwCl [(cI, .int), (cL, .long), (cM, .array .int), (cZ, .boolean)] sz (sc_Net_addNeed cI cL cM cZ q_p0 q_p0_numbers q_p0_needCounts q_p0_needed q_p0_conditions q_p0_allNeeded d_p0_needed d_p0_conditions v_p0_jobs f_p0_needCounts g_p0_needed g_p0_conditions f_p0_allNeeded) (sc_Net_addNeed cI cL cM cZ q_p0 q_p0_numbers q_p0_needCounts q_p0_needed q_p0_conditions q_p0_allNeeded d_p0_needed d_p0_conditions v_p0_jobs o.1 o.2.1 o.2.2.1 o.2.2.2)) 0 0 (va_A ((sc_Net_addNeed cI cL cM cZ q_p0 q_p0_numbers q_p0_needCounts q_p0_needed q_p0_conditions q_p0_allNeeded d_p0_needed d_p0_conditions v_p0_jobs f_p0_needCounts g_p0_needed g_p0_conditions f_p0_allNeeded)).flatten sz) := by
  refine sg_met (fun sz => cQv (dC, dI) vwCl [(cI, .int), (cL, .long), (cM, .array .int), (cZ, .boolean)] sz (sc_Net_addNeed cI cL cM cZ q_p0 q_p0_numbers q_p0_needCounts q_p0_needed q_p0_conditions q_p0_allNeeded d_p0_needed d_p0_conditions v_p0_jobs f_p0_needCounts g_p0_needed g_p0_conditions f_p0_allNeeded) (sc_Net_addNeed cI cL cM cZ q_p0 q_p0_numbers q_p0_needCounts q_p0_needed q_p0_conditions q_p0_allNeeded d_p0_needed d_p0_conditions v_p0_jobs o.1 o.2.1 o.2.2.1 o.2.2.2)) (by decide) (Nat.le_of_ble_eq_true rfl) ?_
  intro p e s m args below meth c A Q ls hx hb hr hts hown hlocks hml hname hK hNW hA hAe hQ hw hl
  have hl : lv_has ls 7 [(0, .ref q_p0), (1, .int a1_x), (2, .int a2_x), (3, .int a3_x)] := hl
  have hw : wk (dC, dI) vwCl A s.heap [[(q_p0, .inr (4, [.ref q_p0_numbers, .ref q_p0_needCounts, .ref q_p0_needed, .ref q_p0_conditions, .ref q_p0_allNeeded, .int v_p0_jobs]))], [(q_p0_needCounts, .inl (cI, 27, .inl f_p0_needCounts))], [(q_p0_needed, .inl (cM, gro 27 d_p0_needed))], gl cI d_p0_needed 27 20 g_p0_needed, [(q_p0_conditions, .inl (cM, gro 27 d_p0_conditions))], gl cI d_p0_conditions 27 20 g_p0_conditions, [(q_p0_allNeeded, .inl (cI, 27, .inl f_p0_allNeeded))]] s.heap [] := hw
  unfold md_Net_addNeed at hm
  refine lv_aload_n hx hb d_Net_addNeed_0 rfl (lv_at hl 0 rfl) ?_
  refine sg_get (D := (dC, dI)) (ci := 4) (v := .ref q_p0_needCounts) (C := "JobNets$Net") (T := T_4) (N := 6) hx hb hts hin_4 hown hK hw 0 rfl rfl 1 (by decide) (hts _ wd_190) rfl rfl d_Net_addNeed_1 ?_
  refine lv_iload_n hx hb d_Net_addNeed_4 rfl (lv_at hl 1 rfl) ?_
  refine sg_iald hx hb hK hw 1 0 rfl rfl d_Net_addNeed_5 hm (fun hm => ?_)
  refine lv_istore (lv' := [(4, .int (f_p0_needCounts a1_x.toNatClampNeg)), (0, .ref q_p0), (1, .int a1_x), (2, .int a2_x), (3, .int a3_x)]) hx hb d_Net_addNeed_6 hl (by decide) rfl (fun ls hl => ?_)
  refine lv_iload hx hb d_Net_addNeed_8 (lv_at hl 0 rfl) ?_
  refine lv_bipush (v := 20) hx hb d_Net_addNeed_10 (by decide) ?_
  refine bq_t (lv_icmp_lt (tgt := 16) hx hb d_Net_addNeed_12 (by decide)) hm (fun hm => ?_) (fun hm => ?_)
  · refine lv_aload_n hx hb d_Net_addNeed_16 rfl (lv_at hl 1 rfl) ?_
    refine sg_get (D := (dC, dI)) (ci := 4) (v := .ref q_p0_needed) (C := "JobNets$Net") (T := T_4) (N := 6) hx hb hts hin_4 hown hK hw 0 rfl rfl 2 (by decide) (hts _ wd_195) rfl rfl d_Net_addNeed_17 ?_
    refine lv_iload_n hx hb d_Net_addNeed_20 rfl (lv_at hl 2 rfl) ?_
    obtain ⟨hi1, hm⟩ := it_n hm
    refine sg_aald hx hb hK hw 2 2 rfl rfl hi1 d_Net_addNeed_21 ?_
    refine lv_iload hx hb d_Net_addNeed_22 (lv_at hl 0 rfl) ?_
    refine lv_iload_n hx hb d_Net_addNeed_24 rfl (lv_at hl 3 rfl) ?_
    refine sg_rast (S1 := fun g2 => [[(q_p0, .inr (4, [.ref q_p0_numbers, .ref q_p0_needCounts, .ref q_p0_needed, .ref q_p0_conditions, .ref q_p0_allNeeded, .int v_p0_jobs]))], [(q_p0_needCounts, .inl (cI, 27, .inl f_p0_needCounts))], [(q_p0_needed, .inl (cM, gro 27 d_p0_needed))], gl cI d_p0_needed 27 20 g2, [(q_p0_conditions, .inl (cM, gro 27 d_p0_conditions))], gl cI d_p0_conditions 27 20 g_p0_conditions, [(q_p0_allNeeded, .inl (cI, 27, .inl f_p0_allNeeded))]]) hx hb hK hw 3 0 rfl (sg_lt hi1) rfl d_Net_addNeed_25 (fun _ => rfl) hm (fun g2 H locs hm hw => ?_)
    refine lv_aload_n hx hb d_Net_addNeed_26 rfl (lv_at hl 1 rfl) ?_
    refine sg_get (D := (dC, dI)) (ci := 4) (v := .ref q_p0_conditions) (C := "JobNets$Net") (T := T_4) (N := 6) hx hb hts hin_4 hown hK hw 0 rfl rfl 3 (by decide) (hts _ wd_199) rfl rfl d_Net_addNeed_27 ?_
    refine lv_iload_n hx hb d_Net_addNeed_30 rfl (lv_at hl 2 rfl) ?_
    obtain ⟨hi3, hm⟩ := it_n hm
    refine sg_aald hx hb hK hw 4 2 rfl rfl hi3 d_Net_addNeed_31 ?_
    refine lv_iload hx hb d_Net_addNeed_32 (lv_at hl 0 rfl) ?_
    refine lv_iload_n hx hb d_Net_addNeed_34 rfl (lv_at hl 4 rfl) ?_
    refine sg_rast (S1 := fun g4 => [[(q_p0, .inr (4, [.ref q_p0_numbers, .ref q_p0_needCounts, .ref q_p0_needed, .ref q_p0_conditions, .ref q_p0_allNeeded, .int v_p0_jobs]))], [(q_p0_needCounts, .inl (cI, 27, .inl f_p0_needCounts))], [(q_p0_needed, .inl (cM, gro 27 d_p0_needed))], gl cI d_p0_needed 27 20 g2, [(q_p0_conditions, .inl (cM, gro 27 d_p0_conditions))], gl cI d_p0_conditions 27 20 g4, [(q_p0_allNeeded, .inl (cI, 27, .inl f_p0_allNeeded))]]) hx hb hK hw 5 0 rfl (sg_lt hi3) rfl d_Net_addNeed_35 (fun _ => rfl) hm (fun g4 H locs hm hw => ?_)
    refine lv_aload_n hx hb d_Net_addNeed_36 rfl (lv_at hl 1 rfl) ?_
    refine sg_get (D := (dC, dI)) (ci := 4) (v := .ref q_p0_needCounts) (C := "JobNets$Net") (T := T_4) (N := 6) hx hb hts hin_4 hown hK hw 0 rfl rfl 1 (by decide) (hts _ wd_190) rfl rfl d_Net_addNeed_37 ?_
    refine lv_iload_n hx hb d_Net_addNeed_40 rfl (lv_at hl 2 rfl) ?_
    refine lv_iload hx hb d_Net_addNeed_41 (lv_at hl 0 rfl) ?_
    refine lv_iconst (v := 1) hx hb d_Net_addNeed_43 (by decide) ?_
    refine lv_iadd hx hb d_Net_addNeed_44 ?_
    refine sg_iast (S1 := fun f5 => [[(q_p0, .inr (4, [.ref q_p0_numbers, .ref q_p0_needCounts, .ref q_p0_needed, .ref q_p0_conditions, .ref q_p0_allNeeded, .int v_p0_jobs]))], [(q_p0_needCounts, .inl (cI, 27, .inl f5))], [(q_p0_needed, .inl (cM, gro 27 d_p0_needed))], gl cI d_p0_needed 27 20 g2, [(q_p0_conditions, .inl (cM, gro 27 d_p0_conditions))], gl cI d_p0_conditions 27 20 g4, [(q_p0_allNeeded, .inl (cI, 27, .inl f_p0_allNeeded))]]) hx hb hK hw 1 0 rfl rfl d_Net_addNeed_45 (fun _ => rfl) hm (fun f5 H locs hm hw => ?_)
    refine lv_aload_n hx hb d_Net_addNeed_46 rfl (lv_at hl 1 rfl) ?_
    refine sg_get (D := (dC, dI)) (ci := 4) (v := .ref q_p0_allNeeded) (C := "JobNets$Net") (T := T_4) (N := 6) hx hb hts hin_4 hown hK hw 0 rfl rfl 4 (by decide) (hts _ wd_201) rfl rfl d_Net_addNeed_47 ?_
    refine lv_iload_n hx hb d_Net_addNeed_50 rfl (lv_at hl 3 rfl) ?_
    refine sg_iald hx hb hK hw 6 0 rfl rfl d_Net_addNeed_51 hm (fun hm => ?_)
    refine lv_iconst (v := 1) hx hb d_Net_addNeed_52 (by decide) ?_
    refine lv_iload_n hx hb d_Net_addNeed_53 rfl (lv_at hl 3 rfl) ?_
    refine lv_ishl hx hb d_Net_addNeed_54 ?_
    refine lv_ior hx hb d_Net_addNeed_55 ?_
    refine nm_i hm (fun x6 hm => ?_)
    refine lv_istore (lv' := [(5, .int x6), (4, .int (f_p0_needCounts a1_x.toNatClampNeg)), (0, .ref q_p0), (1, .int a1_x), (2, .int a2_x), (3, .int a3_x)]) hx hb d_Net_addNeed_56 hl (by decide) rfl (fun ls hl => ?_)
    refine lv_iconst (v := 1) hx hb d_Net_addNeed_58 (by decide) ?_
    refine lv_istore (lv' := [(6, .int (1 : Int32)), (5, .int x6), (4, .int (f_p0_needCounts a1_x.toNatClampNeg)), (0, .ref q_p0), (1, .int a1_x), (2, .int a2_x), (3, .int a3_x)]) hx hb d_Net_addNeed_59 hl (by decide) rfl (fun ls hl => ?_)
    obtain ⟨Fn61, hFn61, hm⟩ := fx2_x hm
    have L61 : ∀ (n : Nat) (x7 : Int32) (f8 : Nat → Int32), fx2 Fn61 n x7 f8 = some o → ∀ (H : Heap) (locs : List Loc) (ls : Array Slot), wk (dC, dI) vwCl A s.heap [[(q_p0, .inr (4, [.ref q_p0_numbers, .ref q_p0_needCounts, .ref q_p0_needed, .ref q_p0_conditions, .ref q_p0_allNeeded, .int v_p0_jobs]))], [(q_p0_needCounts, .inl (cI, 27, .inl f5))], [(q_p0_needed, .inl (cM, gro 27 d_p0_needed))], gl cI d_p0_needed 27 20 g2, [(q_p0_conditions, .inl (cM, gro 27 d_p0_conditions))], gl cI d_p0_conditions 27 20 g4, [(q_p0_allNeeded, .inl (cI, 27, .inl f8))]] H locs → lv_has ls 7 [(6, .int x7), (5, .int x6), (0, .ref q_p0), (1, .int a1_x)] → W p l e rm_Net_addNeed s m args below meth c H locs 0 0 Q (F0 m 61 ls []) := by
      intro n
      induction n with
      | zero => intro x7 f8 hm; exact (fx2_0 hm).elim
      | succ n ih61 =>
        intro x7 f8 hm H locs ls hw hl
        have hm := fx2_s hFn61 hm
        unfold md_Net_addNeed_F61 at hm
        refine lv_iload hx hb d_Net_addNeed_61 (lv_at hl 0 rfl) ?_
        refine lv_aload_n hx hb d_Net_addNeed_63 rfl (lv_at hl 2 rfl) ?_
        refine sg_get (D := (dC, dI)) (ci := 4) (v := .int v_p0_jobs) (C := "JobNets$Net") (T := T_4) (N := 6) hx hb hts hin_4 hown hK hw 0 rfl rfl 5 (by decide) (hts _ wd_203) rfl rfl d_Net_addNeed_64 ?_
        refine bq_t (lv_icmp_gt (tgt := 104) hx hb d_Net_addNeed_67 (by decide)) hm (fun hm => ?_) (fun hm => ?_)
        · exact so_vret (Sf := fun z_ => sc_Net_addNeed cI cL cM cZ q_p0 q_p0_numbers q_p0_needCounts q_p0_needed q_p0_conditions q_p0_allNeeded d_p0_needed d_p0_conditions v_p0_jobs z_.1 z_.2.1 z_.2.2.1 z_.2.2.2) hm hx hb hr hlocks hAe hQ hK hw d_Net_addNeed_104
        · refine lv_iload hx hb d_Net_addNeed_70 (lv_at hl 0 rfl) ?_
          refine lv_iload_n hx hb d_Net_addNeed_72 rfl (lv_at hl 3 rfl) ?_
          refine bq_t (lv_icmp_eq (tgt := 86) hx hb d_Net_addNeed_73 (by decide)) hm (fun hm => ?_) (fun hm => ?_)
          · refine lv_aload_n hx hb d_Net_addNeed_86 rfl (lv_at hl 2 rfl) ?_
            refine sg_get (D := (dC, dI)) (ci := 4) (v := .ref q_p0_allNeeded) (C := "JobNets$Net") (T := T_4) (N := 6) hx hb hts hin_4 hown hK hw 0 rfl rfl 4 (by decide) (hts _ wd_201) rfl rfl d_Net_addNeed_87 ?_
            refine lv_iload hx hb d_Net_addNeed_90 (lv_at hl 0 rfl) ?_
            refine lv_dup2_11 hx hb d_Net_addNeed_92 rfl rfl ?_
            refine sg_iald hx hb hK hw 6 0 rfl rfl d_Net_addNeed_93 hm (fun hm => ?_)
            refine lv_iload hx hb d_Net_addNeed_94 (lv_at hl 1 rfl) ?_
            refine lv_ior hx hb d_Net_addNeed_96 ?_
            refine sg_iast (S1 := fun f9 => [[(q_p0, .inr (4, [.ref q_p0_numbers, .ref q_p0_needCounts, .ref q_p0_needed, .ref q_p0_conditions, .ref q_p0_allNeeded, .int v_p0_jobs]))], [(q_p0_needCounts, .inl (cI, 27, .inl f5))], [(q_p0_needed, .inl (cM, gro 27 d_p0_needed))], gl cI d_p0_needed 27 20 g2, [(q_p0_conditions, .inl (cM, gro 27 d_p0_conditions))], gl cI d_p0_conditions 27 20 g4, [(q_p0_allNeeded, .inl (cI, 27, .inl f9))]]) hx hb hK hw 6 0 rfl rfl d_Net_addNeed_97 (fun _ => rfl) hm (fun f9 H locs hm hw => ?_)
            refine lv_iinc (v := x7 + 1) (lv' := [(6, .int (x7 + 1)), (5, .int x6), (0, .ref q_p0), (1, .int a1_x)]) hx hb d_Net_addNeed_98 hl (k := 0) rfl rfl (by decide) rfl (fun ls hl => ?_)
            refine lv_goto (tgt := 61) hx hb d_Net_addNeed_101 (by decide) ?_
            exact ih61 (x7 + 1) f9 hm _ _ _ hw hl
          · refine lv_aload_n hx hb d_Net_addNeed_76 rfl (lv_at hl 2 rfl) ?_
            refine lv_iload hx hb d_Net_addNeed_77 (lv_at hl 0 rfl) ?_
            refine lv_iload_n hx hb d_Net_addNeed_79 rfl (lv_at hl 3 rfl) ?_
            obtain ⟨o10, h10, hm⟩ := zc_x hm
            refine sg_ci0 (Sr := [[(q_p0_needCounts, .inl (cI, 27, .inl f5))], [(q_p0_needed, .inl (cM, gro 27 d_p0_needed))], gl cI d_p0_needed 27 20 g2, [(q_p0_conditions, .inl (cM, gro 27 d_p0_conditions))], gl cI d_p0_conditions 27 20 g4]) (va_runV (As := [.int x7, .int a1_x]) (rest := []) ⟨hx, hb, hml, hown, hts⟩ (ct_Net_needsAtAnyDepth l dC dI cI cL cM cZ q_p0 q_p0_numbers q_p0_needCounts q_p0_needed q_p0_conditions q_p0_allNeeded v_p0_jobs f8 x7 a1_x N o10 h10 _) (cwV 2 hts (gd_V wd_310 wd_311 wd_312 wd_9 wd_313) rfl rfl rfl (by decide +kernel) ⟨Nat.le_of_ble_eq_true rfl, Nat.le_of_ble_eq_true rfl⟩) (sg_preV (ci := 4) (q0 := 0) hK hNW hw [0, 6] rfl rfl rfl rfl) rfl rfl hl.1 rfl (lv_room (Nat.le_of_ble_eq_true rfl)) d_Net_addNeed_80 ⟨Nat.le_of_ble_eq_true rfl, Nat.le_of_ble_eq_true rfl⟩) hw hA [0, 6] [1, 2, 3, 4, 5] rfl rfl rfl (by decide) (fun H locs hw => ?_)
            have hw : wk (dC, dI) vwCl A s.heap [[(q_p0_needCounts, .inl (cI, 27, .inl f5))], [(q_p0_needed, .inl (cM, gro 27 d_p0_needed))], gl cI d_p0_needed 27 20 g2, [(q_p0_conditions, .inl (cM, gro 27 d_p0_conditions))], gl cI d_p0_conditions 27 20 g4, [(q_p0, .inr (4, [.ref q_p0_numbers, .ref q_p0_needCounts, .ref q_p0_needed, .ref q_p0_conditions, .ref q_p0_allNeeded, .int v_p0_jobs]))], [(q_p0_allNeeded, .inl (cI, 27, .inl f8))]] H locs := hw
            refine bq_t (lv_if_eq (tgt := 98) hx hb d_Net_addNeed_83 (by decide)) hm (fun hm => ?_) (fun hm => ?_)
            · refine lv_iinc (v := x7 + 1) (lv' := [(6, .int (x7 + 1)), (5, .int x6), (0, .ref q_p0), (1, .int a1_x)]) hx hb d_Net_addNeed_98 hl (k := 0) rfl rfl (by decide) rfl (fun ls hl => ?_)
              refine lv_goto (tgt := 61) hx hb d_Net_addNeed_101 (by decide) ?_
              exact ih61 (x7 + 1) f8 hm _ _ _ (hw.sub [5, 0, 1, 2, 3, 4, 6] (by decide) rfl) hl
            · refine lv_aload_n hx hb d_Net_addNeed_86 rfl (lv_at hl 2 rfl) ?_
              refine sg_get (D := (dC, dI)) (ci := 4) (v := .ref q_p0_allNeeded) (C := "JobNets$Net") (T := T_4) (N := 6) hx hb hts hin_4 hown hK hw 5 rfl rfl 4 (by decide) (hts _ wd_201) rfl rfl d_Net_addNeed_87 ?_
              refine lv_iload hx hb d_Net_addNeed_90 (lv_at hl 0 rfl) ?_
              refine lv_dup2_11 hx hb d_Net_addNeed_92 rfl rfl ?_
              refine sg_iald hx hb hK hw 6 0 rfl rfl d_Net_addNeed_93 hm (fun hm => ?_)
              refine lv_iload hx hb d_Net_addNeed_94 (lv_at hl 1 rfl) ?_
              refine lv_ior hx hb d_Net_addNeed_96 ?_
              refine sg_iast (S1 := fun f11 => [[(q_p0_needCounts, .inl (cI, 27, .inl f5))], [(q_p0_needed, .inl (cM, gro 27 d_p0_needed))], gl cI d_p0_needed 27 20 g2, [(q_p0_conditions, .inl (cM, gro 27 d_p0_conditions))], gl cI d_p0_conditions 27 20 g4, [(q_p0, .inr (4, [.ref q_p0_numbers, .ref q_p0_needCounts, .ref q_p0_needed, .ref q_p0_conditions, .ref q_p0_allNeeded, .int v_p0_jobs]))], [(q_p0_allNeeded, .inl (cI, 27, .inl f11))]]) hx hb hK hw 6 0 rfl rfl d_Net_addNeed_97 (fun _ => rfl) hm (fun f11 H locs hm hw => ?_)
              refine lv_iinc (v := x7 + 1) (lv' := [(6, .int (x7 + 1)), (5, .int x6), (0, .ref q_p0), (1, .int a1_x)]) hx hb d_Net_addNeed_98 hl (k := 0) rfl rfl (by decide) rfl (fun ls hl => ?_)
              refine lv_goto (tgt := 61) hx hb d_Net_addNeed_101 (by decide) ?_
              exact ih61 (x7 + 1) f11 hm _ _ _ (hw.sub [5, 0, 1, 2, 3, 4, 6] (by decide) rfl) hl
    exact L61 _ _ _ hm _ _ _ hw (lv_sub hl [0, 1, 3, 4] rfl)
  · exact so_vret (Sf := fun z_ => sc_Net_addNeed cI cL cM cZ q_p0 q_p0_numbers q_p0_needCounts q_p0_needed q_p0_conditions q_p0_allNeeded d_p0_needed d_p0_conditions v_p0_jobs z_.1 z_.2.1 z_.2.2.1 z_.2.2.2) hm hx hb hr hlocks hAe hQ hK hw d_Net_addNeed_15
theorem d_Pla_init_0 : decode prog_6_method_1_code 0 = .ok (.aload_n 0, 1) := by decide +kernel
theorem d_Pla_init_1 : decode prog_6_method_1_code 1 = .ok (.invokespecial 3, 3) := by decide +kernel
theorem d_Pla_init_4 : decode prog_6_method_1_code 4 = .ok (.aload_n 0, 1) := by decide +kernel
theorem d_Pla_init_5 : decode prog_6_method_1_code 5 = .ok (.bipush 27, 2) := by decide +kernel
theorem d_Pla_init_7 : decode prog_6_method_1_code 7 = .ok (.newarray .int, 2) := by decide +kernel
theorem d_Pla_init_9 : decode prog_6_method_1_code 9 = .ok (.putfield 9, 3) := by decide +kernel
theorem d_Pla_init_12 : decode prog_6_method_1_code 12 = .ok (.aload_n 0, 1) := by decide +kernel
theorem d_Pla_init_13 : decode prog_6_method_1_code 13 = .ok (.bipush 27, 2) := by decide +kernel
theorem d_Pla_init_15 : decode prog_6_method_1_code 15 = .ok (.newarray .int, 2) := by decide +kernel
theorem d_Pla_init_17 : decode prog_6_method_1_code 17 = .ok (.putfield 15, 3) := by decide +kernel
theorem d_Pla_init_20 : decode prog_6_method_1_code 20 = .ok (.aload_n 0, 1) := by decide +kernel
theorem d_Pla_init_21 : decode prog_6_method_1_code 21 = .ok (.sipush 538, 3) := by decide +kernel
theorem d_Pla_init_24 : decode prog_6_method_1_code 24 = .ok (.newarray .int, 2) := by decide +kernel
theorem d_Pla_init_26 : decode prog_6_method_1_code 26 = .ok (.putfield 18, 3) := by decide +kernel
theorem d_Pla_init_29 : decode prog_6_method_1_code 29 = .ok (.aload_n 0, 1) := by decide +kernel
theorem d_Pla_init_30 : decode prog_6_method_1_code 30 = .ok (.sipush 538, 3) := by decide +kernel
theorem d_Pla_init_33 : decode prog_6_method_1_code 33 = .ok (.newarray .int, 2) := by decide +kernel
theorem d_Pla_init_35 : decode prog_6_method_1_code 35 = .ok (.putfield 21, 3) := by decide +kernel
theorem d_Pla_init_38 : decode prog_6_method_1_code 38 = .ok (.aload_n 0, 1) := by decide +kernel
theorem d_Pla_init_39 : decode prog_6_method_1_code 39 = .ok (.iconst 0, 1) := by decide +kernel
theorem d_Pla_init_40 : decode prog_6_method_1_code 40 = .ok (.putfield 24, 3) := by decide +kernel
theorem d_Pla_init_43 : decode prog_6_method_1_code 43 = .ok (.aload_n 0, 1) := by decide +kernel
theorem d_Pla_init_44 : decode prog_6_method_1_code 44 = .ok (.iconst 0, 1) := by decide +kernel
theorem d_Pla_init_45 : decode prog_6_method_1_code 45 = .ok (.putfield 28, 3) := by decide +kernel
theorem d_Pla_init_48 : decode prog_6_method_1_code 48 = .ok (.return_, 1) := by decide +kernel
def sd_Pla_init (cI cL cM cZ : ClassId) (q_p0 : Nat) (u : ADs) : List va_W := [[(q_p0, .inr (5, [.ref (u.1.getD 0 0), .ref (u.1.getD 1 0), .ref (u.1.getD 2 0), .ref (u.1.getD 3 0), .int 0, .int 0]))], [((u.1.getD 0 0), .inl (cI, 27, .inl (fun _ => 0)))], [((u.1.getD 1 0), .inl (cI, 27, .inl (fun _ => 0)))], [((u.1.getD 2 0), .inl (cI, 538, .inl (fun _ => 0)))], [((u.1.getD 3 0), .inl (cI, 538, .inl (fun _ => 0)))]]
abbrev rm_Pla_init : Room := { frames := 1, cells := 4, slots := 1130, locals := 20 }
set_option maxHeartbeats 4000000 in
set_option maxRecDepth 100000 in
theorem ct_Pla_init (l : Launch) (dC : Nat → ClassId) (dI : Nat → Nat → Nat) (cI cL cM cZ : ClassId) (q_p0 : Nat) : ∀ sz : Nat, Met l y_Pla_init ws_Pla_init rm_Pla_init (cP (dC, dI) vwCl [(cI, .int), (cL, .long), (cM, .array .int), (cZ, .boolean)] [.ref q_p0] sz [[(q_p0, .inr (5, [.null, .null, .null, .null, .int 0, .int 0]))]]) (cQc (dC, dI) vwCl [(cI, .int), (cL, .long), (cM, .array .int), (cZ, .boolean)] sz [[(q_p0, .inr (5, [.null, .null, .null, .null, .int 0, .int 0]))]] (sd_Pla_init cI cL cM cZ q_p0)) 4 1130 (va_A (List.flatten [[(q_p0, .inr (5, [.null, .null, .null, .null, .int 0, .int 0]))]]) sz) := by
  refine sg_met (y := y_Pla_init) (cc := prog_6_method_1_code) (maxL := 1) (ret := none) (rm := rm_Pla_init) (av := [.ref q_p0]) (Sc := [[(q_p0, .inr (5, [.null, .null, .null, .null, .int 0, .int 0]))]]) (mc := 4) (ms := 1130) (D := (dC, dI)) (cl := vwCl) (tys := [(cI, .int), (cL, .long), (cM, .array .int), (cZ, .boolean)]) (fun sz => cQc (dC, dI) vwCl [(cI, .int), (cL, .long), (cM, .array .int), (cZ, .boolean)] sz [[(q_p0, .inr (5, [.null, .null, .null, .null, .int 0, .int 0]))]] (sd_Pla_init cI cL cM cZ q_p0)) (by decide) (Nat.le_of_ble_eq_true rfl) ?_
  intro p e s m args below meth c A Q ls hx hb hr hts hown hlocks hml hname hK hNW hA hAe hQ hw hl
  have hl : lv_has ls 1 [(0, .ref q_p0)] := hl
  have hw : wk (dC, dI) vwCl A s.heap [[(q_p0, .inr (5, [.null, .null, .null, .null, .int 0, .int 0]))]] s.heap [] := hw
  refine lv_aload_n hx hb d_Pla_init_0 rfl (lv_at hl 0 rfl) ?_
  refine W.objInit hx hb hown (hts _ wd_89) (hts _ wd_23) (hts _ wd_24) rfl (by rw [hml]; exact hl.1) rfl d_Pla_init_1 (Nat.le_of_ble_eq_true rfl) (Nat.le_of_ble_eq_true rfl) ?_
  refine W.eq (g2 := F0 m 4 ls []) rfl ?_
  refine lv_aload_n hx hb d_Pla_init_4 rfl (lv_at hl 0 rfl) ?_
  refine lv_bipush (v := 27) hx hb d_Pla_init_5 (by decide) ?_
  refine sg_newi hx hb (hts _ wd_49) hK hw hA 0 rfl (N' := 27) (by decide) (by decide) (by decide) (Nat.le_of_ble_eq_true rfl) (Nat.le_of_ble_eq_true rfl) d_Pla_init_7 (fun q_p0_states H hw => ?_)
  have hw : wk (dC, dI) vwCl A s.heap [[(q_p0, .inr (5, [.null, .null, .null, .null, .int 0, .int 0]))], [(q_p0_states, .inl (cI, 27, .inl (fun _ => 0)))]] H _ := hw
  refine sg_putF (D := (dC, dI)) (ci := 5) (v := .ref q_p0_states) (ty := .array .int) (C := "JobNets$Plan") (T := T_5) (N := 6) (S1 := [[(q_p0, .inr (5, [.ref q_p0_states, .null, .null, .null, .int 0, .int 0]))], [(q_p0_states, .inl (cI, 27, .inl (fun _ => 0)))]]) hx hb hts hin_5 ty_5 tok_5 nd_5 hown hK hw 0 rfl rfl 0 (by decide) (hts _ wd_90) rfl rfl hname rfl (by decide +kernel) rfl rfl (Nat.le_of_ble_eq_true rfl) rfl d_Pla_init_9 (fun H locs hw => ?_)
  refine lv_aload_n hx hb d_Pla_init_12 rfl (lv_at hl 0 rfl) ?_
  refine lv_bipush (v := 27) hx hb d_Pla_init_13 (by decide) ?_
  refine sg_newi hx hb (hts _ wd_49) hK hw hA 0 rfl (N' := 27) (by decide) (by decide) (by decide) (Nat.le_of_ble_eq_true rfl) (Nat.le_of_ble_eq_true rfl) d_Pla_init_15 (fun q_p0_startTimes H hw => ?_)
  have hw : wk (dC, dI) vwCl A s.heap [[(q_p0, .inr (5, [.ref q_p0_states, .null, .null, .null, .int 0, .int 0]))], [(q_p0_states, .inl (cI, 27, .inl (fun _ => 0)))], [(q_p0_startTimes, .inl (cI, 27, .inl (fun _ => 0)))]] H _ := hw
  refine sg_putF (D := (dC, dI)) (ci := 5) (v := .ref q_p0_startTimes) (ty := .array .int) (C := "JobNets$Plan") (T := T_5) (N := 6) (S1 := [[(q_p0, .inr (5, [.ref q_p0_states, .ref q_p0_startTimes, .null, .null, .int 0, .int 0]))], [(q_p0_states, .inl (cI, 27, .inl (fun _ => 0)))], [(q_p0_startTimes, .inl (cI, 27, .inl (fun _ => 0)))]]) hx hb hts hin_5 ty_5 tok_5 nd_5 hown hK hw 0 rfl rfl 1 (by decide) (hts _ wd_92) rfl rfl hname rfl (by decide +kernel) rfl rfl (Nat.le_of_ble_eq_true rfl) rfl d_Pla_init_17 (fun H locs hw => ?_)
  refine lv_aload_n hx hb d_Pla_init_20 rfl (lv_at hl 0 rfl) ?_
  refine lv_sipush (v := 538) hx hb d_Pla_init_21 (by decide) ?_
  refine sg_newi hx hb (hts _ wd_49) hK hw hA 0 rfl (N' := 538) (by decide) (by decide) (by decide) (Nat.le_of_ble_eq_true rfl) (Nat.le_of_ble_eq_true rfl) d_Pla_init_24 (fun q_p0_loggedJobs H hw => ?_)
  have hw : wk (dC, dI) vwCl A s.heap [[(q_p0, .inr (5, [.ref q_p0_states, .ref q_p0_startTimes, .null, .null, .int 0, .int 0]))], [(q_p0_states, .inl (cI, 27, .inl (fun _ => 0)))], [(q_p0_startTimes, .inl (cI, 27, .inl (fun _ => 0)))], [(q_p0_loggedJobs, .inl (cI, 538, .inl (fun _ => 0)))]] H _ := hw
  refine sg_putF (D := (dC, dI)) (ci := 5) (v := .ref q_p0_loggedJobs) (ty := .array .int) (C := "JobNets$Plan") (T := T_5) (N := 6) (S1 := [[(q_p0, .inr (5, [.ref q_p0_states, .ref q_p0_startTimes, .ref q_p0_loggedJobs, .null, .int 0, .int 0]))], [(q_p0_states, .inl (cI, 27, .inl (fun _ => 0)))], [(q_p0_startTimes, .inl (cI, 27, .inl (fun _ => 0)))], [(q_p0_loggedJobs, .inl (cI, 538, .inl (fun _ => 0)))]]) hx hb hts hin_5 ty_5 tok_5 nd_5 hown hK hw 0 rfl rfl 2 (by decide) (hts _ wd_94) rfl rfl hname rfl (by decide +kernel) rfl rfl (Nat.le_of_ble_eq_true rfl) rfl d_Pla_init_26 (fun H locs hw => ?_)
  refine lv_aload_n hx hb d_Pla_init_29 rfl (lv_at hl 0 rfl) ?_
  refine lv_sipush (v := 538) hx hb d_Pla_init_30 (by decide) ?_
  refine sg_newi hx hb (hts _ wd_49) hK hw hA 0 rfl (N' := 538) (by decide) (by decide) (by decide) (Nat.le_of_ble_eq_true rfl) (Nat.le_of_ble_eq_true rfl) d_Pla_init_33 (fun q_p0_loggedTimes H hw => ?_)
  have hw : wk (dC, dI) vwCl A s.heap [[(q_p0, .inr (5, [.ref q_p0_states, .ref q_p0_startTimes, .ref q_p0_loggedJobs, .null, .int 0, .int 0]))], [(q_p0_states, .inl (cI, 27, .inl (fun _ => 0)))], [(q_p0_startTimes, .inl (cI, 27, .inl (fun _ => 0)))], [(q_p0_loggedJobs, .inl (cI, 538, .inl (fun _ => 0)))], [(q_p0_loggedTimes, .inl (cI, 538, .inl (fun _ => 0)))]] H _ := hw
  refine sg_putF (D := (dC, dI)) (ci := 5) (v := .ref q_p0_loggedTimes) (ty := .array .int) (C := "JobNets$Plan") (T := T_5) (N := 6) (S1 := [[(q_p0, .inr (5, [.ref q_p0_states, .ref q_p0_startTimes, .ref q_p0_loggedJobs, .ref q_p0_loggedTimes, .int 0, .int 0]))], [(q_p0_states, .inl (cI, 27, .inl (fun _ => 0)))], [(q_p0_startTimes, .inl (cI, 27, .inl (fun _ => 0)))], [(q_p0_loggedJobs, .inl (cI, 538, .inl (fun _ => 0)))], [(q_p0_loggedTimes, .inl (cI, 538, .inl (fun _ => 0)))]]) hx hb hts hin_5 ty_5 tok_5 nd_5 hown hK hw 0 rfl rfl 3 (by decide) (hts _ wd_96) rfl rfl hname rfl (by decide +kernel) rfl rfl (Nat.le_of_ble_eq_true rfl) rfl d_Pla_init_35 (fun H locs hw => ?_)
  refine lv_aload_n hx hb d_Pla_init_38 rfl (lv_at hl 0 rfl) ?_
  refine lv_iconst (v := 0) hx hb d_Pla_init_39 (by decide) ?_
  refine sg_put (D := (dC, dI)) (ci := 5) (v := .int 0) (ty := .int) (C := "JobNets$Plan") (T := T_5) (N := 6) (S1 := [[(q_p0, .inr (5, [.ref q_p0_states, .ref q_p0_startTimes, .ref q_p0_loggedJobs, .ref q_p0_loggedTimes, .int 0, .int 0]))], [(q_p0_states, .inl (cI, 27, .inl (fun _ => 0)))], [(q_p0_startTimes, .inl (cI, 27, .inl (fun _ => 0)))], [(q_p0_loggedJobs, .inl (cI, 538, .inl (fun _ => 0)))], [(q_p0_loggedTimes, .inl (cI, 538, .inl (fun _ => 0)))]]) hx hb hts hin_5 ty_5 tok_5 nd_5 hown hK hw 0 rfl rfl 4 (by decide) (hts _ wd_98) rfl rfl (by decide +kernel) rfl rfl (Nat.le_of_ble_eq_true rfl) rfl d_Pla_init_40 (fun H locs hw => ?_)
  refine lv_aload_n hx hb d_Pla_init_43 rfl (lv_at hl 0 rfl) ?_
  refine lv_iconst (v := 0) hx hb d_Pla_init_44 (by decide) ?_
  refine sg_put (D := (dC, dI)) (ci := 5) (v := .int 0) (ty := .int) (C := "JobNets$Plan") (T := T_5) (N := 6) (S1 := [[(q_p0, .inr (5, [.ref q_p0_states, .ref q_p0_startTimes, .ref q_p0_loggedJobs, .ref q_p0_loggedTimes, .int 0, .int 0]))], [(q_p0_states, .inl (cI, 27, .inl (fun _ => 0)))], [(q_p0_startTimes, .inl (cI, 27, .inl (fun _ => 0)))], [(q_p0_loggedJobs, .inl (cI, 538, .inl (fun _ => 0)))], [(q_p0_loggedTimes, .inl (cI, 538, .inl (fun _ => 0)))]]) hx hb hts hin_5 ty_5 tok_5 nd_5 hown hK hw 0 rfl rfl 5 (by decide) (hts _ wd_100) rfl rfl (by decide +kernel) rfl rfl (Nat.le_of_ble_eq_true rfl) rfl d_Pla_init_45 (fun H locs hw => ?_)
  exact sg_cret ([q_p0_states, q_p0_startTimes, q_p0_loggedJobs, q_p0_loggedTimes], []) hx hb hr hlocks hAe hQ hK (hw.sub [0, 1, 2, 3, 4] (by decide) rfl) d_Pla_init_48
theorem d_Pla_jobsIn_0 : decode prog_6_method_4_code 0 = .ok (.iconst 0, 1) := by decide +kernel
theorem d_Pla_jobsIn_1 : decode prog_6_method_4_code 1 = .ok (.istore_n 2, 1) := by decide +kernel
theorem d_Pla_jobsIn_2 : decode prog_6_method_4_code 2 = .ok (.iconst 1, 1) := by decide +kernel
theorem d_Pla_jobsIn_3 : decode prog_6_method_4_code 3 = .ok (.istore_n 3, 1) := by decide +kernel
theorem d_Pla_jobsIn_4 : decode prog_6_method_4_code 4 = .ok (.iload_n 3, 1) := by decide +kernel
theorem d_Pla_jobsIn_5 : decode prog_6_method_4_code 5 = .ok (.aload_n 1, 1) := by decide +kernel
theorem d_Pla_jobsIn_6 : decode prog_6_method_4_code 6 = .ok (.getfield 40, 3) := by decide +kernel
theorem d_Pla_jobsIn_9 : decode prog_6_method_4_code 9 = .ok (.if_icmp .gt 21, 3) := by decide +kernel
theorem d_Pla_jobsIn_12 : decode prog_6_method_4_code 12 = .ok (.aload_n 0, 1) := by decide +kernel
theorem d_Pla_jobsIn_13 : decode prog_6_method_4_code 13 = .ok (.getfield 9, 3) := by decide +kernel
theorem d_Pla_jobsIn_16 : decode prog_6_method_4_code 16 = .ok (.iload_n 3, 1) := by decide +kernel
theorem d_Pla_jobsIn_17 : decode prog_6_method_4_code 17 = .ok (.iaload, 1) := by decide +kernel
theorem d_Pla_jobsIn_18 : decode prog_6_method_4_code 18 = .ok (.ifCond .eq 6, 3) := by decide +kernel
theorem d_Pla_jobsIn_21 : decode prog_6_method_4_code 21 = .ok (.iinc 2 1, 3) := by decide +kernel
theorem d_Pla_jobsIn_24 : decode prog_6_method_4_code 24 = .ok (.iinc 3 1, 3) := by decide +kernel
theorem d_Pla_jobsIn_27 : decode prog_6_method_4_code 27 = .ok (.goto (-23), 3) := by decide +kernel
theorem d_Pla_jobsIn_30 : decode prog_6_method_4_code 30 = .ok (.iload_n 2, 1) := by decide +kernel
theorem d_Pla_jobsIn_31 : decode prog_6_method_4_code 31 = .ok (.ireturn, 1) := by decide +kernel
def md_Pla_jobsIn_F4 (f_p0_states : Nat → Int32) (v_p1_jobs : Int32) (rec4 : Int32 → Int32 → Option (Int32)) (x1 : Int32) (x2 : Int32) : Option (Int32) :=
  (if v_p1_jobs < x1 then (some x2) else (if sg_in x1 27 = true then (if (f_p0_states x1.toNatClampNeg) = 0 then (rec4 (x1 + 1) x2) else (rec4 (x1 + 1) (x2 + 1))) else none))
def md_Pla_jobsIn (N : Nat) (f_p0_states : Nat → Int32) (v_p1_jobs : Int32) : Option (Int32) :=
  (fx2 (md_Pla_jobsIn_F4 f_p0_states v_p1_jobs) N (1 : Int32) (0 : Int32))
abbrev sc_Pla_jobsIn (cI cL cM cZ : ClassId) (q_p0 q_p1 q_p0_states q_p0_startTimes q_p0_loggedJobs q_p0_loggedTimes q_p1_numbers q_p1_needCounts q_p1_needed q_p1_conditions q_p1_allNeeded : Nat) (v_p0_starts : Int32) (v_p0_time : Int32) (f_p0_states : Nat → Int32) (v_p1_jobs : Int32) : List va_W := [[(q_p0, .inr (5, [.ref q_p0_states, .ref q_p0_startTimes, .ref q_p0_loggedJobs, .ref q_p0_loggedTimes, .int v_p0_starts, .int v_p0_time]))], [(q_p0_states, .inl (cI, 27, .inl f_p0_states))], [(q_p1, .inr (4, [.ref q_p1_numbers, .ref q_p1_needCounts, .ref q_p1_needed, .ref q_p1_conditions, .ref q_p1_allNeeded, .int v_p1_jobs]))]]
abbrev rm_Pla_jobsIn : Room := { frames := 0, cells := 0, slots := 0, locals := 0 }
set_option maxHeartbeats 4000000 in
set_option maxRecDepth 100000 in
theorem ct_Pla_jobsIn (l : Launch) (dC : Nat → ClassId) (dI : Nat → Nat → Nat) (cI cL cM cZ : ClassId) (q_p0 q_p1 q_p0_states q_p0_startTimes q_p0_loggedJobs q_p0_loggedTimes q_p1_numbers q_p1_needCounts q_p1_needed q_p1_conditions q_p1_allNeeded : Nat) (v_p0_starts : Int32) (v_p0_time : Int32) (f_p0_states : Nat → Int32) (v_p1_jobs : Int32) (N : Nat) (o : Int32) (hm : md_Pla_jobsIn N f_p0_states v_p1_jobs = some o) : ∀ sz : Nat, Met l y_Pla_jobsIn ws_Pla_jobsIn rm_Pla_jobsIn (cP (dC, dI) vwCl [(cI, .int), (cL, .long), (cM, .array .int), (cZ, .boolean)] [.ref q_p0, .ref q_p1] sz (sc_Pla_jobsIn cI cL cM cZ q_p0 q_p1 q_p0_states q_p0_startTimes q_p0_loggedJobs q_p0_loggedTimes q_p1_numbers q_p1_needCounts q_p1_needed q_p1_conditions q_p1_allNeeded v_p0_starts v_p0_time f_p0_states v_p1_jobs)) (cQi (dC, dI) vwCl [(cI, .int), (cL, .long), (cM, .array .int), (cZ, .boolean)] sz (sc_Pla_jobsIn cI cL cM cZ q_p0 q_p1 q_p0_states q_p0_startTimes q_p0_loggedJobs q_p0_loggedTimes q_p1_numbers q_p1_needCounts q_p1_needed q_p1_conditions q_p1_allNeeded v_p0_starts v_p0_time f_p0_states v_p1_jobs) o (sc_Pla_jobsIn cI cL cM cZ q_p0 q_p1 q_p0_states q_p0_startTimes q_p0_loggedJobs q_p0_loggedTimes q_p1_numbers q_p1_needCounts q_p1_needed q_p1_conditions q_p1_allNeeded v_p0_starts v_p0_time f_p0_states v_p1_jobs)) 0 0 (va_A ((sc_Pla_jobsIn cI cL cM cZ q_p0 q_p1 q_p0_states q_p0_startTimes q_p0_loggedJobs q_p0_loggedTimes q_p1_numbers q_p1_needCounts q_p1_needed q_p1_conditions q_p1_allNeeded v_p0_starts v_p0_time f_p0_states v_p1_jobs)).flatten sz) := by
  refine sg_met (fun sz => cQi (dC, dI) vwCl [(cI, .int), (cL, .long), (cM, .array .int), (cZ, .boolean)] sz (sc_Pla_jobsIn cI cL cM cZ q_p0 q_p1 q_p0_states q_p0_startTimes q_p0_loggedJobs q_p0_loggedTimes q_p1_numbers q_p1_needCounts q_p1_needed q_p1_conditions q_p1_allNeeded v_p0_starts v_p0_time f_p0_states v_p1_jobs) o (sc_Pla_jobsIn cI cL cM cZ q_p0 q_p1 q_p0_states q_p0_startTimes q_p0_loggedJobs q_p0_loggedTimes q_p1_numbers q_p1_needCounts q_p1_needed q_p1_conditions q_p1_allNeeded v_p0_starts v_p0_time f_p0_states v_p1_jobs)) (by decide) (Nat.le_of_ble_eq_true rfl) ?_
  intro p e s m args below meth c A Q ls hx hb hr hts hown hlocks hml hname hK hNW hA hAe hQ hw hl
  have hl : lv_has ls 4 [(0, .ref q_p0), (1, .ref q_p1)] := hl
  have hw : wk (dC, dI) vwCl A s.heap [[(q_p0, .inr (5, [.ref q_p0_states, .ref q_p0_startTimes, .ref q_p0_loggedJobs, .ref q_p0_loggedTimes, .int v_p0_starts, .int v_p0_time]))], [(q_p0_states, .inl (cI, 27, .inl f_p0_states))], [(q_p1, .inr (4, [.ref q_p1_numbers, .ref q_p1_needCounts, .ref q_p1_needed, .ref q_p1_conditions, .ref q_p1_allNeeded, .int v_p1_jobs]))]] s.heap [] := hw
  unfold md_Pla_jobsIn at hm
  refine lv_iconst (v := 0) hx hb d_Pla_jobsIn_0 (by decide) ?_
  refine lv_istore_n (lv' := [(2, .int (0 : Int32)), (0, .ref q_p0), (1, .ref q_p1)]) hx hb d_Pla_jobsIn_1 rfl hl (by decide) rfl (fun ls hl => ?_)
  refine lv_iconst (v := 1) hx hb d_Pla_jobsIn_2 (by decide) ?_
  refine lv_istore_n (lv' := [(3, .int (1 : Int32)), (2, .int (0 : Int32)), (0, .ref q_p0), (1, .ref q_p1)]) hx hb d_Pla_jobsIn_3 rfl hl (by decide) rfl (fun ls hl => ?_)
  obtain ⟨Fn4, hFn4, hm⟩ := fx2_x hm
  have L4 : ∀ (n : Nat) (x1 : Int32) (x2 : Int32), fx2 Fn4 n x1 x2 = some o → ∀ (H : Heap) (locs : List Loc) (ls : Array Slot), wk (dC, dI) vwCl A s.heap [[(q_p0, .inr (5, [.ref q_p0_states, .ref q_p0_startTimes, .ref q_p0_loggedJobs, .ref q_p0_loggedTimes, .int v_p0_starts, .int v_p0_time]))], [(q_p0_states, .inl (cI, 27, .inl f_p0_states))], [(q_p1, .inr (4, [.ref q_p1_numbers, .ref q_p1_needCounts, .ref q_p1_needed, .ref q_p1_conditions, .ref q_p1_allNeeded, .int v_p1_jobs]))]] H locs → lv_has ls 4 [(3, .int x1), (2, .int x2), (0, .ref q_p0), (1, .ref q_p1)] → W p l e rm_Pla_jobsIn s m args below meth c H locs 0 0 Q (F0 m 4 ls []) := by
    intro n
    induction n with
    | zero => intro x1 x2 hm; exact (fx2_0 hm).elim
    | succ n ih4 =>
      intro x1 x2 hm H locs ls hw hl
      have hm := fx2_s hFn4 hm
      unfold md_Pla_jobsIn_F4 at hm
      refine lv_iload_n hx hb d_Pla_jobsIn_4 rfl (lv_at hl 0 rfl) ?_
      refine lv_aload_n hx hb d_Pla_jobsIn_5 rfl (lv_at hl 3 rfl) ?_
      refine sg_getN (D := (dC, dI)) (ci := 4) (v := .int v_p1_jobs) (C := "JobNets$Net") (T := T_4) (N := 6) hx hb hts hin_4 hown hK hw 2 rfl rfl 5 (by decide) (nF_27 hNW) rfl rfl d_Pla_jobsIn_6 ?_
      refine bq_t (lv_icmp_gt (tgt := 30) hx hb d_Pla_jobsIn_9 (by decide)) hm (fun hm => ?_) (fun hm => ?_)
      · refine lv_iload_n hx hb d_Pla_jobsIn_30 rfl (lv_at hl 1 rfl) ?_
        exact so_iret (rf := fun z_ => z_) (Sf := fun z_ => sc_Pla_jobsIn cI cL cM cZ q_p0 q_p1 q_p0_states q_p0_startTimes q_p0_loggedJobs q_p0_loggedTimes q_p1_numbers q_p1_needCounts q_p1_needed q_p1_conditions q_p1_allNeeded v_p0_starts v_p0_time f_p0_states v_p1_jobs) hm hx hb hr hlocks hAe hQ hK hw rfl d_Pla_jobsIn_31
      · refine lv_aload_n hx hb d_Pla_jobsIn_12 rfl (lv_at hl 2 rfl) ?_
        refine sg_get (D := (dC, dI)) (ci := 5) (v := .ref q_p0_states) (C := "JobNets$Plan") (T := T_5) (N := 6) hx hb hts hin_5 hown hK hw 0 rfl rfl 0 (by decide) (hts _ wd_90) rfl rfl d_Pla_jobsIn_13 ?_
        refine lv_iload_n hx hb d_Pla_jobsIn_16 rfl (lv_at hl 0 rfl) ?_
        refine sg_iald hx hb hK hw 1 0 rfl rfl d_Pla_jobsIn_17 hm (fun hm => ?_)
        refine bq_t (lv_if_eq (tgt := 24) hx hb d_Pla_jobsIn_18 (by decide)) hm (fun hm => ?_) (fun hm => ?_)
        · refine lv_iinc (v := x1 + 1) (lv' := [(3, .int (x1 + 1)), (2, .int x2), (0, .ref q_p0), (1, .ref q_p1)]) hx hb d_Pla_jobsIn_24 hl (k := 0) rfl rfl (by decide) rfl (fun ls hl => ?_)
          refine lv_goto (tgt := 4) hx hb d_Pla_jobsIn_27 (by decide) ?_
          exact ih4 (x1 + 1) x2 hm _ _ _ hw hl
        · refine lv_iinc (v := x2 + 1) (lv' := [(2, .int (x2 + 1)), (3, .int x1), (0, .ref q_p0), (1, .ref q_p1)]) hx hb d_Pla_jobsIn_21 hl (k := 1) rfl rfl (by decide) rfl (fun ls hl => ?_)
          refine lv_iinc (v := x1 + 1) (lv' := [(3, .int (x1 + 1)), (2, .int (x2 + 1)), (0, .ref q_p0), (1, .ref q_p1)]) hx hb d_Pla_jobsIn_24 hl (k := 1) rfl rfl (by decide) rfl (fun ls hl => ?_)
          refine lv_goto (tgt := 4) hx hb d_Pla_jobsIn_27 (by decide) ?_
          exact ih4 (x1 + 1) (x2 + 1) hm _ _ _ hw hl
  exact L4 _ _ _ hm _ _ _ hw hl
theorem d_Pla_running_0 : decode prog_6_method_5_code 0 = .ok (.iconst 0, 1) := by decide +kernel
theorem d_Pla_running_1 : decode prog_6_method_5_code 1 = .ok (.istore_n 2, 1) := by decide +kernel
theorem d_Pla_running_2 : decode prog_6_method_5_code 2 = .ok (.iconst 1, 1) := by decide +kernel
theorem d_Pla_running_3 : decode prog_6_method_5_code 3 = .ok (.istore_n 3, 1) := by decide +kernel
theorem d_Pla_running_4 : decode prog_6_method_5_code 4 = .ok (.iload_n 3, 1) := by decide +kernel
theorem d_Pla_running_5 : decode prog_6_method_5_code 5 = .ok (.aload_n 1, 1) := by decide +kernel
theorem d_Pla_running_6 : decode prog_6_method_5_code 6 = .ok (.getfield 40, 3) := by decide +kernel
theorem d_Pla_running_9 : decode prog_6_method_5_code 9 = .ok (.if_icmp .gt 22, 3) := by decide +kernel
theorem d_Pla_running_12 : decode prog_6_method_5_code 12 = .ok (.aload_n 0, 1) := by decide +kernel
theorem d_Pla_running_13 : decode prog_6_method_5_code 13 = .ok (.getfield 9, 3) := by decide +kernel
theorem d_Pla_running_16 : decode prog_6_method_5_code 16 = .ok (.iload_n 3, 1) := by decide +kernel
theorem d_Pla_running_17 : decode prog_6_method_5_code 17 = .ok (.iaload, 1) := by decide +kernel
theorem d_Pla_running_18 : decode prog_6_method_5_code 18 = .ok (.iconst 2, 1) := by decide +kernel
theorem d_Pla_running_19 : decode prog_6_method_5_code 19 = .ok (.if_icmp .ne 6, 3) := by decide +kernel
theorem d_Pla_running_22 : decode prog_6_method_5_code 22 = .ok (.iinc 2 1, 3) := by decide +kernel
theorem d_Pla_running_25 : decode prog_6_method_5_code 25 = .ok (.iinc 3 1, 3) := by decide +kernel
theorem d_Pla_running_28 : decode prog_6_method_5_code 28 = .ok (.goto (-24), 3) := by decide +kernel
theorem d_Pla_running_31 : decode prog_6_method_5_code 31 = .ok (.iload_n 2, 1) := by decide +kernel
theorem d_Pla_running_32 : decode prog_6_method_5_code 32 = .ok (.ireturn, 1) := by decide +kernel
def md_Pla_running_F4 (f_p0_states : Nat → Int32) (v_p1_jobs : Int32) (rec4 : Int32 → Int32 → Option (Int32)) (x1 : Int32) (x2 : Int32) : Option (Int32) :=
  (if v_p1_jobs < x1 then (some x2) else (if sg_in x1 27 = true then (if (f_p0_states x1.toNatClampNeg) = (2 : Int32) then (rec4 (x1 + 1) (x2 + 1)) else (rec4 (x1 + 1) x2)) else none))
def md_Pla_running (N : Nat) (f_p0_states : Nat → Int32) (v_p1_jobs : Int32) : Option (Int32) :=
  (fx2 (md_Pla_running_F4 f_p0_states v_p1_jobs) N (1 : Int32) (0 : Int32))
abbrev sc_Pla_running (cI cL cM cZ : ClassId) (q_p0 q_p1 q_p0_states q_p0_startTimes q_p0_loggedJobs q_p0_loggedTimes q_p1_numbers q_p1_needCounts q_p1_needed q_p1_conditions q_p1_allNeeded : Nat) (v_p0_starts : Int32) (v_p0_time : Int32) (f_p0_states : Nat → Int32) (v_p1_jobs : Int32) : List va_W := [[(q_p0, .inr (5, [.ref q_p0_states, .ref q_p0_startTimes, .ref q_p0_loggedJobs, .ref q_p0_loggedTimes, .int v_p0_starts, .int v_p0_time]))], [(q_p0_states, .inl (cI, 27, .inl f_p0_states))], [(q_p1, .inr (4, [.ref q_p1_numbers, .ref q_p1_needCounts, .ref q_p1_needed, .ref q_p1_conditions, .ref q_p1_allNeeded, .int v_p1_jobs]))]]
abbrev rm_Pla_running : Room := { frames := 0, cells := 0, slots := 0, locals := 0 }
set_option maxHeartbeats 4000000 in
set_option maxRecDepth 100000 in
theorem ct_Pla_running (l : Launch) (dC : Nat → ClassId) (dI : Nat → Nat → Nat) (cI cL cM cZ : ClassId) (q_p0 q_p1 q_p0_states q_p0_startTimes q_p0_loggedJobs q_p0_loggedTimes q_p1_numbers q_p1_needCounts q_p1_needed q_p1_conditions q_p1_allNeeded : Nat) (v_p0_starts : Int32) (v_p0_time : Int32) (f_p0_states : Nat → Int32) (v_p1_jobs : Int32) (N : Nat) (o : Int32) (hm : md_Pla_running N f_p0_states v_p1_jobs = some o) : ∀ sz : Nat, Met l y_Pla_running ws_Pla_running rm_Pla_running (cP (dC, dI) vwCl [(cI, .int), (cL, .long), (cM, .array .int), (cZ, .boolean)] [.ref q_p0, .ref q_p1] sz (sc_Pla_running cI cL cM cZ q_p0 q_p1 q_p0_states q_p0_startTimes q_p0_loggedJobs q_p0_loggedTimes q_p1_numbers q_p1_needCounts q_p1_needed q_p1_conditions q_p1_allNeeded v_p0_starts v_p0_time f_p0_states v_p1_jobs)) (cQi (dC, dI) vwCl [(cI, .int), (cL, .long), (cM, .array .int), (cZ, .boolean)] sz (sc_Pla_running cI cL cM cZ q_p0 q_p1 q_p0_states q_p0_startTimes q_p0_loggedJobs q_p0_loggedTimes q_p1_numbers q_p1_needCounts q_p1_needed q_p1_conditions q_p1_allNeeded v_p0_starts v_p0_time f_p0_states v_p1_jobs) o (sc_Pla_running cI cL cM cZ q_p0 q_p1 q_p0_states q_p0_startTimes q_p0_loggedJobs q_p0_loggedTimes q_p1_numbers q_p1_needCounts q_p1_needed q_p1_conditions q_p1_allNeeded v_p0_starts v_p0_time f_p0_states v_p1_jobs)) 0 0 (va_A ((sc_Pla_running cI cL cM cZ q_p0 q_p1 q_p0_states q_p0_startTimes q_p0_loggedJobs q_p0_loggedTimes q_p1_numbers q_p1_needCounts q_p1_needed q_p1_conditions q_p1_allNeeded v_p0_starts v_p0_time f_p0_states v_p1_jobs)).flatten sz) := by
  refine sg_met (fun sz => cQi (dC, dI) vwCl [(cI, .int), (cL, .long), (cM, .array .int), (cZ, .boolean)] sz (sc_Pla_running cI cL cM cZ q_p0 q_p1 q_p0_states q_p0_startTimes q_p0_loggedJobs q_p0_loggedTimes q_p1_numbers q_p1_needCounts q_p1_needed q_p1_conditions q_p1_allNeeded v_p0_starts v_p0_time f_p0_states v_p1_jobs) o (sc_Pla_running cI cL cM cZ q_p0 q_p1 q_p0_states q_p0_startTimes q_p0_loggedJobs q_p0_loggedTimes q_p1_numbers q_p1_needCounts q_p1_needed q_p1_conditions q_p1_allNeeded v_p0_starts v_p0_time f_p0_states v_p1_jobs)) (by decide) (Nat.le_of_ble_eq_true rfl) ?_
  intro p e s m args below meth c A Q ls hx hb hr hts hown hlocks hml hname hK hNW hA hAe hQ hw hl
  have hl : lv_has ls 4 [(0, .ref q_p0), (1, .ref q_p1)] := hl
  have hw : wk (dC, dI) vwCl A s.heap [[(q_p0, .inr (5, [.ref q_p0_states, .ref q_p0_startTimes, .ref q_p0_loggedJobs, .ref q_p0_loggedTimes, .int v_p0_starts, .int v_p0_time]))], [(q_p0_states, .inl (cI, 27, .inl f_p0_states))], [(q_p1, .inr (4, [.ref q_p1_numbers, .ref q_p1_needCounts, .ref q_p1_needed, .ref q_p1_conditions, .ref q_p1_allNeeded, .int v_p1_jobs]))]] s.heap [] := hw
  unfold md_Pla_running at hm
  refine lv_iconst (v := 0) hx hb d_Pla_running_0 (by decide) ?_
  refine lv_istore_n (lv' := [(2, .int (0 : Int32)), (0, .ref q_p0), (1, .ref q_p1)]) hx hb d_Pla_running_1 rfl hl (by decide) rfl (fun ls hl => ?_)
  refine lv_iconst (v := 1) hx hb d_Pla_running_2 (by decide) ?_
  refine lv_istore_n (lv' := [(3, .int (1 : Int32)), (2, .int (0 : Int32)), (0, .ref q_p0), (1, .ref q_p1)]) hx hb d_Pla_running_3 rfl hl (by decide) rfl (fun ls hl => ?_)
  obtain ⟨Fn4, hFn4, hm⟩ := fx2_x hm
  have L4 : ∀ (n : Nat) (x1 : Int32) (x2 : Int32), fx2 Fn4 n x1 x2 = some o → ∀ (H : Heap) (locs : List Loc) (ls : Array Slot), wk (dC, dI) vwCl A s.heap [[(q_p0, .inr (5, [.ref q_p0_states, .ref q_p0_startTimes, .ref q_p0_loggedJobs, .ref q_p0_loggedTimes, .int v_p0_starts, .int v_p0_time]))], [(q_p0_states, .inl (cI, 27, .inl f_p0_states))], [(q_p1, .inr (4, [.ref q_p1_numbers, .ref q_p1_needCounts, .ref q_p1_needed, .ref q_p1_conditions, .ref q_p1_allNeeded, .int v_p1_jobs]))]] H locs → lv_has ls 4 [(3, .int x1), (2, .int x2), (0, .ref q_p0), (1, .ref q_p1)] → W p l e rm_Pla_running s m args below meth c H locs 0 0 Q (F0 m 4 ls []) := by
    intro n
    induction n with
    | zero => intro x1 x2 hm; exact (fx2_0 hm).elim
    | succ n ih4 =>
      intro x1 x2 hm H locs ls hw hl
      have hm := fx2_s hFn4 hm
      unfold md_Pla_running_F4 at hm
      refine lv_iload_n hx hb d_Pla_running_4 rfl (lv_at hl 0 rfl) ?_
      refine lv_aload_n hx hb d_Pla_running_5 rfl (lv_at hl 3 rfl) ?_
      refine sg_getN (D := (dC, dI)) (ci := 4) (v := .int v_p1_jobs) (C := "JobNets$Net") (T := T_4) (N := 6) hx hb hts hin_4 hown hK hw 2 rfl rfl 5 (by decide) (nF_27 hNW) rfl rfl d_Pla_running_6 ?_
      refine bq_t (lv_icmp_gt (tgt := 31) hx hb d_Pla_running_9 (by decide)) hm (fun hm => ?_) (fun hm => ?_)
      · refine lv_iload_n hx hb d_Pla_running_31 rfl (lv_at hl 1 rfl) ?_
        exact so_iret (rf := fun z_ => z_) (Sf := fun z_ => sc_Pla_running cI cL cM cZ q_p0 q_p1 q_p0_states q_p0_startTimes q_p0_loggedJobs q_p0_loggedTimes q_p1_numbers q_p1_needCounts q_p1_needed q_p1_conditions q_p1_allNeeded v_p0_starts v_p0_time f_p0_states v_p1_jobs) hm hx hb hr hlocks hAe hQ hK hw rfl d_Pla_running_32
      · refine lv_aload_n hx hb d_Pla_running_12 rfl (lv_at hl 2 rfl) ?_
        refine sg_get (D := (dC, dI)) (ci := 5) (v := .ref q_p0_states) (C := "JobNets$Plan") (T := T_5) (N := 6) hx hb hts hin_5 hown hK hw 0 rfl rfl 0 (by decide) (hts _ wd_90) rfl rfl d_Pla_running_13 ?_
        refine lv_iload_n hx hb d_Pla_running_16 rfl (lv_at hl 0 rfl) ?_
        refine sg_iald hx hb hK hw 1 0 rfl rfl d_Pla_running_17 hm (fun hm => ?_)
        refine lv_iconst (v := 2) hx hb d_Pla_running_18 (by decide) ?_
        refine bq_n (lv_icmp_ne (tgt := 25) hx hb d_Pla_running_19 (by decide)) hm (fun hm => ?_) (fun hm => ?_)
        · refine lv_iinc (v := x1 + 1) (lv' := [(3, .int (x1 + 1)), (2, .int x2), (0, .ref q_p0), (1, .ref q_p1)]) hx hb d_Pla_running_25 hl (k := 0) rfl rfl (by decide) rfl (fun ls hl => ?_)
          refine lv_goto (tgt := 4) hx hb d_Pla_running_28 (by decide) ?_
          exact ih4 (x1 + 1) x2 hm _ _ _ hw hl
        · refine lv_iinc (v := x2 + 1) (lv' := [(2, .int (x2 + 1)), (3, .int x1), (0, .ref q_p0), (1, .ref q_p1)]) hx hb d_Pla_running_22 hl (k := 1) rfl rfl (by decide) rfl (fun ls hl => ?_)
          refine lv_iinc (v := x1 + 1) (lv' := [(3, .int (x1 + 1)), (2, .int (x2 + 1)), (0, .ref q_p0), (1, .ref q_p1)]) hx hb d_Pla_running_25 hl (k := 1) rfl rfl (by decide) rfl (fun ls hl => ?_)
          refine lv_goto (tgt := 4) hx hb d_Pla_running_28 (by decide) ?_
          exact ih4 (x1 + 1) (x2 + 1) hm _ _ _ hw hl
  exact L4 _ _ _ hm _ _ _ hw hl
theorem d_Pla_isSo_0 : decode prog_6_method_9_code 0 = .ok (.iload_n 0, 1) := by decide +kernel
theorem d_Pla_isSo_1 : decode prog_6_method_9_code 1 = .ok (.tableswitch 58 0 4 #[35, 58, 58, 37, 48], 35) := by decide +kernel
theorem d_Pla_isSo_36 : decode prog_6_method_9_code 36 = .ok (.iconst 1, 1) := by decide +kernel
theorem d_Pla_isSo_37 : decode prog_6_method_9_code 37 = .ok (.ireturn, 1) := by decide +kernel
theorem d_Pla_isSo_38 : decode prog_6_method_9_code 38 = .ok (.iload_n 1, 1) := by decide +kernel
theorem d_Pla_isSo_39 : decode prog_6_method_9_code 39 = .ok (.iconst 1, 1) := by decide +kernel
theorem d_Pla_isSo_40 : decode prog_6_method_9_code 40 = .ok (.if_icmp .eq 7, 3) := by decide +kernel
theorem d_Pla_isSo_43 : decode prog_6_method_9_code 43 = .ok (.iconst 1, 1) := by decide +kernel
theorem d_Pla_isSo_44 : decode prog_6_method_9_code 44 = .ok (.goto 4, 3) := by decide +kernel
theorem d_Pla_isSo_47 : decode prog_6_method_9_code 47 = .ok (.iconst 0, 1) := by decide +kernel
theorem d_Pla_isSo_48 : decode prog_6_method_9_code 48 = .ok (.ireturn, 1) := by decide +kernel
theorem d_Pla_isSo_49 : decode prog_6_method_9_code 49 = .ok (.iload_n 1, 1) := by decide +kernel
theorem d_Pla_isSo_50 : decode prog_6_method_9_code 50 = .ok (.ifCond .eq 7, 3) := by decide +kernel
theorem d_Pla_isSo_53 : decode prog_6_method_9_code 53 = .ok (.iconst 1, 1) := by decide +kernel
theorem d_Pla_isSo_54 : decode prog_6_method_9_code 54 = .ok (.goto 4, 3) := by decide +kernel
theorem d_Pla_isSo_57 : decode prog_6_method_9_code 57 = .ok (.iconst 0, 1) := by decide +kernel
theorem d_Pla_isSo_58 : decode prog_6_method_9_code 58 = .ok (.ireturn, 1) := by decide +kernel
theorem d_Pla_isSo_59 : decode prog_6_method_9_code 59 = .ok (.iconst 0, 1) := by decide +kernel
theorem d_Pla_isSo_60 : decode prog_6_method_9_code 60 = .ok (.ireturn, 1) := by decide +kernel
def md_Pla_isSo (N : Nat) (a0_x : Int32) (a1_x : Int32) : Option (Int32) :=
  (if a0_x = (0 : Int32) then (some (1 : Int32)) else (if a0_x = (1 : Int32) then (some (0 : Int32)) else (if a0_x = (2 : Int32) then (some (0 : Int32)) else (if a0_x = (3 : Int32) then (if a1_x = (1 : Int32) then (some (0 : Int32)) else (some (1 : Int32))) else (if a0_x = (4 : Int32) then (if a1_x = 0 then (some (0 : Int32)) else (some (1 : Int32))) else (some (0 : Int32)))))))
abbrev sc_Pla_isSo (cI cL cM cZ : ClassId) : List va_W := []
abbrev rm_Pla_isSo : Room := { frames := 0, cells := 0, slots := 0, locals := 0 }
set_option maxHeartbeats 4000000 in
set_option maxRecDepth 100000 in
theorem ct_Pla_isSo (l : Launch) (dC : Nat → ClassId) (dI : Nat → Nat → Nat) (cI cL cM cZ : ClassId) (a0_x : Int32) (a1_x : Int32) (N : Nat) (o : Int32) (hm : md_Pla_isSo N a0_x a1_x = some o) : ∀ sz : Nat, Met l y_Pla_isSo ws_Pla_isSo rm_Pla_isSo (cP (dC, dI) vwCl [(cI, .int), (cL, .long), (cM, .array .int), (cZ, .boolean)] [.int a0_x, .int a1_x] sz (sc_Pla_isSo cI cL cM cZ)) (cQi (dC, dI) vwCl [(cI, .int), (cL, .long), (cM, .array .int), (cZ, .boolean)] sz (sc_Pla_isSo cI cL cM cZ) o (sc_Pla_isSo cI cL cM cZ)) 0 0 (va_A ((sc_Pla_isSo cI cL cM cZ)).flatten sz) := by
  refine sg_met (fun sz => cQi (dC, dI) vwCl [(cI, .int), (cL, .long), (cM, .array .int), (cZ, .boolean)] sz (sc_Pla_isSo cI cL cM cZ) o (sc_Pla_isSo cI cL cM cZ)) (by decide) (Nat.le_of_ble_eq_true rfl) ?_
  intro p e s m args below meth c A Q ls hx hb hr hts hown hlocks hml hname hK hNW hA hAe hQ hw hl
  have hl : lv_has ls 2 [(0, .int a0_x), (1, .int a1_x)] := hl
  have hw : wk (dC, dI) vwCl A s.heap [] s.heap [] := hw
  unfold md_Pla_isSo at hm
  refine lv_iload_n hx hb d_Pla_isSo_0 rfl (lv_at hl 0 rfl) ?_
  refine it_c hm (fun hc1 hm => ?_) (fun hc1 hm => ?_)
  · refine lv_tableIn (tgt := 36) hx hb d_Pla_isSo_1 (by rw [hc1]; decide) (by rw [hc1]; decide) (by rw [hc1]; rfl) (by decide) ?_
    refine lv_iconst (v := 1) hx hb d_Pla_isSo_36 (by decide) ?_
    exact so_zret (rf := fun z_ => z_) (Sf := fun z_ => sc_Pla_isSo cI cL cM cZ) hm hx hb hr rfl hlocks hAe hQ hK hw rfl d_Pla_isSo_37
  · skip
    refine it_c hm (fun hc2 hm => ?_) (fun hc2 hm => ?_)
    · refine lv_tableIn (tgt := 59) hx hb d_Pla_isSo_1 (by rw [hc2]; decide) (by rw [hc2]; decide) (by rw [hc2]; rfl) (by decide) ?_
      refine lv_iconst (v := 0) hx hb d_Pla_isSo_59 (by decide) ?_
      exact so_zret (rf := fun z_ => z_) (Sf := fun z_ => sc_Pla_isSo cI cL cM cZ) hm hx hb hr rfl hlocks hAe hQ hK hw rfl d_Pla_isSo_60
    · skip
      refine it_c hm (fun hc3 hm => ?_) (fun hc3 hm => ?_)
      · refine lv_tableIn (tgt := 59) hx hb d_Pla_isSo_1 (by rw [hc3]; decide) (by rw [hc3]; decide) (by rw [hc3]; rfl) (by decide) ?_
        refine lv_iconst (v := 0) hx hb d_Pla_isSo_59 (by decide) ?_
        exact so_zret (rf := fun z_ => z_) (Sf := fun z_ => sc_Pla_isSo cI cL cM cZ) hm hx hb hr rfl hlocks hAe hQ hK hw rfl d_Pla_isSo_60
      · skip
        refine it_c hm (fun hc4 hm => ?_) (fun hc4 hm => ?_)
        · refine lv_tableIn (tgt := 38) hx hb d_Pla_isSo_1 (by rw [hc4]; decide) (by rw [hc4]; decide) (by rw [hc4]; rfl) (by decide) ?_
          refine lv_iload_n hx hb d_Pla_isSo_38 rfl (lv_at hl 1 rfl) ?_
          refine lv_iconst (v := 1) hx hb d_Pla_isSo_39 (by decide) ?_
          refine bq_t (lv_icmp_eq (tgt := 47) hx hb d_Pla_isSo_40 (by decide)) hm (fun hm => ?_) (fun hm => ?_)
          · refine lv_iconst (v := 0) hx hb d_Pla_isSo_47 (by decide) ?_
            exact so_zret (rf := fun z_ => z_) (Sf := fun z_ => sc_Pla_isSo cI cL cM cZ) hm hx hb hr rfl hlocks hAe hQ hK hw rfl d_Pla_isSo_48
          · refine lv_iconst (v := 1) hx hb d_Pla_isSo_43 (by decide) ?_
            refine lv_goto (tgt := 48) hx hb d_Pla_isSo_44 (by decide) ?_
            exact so_zret (rf := fun z_ => z_) (Sf := fun z_ => sc_Pla_isSo cI cL cM cZ) hm hx hb hr rfl hlocks hAe hQ hK hw rfl d_Pla_isSo_48
        · skip
          refine it_c hm (fun hc5 hm => ?_) (fun hc5 hm => ?_)
          · refine lv_tableIn (tgt := 49) hx hb d_Pla_isSo_1 (by rw [hc5]; decide) (by rw [hc5]; decide) (by rw [hc5]; rfl) (by decide) ?_
            refine lv_iload_n hx hb d_Pla_isSo_49 rfl (lv_at hl 1 rfl) ?_
            refine bq_t (lv_if_eq (tgt := 57) hx hb d_Pla_isSo_50 (by decide)) hm (fun hm => ?_) (fun hm => ?_)
            · refine lv_iconst (v := 0) hx hb d_Pla_isSo_57 (by decide) ?_
              exact so_zret (rf := fun z_ => z_) (Sf := fun z_ => sc_Pla_isSo cI cL cM cZ) hm hx hb hr rfl hlocks hAe hQ hK hw rfl d_Pla_isSo_58
            · refine lv_iconst (v := 1) hx hb d_Pla_isSo_53 (by decide) ?_
              refine lv_goto (tgt := 58) hx hb d_Pla_isSo_54 (by decide) ?_
              exact so_zret (rf := fun z_ => z_) (Sf := fun z_ => sc_Pla_isSo cI cL cM cZ) hm hx hb hr rfl hlocks hAe hQ hK hw rfl d_Pla_isSo_58
          · skip
            refine lv_tableOut (tgt := 59) hx hb d_Pla_isSo_1 (by have mhc1 := i32_nk (0) (0) (by decide) hc1; have mhc2 := i32_nk (1) (1) (by decide) hc2; have mhc3 := i32_nk (2) (2) (by decide) hc3; have mhc4 := i32_nk (3) (3) (by decide) hc4; have mhc5 := i32_nk (4) (4) (by decide) hc5; omega) (by decide) ?_
            refine lv_iconst (v := 0) hx hb d_Pla_isSo_59 (by decide) ?_
            exact so_zret (rf := fun z_ => z_) (Sf := fun z_ => sc_Pla_isSo cI cL cM cZ) hm hx hb hr rfl hlocks hAe hQ hK hw rfl d_Pla_isSo_60
theorem d_Pla_start_0 : decode prog_6_method_10_code 0 = .ok (.aload_n 0, 1) := by decide +kernel
theorem d_Pla_start_1 : decode prog_6_method_10_code 1 = .ok (.getfield 9, 3) := by decide +kernel
theorem d_Pla_start_4 : decode prog_6_method_10_code 4 = .ok (.iload_n 1, 1) := by decide +kernel
theorem d_Pla_start_5 : decode prog_6_method_10_code 5 = .ok (.iconst 2, 1) := by decide +kernel
theorem d_Pla_start_6 : decode prog_6_method_10_code 6 = .ok (.iastore, 1) := by decide +kernel
theorem d_Pla_start_7 : decode prog_6_method_10_code 7 = .ok (.aload_n 0, 1) := by decide +kernel
theorem d_Pla_start_8 : decode prog_6_method_10_code 8 = .ok (.getfield 15, 3) := by decide +kernel
theorem d_Pla_start_11 : decode prog_6_method_10_code 11 = .ok (.iload_n 1, 1) := by decide +kernel
theorem d_Pla_start_12 : decode prog_6_method_10_code 12 = .ok (.aload_n 0, 1) := by decide +kernel
theorem d_Pla_start_13 : decode prog_6_method_10_code 13 = .ok (.getfield 28, 3) := by decide +kernel
theorem d_Pla_start_16 : decode prog_6_method_10_code 16 = .ok (.iastore, 1) := by decide +kernel
theorem d_Pla_start_17 : decode prog_6_method_10_code 17 = .ok (.aload_n 0, 1) := by decide +kernel
theorem d_Pla_start_18 : decode prog_6_method_10_code 18 = .ok (.getfield 24, 3) := by decide +kernel
theorem d_Pla_start_21 : decode prog_6_method_10_code 21 = .ok (.sipush 538, 3) := by decide +kernel
theorem d_Pla_start_24 : decode prog_6_method_10_code 24 = .ok (.if_icmp .ge 36, 3) := by decide +kernel
theorem d_Pla_start_27 : decode prog_6_method_10_code 27 = .ok (.aload_n 0, 1) := by decide +kernel
theorem d_Pla_start_28 : decode prog_6_method_10_code 28 = .ok (.getfield 18, 3) := by decide +kernel
theorem d_Pla_start_31 : decode prog_6_method_10_code 31 = .ok (.aload_n 0, 1) := by decide +kernel
theorem d_Pla_start_32 : decode prog_6_method_10_code 32 = .ok (.getfield 24, 3) := by decide +kernel
theorem d_Pla_start_35 : decode prog_6_method_10_code 35 = .ok (.iload_n 1, 1) := by decide +kernel
theorem d_Pla_start_36 : decode prog_6_method_10_code 36 = .ok (.iastore, 1) := by decide +kernel
theorem d_Pla_start_37 : decode prog_6_method_10_code 37 = .ok (.aload_n 0, 1) := by decide +kernel
theorem d_Pla_start_38 : decode prog_6_method_10_code 38 = .ok (.getfield 21, 3) := by decide +kernel
theorem d_Pla_start_41 : decode prog_6_method_10_code 41 = .ok (.aload_n 0, 1) := by decide +kernel
theorem d_Pla_start_42 : decode prog_6_method_10_code 42 = .ok (.getfield 24, 3) := by decide +kernel
theorem d_Pla_start_45 : decode prog_6_method_10_code 45 = .ok (.aload_n 0, 1) := by decide +kernel
theorem d_Pla_start_46 : decode prog_6_method_10_code 46 = .ok (.getfield 28, 3) := by decide +kernel
theorem d_Pla_start_49 : decode prog_6_method_10_code 49 = .ok (.iastore, 1) := by decide +kernel
theorem d_Pla_start_50 : decode prog_6_method_10_code 50 = .ok (.aload_n 0, 1) := by decide +kernel
theorem d_Pla_start_51 : decode prog_6_method_10_code 51 = .ok (.dup, 1) := by decide +kernel
theorem d_Pla_start_52 : decode prog_6_method_10_code 52 = .ok (.getfield 24, 3) := by decide +kernel
theorem d_Pla_start_55 : decode prog_6_method_10_code 55 = .ok (.iconst 1, 1) := by decide +kernel
theorem d_Pla_start_56 : decode prog_6_method_10_code 56 = .ok (.iadd, 1) := by decide +kernel
theorem d_Pla_start_57 : decode prog_6_method_10_code 57 = .ok (.putfield 24, 3) := by decide +kernel
theorem d_Pla_start_60 : decode prog_6_method_10_code 60 = .ok (.return_, 1) := by decide +kernel
def md_Pla_start (N : Nat) (v_p0_starts : Int32) (v_p0_time : Int32) (f_p0_states : Nat → Int32) (f_p0_startTimes : Nat → Int32) (f_p0_loggedJobs : Nat → Int32) (f_p0_loggedTimes : Nat → Int32) (a1_x : Int32) : Option (Int32 × (Nat → Int32) × (Nat → Int32) × (Nat → Int32) × (Nat → Int32)) :=
  (if sg_in a1_x 27 = true then zl (upd f_p0_states a1_x.toNatClampNeg (2 : Int32)) (fun f1 => (if sg_in a1_x 27 = true then zl (upd f_p0_startTimes a1_x.toNatClampNeg v_p0_time) (fun f2 => (if (538 : Int32) ≤ v_p0_starts then (some (v_p0_starts, f1, f2, f_p0_loggedJobs, f_p0_loggedTimes)) else (if sg_in v_p0_starts 538 = true then zl (upd f_p0_loggedJobs v_p0_starts.toNatClampNeg a1_x) (fun f3 => (if sg_in v_p0_starts 538 = true then zl (upd f_p0_loggedTimes v_p0_starts.toNatClampNeg v_p0_time) (fun f4 => (some (v_p0_starts + (1 : Int32), f1, f2, f3, f4))) else none)) else none))) else none)) else none)
abbrev sc_Pla_start (cI cL cM cZ : ClassId) (q_p0 q_p0_states q_p0_startTimes q_p0_loggedJobs q_p0_loggedTimes : Nat) (v_p0_starts : Int32) (v_p0_time : Int32) (f_p0_states : Nat → Int32) (f_p0_startTimes : Nat → Int32) (f_p0_loggedJobs : Nat → Int32) (f_p0_loggedTimes : Nat → Int32) : List va_W := [[(q_p0, .inr (5, [.ref q_p0_states, .ref q_p0_startTimes, .ref q_p0_loggedJobs, .ref q_p0_loggedTimes, .int v_p0_starts, .int v_p0_time]))], [(q_p0_states, .inl (cI, 27, .inl f_p0_states))], [(q_p0_startTimes, .inl (cI, 27, .inl f_p0_startTimes))], [(q_p0_loggedJobs, .inl (cI, 538, .inl f_p0_loggedJobs))], [(q_p0_loggedTimes, .inl (cI, 538, .inl f_p0_loggedTimes))]]
abbrev rm_Pla_start : Room := { frames := 0, cells := 0, slots := 0, locals := 0 }
set_option maxHeartbeats 4000000 in
set_option maxRecDepth 100000 in
theorem ct_Pla_start (l : Launch) (dC : Nat → ClassId) (dI : Nat → Nat → Nat) (cI cL cM cZ : ClassId) (q_p0 q_p0_states q_p0_startTimes q_p0_loggedJobs q_p0_loggedTimes : Nat) (v_p0_starts : Int32) (v_p0_time : Int32) (f_p0_states : Nat → Int32) (f_p0_startTimes : Nat → Int32) (f_p0_loggedJobs : Nat → Int32) (f_p0_loggedTimes : Nat → Int32) (a1_x : Int32) (N : Nat) (o : Int32 × (Nat → Int32) × (Nat → Int32) × (Nat → Int32) × (Nat → Int32)) (hm : md_Pla_start N v_p0_starts v_p0_time f_p0_states f_p0_startTimes f_p0_loggedJobs f_p0_loggedTimes a1_x = some o) : ∀ sz : Nat, Met l y_Pla_start ws_Pla_start rm_Pla_start (cP (dC, dI) vwCl [(cI, .int), (cL, .long), (cM, .array .int), (cZ, .boolean)] [.ref q_p0, .int a1_x] sz (sc_Pla_start cI cL cM cZ q_p0 q_p0_states q_p0_startTimes q_p0_loggedJobs q_p0_loggedTimes v_p0_starts v_p0_time f_p0_states f_p0_startTimes f_p0_loggedJobs f_p0_loggedTimes)) (cQv (dC, dI) vwCl [(cI, .int), (cL, .long), (cM, .array .int), (cZ, .boolean)] sz (sc_Pla_start cI cL cM cZ q_p0 q_p0_states q_p0_startTimes q_p0_loggedJobs q_p0_loggedTimes v_p0_starts v_p0_time f_p0_states f_p0_startTimes f_p0_loggedJobs f_p0_loggedTimes) (sc_Pla_start cI cL cM cZ q_p0 q_p0_states q_p0_startTimes q_p0_loggedJobs q_p0_loggedTimes o.1 v_p0_time o.2.1 o.2.2.1 o.2.2.2.1 o.2.2.2.2)) 0 0 (va_A ((sc_Pla_start cI cL cM cZ q_p0 q_p0_states q_p0_startTimes q_p0_loggedJobs q_p0_loggedTimes v_p0_starts v_p0_time f_p0_states f_p0_startTimes f_p0_loggedJobs f_p0_loggedTimes)).flatten sz) := by
  refine sg_met (fun sz => cQv (dC, dI) vwCl [(cI, .int), (cL, .long), (cM, .array .int), (cZ, .boolean)] sz (sc_Pla_start cI cL cM cZ q_p0 q_p0_states q_p0_startTimes q_p0_loggedJobs q_p0_loggedTimes v_p0_starts v_p0_time f_p0_states f_p0_startTimes f_p0_loggedJobs f_p0_loggedTimes) (sc_Pla_start cI cL cM cZ q_p0 q_p0_states q_p0_startTimes q_p0_loggedJobs q_p0_loggedTimes o.1 v_p0_time o.2.1 o.2.2.1 o.2.2.2.1 o.2.2.2.2)) (by decide) (Nat.le_of_ble_eq_true rfl) ?_
  intro p e s m args below meth c A Q ls hx hb hr hts hown hlocks hml hname hK hNW hA hAe hQ hw hl
  have hl : lv_has ls 2 [(0, .ref q_p0), (1, .int a1_x)] := hl
  have hw : wk (dC, dI) vwCl A s.heap [[(q_p0, .inr (5, [.ref q_p0_states, .ref q_p0_startTimes, .ref q_p0_loggedJobs, .ref q_p0_loggedTimes, .int v_p0_starts, .int v_p0_time]))], [(q_p0_states, .inl (cI, 27, .inl f_p0_states))], [(q_p0_startTimes, .inl (cI, 27, .inl f_p0_startTimes))], [(q_p0_loggedJobs, .inl (cI, 538, .inl f_p0_loggedJobs))], [(q_p0_loggedTimes, .inl (cI, 538, .inl f_p0_loggedTimes))]] s.heap [] := hw
  unfold md_Pla_start at hm
  refine lv_aload_n hx hb d_Pla_start_0 rfl (lv_at hl 0 rfl) ?_
  refine sg_get (D := (dC, dI)) (ci := 5) (v := .ref q_p0_states) (C := "JobNets$Plan") (T := T_5) (N := 6) hx hb hts hin_5 hown hK hw 0 rfl rfl 0 (by decide) (hts _ wd_90) rfl rfl d_Pla_start_1 ?_
  refine lv_iload_n hx hb d_Pla_start_4 rfl (lv_at hl 1 rfl) ?_
  refine lv_iconst (v := 2) hx hb d_Pla_start_5 (by decide) ?_
  refine sg_iast (S1 := fun f1 => [[(q_p0, .inr (5, [.ref q_p0_states, .ref q_p0_startTimes, .ref q_p0_loggedJobs, .ref q_p0_loggedTimes, .int v_p0_starts, .int v_p0_time]))], [(q_p0_states, .inl (cI, 27, .inl f1))], [(q_p0_startTimes, .inl (cI, 27, .inl f_p0_startTimes))], [(q_p0_loggedJobs, .inl (cI, 538, .inl f_p0_loggedJobs))], [(q_p0_loggedTimes, .inl (cI, 538, .inl f_p0_loggedTimes))]]) hx hb hK hw 1 0 rfl rfl d_Pla_start_6 (fun _ => rfl) hm (fun f1 H locs hm hw => ?_)
  refine lv_aload_n hx hb d_Pla_start_7 rfl (lv_at hl 0 rfl) ?_
  refine sg_get (D := (dC, dI)) (ci := 5) (v := .ref q_p0_startTimes) (C := "JobNets$Plan") (T := T_5) (N := 6) hx hb hts hin_5 hown hK hw 0 rfl rfl 1 (by decide) (hts _ wd_92) rfl rfl d_Pla_start_8 ?_
  refine lv_iload_n hx hb d_Pla_start_11 rfl (lv_at hl 1 rfl) ?_
  refine lv_aload_n hx hb d_Pla_start_12 rfl (lv_at hl 0 rfl) ?_
  refine sg_get (D := (dC, dI)) (ci := 5) (v := .int v_p0_time) (C := "JobNets$Plan") (T := T_5) (N := 6) hx hb hts hin_5 hown hK hw 0 rfl rfl 5 (by decide) (hts _ wd_100) rfl rfl d_Pla_start_13 ?_
  refine sg_iast (S1 := fun f2 => [[(q_p0, .inr (5, [.ref q_p0_states, .ref q_p0_startTimes, .ref q_p0_loggedJobs, .ref q_p0_loggedTimes, .int v_p0_starts, .int v_p0_time]))], [(q_p0_states, .inl (cI, 27, .inl f1))], [(q_p0_startTimes, .inl (cI, 27, .inl f2))], [(q_p0_loggedJobs, .inl (cI, 538, .inl f_p0_loggedJobs))], [(q_p0_loggedTimes, .inl (cI, 538, .inl f_p0_loggedTimes))]]) hx hb hK hw 2 0 rfl rfl d_Pla_start_16 (fun _ => rfl) hm (fun f2 H locs hm hw => ?_)
  refine lv_aload_n hx hb d_Pla_start_17 rfl (lv_at hl 0 rfl) ?_
  refine sg_get (D := (dC, dI)) (ci := 5) (v := .int v_p0_starts) (C := "JobNets$Plan") (T := T_5) (N := 6) hx hb hts hin_5 hown hK hw 0 rfl rfl 4 (by decide) (hts _ wd_98) rfl rfl d_Pla_start_18 ?_
  refine lv_sipush (v := 538) hx hb d_Pla_start_21 (by decide) ?_
  refine bq_t (lv_icmp_ge (tgt := 60) hx hb d_Pla_start_24 (by decide)) hm (fun hm => ?_) (fun hm => ?_)
  · exact so_vret (Sf := fun z_ => sc_Pla_start cI cL cM cZ q_p0 q_p0_states q_p0_startTimes q_p0_loggedJobs q_p0_loggedTimes z_.1 v_p0_time z_.2.1 z_.2.2.1 z_.2.2.2.1 z_.2.2.2.2) hm hx hb hr hlocks hAe hQ hK hw d_Pla_start_60
  · refine lv_aload_n hx hb d_Pla_start_27 rfl (lv_at hl 0 rfl) ?_
    refine sg_get (D := (dC, dI)) (ci := 5) (v := .ref q_p0_loggedJobs) (C := "JobNets$Plan") (T := T_5) (N := 6) hx hb hts hin_5 hown hK hw 0 rfl rfl 2 (by decide) (hts _ wd_94) rfl rfl d_Pla_start_28 ?_
    refine lv_aload_n hx hb d_Pla_start_31 rfl (lv_at hl 0 rfl) ?_
    refine sg_get (D := (dC, dI)) (ci := 5) (v := .int v_p0_starts) (C := "JobNets$Plan") (T := T_5) (N := 6) hx hb hts hin_5 hown hK hw 0 rfl rfl 4 (by decide) (hts _ wd_98) rfl rfl d_Pla_start_32 ?_
    refine lv_iload_n hx hb d_Pla_start_35 rfl (lv_at hl 1 rfl) ?_
    refine sg_iast (S1 := fun f3 => [[(q_p0, .inr (5, [.ref q_p0_states, .ref q_p0_startTimes, .ref q_p0_loggedJobs, .ref q_p0_loggedTimes, .int v_p0_starts, .int v_p0_time]))], [(q_p0_states, .inl (cI, 27, .inl f1))], [(q_p0_startTimes, .inl (cI, 27, .inl f2))], [(q_p0_loggedJobs, .inl (cI, 538, .inl f3))], [(q_p0_loggedTimes, .inl (cI, 538, .inl f_p0_loggedTimes))]]) hx hb hK hw 3 0 rfl rfl d_Pla_start_36 (fun _ => rfl) hm (fun f3 H locs hm hw => ?_)
    refine lv_aload_n hx hb d_Pla_start_37 rfl (lv_at hl 0 rfl) ?_
    refine sg_get (D := (dC, dI)) (ci := 5) (v := .ref q_p0_loggedTimes) (C := "JobNets$Plan") (T := T_5) (N := 6) hx hb hts hin_5 hown hK hw 0 rfl rfl 3 (by decide) (hts _ wd_96) rfl rfl d_Pla_start_38 ?_
    refine lv_aload_n hx hb d_Pla_start_41 rfl (lv_at hl 0 rfl) ?_
    refine sg_get (D := (dC, dI)) (ci := 5) (v := .int v_p0_starts) (C := "JobNets$Plan") (T := T_5) (N := 6) hx hb hts hin_5 hown hK hw 0 rfl rfl 4 (by decide) (hts _ wd_98) rfl rfl d_Pla_start_42 ?_
    refine lv_aload_n hx hb d_Pla_start_45 rfl (lv_at hl 0 rfl) ?_
    refine sg_get (D := (dC, dI)) (ci := 5) (v := .int v_p0_time) (C := "JobNets$Plan") (T := T_5) (N := 6) hx hb hts hin_5 hown hK hw 0 rfl rfl 5 (by decide) (hts _ wd_100) rfl rfl d_Pla_start_46 ?_
    refine sg_iast (S1 := fun f4 => [[(q_p0, .inr (5, [.ref q_p0_states, .ref q_p0_startTimes, .ref q_p0_loggedJobs, .ref q_p0_loggedTimes, .int v_p0_starts, .int v_p0_time]))], [(q_p0_states, .inl (cI, 27, .inl f1))], [(q_p0_startTimes, .inl (cI, 27, .inl f2))], [(q_p0_loggedJobs, .inl (cI, 538, .inl f3))], [(q_p0_loggedTimes, .inl (cI, 538, .inl f4))]]) hx hb hK hw 4 0 rfl rfl d_Pla_start_49 (fun _ => rfl) hm (fun f4 H locs hm hw => ?_)
    refine lv_aload_n hx hb d_Pla_start_50 rfl (lv_at hl 0 rfl) ?_
    refine lv_dup hx hb d_Pla_start_51 rfl ?_
    refine sg_get (D := (dC, dI)) (ci := 5) (v := .int v_p0_starts) (C := "JobNets$Plan") (T := T_5) (N := 6) hx hb hts hin_5 hown hK hw 0 rfl rfl 4 (by decide) (hts _ wd_98) rfl rfl d_Pla_start_52 ?_
    refine lv_iconst (v := 1) hx hb d_Pla_start_55 (by decide) ?_
    refine lv_iadd hx hb d_Pla_start_56 ?_
    refine sg_put (D := (dC, dI)) (ci := 5) (v := .int (v_p0_starts + (1 : Int32))) (ty := .int) (C := "JobNets$Plan") (T := T_5) (N := 6) (S1 := [[(q_p0, .inr (5, [.ref q_p0_states, .ref q_p0_startTimes, .ref q_p0_loggedJobs, .ref q_p0_loggedTimes, .int (v_p0_starts + (1 : Int32)), .int v_p0_time]))], [(q_p0_states, .inl (cI, 27, .inl f1))], [(q_p0_startTimes, .inl (cI, 27, .inl f2))], [(q_p0_loggedJobs, .inl (cI, 538, .inl f3))], [(q_p0_loggedTimes, .inl (cI, 538, .inl f4))]]) hx hb hts hin_5 ty_5 tok_5 nd_5 hown hK hw 0 rfl rfl 4 (by decide) (hts _ wd_98) rfl rfl (by decide +kernel) rfl rfl (Nat.le_of_ble_eq_true rfl) rfl d_Pla_start_57 (fun H locs hw => ?_)
    exact so_vret (Sf := fun z_ => sc_Pla_start cI cL cM cZ q_p0 q_p0_states q_p0_startTimes q_p0_loggedJobs q_p0_loggedTimes z_.1 v_p0_time z_.2.1 z_.2.2.1 z_.2.2.2.1 z_.2.2.2.2) hm hx hb hr hlocks hAe hQ hK hw d_Pla_start_60
theorem d_Pla_anyRunsBehind_0 : decode prog_6_method_11_code 0 = .ok (.iconst 1, 1) := by decide +kernel
theorem d_Pla_anyRunsBehind_1 : decode prog_6_method_11_code 1 = .ok (.istore_n 3, 1) := by decide +kernel
theorem d_Pla_anyRunsBehind_2 : decode prog_6_method_11_code 2 = .ok (.iload_n 3, 1) := by decide +kernel
theorem d_Pla_anyRunsBehind_3 : decode prog_6_method_11_code 3 = .ok (.aload_n 1, 1) := by decide +kernel
theorem d_Pla_anyRunsBehind_4 : decode prog_6_method_11_code 4 = .ok (.getfield 40, 3) := by decide +kernel
theorem d_Pla_anyRunsBehind_7 : decode prog_6_method_11_code 7 = .ok (.if_icmp .gt 30, 3) := by decide +kernel
theorem d_Pla_anyRunsBehind_10 : decode prog_6_method_11_code 10 = .ok (.aload_n 0, 1) := by decide +kernel
theorem d_Pla_anyRunsBehind_11 : decode prog_6_method_11_code 11 = .ok (.getfield 9, 3) := by decide +kernel
theorem d_Pla_anyRunsBehind_14 : decode prog_6_method_11_code 14 = .ok (.iload_n 3, 1) := by decide +kernel
theorem d_Pla_anyRunsBehind_15 : decode prog_6_method_11_code 15 = .ok (.iaload, 1) := by decide +kernel
theorem d_Pla_anyRunsBehind_16 : decode prog_6_method_11_code 16 = .ok (.iconst 2, 1) := by decide +kernel
theorem d_Pla_anyRunsBehind_17 : decode prog_6_method_11_code 17 = .ok (.if_icmp .ne 14, 3) := by decide +kernel
theorem d_Pla_anyRunsBehind_20 : decode prog_6_method_11_code 20 = .ok (.aload_n 1, 1) := by decide +kernel
theorem d_Pla_anyRunsBehind_21 : decode prog_6_method_11_code 21 = .ok (.iload_n 3, 1) := by decide +kernel
theorem d_Pla_anyRunsBehind_22 : decode prog_6_method_11_code 22 = .ok (.iload_n 2, 1) := by decide +kernel
theorem d_Pla_anyRunsBehind_23 : decode prog_6_method_11_code 23 = .ok (.invokevirtual 79, 3) := by decide +kernel
theorem d_Pla_anyRunsBehind_26 : decode prog_6_method_11_code 26 = .ok (.ifCond .eq 5, 3) := by decide +kernel
theorem d_Pla_anyRunsBehind_29 : decode prog_6_method_11_code 29 = .ok (.iconst 1, 1) := by decide +kernel
theorem d_Pla_anyRunsBehind_30 : decode prog_6_method_11_code 30 = .ok (.ireturn, 1) := by decide +kernel
theorem d_Pla_anyRunsBehind_31 : decode prog_6_method_11_code 31 = .ok (.iinc 3 1, 3) := by decide +kernel
theorem d_Pla_anyRunsBehind_34 : decode prog_6_method_11_code 34 = .ok (.goto (-32), 3) := by decide +kernel
theorem d_Pla_anyRunsBehind_37 : decode prog_6_method_11_code 37 = .ok (.iconst 0, 1) := by decide +kernel
theorem d_Pla_anyRunsBehind_38 : decode prog_6_method_11_code 38 = .ok (.ireturn, 1) := by decide +kernel
def md_Pla_anyRunsBehind_F2 (f_p0_states : Nat → Int32) (v_p1_jobs : Int32) (f_p1_allNeeded : Nat → Int32) (a2_x : Int32) (N : Nat) (rec2 : Int32 → Option (Int32)) (x1 : Int32) : Option (Int32) :=
  (if v_p1_jobs < x1 then (some (0 : Int32)) else (if sg_in x1 27 = true then (if (f_p0_states x1.toNatClampNeg) = (2 : Int32) then (zc (md_Net_needsAtAnyDepth N f_p1_allNeeded x1 a2_x) (fun o2 => (if o2 = 0 then (rec2 (x1 + 1)) else (some (1 : Int32))))) else (rec2 (x1 + 1))) else none))
def md_Pla_anyRunsBehind (N : Nat) (f_p0_states : Nat → Int32) (v_p1_jobs : Int32) (f_p1_allNeeded : Nat → Int32) (a2_x : Int32) : Option (Int32) :=
  (fx1 (md_Pla_anyRunsBehind_F2 f_p0_states v_p1_jobs f_p1_allNeeded a2_x N) N (1 : Int32))
abbrev sc_Pla_anyRunsBehind (cI cL cM cZ : ClassId) (q_p0 q_p1 q_p0_states q_p0_startTimes q_p0_loggedJobs q_p0_loggedTimes q_p1_numbers q_p1_needCounts q_p1_needed q_p1_conditions q_p1_allNeeded : Nat) (v_p0_starts : Int32) (v_p0_time : Int32) (f_p0_states : Nat → Int32) (v_p1_jobs : Int32) (f_p1_allNeeded : Nat → Int32) : List va_W := [[(q_p0, .inr (5, [.ref q_p0_states, .ref q_p0_startTimes, .ref q_p0_loggedJobs, .ref q_p0_loggedTimes, .int v_p0_starts, .int v_p0_time]))], [(q_p0_states, .inl (cI, 27, .inl f_p0_states))], [(q_p1, .inr (4, [.ref q_p1_numbers, .ref q_p1_needCounts, .ref q_p1_needed, .ref q_p1_conditions, .ref q_p1_allNeeded, .int v_p1_jobs]))], [(q_p1_allNeeded, .inl (cI, 27, .inl f_p1_allNeeded))]]
abbrev rm_Pla_anyRunsBehind : Room := { frames := 1, cells := 0, slots := 0, locals := 22 }
set_option maxHeartbeats 4000000 in
set_option maxRecDepth 100000 in
theorem ct_Pla_anyRunsBehind (l : Launch) (dC : Nat → ClassId) (dI : Nat → Nat → Nat) (cI cL cM cZ : ClassId) (q_p0 q_p1 q_p0_states q_p0_startTimes q_p0_loggedJobs q_p0_loggedTimes q_p1_numbers q_p1_needCounts q_p1_needed q_p1_conditions q_p1_allNeeded : Nat) (v_p0_starts : Int32) (v_p0_time : Int32) (f_p0_states : Nat → Int32) (v_p1_jobs : Int32) (f_p1_allNeeded : Nat → Int32) (a2_x : Int32) (N : Nat) (o : Int32) (hm : md_Pla_anyRunsBehind N f_p0_states v_p1_jobs f_p1_allNeeded a2_x = some o) : ∀ sz : Nat, Met l y_Pla_anyRunsBehind ws_Pla_anyRunsBehind rm_Pla_anyRunsBehind (cP (dC, dI) vwCl [(cI, .int), (cL, .long), (cM, .array .int), (cZ, .boolean)] [.ref q_p0, .ref q_p1, .int a2_x] sz (sc_Pla_anyRunsBehind cI cL cM cZ q_p0 q_p1 q_p0_states q_p0_startTimes q_p0_loggedJobs q_p0_loggedTimes q_p1_numbers q_p1_needCounts q_p1_needed q_p1_conditions q_p1_allNeeded v_p0_starts v_p0_time f_p0_states v_p1_jobs f_p1_allNeeded)) (cQi (dC, dI) vwCl [(cI, .int), (cL, .long), (cM, .array .int), (cZ, .boolean)] sz (sc_Pla_anyRunsBehind cI cL cM cZ q_p0 q_p1 q_p0_states q_p0_startTimes q_p0_loggedJobs q_p0_loggedTimes q_p1_numbers q_p1_needCounts q_p1_needed q_p1_conditions q_p1_allNeeded v_p0_starts v_p0_time f_p0_states v_p1_jobs f_p1_allNeeded) o (sc_Pla_anyRunsBehind cI cL cM cZ q_p0 q_p1 q_p0_states q_p0_startTimes q_p0_loggedJobs q_p0_loggedTimes q_p1_numbers q_p1_needCounts q_p1_needed q_p1_conditions q_p1_allNeeded v_p0_starts v_p0_time f_p0_states v_p1_jobs f_p1_allNeeded)) 0 0 (va_A ((sc_Pla_anyRunsBehind cI cL cM cZ q_p0 q_p1 q_p0_states q_p0_startTimes q_p0_loggedJobs q_p0_loggedTimes q_p1_numbers q_p1_needCounts q_p1_needed q_p1_conditions q_p1_allNeeded v_p0_starts v_p0_time f_p0_states v_p1_jobs f_p1_allNeeded)).flatten sz) := by
  refine sg_met (fun sz => cQi (dC, dI) vwCl [(cI, .int), (cL, .long), (cM, .array .int), (cZ, .boolean)] sz (sc_Pla_anyRunsBehind cI cL cM cZ q_p0 q_p1 q_p0_states q_p0_startTimes q_p0_loggedJobs q_p0_loggedTimes q_p1_numbers q_p1_needCounts q_p1_needed q_p1_conditions q_p1_allNeeded v_p0_starts v_p0_time f_p0_states v_p1_jobs f_p1_allNeeded) o (sc_Pla_anyRunsBehind cI cL cM cZ q_p0 q_p1 q_p0_states q_p0_startTimes q_p0_loggedJobs q_p0_loggedTimes q_p1_numbers q_p1_needCounts q_p1_needed q_p1_conditions q_p1_allNeeded v_p0_starts v_p0_time f_p0_states v_p1_jobs f_p1_allNeeded)) (by decide) (Nat.le_of_ble_eq_true rfl) ?_
  intro p e s m args below meth c A Q ls hx hb hr hts hown hlocks hml hname hK hNW hA hAe hQ hw hl
  have hl : lv_has ls 4 [(0, .ref q_p0), (1, .ref q_p1), (2, .int a2_x)] := hl
  have hw : wk (dC, dI) vwCl A s.heap [[(q_p0, .inr (5, [.ref q_p0_states, .ref q_p0_startTimes, .ref q_p0_loggedJobs, .ref q_p0_loggedTimes, .int v_p0_starts, .int v_p0_time]))], [(q_p0_states, .inl (cI, 27, .inl f_p0_states))], [(q_p1, .inr (4, [.ref q_p1_numbers, .ref q_p1_needCounts, .ref q_p1_needed, .ref q_p1_conditions, .ref q_p1_allNeeded, .int v_p1_jobs]))], [(q_p1_allNeeded, .inl (cI, 27, .inl f_p1_allNeeded))]] s.heap [] := hw
  unfold md_Pla_anyRunsBehind at hm
  refine lv_iconst (v := 1) hx hb d_Pla_anyRunsBehind_0 (by decide) ?_
  refine lv_istore_n (lv' := [(3, .int (1 : Int32)), (0, .ref q_p0), (1, .ref q_p1), (2, .int a2_x)]) hx hb d_Pla_anyRunsBehind_1 rfl hl (by decide) rfl (fun ls hl => ?_)
  obtain ⟨Fn2, hFn2, hm⟩ := fx1_x hm
  have L2 : ∀ (n : Nat) (x1 : Int32), fx1 Fn2 n x1 = some o → ∀ (H : Heap) (locs : List Loc) (ls : Array Slot), wk (dC, dI) vwCl A s.heap [[(q_p0, .inr (5, [.ref q_p0_states, .ref q_p0_startTimes, .ref q_p0_loggedJobs, .ref q_p0_loggedTimes, .int v_p0_starts, .int v_p0_time]))], [(q_p0_states, .inl (cI, 27, .inl f_p0_states))], [(q_p1, .inr (4, [.ref q_p1_numbers, .ref q_p1_needCounts, .ref q_p1_needed, .ref q_p1_conditions, .ref q_p1_allNeeded, .int v_p1_jobs]))], [(q_p1_allNeeded, .inl (cI, 27, .inl f_p1_allNeeded))]] H locs → lv_has ls 4 [(3, .int x1), (0, .ref q_p0), (1, .ref q_p1), (2, .int a2_x)] → W p l e rm_Pla_anyRunsBehind s m args below meth c H locs 0 0 Q (F0 m 2 ls []) := by
    intro n
    induction n with
    | zero => intro x1 hm; exact (fx1_0 hm).elim
    | succ n ih2 =>
      intro x1 hm H locs ls hw hl
      have hm := fx1_s hFn2 hm
      unfold md_Pla_anyRunsBehind_F2 at hm
      refine lv_iload_n hx hb d_Pla_anyRunsBehind_2 rfl (lv_at hl 0 rfl) ?_
      refine lv_aload_n hx hb d_Pla_anyRunsBehind_3 rfl (lv_at hl 2 rfl) ?_
      refine sg_getN (D := (dC, dI)) (ci := 4) (v := .int v_p1_jobs) (C := "JobNets$Net") (T := T_4) (N := 6) hx hb hts hin_4 hown hK hw 2 rfl rfl 5 (by decide) (nF_27 hNW) rfl rfl d_Pla_anyRunsBehind_4 ?_
      refine bq_t (lv_icmp_gt (tgt := 37) hx hb d_Pla_anyRunsBehind_7 (by decide)) hm (fun hm => ?_) (fun hm => ?_)
      · refine lv_iconst (v := 0) hx hb d_Pla_anyRunsBehind_37 (by decide) ?_
        exact so_zret (rf := fun z_ => z_) (Sf := fun z_ => sc_Pla_anyRunsBehind cI cL cM cZ q_p0 q_p1 q_p0_states q_p0_startTimes q_p0_loggedJobs q_p0_loggedTimes q_p1_numbers q_p1_needCounts q_p1_needed q_p1_conditions q_p1_allNeeded v_p0_starts v_p0_time f_p0_states v_p1_jobs f_p1_allNeeded) hm hx hb hr rfl hlocks hAe hQ hK hw rfl d_Pla_anyRunsBehind_38
      · refine lv_aload_n hx hb d_Pla_anyRunsBehind_10 rfl (lv_at hl 1 rfl) ?_
        refine sg_get (D := (dC, dI)) (ci := 5) (v := .ref q_p0_states) (C := "JobNets$Plan") (T := T_5) (N := 6) hx hb hts hin_5 hown hK hw 0 rfl rfl 0 (by decide) (hts _ wd_90) rfl rfl d_Pla_anyRunsBehind_11 ?_
        refine lv_iload_n hx hb d_Pla_anyRunsBehind_14 rfl (lv_at hl 0 rfl) ?_
        refine sg_iald hx hb hK hw 1 0 rfl rfl d_Pla_anyRunsBehind_15 hm (fun hm => ?_)
        refine lv_iconst (v := 2) hx hb d_Pla_anyRunsBehind_16 (by decide) ?_
        refine bq_n (lv_icmp_ne (tgt := 31) hx hb d_Pla_anyRunsBehind_17 (by decide)) hm (fun hm => ?_) (fun hm => ?_)
        · refine lv_iinc (v := x1 + 1) (lv' := [(3, .int (x1 + 1)), (0, .ref q_p0), (1, .ref q_p1), (2, .int a2_x)]) hx hb d_Pla_anyRunsBehind_31 hl (k := 0) rfl rfl (by decide) rfl (fun ls hl => ?_)
          refine lv_goto (tgt := 2) hx hb d_Pla_anyRunsBehind_34 (by decide) ?_
          exact ih2 (x1 + 1) hm _ _ _ hw hl
        · refine lv_aload_n hx hb d_Pla_anyRunsBehind_20 rfl (lv_at hl 2 rfl) ?_
          refine lv_iload_n hx hb d_Pla_anyRunsBehind_21 rfl (lv_at hl 0 rfl) ?_
          refine lv_iload_n hx hb d_Pla_anyRunsBehind_22 rfl (lv_at hl 3 rfl) ?_
          obtain ⟨o2, h2, hm⟩ := zc_x hm
          refine sg_ci0 (Sr := [[(q_p0, .inr (5, [.ref q_p0_states, .ref q_p0_startTimes, .ref q_p0_loggedJobs, .ref q_p0_loggedTimes, .int v_p0_starts, .int v_p0_time]))], [(q_p0_states, .inl (cI, 27, .inl f_p0_states))]]) (va_runV (As := [.int x1, .int a2_x]) (rest := []) ⟨hx, hb, hml, hown, hts⟩ (ct_Net_needsAtAnyDepth l dC dI cI cL cM cZ q_p1 q_p1_numbers q_p1_needCounts q_p1_needed q_p1_conditions q_p1_allNeeded v_p1_jobs f_p1_allNeeded x1 a2_x N o2 h2 _) (cwV 2 hts (gd_V wd_476 wd_311 wd_312 wd_9 wd_313) rfl rfl rfl (by decide +kernel) ⟨Nat.le_of_ble_eq_true rfl, Nat.le_of_ble_eq_true rfl⟩) (sg_preV (ci := 4) (q0 := 2) hK hNW hw [2, 3] rfl rfl rfl rfl) rfl rfl hl.1 rfl (lv_room (Nat.le_of_ble_eq_true rfl)) d_Pla_anyRunsBehind_23 ⟨Nat.le_of_ble_eq_true rfl, Nat.le_of_ble_eq_true rfl⟩) hw hA [2, 3] [0, 1] rfl rfl rfl (by decide) (fun H locs hw => ?_)
          have hw : wk (dC, dI) vwCl A s.heap [[(q_p0, .inr (5, [.ref q_p0_states, .ref q_p0_startTimes, .ref q_p0_loggedJobs, .ref q_p0_loggedTimes, .int v_p0_starts, .int v_p0_time]))], [(q_p0_states, .inl (cI, 27, .inl f_p0_states))], [(q_p1, .inr (4, [.ref q_p1_numbers, .ref q_p1_needCounts, .ref q_p1_needed, .ref q_p1_conditions, .ref q_p1_allNeeded, .int v_p1_jobs]))], [(q_p1_allNeeded, .inl (cI, 27, .inl f_p1_allNeeded))]] H locs := hw
          refine bq_t (lv_if_eq (tgt := 31) hx hb d_Pla_anyRunsBehind_26 (by decide)) hm (fun hm => ?_) (fun hm => ?_)
          · refine lv_iinc (v := x1 + 1) (lv' := [(3, .int (x1 + 1)), (0, .ref q_p0), (1, .ref q_p1), (2, .int a2_x)]) hx hb d_Pla_anyRunsBehind_31 hl (k := 0) rfl rfl (by decide) rfl (fun ls hl => ?_)
            refine lv_goto (tgt := 2) hx hb d_Pla_anyRunsBehind_34 (by decide) ?_
            exact ih2 (x1 + 1) hm _ _ _ hw hl
          · refine lv_iconst (v := 1) hx hb d_Pla_anyRunsBehind_29 (by decide) ?_
            exact so_zret (rf := fun z_ => z_) (Sf := fun z_ => sc_Pla_anyRunsBehind cI cL cM cZ q_p0 q_p1 q_p0_states q_p0_startTimes q_p0_loggedJobs q_p0_loggedTimes q_p1_numbers q_p1_needCounts q_p1_needed q_p1_conditions q_p1_allNeeded v_p0_starts v_p0_time f_p0_states v_p1_jobs f_p1_allNeeded) hm hx hb hr rfl hlocks hAe hQ hK hw rfl d_Pla_anyRunsBehind_30
  exact L2 _ _ hm _ _ _ hw hl
theorem d_Pla_waitAgain_0 : decode prog_6_method_12_code 0 = .ok (.iconst 0, 1) := by decide +kernel
theorem d_Pla_waitAgain_1 : decode prog_6_method_12_code 1 = .ok (.istore_n 3, 1) := by decide +kernel
theorem d_Pla_waitAgain_2 : decode prog_6_method_12_code 2 = .ok (.iconst 1, 1) := by decide +kernel
theorem d_Pla_waitAgain_3 : decode prog_6_method_12_code 3 = .ok (.istore 4, 2) := by decide +kernel
theorem d_Pla_waitAgain_5 : decode prog_6_method_12_code 5 = .ok (.iload 4, 2) := by decide +kernel
theorem d_Pla_waitAgain_7 : decode prog_6_method_12_code 7 = .ok (.aload_n 1, 1) := by decide +kernel
theorem d_Pla_waitAgain_8 : decode prog_6_method_12_code 8 = .ok (.getfield 40, 3) := by decide +kernel
theorem d_Pla_waitAgain_11 : decode prog_6_method_12_code 11 = .ok (.if_icmp .gt 70, 3) := by decide +kernel
theorem d_Pla_waitAgain_14 : decode prog_6_method_12_code 14 = .ok (.aload_n 0, 1) := by decide +kernel
theorem d_Pla_waitAgain_15 : decode prog_6_method_12_code 15 = .ok (.getfield 9, 3) := by decide +kernel
theorem d_Pla_waitAgain_18 : decode prog_6_method_12_code 18 = .ok (.iload 4, 2) := by decide +kernel
theorem d_Pla_waitAgain_20 : decode prog_6_method_12_code 20 = .ok (.iaload, 1) := by decide +kernel
theorem d_Pla_waitAgain_21 : decode prog_6_method_12_code 21 = .ok (.iconst 3, 1) := by decide +kernel
theorem d_Pla_waitAgain_22 : decode prog_6_method_12_code 22 = .ok (.if_icmp .eq 14, 3) := by decide +kernel
theorem d_Pla_waitAgain_25 : decode prog_6_method_12_code 25 = .ok (.aload_n 0, 1) := by decide +kernel
theorem d_Pla_waitAgain_26 : decode prog_6_method_12_code 26 = .ok (.getfield 9, 3) := by decide +kernel
theorem d_Pla_waitAgain_29 : decode prog_6_method_12_code 29 = .ok (.iload 4, 2) := by decide +kernel
theorem d_Pla_waitAgain_31 : decode prog_6_method_12_code 31 = .ok (.iaload, 1) := by decide +kernel
theorem d_Pla_waitAgain_32 : decode prog_6_method_12_code 32 = .ok (.iconst 4, 1) := by decide +kernel
theorem d_Pla_waitAgain_33 : decode prog_6_method_12_code 33 = .ok (.if_icmp .ne 7, 3) := by decide +kernel
theorem d_Pla_waitAgain_36 : decode prog_6_method_12_code 36 = .ok (.iconst 1, 1) := by decide +kernel
theorem d_Pla_waitAgain_37 : decode prog_6_method_12_code 37 = .ok (.goto 4, 3) := by decide +kernel
theorem d_Pla_waitAgain_40 : decode prog_6_method_12_code 40 = .ok (.iconst 0, 1) := by decide +kernel
theorem d_Pla_waitAgain_41 : decode prog_6_method_12_code 41 = .ok (.istore 5, 2) := by decide +kernel
theorem d_Pla_waitAgain_43 : decode prog_6_method_12_code 43 = .ok (.iload 5, 2) := by decide +kernel
theorem d_Pla_waitAgain_45 : decode prog_6_method_12_code 45 = .ok (.ifCond .eq 30, 3) := by decide +kernel
theorem d_Pla_waitAgain_48 : decode prog_6_method_12_code 48 = .ok (.iload 4, 2) := by decide +kernel
theorem d_Pla_waitAgain_50 : decode prog_6_method_12_code 50 = .ok (.iload_n 2, 1) := by decide +kernel
theorem d_Pla_waitAgain_51 : decode prog_6_method_12_code 51 = .ok (.if_icmp .eq 13, 3) := by decide +kernel
theorem d_Pla_waitAgain_54 : decode prog_6_method_12_code 54 = .ok (.aload_n 1, 1) := by decide +kernel
theorem d_Pla_waitAgain_55 : decode prog_6_method_12_code 55 = .ok (.iload 4, 2) := by decide +kernel
theorem d_Pla_waitAgain_57 : decode prog_6_method_12_code 57 = .ok (.iload_n 2, 1) := by decide +kernel
theorem d_Pla_waitAgain_58 : decode prog_6_method_12_code 58 = .ok (.invokevirtual 79, 3) := by decide +kernel
theorem d_Pla_waitAgain_61 : decode prog_6_method_12_code 61 = .ok (.ifCond .eq 14, 3) := by decide +kernel
theorem d_Pla_waitAgain_64 : decode prog_6_method_12_code 64 = .ok (.aload_n 0, 1) := by decide +kernel
theorem d_Pla_waitAgain_65 : decode prog_6_method_12_code 65 = .ok (.getfield 9, 3) := by decide +kernel
theorem d_Pla_waitAgain_68 : decode prog_6_method_12_code 68 = .ok (.iload 4, 2) := by decide +kernel
theorem d_Pla_waitAgain_70 : decode prog_6_method_12_code 70 = .ok (.iconst 1, 1) := by decide +kernel
theorem d_Pla_waitAgain_71 : decode prog_6_method_12_code 71 = .ok (.iastore, 1) := by decide +kernel
theorem d_Pla_waitAgain_72 : decode prog_6_method_12_code 72 = .ok (.iinc 3 1, 3) := by decide +kernel
theorem d_Pla_waitAgain_75 : decode prog_6_method_12_code 75 = .ok (.iinc 4 1, 3) := by decide +kernel
theorem d_Pla_waitAgain_78 : decode prog_6_method_12_code 78 = .ok (.goto (-73), 3) := by decide +kernel
theorem d_Pla_waitAgain_81 : decode prog_6_method_12_code 81 = .ok (.iload_n 3, 1) := by decide +kernel
theorem d_Pla_waitAgain_82 : decode prog_6_method_12_code 82 = .ok (.ireturn, 1) := by decide +kernel
def md_Pla_waitAgain_F5 (v_p1_jobs : Int32) (f_p1_allNeeded : Nat → Int32) (a2_x : Int32) (N : Nat) (rec5 : Int32 → Int32 → (Nat → Int32) → Option (Int32 × (Nat → Int32))) (x1 : Int32) (x2 : Int32) (f3 : Nat → Int32) : Option (Int32 × (Nat → Int32)) :=
  (if v_p1_jobs < x1 then (some (x2, f3)) else (if sg_in x1 27 = true then (zl (fun (x4 : Int32) => (if x4 = 0 then (rec5 (x1 + 1) x2 f3) else (if x1 = a2_x then (if sg_in x1 27 = true then zl (upd f3 x1.toNatClampNeg (1 : Int32)) (fun f5 => (rec5 (x1 + 1) (x2 + 1) f5)) else none) else (zc (md_Net_needsAtAnyDepth N f_p1_allNeeded x1 a2_x) (fun o6 => (if o6 = 0 then (rec5 (x1 + 1) x2 f3) else (if sg_in x1 27 = true then zl (upd f3 x1.toNatClampNeg (1 : Int32)) (fun f7 => (rec5 (x1 + 1) (x2 + 1) f7)) else none))))))) (fun k41 => (zl (k41 (1 : Int32)) (fun k36 => (if (f3 x1.toNatClampNeg) = (3 : Int32) then (k36) else (if sg_in x1 27 = true then (if (f3 x1.toNatClampNeg) = (4 : Int32) then (k36) else (k41 (0 : Int32))) else none)))))) else none))
def md_Pla_waitAgain (N : Nat) (f_p0_states : Nat → Int32) (v_p1_jobs : Int32) (f_p1_allNeeded : Nat → Int32) (a2_x : Int32) : Option (Int32 × (Nat → Int32)) :=
  (fx3 (md_Pla_waitAgain_F5 v_p1_jobs f_p1_allNeeded a2_x N) N (1 : Int32) (0 : Int32) f_p0_states)
abbrev sc_Pla_waitAgain (cI cL cM cZ : ClassId) (q_p0 q_p1 q_p0_states q_p0_startTimes q_p0_loggedJobs q_p0_loggedTimes q_p1_numbers q_p1_needCounts q_p1_needed q_p1_conditions q_p1_allNeeded : Nat) (v_p0_starts : Int32) (v_p0_time : Int32) (f_p0_states : Nat → Int32) (v_p1_jobs : Int32) (f_p1_allNeeded : Nat → Int32) : List va_W := [[(q_p0, .inr (5, [.ref q_p0_states, .ref q_p0_startTimes, .ref q_p0_loggedJobs, .ref q_p0_loggedTimes, .int v_p0_starts, .int v_p0_time]))], [(q_p0_states, .inl (cI, 27, .inl f_p0_states))], [(q_p1, .inr (4, [.ref q_p1_numbers, .ref q_p1_needCounts, .ref q_p1_needed, .ref q_p1_conditions, .ref q_p1_allNeeded, .int v_p1_jobs]))], [(q_p1_allNeeded, .inl (cI, 27, .inl f_p1_allNeeded))]]
abbrev rm_Pla_waitAgain : Room := { frames := 1, cells := 0, slots := 0, locals := 22 }
set_option maxHeartbeats 4000000 in
set_option maxRecDepth 100000 in
theorem ct_Pla_waitAgain (l : Launch) (dC : Nat → ClassId) (dI : Nat → Nat → Nat) (cI cL cM cZ : ClassId) (q_p0 q_p1 q_p0_states q_p0_startTimes q_p0_loggedJobs q_p0_loggedTimes q_p1_numbers q_p1_needCounts q_p1_needed q_p1_conditions q_p1_allNeeded : Nat) (v_p0_starts : Int32) (v_p0_time : Int32) (f_p0_states : Nat → Int32) (v_p1_jobs : Int32) (f_p1_allNeeded : Nat → Int32) (a2_x : Int32) (N : Nat) (o : Int32 × (Nat → Int32)) (hm : md_Pla_waitAgain N f_p0_states v_p1_jobs f_p1_allNeeded a2_x = some o) : ∀ sz : Nat, Met l y_Pla_waitAgain ws_Pla_waitAgain rm_Pla_waitAgain (cP (dC, dI) vwCl [(cI, .int), (cL, .long), (cM, .array .int), (cZ, .boolean)] [.ref q_p0, .ref q_p1, .int a2_x] sz (sc_Pla_waitAgain cI cL cM cZ q_p0 q_p1 q_p0_states q_p0_startTimes q_p0_loggedJobs q_p0_loggedTimes q_p1_numbers q_p1_needCounts q_p1_needed q_p1_conditions q_p1_allNeeded v_p0_starts v_p0_time f_p0_states v_p1_jobs f_p1_allNeeded)) (cQi (dC, dI) vwCl [(cI, .int), (cL, .long), (cM, .array .int), (cZ, .boolean)] sz (sc_Pla_waitAgain cI cL cM cZ q_p0 q_p1 q_p0_states q_p0_startTimes q_p0_loggedJobs q_p0_loggedTimes q_p1_numbers q_p1_needCounts q_p1_needed q_p1_conditions q_p1_allNeeded v_p0_starts v_p0_time f_p0_states v_p1_jobs f_p1_allNeeded) o.1 (sc_Pla_waitAgain cI cL cM cZ q_p0 q_p1 q_p0_states q_p0_startTimes q_p0_loggedJobs q_p0_loggedTimes q_p1_numbers q_p1_needCounts q_p1_needed q_p1_conditions q_p1_allNeeded v_p0_starts v_p0_time o.2 v_p1_jobs f_p1_allNeeded)) 0 0 (va_A ((sc_Pla_waitAgain cI cL cM cZ q_p0 q_p1 q_p0_states q_p0_startTimes q_p0_loggedJobs q_p0_loggedTimes q_p1_numbers q_p1_needCounts q_p1_needed q_p1_conditions q_p1_allNeeded v_p0_starts v_p0_time f_p0_states v_p1_jobs f_p1_allNeeded)).flatten sz) := by
  refine sg_met (fun sz => cQi (dC, dI) vwCl [(cI, .int), (cL, .long), (cM, .array .int), (cZ, .boolean)] sz (sc_Pla_waitAgain cI cL cM cZ q_p0 q_p1 q_p0_states q_p0_startTimes q_p0_loggedJobs q_p0_loggedTimes q_p1_numbers q_p1_needCounts q_p1_needed q_p1_conditions q_p1_allNeeded v_p0_starts v_p0_time f_p0_states v_p1_jobs f_p1_allNeeded) o.1 (sc_Pla_waitAgain cI cL cM cZ q_p0 q_p1 q_p0_states q_p0_startTimes q_p0_loggedJobs q_p0_loggedTimes q_p1_numbers q_p1_needCounts q_p1_needed q_p1_conditions q_p1_allNeeded v_p0_starts v_p0_time o.2 v_p1_jobs f_p1_allNeeded)) (by decide) (Nat.le_of_ble_eq_true rfl) ?_
  intro p e s m args below meth c A Q ls hx hb hr hts hown hlocks hml hname hK hNW hA hAe hQ hw hl
  have hl : lv_has ls 6 [(0, .ref q_p0), (1, .ref q_p1), (2, .int a2_x)] := hl
  have hw : wk (dC, dI) vwCl A s.heap [[(q_p0, .inr (5, [.ref q_p0_states, .ref q_p0_startTimes, .ref q_p0_loggedJobs, .ref q_p0_loggedTimes, .int v_p0_starts, .int v_p0_time]))], [(q_p0_states, .inl (cI, 27, .inl f_p0_states))], [(q_p1, .inr (4, [.ref q_p1_numbers, .ref q_p1_needCounts, .ref q_p1_needed, .ref q_p1_conditions, .ref q_p1_allNeeded, .int v_p1_jobs]))], [(q_p1_allNeeded, .inl (cI, 27, .inl f_p1_allNeeded))]] s.heap [] := hw
  unfold md_Pla_waitAgain at hm
  refine lv_iconst (v := 0) hx hb d_Pla_waitAgain_0 (by decide) ?_
  refine lv_istore_n (lv' := [(3, .int (0 : Int32)), (0, .ref q_p0), (1, .ref q_p1), (2, .int a2_x)]) hx hb d_Pla_waitAgain_1 rfl hl (by decide) rfl (fun ls hl => ?_)
  refine lv_iconst (v := 1) hx hb d_Pla_waitAgain_2 (by decide) ?_
  refine lv_istore (lv' := [(4, .int (1 : Int32)), (3, .int (0 : Int32)), (0, .ref q_p0), (1, .ref q_p1), (2, .int a2_x)]) hx hb d_Pla_waitAgain_3 hl (by decide) rfl (fun ls hl => ?_)
  obtain ⟨Fn5, hFn5, hm⟩ := fx3_x hm
  have L5 : ∀ (n : Nat) (x1 : Int32) (x2 : Int32) (f3 : Nat → Int32), fx3 Fn5 n x1 x2 f3 = some o → ∀ (H : Heap) (locs : List Loc) (ls : Array Slot), wk (dC, dI) vwCl A s.heap [[(q_p0, .inr (5, [.ref q_p0_states, .ref q_p0_startTimes, .ref q_p0_loggedJobs, .ref q_p0_loggedTimes, .int v_p0_starts, .int v_p0_time]))], [(q_p0_states, .inl (cI, 27, .inl f3))], [(q_p1, .inr (4, [.ref q_p1_numbers, .ref q_p1_needCounts, .ref q_p1_needed, .ref q_p1_conditions, .ref q_p1_allNeeded, .int v_p1_jobs]))], [(q_p1_allNeeded, .inl (cI, 27, .inl f_p1_allNeeded))]] H locs → lv_has ls 6 [(4, .int x1), (3, .int x2), (0, .ref q_p0), (1, .ref q_p1), (2, .int a2_x)] → W p l e rm_Pla_waitAgain s m args below meth c H locs 0 0 Q (F0 m 5 ls []) := by
    intro n
    induction n with
    | zero => intro x1 x2 f3 hm; exact (fx3_0 hm).elim
    | succ n ih5 =>
      intro x1 x2 f3 hm H locs ls hw hl
      have hm := fx3_s hFn5 hm
      unfold md_Pla_waitAgain_F5 at hm
      refine lv_iload hx hb d_Pla_waitAgain_5 (lv_at hl 0 rfl) ?_
      refine lv_aload_n hx hb d_Pla_waitAgain_7 rfl (lv_at hl 3 rfl) ?_
      refine sg_getN (D := (dC, dI)) (ci := 4) (v := .int v_p1_jobs) (C := "JobNets$Net") (T := T_4) (N := 6) hx hb hts hin_4 hown hK hw 2 rfl rfl 5 (by decide) (nF_27 hNW) rfl rfl d_Pla_waitAgain_8 ?_
      refine bq_t (lv_icmp_gt (tgt := 81) hx hb d_Pla_waitAgain_11 (by decide)) hm (fun hm => ?_) (fun hm => ?_)
      · refine lv_iload_n hx hb d_Pla_waitAgain_81 rfl (lv_at hl 1 rfl) ?_
        exact so_iret (rf := fun z_ => z_.1) (Sf := fun z_ => sc_Pla_waitAgain cI cL cM cZ q_p0 q_p1 q_p0_states q_p0_startTimes q_p0_loggedJobs q_p0_loggedTimes q_p1_numbers q_p1_needCounts q_p1_needed q_p1_conditions q_p1_allNeeded v_p0_starts v_p0_time z_.2 v_p1_jobs f_p1_allNeeded) hm hx hb hr hlocks hAe hQ hK hw rfl d_Pla_waitAgain_82
      · refine lv_aload_n hx hb d_Pla_waitAgain_14 rfl (lv_at hl 2 rfl) ?_
        refine sg_get (D := (dC, dI)) (ci := 5) (v := .ref q_p0_states) (C := "JobNets$Plan") (T := T_5) (N := 6) hx hb hts hin_5 hown hK hw 0 rfl rfl 0 (by decide) (hts _ wd_90) rfl rfl d_Pla_waitAgain_15 ?_
        refine lv_iload hx hb d_Pla_waitAgain_18 (lv_at hl 0 rfl) ?_
        refine sg_iald hx hb hK hw 1 0 rfl rfl d_Pla_waitAgain_20 hm (fun hm => ?_)
        refine lv_iconst (v := 3) hx hb d_Pla_waitAgain_21 (by decide) ?_
        obtain ⟨k41, hk41, hm⟩ := zl_x hm
        have J41 : ∀ (x4 : Int32) , k41 x4 = some o → ∀ (H : Heap) (locs : List Loc) (ls : Array Slot), wk (dC, dI) vwCl A s.heap [[(q_p0, .inr (5, [.ref q_p0_states, .ref q_p0_startTimes, .ref q_p0_loggedJobs, .ref q_p0_loggedTimes, .int v_p0_starts, .int v_p0_time]))], [(q_p0_states, .inl (cI, 27, .inl f3))], [(q_p1, .inr (4, [.ref q_p1_numbers, .ref q_p1_needCounts, .ref q_p1_needed, .ref q_p1_conditions, .ref q_p1_allNeeded, .int v_p1_jobs]))], [(q_p1_allNeeded, .inl (cI, 27, .inl f_p1_allNeeded))]] H locs → lv_has ls 6 [(4, .int x1), (3, .int x2), (0, .ref q_p0), (1, .ref q_p1), (2, .int a2_x)] → W p l e rm_Pla_waitAgain s m args below meth c H locs 0 0 Q (F0 m 41 ls [.int x4]) := by
          intro x4 hm H locs ls hw hl
          subst hk41
          refine lv_istore (lv' := [(5, .int x4), (4, .int x1), (3, .int x2), (0, .ref q_p0), (1, .ref q_p1), (2, .int a2_x)]) hx hb d_Pla_waitAgain_41 hl (by decide) rfl (fun ls hl => ?_)
          refine lv_iload hx hb d_Pla_waitAgain_43 (lv_at hl 0 rfl) ?_
          refine bq_t (lv_if_eq (tgt := 75) hx hb d_Pla_waitAgain_45 (by decide)) hm (fun hm => ?_) (fun hm => ?_)
          · refine lv_iinc (v := x1 + 1) (lv' := [(4, .int (x1 + 1)), (5, .int x4), (3, .int x2), (0, .ref q_p0), (1, .ref q_p1), (2, .int a2_x)]) hx hb d_Pla_waitAgain_75 hl (k := 1) rfl rfl (by decide) rfl (fun ls hl => ?_)
            refine lv_goto (tgt := 5) hx hb d_Pla_waitAgain_78 (by decide) ?_
            exact ih5 (x1 + 1) x2 f3 hm _ _ _ hw (lv_sub hl [0, 2, 3, 4, 5] rfl)
          · refine lv_iload hx hb d_Pla_waitAgain_48 (lv_at hl 1 rfl) ?_
            refine lv_iload_n hx hb d_Pla_waitAgain_50 rfl (lv_at hl 5 rfl) ?_
            refine bq_t (lv_icmp_eq (tgt := 64) hx hb d_Pla_waitAgain_51 (by decide)) hm (fun hm => ?_) (fun hm => ?_)
            · refine lv_aload_n hx hb d_Pla_waitAgain_64 rfl (lv_at hl 3 rfl) ?_
              refine sg_get (D := (dC, dI)) (ci := 5) (v := .ref q_p0_states) (C := "JobNets$Plan") (T := T_5) (N := 6) hx hb hts hin_5 hown hK hw 0 rfl rfl 0 (by decide) (hts _ wd_90) rfl rfl d_Pla_waitAgain_65 ?_
              refine lv_iload hx hb d_Pla_waitAgain_68 (lv_at hl 1 rfl) ?_
              refine lv_iconst (v := 1) hx hb d_Pla_waitAgain_70 (by decide) ?_
              refine sg_iast (S1 := fun f5 => [[(q_p0, .inr (5, [.ref q_p0_states, .ref q_p0_startTimes, .ref q_p0_loggedJobs, .ref q_p0_loggedTimes, .int v_p0_starts, .int v_p0_time]))], [(q_p0_states, .inl (cI, 27, .inl f5))], [(q_p1, .inr (4, [.ref q_p1_numbers, .ref q_p1_needCounts, .ref q_p1_needed, .ref q_p1_conditions, .ref q_p1_allNeeded, .int v_p1_jobs]))], [(q_p1_allNeeded, .inl (cI, 27, .inl f_p1_allNeeded))]]) hx hb hK hw 1 0 rfl rfl d_Pla_waitAgain_71 (fun _ => rfl) hm (fun f5 H locs hm hw => ?_)
              refine lv_iinc (v := x2 + 1) (lv' := [(3, .int (x2 + 1)), (5, .int x4), (4, .int x1), (0, .ref q_p0), (1, .ref q_p1), (2, .int a2_x)]) hx hb d_Pla_waitAgain_72 hl (k := 2) rfl rfl (by decide) rfl (fun ls hl => ?_)
              refine lv_iinc (v := x1 + 1) (lv' := [(4, .int (x1 + 1)), (3, .int (x2 + 1)), (5, .int x4), (0, .ref q_p0), (1, .ref q_p1), (2, .int a2_x)]) hx hb d_Pla_waitAgain_75 hl (k := 2) rfl rfl (by decide) rfl (fun ls hl => ?_)
              refine lv_goto (tgt := 5) hx hb d_Pla_waitAgain_78 (by decide) ?_
              exact ih5 (x1 + 1) (x2 + 1) f5 hm _ _ _ hw (lv_sub hl [0, 1, 3, 4, 5] rfl)
            · refine lv_aload_n hx hb d_Pla_waitAgain_54 rfl (lv_at hl 4 rfl) ?_
              refine lv_iload hx hb d_Pla_waitAgain_55 (lv_at hl 1 rfl) ?_
              refine lv_iload_n hx hb d_Pla_waitAgain_57 rfl (lv_at hl 5 rfl) ?_
              obtain ⟨o6, h6, hm⟩ := zc_x hm
              refine sg_ci0 (Sr := [[(q_p0, .inr (5, [.ref q_p0_states, .ref q_p0_startTimes, .ref q_p0_loggedJobs, .ref q_p0_loggedTimes, .int v_p0_starts, .int v_p0_time]))], [(q_p0_states, .inl (cI, 27, .inl f3))]]) (va_runV (As := [.int x1, .int a2_x]) (rest := []) ⟨hx, hb, hml, hown, hts⟩ (ct_Net_needsAtAnyDepth l dC dI cI cL cM cZ q_p1 q_p1_numbers q_p1_needCounts q_p1_needed q_p1_conditions q_p1_allNeeded v_p1_jobs f_p1_allNeeded x1 a2_x N o6 h6 _) (cwV 2 hts (gd_V wd_476 wd_311 wd_312 wd_9 wd_313) rfl rfl rfl (by decide +kernel) ⟨Nat.le_of_ble_eq_true rfl, Nat.le_of_ble_eq_true rfl⟩) (sg_preV (ci := 4) (q0 := 2) hK hNW hw [2, 3] rfl rfl rfl rfl) rfl rfl hl.1 rfl (lv_room (Nat.le_of_ble_eq_true rfl)) d_Pla_waitAgain_58 ⟨Nat.le_of_ble_eq_true rfl, Nat.le_of_ble_eq_true rfl⟩) hw hA [2, 3] [0, 1] rfl rfl rfl (by decide) (fun H locs hw => ?_)
              have hw : wk (dC, dI) vwCl A s.heap [[(q_p0, .inr (5, [.ref q_p0_states, .ref q_p0_startTimes, .ref q_p0_loggedJobs, .ref q_p0_loggedTimes, .int v_p0_starts, .int v_p0_time]))], [(q_p0_states, .inl (cI, 27, .inl f3))], [(q_p1, .inr (4, [.ref q_p1_numbers, .ref q_p1_needCounts, .ref q_p1_needed, .ref q_p1_conditions, .ref q_p1_allNeeded, .int v_p1_jobs]))], [(q_p1_allNeeded, .inl (cI, 27, .inl f_p1_allNeeded))]] H locs := hw
              refine bq_t (lv_if_eq (tgt := 75) hx hb d_Pla_waitAgain_61 (by decide)) hm (fun hm => ?_) (fun hm => ?_)
              · refine lv_iinc (v := x1 + 1) (lv' := [(4, .int (x1 + 1)), (5, .int x4), (3, .int x2), (0, .ref q_p0), (1, .ref q_p1), (2, .int a2_x)]) hx hb d_Pla_waitAgain_75 hl (k := 1) rfl rfl (by decide) rfl (fun ls hl => ?_)
                refine lv_goto (tgt := 5) hx hb d_Pla_waitAgain_78 (by decide) ?_
                exact ih5 (x1 + 1) x2 f3 hm _ _ _ hw (lv_sub hl [0, 2, 3, 4, 5] rfl)
              · refine lv_aload_n hx hb d_Pla_waitAgain_64 rfl (lv_at hl 3 rfl) ?_
                refine sg_get (D := (dC, dI)) (ci := 5) (v := .ref q_p0_states) (C := "JobNets$Plan") (T := T_5) (N := 6) hx hb hts hin_5 hown hK hw 0 rfl rfl 0 (by decide) (hts _ wd_90) rfl rfl d_Pla_waitAgain_65 ?_
                refine lv_iload hx hb d_Pla_waitAgain_68 (lv_at hl 1 rfl) ?_
                refine lv_iconst (v := 1) hx hb d_Pla_waitAgain_70 (by decide) ?_
                refine sg_iast (S1 := fun f7 => [[(q_p0, .inr (5, [.ref q_p0_states, .ref q_p0_startTimes, .ref q_p0_loggedJobs, .ref q_p0_loggedTimes, .int v_p0_starts, .int v_p0_time]))], [(q_p0_states, .inl (cI, 27, .inl f7))], [(q_p1, .inr (4, [.ref q_p1_numbers, .ref q_p1_needCounts, .ref q_p1_needed, .ref q_p1_conditions, .ref q_p1_allNeeded, .int v_p1_jobs]))], [(q_p1_allNeeded, .inl (cI, 27, .inl f_p1_allNeeded))]]) hx hb hK hw 1 0 rfl rfl d_Pla_waitAgain_71 (fun _ => rfl) hm (fun f7 H locs hm hw => ?_)
                refine lv_iinc (v := x2 + 1) (lv' := [(3, .int (x2 + 1)), (5, .int x4), (4, .int x1), (0, .ref q_p0), (1, .ref q_p1), (2, .int a2_x)]) hx hb d_Pla_waitAgain_72 hl (k := 2) rfl rfl (by decide) rfl (fun ls hl => ?_)
                refine lv_iinc (v := x1 + 1) (lv' := [(4, .int (x1 + 1)), (3, .int (x2 + 1)), (5, .int x4), (0, .ref q_p0), (1, .ref q_p1), (2, .int a2_x)]) hx hb d_Pla_waitAgain_75 hl (k := 2) rfl rfl (by decide) rfl (fun ls hl => ?_)
                refine lv_goto (tgt := 5) hx hb d_Pla_waitAgain_78 (by decide) ?_
                exact ih5 (x1 + 1) (x2 + 1) f7 hm _ _ _ hw (lv_sub hl [0, 1, 3, 4, 5] rfl)
        obtain ⟨k36, hk36, hm⟩ := zl_x hm
        have J36 : k36 = some o → ∀ (H : Heap) (locs : List Loc) (ls : Array Slot), wk (dC, dI) vwCl A s.heap [[(q_p0, .inr (5, [.ref q_p0_states, .ref q_p0_startTimes, .ref q_p0_loggedJobs, .ref q_p0_loggedTimes, .int v_p0_starts, .int v_p0_time]))], [(q_p0_states, .inl (cI, 27, .inl f3))], [(q_p1, .inr (4, [.ref q_p1_numbers, .ref q_p1_needCounts, .ref q_p1_needed, .ref q_p1_conditions, .ref q_p1_allNeeded, .int v_p1_jobs]))], [(q_p1_allNeeded, .inl (cI, 27, .inl f_p1_allNeeded))]] H locs → lv_has ls 6 [(4, .int x1), (3, .int x2), (0, .ref q_p0), (1, .ref q_p1), (2, .int a2_x)] → W p l e rm_Pla_waitAgain s m args below meth c H locs 0 0 Q (F0 m 36 ls []) := by
          intro hm H locs ls hw hl
          subst hk36
          refine lv_iconst (v := 1) hx hb d_Pla_waitAgain_36 (by decide) ?_
          refine lv_goto (tgt := 41) hx hb d_Pla_waitAgain_37 (by decide) ?_
          exact J41 (1 : Int32) hm _ _ _ hw hl
        refine bq_t (lv_icmp_eq (tgt := 36) hx hb d_Pla_waitAgain_22 (by decide)) hm (fun hm => ?_) (fun hm => ?_)
        · exact J36  hm _ _ _ hw hl
        · refine lv_aload_n hx hb d_Pla_waitAgain_25 rfl (lv_at hl 2 rfl) ?_
          refine sg_get (D := (dC, dI)) (ci := 5) (v := .ref q_p0_states) (C := "JobNets$Plan") (T := T_5) (N := 6) hx hb hts hin_5 hown hK hw 0 rfl rfl 0 (by decide) (hts _ wd_90) rfl rfl d_Pla_waitAgain_26 ?_
          refine lv_iload hx hb d_Pla_waitAgain_29 (lv_at hl 0 rfl) ?_
          refine sg_iald hx hb hK hw 1 0 rfl rfl d_Pla_waitAgain_31 hm (fun hm => ?_)
          refine lv_iconst (v := 4) hx hb d_Pla_waitAgain_32 (by decide) ?_
          refine bq_n (lv_icmp_ne (tgt := 40) hx hb d_Pla_waitAgain_33 (by decide)) hm (fun hm => ?_) (fun hm => ?_)
          · refine lv_iconst (v := 0) hx hb d_Pla_waitAgain_40 (by decide) ?_
            exact J41 (0 : Int32) hm _ _ _ hw hl
          · exact J36  hm _ _ _ hw hl
  exact L5 _ _ _ _ hm _ _ _ hw hl
