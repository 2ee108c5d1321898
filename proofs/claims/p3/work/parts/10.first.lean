theorem d_Cal_isInWorkWeek_0 : decode prog_2_method_8_code 0 = .ok (.iload_n 0, 1) := by decide +kernel
theorem d_Cal_isInWorkWeek_1 : decode prog_2_method_8_code 1 = .ok (.bipush 7, 2) := by decide +kernel
theorem d_Cal_isInWorkWeek_3 : decode prog_2_method_8_code 3 = .ok (.irem, 1) := by decide +kernel
theorem d_Cal_isInWorkWeek_4 : decode prog_2_method_8_code 4 = .ok (.iconst 5, 1) := by decide +kernel
theorem d_Cal_isInWorkWeek_5 : decode prog_2_method_8_code 5 = .ok (.if_icmp .ge 7, 3) := by decide +kernel
theorem d_Cal_isInWorkWeek_8 : decode prog_2_method_8_code 8 = .ok (.iconst 1, 1) := by decide +kernel
theorem d_Cal_isInWorkWeek_9 : decode prog_2_method_8_code 9 = .ok (.goto 4, 3) := by decide +kernel
theorem d_Cal_isInWorkWeek_12 : decode prog_2_method_8_code 12 = .ok (.iconst 0, 1) := by decide +kernel
theorem d_Cal_isInWorkWeek_13 : decode prog_2_method_8_code 13 = .ok (.ireturn, 1) := by decide +kernel
def md_Cal_isInWorkWeek (N : Nat) (a0_x : Int32) : Option (Int32) :=
  (if (5 : Int32) ≤ (a0_x - a0_x / (7 : Int32) * (7 : Int32)) then (some (0 : Int32)) else (some (1 : Int32)))
abbrev sc_Cal_isInWorkWeek (cI cL cM : ClassId) : List va_W := []
abbrev rm_Cal_isInWorkWeek : Room := { frames := 0, cells := 0, slots := 0, locals := 0 }
set_option maxHeartbeats 4000000 in
set_option maxRecDepth 100000 in
theorem ct_Cal_isInWorkWeek (l : Launch) (dC : Nat → ClassId) (dI : Nat → Nat → Nat) (cI cL cM : ClassId) (a0_x : Int32) (N : Nat) (o : Int32) (hm : md_Cal_isInWorkWeek N a0_x = some o) : ∀ sz : Nat, Met l y_Cal_isInWorkWeek ws_Cal_isInWorkWeek rm_Cal_isInWorkWeek (cP (dC, dI) vwCl [(cI, .int), (cL, .long), (cM, .array .int)] [.int a0_x] sz (sc_Cal_isInWorkWeek cI cL cM)) (cQi (dC, dI) vwCl [(cI, .int), (cL, .long), (cM, .array .int)] sz (sc_Cal_isInWorkWeek cI cL cM) o (sc_Cal_isInWorkWeek cI cL cM)) 0 0 (va_A ((sc_Cal_isInWorkWeek cI cL cM)).flatten sz) := by
  refine sg_met (fun sz => cQi (dC, dI) vwCl [(cI, .int), (cL, .long), (cM, .array .int)] sz (sc_Cal_isInWorkWeek cI cL cM) o (sc_Cal_isInWorkWeek cI cL cM)) (by decide) (Nat.le_of_ble_eq_true rfl) ?_
  intro p e s m args below meth c A Q ls hx hb hr hts hown hlocks hml hname hK hNW hA hAe hQ hw hl
  have hl : lv_has ls 1 [(0, .int a0_x)] := hl
  have hw : wk (dC, dI) vwCl A s.heap [] s.heap [] := hw
  unfold md_Cal_isInWorkWeek at hm
  refine lv_iload_n hx hb d_Cal_isInWorkWeek_0 rfl (lv_at hl 0 rfl) ?_
  refine lv_bipush (v := 7) hx hb d_Cal_isInWorkWeek_1 (by decide) ?_
  refine lv_irem hx hb d_Cal_isInWorkWeek_3 (by decide) ?_
  refine lv_iconst (v := 5) hx hb d_Cal_isInWorkWeek_4 (by decide) ?_
  refine bq_t (lv_icmp_ge (tgt := 12) hx hb d_Cal_isInWorkWeek_5 (by decide)) hm (fun hm => ?_) (fun hm => ?_)
  · refine lv_iconst (v := 0) hx hb d_Cal_isInWorkWeek_12 (by decide) ?_
    obtain rfl := Option.some.inj hm
    exact sg_zret hx hb hr rfl hlocks hAe hQ hK hw d_Cal_isInWorkWeek_13
  · refine lv_iconst (v := 1) hx hb d_Cal_isInWorkWeek_8 (by decide) ?_
    refine lv_goto (tgt := 13) hx hb d_Cal_isInWorkWeek_9 (by decide) ?_
    obtain rfl := Option.some.inj hm
    exact sg_zret hx hb hr rfl hlocks hAe hQ hK hw d_Cal_isInWorkWeek_13
theorem d_Cal_holidayPlace_0 : decode prog_2_method_5_code 0 = .ok (.iconst 0, 1) := by decide +kernel
theorem d_Cal_holidayPlace_1 : decode prog_2_method_5_code 1 = .ok (.istore_n 2, 1) := by decide +kernel
theorem d_Cal_holidayPlace_2 : decode prog_2_method_5_code 2 = .ok (.iload_n 2, 1) := by decide +kernel
theorem d_Cal_holidayPlace_3 : decode prog_2_method_5_code 3 = .ok (.aload_n 0, 1) := by decide +kernel
theorem d_Cal_holidayPlace_4 : decode prog_2_method_5_code 4 = .ok (.getfield 25, 3) := by decide +kernel
theorem d_Cal_holidayPlace_7 : decode prog_2_method_5_code 7 = .ok (.if_icmp .ge 21, 3) := by decide +kernel
theorem d_Cal_holidayPlace_10 : decode prog_2_method_5_code 10 = .ok (.aload_n 0, 1) := by decide +kernel
theorem d_Cal_holidayPlace_11 : decode prog_2_method_5_code 11 = .ok (.getfield 18, 3) := by decide +kernel
theorem d_Cal_holidayPlace_14 : decode prog_2_method_5_code 14 = .ok (.iload_n 2, 1) := by decide +kernel
theorem d_Cal_holidayPlace_15 : decode prog_2_method_5_code 15 = .ok (.iaload, 1) := by decide +kernel
theorem d_Cal_holidayPlace_16 : decode prog_2_method_5_code 16 = .ok (.iload_n 1, 1) := by decide +kernel
theorem d_Cal_holidayPlace_17 : decode prog_2_method_5_code 17 = .ok (.if_icmp .ne 5, 3) := by decide +kernel
theorem d_Cal_holidayPlace_20 : decode prog_2_method_5_code 20 = .ok (.iload_n 2, 1) := by decide +kernel
theorem d_Cal_holidayPlace_21 : decode prog_2_method_5_code 21 = .ok (.ireturn, 1) := by decide +kernel
theorem d_Cal_holidayPlace_22 : decode prog_2_method_5_code 22 = .ok (.iinc 2 1, 3) := by decide +kernel
theorem d_Cal_holidayPlace_25 : decode prog_2_method_5_code 25 = .ok (.goto (-23), 3) := by decide +kernel
theorem d_Cal_holidayPlace_28 : decode prog_2_method_5_code 28 = .ok (.iconst (-1), 1) := by decide +kernel
theorem d_Cal_holidayPlace_29 : decode prog_2_method_5_code 29 = .ok (.ireturn, 1) := by decide +kernel
def md_Cal_holidayPlace_F2 (v_p0_holidayCount : Int32) (f_p0_holidays : Nat → Int32) (a1_x : Int32) (rec2 : Int32 → Option (Int32)) (x1 : Int32) : Option (Int32) :=
  (if v_p0_holidayCount ≤ x1 then (some (-1 : Int32)) else (if sg_in x1 100 = true then (if (f_p0_holidays x1.toNatClampNeg) = a1_x then (some x1) else (rec2 (x1 + 1))) else none))
def md_Cal_holidayPlace (N : Nat) (v_p0_holidayCount : Int32) (f_p0_holidays : Nat → Int32) (a1_x : Int32) : Option (Int32) :=
  (fx1 (md_Cal_holidayPlace_F2 v_p0_holidayCount f_p0_holidays a1_x) N (0 : Int32))
abbrev sc_Cal_holidayPlace (cI cL cM : ClassId) (q_p0 q_p0_rules q_p0_places q_p0_holidays : Nat) (v_p0_made : Int32) (v_p0_holidayCount : Int32) (f_p0_holidays : Nat → Int32) : List va_W := [[(q_p0, .inr (1, [.ref q_p0_rules, .ref q_p0_places, .ref q_p0_holidays, .int v_p0_made, .int v_p0_holidayCount]))], [(q_p0_holidays, .inl (cI, 100, .inl f_p0_holidays))]]
abbrev rm_Cal_holidayPlace : Room := { frames := 0, cells := 0, slots := 0, locals := 0 }
set_option maxHeartbeats 4000000 in
set_option maxRecDepth 100000 in
theorem ct_Cal_holidayPlace (l : Launch) (dC : Nat → ClassId) (dI : Nat → Nat → Nat) (cI cL cM : ClassId) (q_p0 q_p0_rules q_p0_places q_p0_holidays : Nat) (v_p0_made : Int32) (v_p0_holidayCount : Int32) (f_p0_holidays : Nat → Int32) (a1_x : Int32) (N : Nat) (o : Int32) (hm : md_Cal_holidayPlace N v_p0_holidayCount f_p0_holidays a1_x = some o) : ∀ sz : Nat, Met l y_Cal_holidayPlace ws_Cal_holidayPlace rm_Cal_holidayPlace (cP (dC, dI) vwCl [(cI, .int), (cL, .long), (cM, .array .int)] [.ref q_p0, .int a1_x] sz (sc_Cal_holidayPlace cI cL cM q_p0 q_p0_rules q_p0_places q_p0_holidays v_p0_made v_p0_holidayCount f_p0_holidays)) (cQi (dC, dI) vwCl [(cI, .int), (cL, .long), (cM, .array .int)] sz (sc_Cal_holidayPlace cI cL cM q_p0 q_p0_rules q_p0_places q_p0_holidays v_p0_made v_p0_holidayCount f_p0_holidays) o (sc_Cal_holidayPlace cI cL cM q_p0 q_p0_rules q_p0_places q_p0_holidays v_p0_made v_p0_holidayCount f_p0_holidays)) 0 0 (va_A ((sc_Cal_holidayPlace cI cL cM q_p0 q_p0_rules q_p0_places q_p0_holidays v_p0_made v_p0_holidayCount f_p0_holidays)).flatten sz) := by
  refine sg_met (fun sz => cQi (dC, dI) vwCl [(cI, .int), (cL, .long), (cM, .array .int)] sz (sc_Cal_holidayPlace cI cL cM q_p0 q_p0_rules q_p0_places q_p0_holidays v_p0_made v_p0_holidayCount f_p0_holidays) o (sc_Cal_holidayPlace cI cL cM q_p0 q_p0_rules q_p0_places q_p0_holidays v_p0_made v_p0_holidayCount f_p0_holidays)) (by decide) (Nat.le_of_ble_eq_true rfl) ?_
  intro p e s m args below meth c A Q ls hx hb hr hts hown hlocks hml hname hK hNW hA hAe hQ hw hl
  have hl : lv_has ls 3 [(0, .ref q_p0), (1, .int a1_x)] := hl
  have hw : wk (dC, dI) vwCl A s.heap [[(q_p0, .inr (1, [.ref q_p0_rules, .ref q_p0_places, .ref q_p0_holidays, .int v_p0_made, .int v_p0_holidayCount]))], [(q_p0_holidays, .inl (cI, 100, .inl f_p0_holidays))]] s.heap [] := hw
  unfold md_Cal_holidayPlace at hm
  refine lv_iconst (v := 0) hx hb d_Cal_holidayPlace_0 (by decide) ?_
  refine lv_istore_n (lv' := [(2, .int (0 : Int32)), (0, .ref q_p0), (1, .int a1_x)]) hx hb d_Cal_holidayPlace_1 rfl hl (by decide) rfl (fun ls hl => ?_)
  obtain ⟨F2, hF2, hm⟩ := fx1_x hm
  have L2 : ∀ (n : Nat) (x1 : Int32), fx1 F2 n x1 = some o → ∀ (H : Heap) (locs : List Loc) (ls : Array Slot), wk (dC, dI) vwCl A s.heap [[(q_p0, .inr (1, [.ref q_p0_rules, .ref q_p0_places, .ref q_p0_holidays, .int v_p0_made, .int v_p0_holidayCount]))], [(q_p0_holidays, .inl (cI, 100, .inl f_p0_holidays))]] H locs → lv_has ls 3 [(2, .int x1), (0, .ref q_p0), (1, .int a1_x)] → W p l e rm_Cal_holidayPlace s m args below meth c H locs 0 0 Q (F0 m 2 ls []) := by
    intro n
    induction n with
    | zero => intro x1 hm; exact (fx1_0 hm).elim
    | succ n ih2 =>
      intro x1 hm H locs ls hw hl
      have hm := fx1_s hF2 hm
      unfold md_Cal_holidayPlace_F2 at hm
      refine lv_iload_n hx hb d_Cal_holidayPlace_2 rfl (lv_at hl 0 rfl) ?_
      refine lv_aload_n hx hb d_Cal_holidayPlace_3 rfl (lv_at hl 1 rfl) ?_
      refine sg_get (D := (dC, dI)) (ci := 1) (v := .int v_p0_holidayCount) (C := "JobNets$Calendars") (T := T_1) (N := 5) hx hb hts hin_1 hown hK hw 0 rfl rfl 4 (by decide) (hts _ wd_36) rfl rfl d_Cal_holidayPlace_4 ?_
      refine bq_t (lv_icmp_ge (tgt := 28) hx hb d_Cal_holidayPlace_7 (by decide)) hm (fun hm => ?_) (fun hm => ?_)
      · refine lv_iconst (v := -1) hx hb d_Cal_holidayPlace_28 (by decide) ?_
        obtain rfl := Option.some.inj hm
        exact sg_iret hx hb hr hlocks hAe hQ hK hw d_Cal_holidayPlace_29
      · refine lv_aload_n hx hb d_Cal_holidayPlace_10 rfl (lv_at hl 1 rfl) ?_
        refine sg_get (D := (dC, dI)) (ci := 1) (v := .ref q_p0_holidays) (C := "JobNets$Calendars") (T := T_1) (N := 5) hx hb hts hin_1 hown hK hw 0 rfl rfl 2 (by decide) (hts _ wd_33) rfl rfl d_Cal_holidayPlace_11 ?_
        refine lv_iload_n hx hb d_Cal_holidayPlace_14 rfl (lv_at hl 0 rfl) ?_
        refine sg_iald hx hb hK hw 1 0 rfl rfl d_Cal_holidayPlace_15 hm (fun hm => ?_)
        refine lv_iload_n hx hb d_Cal_holidayPlace_16 rfl (lv_at hl 2 rfl) ?_
        refine bq_n (lv_icmp_ne (tgt := 22) hx hb d_Cal_holidayPlace_17 (by decide)) hm (fun hm => ?_) (fun hm => ?_)
        · refine lv_iinc (v := x1 + 1) (lv' := [(2, .int (x1 + 1)), (0, .ref q_p0), (1, .int a1_x)]) hx hb d_Cal_holidayPlace_22 hl (k := 0) rfl rfl (by decide) rfl (fun ls hl => ?_)
          refine lv_goto (tgt := 2) hx hb d_Cal_holidayPlace_25 (by decide) ?_
          exact ih2 (x1 + 1) hm _ _ _ hw hl
        · refine lv_iload_n hx hb d_Cal_holidayPlace_20 rfl (lv_at hl 0 rfl) ?_
          obtain rfl := Option.some.inj hm
          exact sg_iret hx hb hr hlocks hAe hQ hK hw d_Cal_holidayPlace_21
  exact L2 _ _ hm _ _ _ hw hl
