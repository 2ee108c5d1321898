theorem d_Cal_init_0 : decode prog_2_method_1_code 0 = .ok (.aload_n 0, 1) := by decide +kernel
theorem d_Cal_init_1 : decode prog_2_method_1_code 1 = .ok (.invokespecial 3, 3) := by decide +kernel
theorem d_Cal_init_4 : decode prog_2_method_1_code 4 = .ok (.aload_n 0, 1) := by decide +kernel
theorem d_Cal_init_5 : decode prog_2_method_1_code 5 = .ok (.bipush 20, 2) := by decide +kernel
theorem d_Cal_init_7 : decode prog_2_method_1_code 7 = .ok (.newarray .int, 2) := by decide +kernel
theorem d_Cal_init_9 : decode prog_2_method_1_code 9 = .ok (.putfield 9, 3) := by decide +kernel
theorem d_Cal_init_12 : decode prog_2_method_1_code 12 = .ok (.aload_n 0, 1) := by decide +kernel
theorem d_Cal_init_13 : decode prog_2_method_1_code 13 = .ok (.bipush 20, 2) := by decide +kernel
theorem d_Cal_init_15 : decode prog_2_method_1_code 15 = .ok (.newarray .int, 2) := by decide +kernel
theorem d_Cal_init_17 : decode prog_2_method_1_code 17 = .ok (.putfield 15, 3) := by decide +kernel
theorem d_Cal_init_20 : decode prog_2_method_1_code 20 = .ok (.aload_n 0, 1) := by decide +kernel
theorem d_Cal_init_21 : decode prog_2_method_1_code 21 = .ok (.bipush 100, 2) := by decide +kernel
theorem d_Cal_init_23 : decode prog_2_method_1_code 23 = .ok (.newarray .int, 2) := by decide +kernel
theorem d_Cal_init_25 : decode prog_2_method_1_code 25 = .ok (.putfield 18, 3) := by decide +kernel
theorem d_Cal_init_28 : decode prog_2_method_1_code 28 = .ok (.aload_n 0, 1) := by decide +kernel
theorem d_Cal_init_29 : decode prog_2_method_1_code 29 = .ok (.iconst 1, 1) := by decide +kernel
theorem d_Cal_init_30 : decode prog_2_method_1_code 30 = .ok (.putfield 21, 3) := by decide +kernel
theorem d_Cal_init_33 : decode prog_2_method_1_code 33 = .ok (.aload_n 0, 1) := by decide +kernel
theorem d_Cal_init_34 : decode prog_2_method_1_code 34 = .ok (.iconst 0, 1) := by decide +kernel
theorem d_Cal_init_35 : decode prog_2_method_1_code 35 = .ok (.putfield 25, 3) := by decide +kernel
theorem d_Cal_init_38 : decode prog_2_method_1_code 38 = .ok (.return_, 1) := by decide +kernel
def sd_Cal_init (cI cL cM cZ : ClassId) (q_p0 : Nat) (u : ADs) : List va_W := [[(q_p0, .inr (1, [.ref (u.1.getD 0 0), .ref (u.1.getD 1 0), .ref (u.1.getD 2 0), .int 1, .int 0]))], [((u.1.getD 0 0), .inl (cI, 20, .inl (fun _ => 0)))], [((u.1.getD 1 0), .inl (cI, 20, .inl (fun _ => 0)))], [((u.1.getD 2 0), .inl (cI, 100, .inl (fun _ => 0)))]]
abbrev rm_Cal_init : Room := { frames := 1, cells := 3, slots := 140, locals := 20 }
set_option maxHeartbeats 4000000 in
set_option maxRecDepth 100000 in
theorem ct_Cal_init (l : Launch) (dC : Nat → ClassId) (dI : Nat → Nat → Nat) (cI cL cM cZ : ClassId) (q_p0 : Nat) : ∀ sz : Nat, Met l y_Cal_init ws_Cal_init rm_Cal_init (cP (dC, dI) vwCl [(cI, .int), (cL, .long), (cM, .array .int), (cZ, .boolean)] [.ref q_p0] sz [[(q_p0, .inr (1, [.null, .null, .null, .int 0, .int 0]))]]) (cQc (dC, dI) vwCl [(cI, .int), (cL, .long), (cM, .array .int), (cZ, .boolean)] sz [[(q_p0, .inr (1, [.null, .null, .null, .int 0, .int 0]))]] (sd_Cal_init cI cL cM cZ q_p0)) 3 140 (va_A (List.flatten [[(q_p0, .inr (1, [.null, .null, .null, .int 0, .int 0]))]]) sz) := by
  refine sg_met (y := y_Cal_init) (cc := prog_2_method_1_code) (maxL := 1) (ret := none) (rm := rm_Cal_init) (av := [.ref q_p0]) (Sc := [[(q_p0, .inr (1, [.null, .null, .null, .int 0, .int 0]))]]) (mc := 3) (ms := 140) (D := (dC, dI)) (cl := vwCl) (tys := [(cI, .int), (cL, .long), (cM, .array .int), (cZ, .boolean)]) (fun sz => cQc (dC, dI) vwCl [(cI, .int), (cL, .long), (cM, .array .int), (cZ, .boolean)] sz [[(q_p0, .inr (1, [.null, .null, .null, .int 0, .int 0]))]] (sd_Cal_init cI cL cM cZ q_p0)) (by decide) (Nat.le_of_ble_eq_true rfl) ?_
  intro p e s m args below meth c A Q ls hx hb hr hts hown hlocks hml hname hK hNW hA hAe hQ hw hl
  have hl : lv_has ls 1 [(0, .ref q_p0)] := hl
  have hw : wk (dC, dI) vwCl A s.heap [[(q_p0, .inr (1, [.null, .null, .null, .int 0, .int 0]))]] s.heap [] := hw
  refine lv_aload_n hx hb d_Cal_init_0 rfl (lv_at hl 0 rfl) ?_
  refine W.objInit hx hb hown (hts _ wd_30) (hts _ wd_23) (hts _ wd_24) rfl (by rw [hml]; exact hl.1) rfl d_Cal_init_1 (Nat.le_of_ble_eq_true rfl) (Nat.le_of_ble_eq_true rfl) ?_
  refine W.eq (g2 := F0 m 4 ls []) rfl ?_
  refine lv_aload_n hx hb d_Cal_init_4 rfl (lv_at hl 0 rfl) ?_
  refine lv_bipush (v := 20) hx hb d_Cal_init_5 (by decide) ?_
  refine sg_newi hx hb (hts _ wd_49) hK hw hA 0 rfl (N' := 20) (by decide) (by decide) (by decide) (Nat.le_of_ble_eq_true rfl) (Nat.le_of_ble_eq_true rfl) d_Cal_init_7 (fun q_p0_rules H hw => ?_)
  have hw : wk (dC, dI) vwCl A s.heap [[(q_p0, .inr (1, [.null, .null, .null, .int 0, .int 0]))], [(q_p0_rules, .inl (cI, 20, .inl (fun _ => 0)))]] H _ := hw
  refine sg_putF (D := (dC, dI)) (ci := 1) (v := .ref q_p0_rules) (ty := .array .int) (C := "JobNets$Calendars") (T := T_1) (N := 5) (S1 := [[(q_p0, .inr (1, [.ref q_p0_rules, .null, .null, .int 0, .int 0]))], [(q_p0_rules, .inl (cI, 20, .inl (fun _ => 0)))]]) hx hb hts hin_1 ty_1 tok_1 nd_1 hown hK hw 0 rfl rfl 0 (by decide) (hts _ wd_31) rfl rfl hname rfl (by decide +kernel) rfl rfl (Nat.le_of_ble_eq_true rfl) rfl d_Cal_init_9 (fun H locs hw => ?_)
  refine lv_aload_n hx hb d_Cal_init_12 rfl (lv_at hl 0 rfl) ?_
  refine lv_bipush (v := 20) hx hb d_Cal_init_13 (by decide) ?_
  refine sg_newi hx hb (hts _ wd_49) hK hw hA 0 rfl (N' := 20) (by decide) (by decide) (by decide) (Nat.le_of_ble_eq_true rfl) (Nat.le_of_ble_eq_true rfl) d_Cal_init_15 (fun q_p0_places H hw => ?_)
  have hw : wk (dC, dI) vwCl A s.heap [[(q_p0, .inr (1, [.ref q_p0_rules, .null, .null, .int 0, .int 0]))], [(q_p0_rules, .inl (cI, 20, .inl (fun _ => 0)))], [(q_p0_places, .inl (cI, 20, .inl (fun _ => 0)))]] H _ := hw
  refine sg_putF (D := (dC, dI)) (ci := 1) (v := .ref q_p0_places) (ty := .array .int) (C := "JobNets$Calendars") (T := T_1) (N := 5) (S1 := [[(q_p0, .inr (1, [.ref q_p0_rules, .ref q_p0_places, .null, .int 0, .int 0]))], [(q_p0_rules, .inl (cI, 20, .inl (fun _ => 0)))], [(q_p0_places, .inl (cI, 20, .inl (fun _ => 0)))]]) hx hb hts hin_1 ty_1 tok_1 nd_1 hown hK hw 0 rfl rfl 1 (by decide) (hts _ wd_32) rfl rfl hname rfl (by decide +kernel) rfl rfl (Nat.le_of_ble_eq_true rfl) rfl d_Cal_init_17 (fun H locs hw => ?_)
  refine lv_aload_n hx hb d_Cal_init_20 rfl (lv_at hl 0 rfl) ?_
  refine lv_bipush (v := 100) hx hb d_Cal_init_21 (by decide) ?_
  refine sg_newi hx hb (hts _ wd_49) hK hw hA 0 rfl (N' := 100) (by decide) (by decide) (by decide) (Nat.le_of_ble_eq_true rfl) (Nat.le_of_ble_eq_true rfl) d_Cal_init_23 (fun q_p0_holidays H hw => ?_)
  have hw : wk (dC, dI) vwCl A s.heap [[(q_p0, .inr (1, [.ref q_p0_rules, .ref q_p0_places, .null, .int 0, .int 0]))], [(q_p0_rules, .inl (cI, 20, .inl (fun _ => 0)))], [(q_p0_places, .inl (cI, 20, .inl (fun _ => 0)))], [(q_p0_holidays, .inl (cI, 100, .inl (fun _ => 0)))]] H _ := hw
  refine sg_putF (D := (dC, dI)) (ci := 1) (v := .ref q_p0_holidays) (ty := .array .int) (C := "JobNets$Calendars") (T := T_1) (N := 5) (S1 := [[(q_p0, .inr (1, [.ref q_p0_rules, .ref q_p0_places, .ref q_p0_holidays, .int 0, .int 0]))], [(q_p0_rules, .inl (cI, 20, .inl (fun _ => 0)))], [(q_p0_places, .inl (cI, 20, .inl (fun _ => 0)))], [(q_p0_holidays, .inl (cI, 100, .inl (fun _ => 0)))]]) hx hb hts hin_1 ty_1 tok_1 nd_1 hown hK hw 0 rfl rfl 2 (by decide) (hts _ wd_33) rfl rfl hname rfl (by decide +kernel) rfl rfl (Nat.le_of_ble_eq_true rfl) rfl d_Cal_init_25 (fun H locs hw => ?_)
  refine lv_aload_n hx hb d_Cal_init_28 rfl (lv_at hl 0 rfl) ?_
  refine lv_iconst (v := 1) hx hb d_Cal_init_29 (by decide) ?_
  refine sg_put (D := (dC, dI)) (ci := 1) (v := .int 1) (ty := .int) (C := "JobNets$Calendars") (T := T_1) (N := 5) (S1 := [[(q_p0, .inr (1, [.ref q_p0_rules, .ref q_p0_places, .ref q_p0_holidays, .int 1, .int 0]))], [(q_p0_rules, .inl (cI, 20, .inl (fun _ => 0)))], [(q_p0_places, .inl (cI, 20, .inl (fun _ => 0)))], [(q_p0_holidays, .inl (cI, 100, .inl (fun _ => 0)))]]) hx hb hts hin_1 ty_1 tok_1 nd_1 hown hK hw 0 rfl rfl 3 (by decide) (hts _ wd_34) rfl rfl (by decide +kernel) rfl rfl (Nat.le_of_ble_eq_true rfl) rfl d_Cal_init_30 (fun H locs hw => ?_)
  refine lv_aload_n hx hb d_Cal_init_33 rfl (lv_at hl 0 rfl) ?_
  refine lv_iconst (v := 0) hx hb d_Cal_init_34 (by decide) ?_
  refine sg_put (D := (dC, dI)) (ci := 1) (v := .int 0) (ty := .int) (C := "JobNets$Calendars") (T := T_1) (N := 5) (S1 := [[(q_p0, .inr (1, [.ref q_p0_rules, .ref q_p0_places, .ref q_p0_holidays, .int 1, .int 0]))], [(q_p0_rules, .inl (cI, 20, .inl (fun _ => 0)))], [(q_p0_places, .inl (cI, 20, .inl (fun _ => 0)))], [(q_p0_holidays, .inl (cI, 100, .inl (fun _ => 0)))]]) hx hb hts hin_1 ty_1 tok_1 nd_1 hown hK hw 0 rfl rfl 4 (by decide) (hts _ wd_36) rfl rfl (by decide +kernel) rfl rfl (Nat.le_of_ble_eq_true rfl) rfl d_Cal_init_35 (fun H locs hw => ?_)
  exact sg_cret ([q_p0_rules, q_p0_places, q_p0_holidays], []) hx hb hr hlocks hAe hQ hK (hw.sub [0, 1, 2, 3] (by decide) rfl) d_Cal_init_38
theorem d_Cal_isRule_0 : decode prog_2_method_3_code 0 = .ok (.iload_n 0, 1) := by decide +kernel
theorem d_Cal_isRule_1 : decode prog_2_method_3_code 1 = .ok (.tableswitch 64 0 3 #[31, 47, 31, 47], 31) := by decide +kernel
theorem d_Cal_isRule_32 : decode prog_2_method_3_code 32 = .ok (.iload_n 1, 1) := by decide +kernel
theorem d_Cal_isRule_33 : decode prog_2_method_3_code 33 = .ok (.ifCond .lt 13, 3) := by decide +kernel
theorem d_Cal_isRule_36 : decode prog_2_method_3_code 36 = .ok (.iload_n 1, 1) := by decide +kernel
theorem d_Cal_isRule_37 : decode prog_2_method_3_code 37 = .ok (.bipush 7, 2) := by decide +kernel
theorem d_Cal_isRule_39 : decode prog_2_method_3_code 39 = .ok (.if_icmp .ge 7, 3) := by decide +kernel
theorem d_Cal_isRule_42 : decode prog_2_method_3_code 42 = .ok (.iconst 1, 1) := by decide +kernel
theorem d_Cal_isRule_43 : decode prog_2_method_3_code 43 = .ok (.goto 4, 3) := by decide +kernel
theorem d_Cal_isRule_46 : decode prog_2_method_3_code 46 = .ok (.iconst 0, 1) := by decide +kernel
theorem d_Cal_isRule_47 : decode prog_2_method_3_code 47 = .ok (.ireturn, 1) := by decide +kernel
theorem d_Cal_isRule_48 : decode prog_2_method_3_code 48 = .ok (.iload_n 1, 1) := by decide +kernel
theorem d_Cal_isRule_49 : decode prog_2_method_3_code 49 = .ok (.iconst 1, 1) := by decide +kernel
theorem d_Cal_isRule_50 : decode prog_2_method_3_code 50 = .ok (.if_icmp .lt 13, 3) := by decide +kernel
theorem d_Cal_isRule_53 : decode prog_2_method_3_code 53 = .ok (.iload_n 1, 1) := by decide +kernel
theorem d_Cal_isRule_54 : decode prog_2_method_3_code 54 = .ok (.bipush 30, 2) := by decide +kernel
theorem d_Cal_isRule_56 : decode prog_2_method_3_code 56 = .ok (.if_icmp .gt 7, 3) := by decide +kernel
theorem d_Cal_isRule_59 : decode prog_2_method_3_code 59 = .ok (.iconst 1, 1) := by decide +kernel
theorem d_Cal_isRule_60 : decode prog_2_method_3_code 60 = .ok (.goto 4, 3) := by decide +kernel
theorem d_Cal_isRule_63 : decode prog_2_method_3_code 63 = .ok (.iconst 0, 1) := by decide +kernel
theorem d_Cal_isRule_64 : decode prog_2_method_3_code 64 = .ok (.ireturn, 1) := by decide +kernel
theorem d_Cal_isRule_65 : decode prog_2_method_3_code 65 = .ok (.iconst 0, 1) := by decide +kernel
theorem d_Cal_isRule_66 : decode prog_2_method_3_code 66 = .ok (.ireturn, 1) := by decide +kernel
def md_Cal_isRule (N : Nat) (a0_x : Int32) (a1_x : Int32) : Option (Int32) :=
  (if a0_x = (0 : Int32) then (if a1_x < 0 then (some (0 : Int32)) else (if (7 : Int32) ≤ a1_x then (some (0 : Int32)) else (some (1 : Int32)))) else (if a0_x = (1 : Int32) then (if a1_x < (1 : Int32) then (some (0 : Int32)) else (if (30 : Int32) < a1_x then (some (0 : Int32)) else (some (1 : Int32)))) else (if a0_x = (2 : Int32) then (if a1_x < 0 then (some (0 : Int32)) else (if (7 : Int32) ≤ a1_x then (some (0 : Int32)) else (some (1 : Int32)))) else (if a0_x = (3 : Int32) then (if a1_x < (1 : Int32) then (some (0 : Int32)) else (if (30 : Int32) < a1_x then (some (0 : Int32)) else (some (1 : Int32)))) else (some (0 : Int32))))))
abbrev sc_Cal_isRule (cI cL cM cZ : ClassId) : List va_W := []
abbrev rm_Cal_isRule : Room := { frames := 0, cells := 0, slots := 0, locals := 0 }
set_option maxHeartbeats 4000000 in
set_option maxRecDepth 100000 in
theorem ct_Cal_isRule (l : Launch) (dC : Nat → ClassId) (dI : Nat → Nat → Nat) (cI cL cM cZ : ClassId) (a0_x : Int32) (a1_x : Int32) (N : Nat) (o : Int32) (hm : md_Cal_isRule N a0_x a1_x = some o) : ∀ sz : Nat, Met l y_Cal_isRule ws_Cal_isRule rm_Cal_isRule (cP (dC, dI) vwCl [(cI, .int), (cL, .long), (cM, .array .int), (cZ, .boolean)] [.int a0_x, .int a1_x] sz (sc_Cal_isRule cI cL cM cZ)) (cQi (dC, dI) vwCl [(cI, .int), (cL, .long), (cM, .array .int), (cZ, .boolean)] sz (sc_Cal_isRule cI cL cM cZ) o (sc_Cal_isRule cI cL cM cZ)) 0 0 (va_A ((sc_Cal_isRule cI cL cM cZ)).flatten sz) := by
  refine sg_met (fun sz => cQi (dC, dI) vwCl [(cI, .int), (cL, .long), (cM, .array .int), (cZ, .boolean)] sz (sc_Cal_isRule cI cL cM cZ) o (sc_Cal_isRule cI cL cM cZ)) (by decide) (Nat.le_of_ble_eq_true rfl) ?_
  intro p e s m args below meth c A Q ls hx hb hr hts hown hlocks hml hname hK hNW hA hAe hQ hw hl
  have hl : lv_has ls 2 [(0, .int a0_x), (1, .int a1_x)] := hl
  have hw : wk (dC, dI) vwCl A s.heap [] s.heap [] := hw
  unfold md_Cal_isRule at hm
  refine lv_iload_n hx hb d_Cal_isRule_0 rfl (lv_at hl 0 rfl) ?_
  refine it_c hm (fun hc1 hm => ?_) (fun hc1 hm => ?_)
  · refine lv_tableIn (tgt := 32) hx hb d_Cal_isRule_1 (by rw [hc1]; decide) (by rw [hc1]; decide) (by rw [hc1]; rfl) (by decide) ?_
    refine lv_iload_n hx hb d_Cal_isRule_32 rfl (lv_at hl 1 rfl) ?_
    refine bq_t (lv_if_lt (tgt := 46) hx hb d_Cal_isRule_33 (by decide)) hm (fun hm => ?_) (fun hm => ?_)
    · refine lv_iconst (v := 0) hx hb d_Cal_isRule_46 (by decide) ?_
      exact so_zret (rf := fun z_ => z_) (Sf := fun z_ => sc_Cal_isRule cI cL cM cZ) hm hx hb hr rfl hlocks hAe hQ hK hw rfl d_Cal_isRule_47
    · refine lv_iload_n hx hb d_Cal_isRule_36 rfl (lv_at hl 1 rfl) ?_
      refine lv_bipush (v := 7) hx hb d_Cal_isRule_37 (by decide) ?_
      refine bq_t (lv_icmp_ge (tgt := 46) hx hb d_Cal_isRule_39 (by decide)) hm (fun hm => ?_) (fun hm => ?_)
      · refine lv_iconst (v := 0) hx hb d_Cal_isRule_46 (by decide) ?_
        exact so_zret (rf := fun z_ => z_) (Sf := fun z_ => sc_Cal_isRule cI cL cM cZ) hm hx hb hr rfl hlocks hAe hQ hK hw rfl d_Cal_isRule_47
      · refine lv_iconst (v := 1) hx hb d_Cal_isRule_42 (by decide) ?_
        refine lv_goto (tgt := 47) hx hb d_Cal_isRule_43 (by decide) ?_
        exact so_zret (rf := fun z_ => z_) (Sf := fun z_ => sc_Cal_isRule cI cL cM cZ) hm hx hb hr rfl hlocks hAe hQ hK hw rfl d_Cal_isRule_47
  · skip
    refine it_c hm (fun hc2 hm => ?_) (fun hc2 hm => ?_)
    · refine lv_tableIn (tgt := 48) hx hb d_Cal_isRule_1 (by rw [hc2]; decide) (by rw [hc2]; decide) (by rw [hc2]; rfl) (by decide) ?_
      refine lv_iload_n hx hb d_Cal_isRule_48 rfl (lv_at hl 1 rfl) ?_
      refine lv_iconst (v := 1) hx hb d_Cal_isRule_49 (by decide) ?_
      refine bq_t (lv_icmp_lt (tgt := 63) hx hb d_Cal_isRule_50 (by decide)) hm (fun hm => ?_) (fun hm => ?_)
      · refine lv_iconst (v := 0) hx hb d_Cal_isRule_63 (by decide) ?_
        exact so_zret (rf := fun z_ => z_) (Sf := fun z_ => sc_Cal_isRule cI cL cM cZ) hm hx hb hr rfl hlocks hAe hQ hK hw rfl d_Cal_isRule_64
      · refine lv_iload_n hx hb d_Cal_isRule_53 rfl (lv_at hl 1 rfl) ?_
        refine lv_bipush (v := 30) hx hb d_Cal_isRule_54 (by decide) ?_
        refine bq_t (lv_icmp_gt (tgt := 63) hx hb d_Cal_isRule_56 (by decide)) hm (fun hm => ?_) (fun hm => ?_)
        · refine lv_iconst (v := 0) hx hb d_Cal_isRule_63 (by decide) ?_
          exact so_zret (rf := fun z_ => z_) (Sf := fun z_ => sc_Cal_isRule cI cL cM cZ) hm hx hb hr rfl hlocks hAe hQ hK hw rfl d_Cal_isRule_64
        · refine lv_iconst (v := 1) hx hb d_Cal_isRule_59 (by decide) ?_
          refine lv_goto (tgt := 64) hx hb d_Cal_isRule_60 (by decide) ?_
          exact so_zret (rf := fun z_ => z_) (Sf := fun z_ => sc_Cal_isRule cI cL cM cZ) hm hx hb hr rfl hlocks hAe hQ hK hw rfl d_Cal_isRule_64
    · skip
      refine it_c hm (fun hc3 hm => ?_) (fun hc3 hm => ?_)
      · refine lv_tableIn (tgt := 32) hx hb d_Cal_isRule_1 (by rw [hc3]; decide) (by rw [hc3]; decide) (by rw [hc3]; rfl) (by decide) ?_
        refine lv_iload_n hx hb d_Cal_isRule_32 rfl (lv_at hl 1 rfl) ?_
        refine bq_t (lv_if_lt (tgt := 46) hx hb d_Cal_isRule_33 (by decide)) hm (fun hm => ?_) (fun hm => ?_)
        · refine lv_iconst (v := 0) hx hb d_Cal_isRule_46 (by decide) ?_
          exact so_zret (rf := fun z_ => z_) (Sf := fun z_ => sc_Cal_isRule cI cL cM cZ) hm hx hb hr rfl hlocks hAe hQ hK hw rfl d_Cal_isRule_47
        · refine lv_iload_n hx hb d_Cal_isRule_36 rfl (lv_at hl 1 rfl) ?_
          refine lv_bipush (v := 7) hx hb d_Cal_isRule_37 (by decide) ?_
          refine bq_t (lv_icmp_ge (tgt := 46) hx hb d_Cal_isRule_39 (by decide)) hm (fun hm => ?_) (fun hm => ?_)
          · refine lv_iconst (v := 0) hx hb d_Cal_isRule_46 (by decide) ?_
            exact so_zret (rf := fun z_ => z_) (Sf := fun z_ => sc_Cal_isRule cI cL cM cZ) hm hx hb hr rfl hlocks hAe hQ hK hw rfl d_Cal_isRule_47
          · refine lv_iconst (v := 1) hx hb d_Cal_isRule_42 (by decide) ?_
            refine lv_goto (tgt := 47) hx hb d_Cal_isRule_43 (by decide) ?_
            exact so_zret (rf := fun z_ => z_) (Sf := fun z_ => sc_Cal_isRule cI cL cM cZ) hm hx hb hr rfl hlocks hAe hQ hK hw rfl d_Cal_isRule_47
      · skip
        refine it_c hm (fun hc4 hm => ?_) (fun hc4 hm => ?_)
        · refine lv_tableIn (tgt := 48) hx hb d_Cal_isRule_1 (by rw [hc4]; decide) (by rw [hc4]; decide) (by rw [hc4]; rfl) (by decide) ?_
          refine lv_iload_n hx hb d_Cal_isRule_48 rfl (lv_at hl 1 rfl) ?_
          refine lv_iconst (v := 1) hx hb d_Cal_isRule_49 (by decide) ?_
          refine bq_t (lv_icmp_lt (tgt := 63) hx hb d_Cal_isRule_50 (by decide)) hm (fun hm => ?_) (fun hm => ?_)
          · refine lv_iconst (v := 0) hx hb d_Cal_isRule_63 (by decide) ?_
            exact so_zret (rf := fun z_ => z_) (Sf := fun z_ => sc_Cal_isRule cI cL cM cZ) hm hx hb hr rfl hlocks hAe hQ hK hw rfl d_Cal_isRule_64
          · refine lv_iload_n hx hb d_Cal_isRule_53 rfl (lv_at hl 1 rfl) ?_
            refine lv_bipush (v := 30) hx hb d_Cal_isRule_54 (by decide) ?_
            refine bq_t (lv_icmp_gt (tgt := 63) hx hb d_Cal_isRule_56 (by decide)) hm (fun hm => ?_) (fun hm => ?_)
            · refine lv_iconst (v := 0) hx hb d_Cal_isRule_63 (by decide) ?_
              exact so_zret (rf := fun z_ => z_) (Sf := fun z_ => sc_Cal_isRule cI cL cM cZ) hm hx hb hr rfl hlocks hAe hQ hK hw rfl d_Cal_isRule_64
            · refine lv_iconst (v := 1) hx hb d_Cal_isRule_59 (by decide) ?_
              refine lv_goto (tgt := 64) hx hb d_Cal_isRule_60 (by decide) ?_
              exact so_zret (rf := fun z_ => z_) (Sf := fun z_ => sc_Cal_isRule cI cL cM cZ) hm hx hb hr rfl hlocks hAe hQ hK hw rfl d_Cal_isRule_64
        · skip
          refine lv_tableOut (tgt := 65) hx hb d_Cal_isRule_1 (by have mhc1 := i32_nk (0) (0) (by decide) hc1; have mhc2 := i32_nk (1) (1) (by decide) hc2; have mhc3 := i32_nk (2) (2) (by decide) hc3; have mhc4 := i32_nk (3) (3) (by decide) hc4; omega) (by decide) ?_
          refine lv_iconst (v := 0) hx hb d_Cal_isRule_65 (by decide) ?_
          exact so_zret (rf := fun z_ => z_) (Sf := fun z_ => sc_Cal_isRule cI cL cM cZ) hm hx hb hr rfl hlocks hAe hQ hK hw rfl d_Cal_isRule_66
theorem d_Cal_holidayPlace_0 : decode prog_2_method_5_code 0 = .ok (.iconst 0, 1) := by decide +kernel
theorem d_Cal_holidayPlace_1 : decode prog_2_method_5_code 1 = .ok (.istore_n 2, 1) := by decide +kernel
theorem d_Cal_holidayPlace_2 : decode prog_2_method_5_code 2 = .ok (.iload_n 2, 1) := by decide +kernel
theorem d_Cal_holidayPlace_3 : decode prog_2_method_5_code 3 = .ok (.aload_n 0, 1) := by decide +kernel
theorem d_Cal_holidayPlace_4 : decode prog_2_method_5_code 4 = .ok (.getfield 25, 3) := by decide +kernel
theorem d_Cal_holidayPlace_7 : decode prog_2_method_5_code 7 = .ok (.if_icmp .ge 21, 3) := by decide +kernel
theorem d_Cal_holidayPlace_10 : decode prog_2_method_5_code 10 = .ok (.aload_n 0, 1) := by decide +kernel
theorem d_Cal_holidayPlace_11 : decode prog_2_method_5_code 11 = .ok (.getfield 18, 3) := by decide +kernel
theorem d_Cal_holidayPlace_14 : decode prog_2_method_5_code 14 = .ok (.iload_n 2, 1) := by decide +kernel
theorem d_Cal_holidayPlace_15 : decode prog_2_method_5_code 15 = .ok (.iaload, 1) := by decide +kernel
theorem d_Cal_holidayPlace_16 : decode prog_2_method_5_code 16 = .ok (.iload_n 1, 1) := by decide +kernel
theorem d_Cal_holidayPlace_17 : decode prog_2_method_5_code 17 = .ok (.if_icmp .ne 5, 3) := by decide +kernel
theorem d_Cal_holidayPlace_20 : decode prog_2_method_5_code 20 = .ok (.iload_n 2, 1) := by decide +kernel
theorem d_Cal_holidayPlace_21 : decode prog_2_method_5_code 21 = .ok (.ireturn, 1) := by decide +kernel
theorem d_Cal_holidayPlace_22 : decode prog_2_method_5_code 22 = .ok (.iinc 2 1, 3) := by decide +kernel
theorem d_Cal_holidayPlace_25 : decode prog_2_method_5_code 25 = .ok (.goto (-23), 3) := by decide +kernel
theorem d_Cal_holidayPlace_28 : decode prog_2_method_5_code 28 = .ok (.iconst (-1), 1) := by decide +kernel
theorem d_Cal_holidayPlace_29 : decode prog_2_method_5_code 29 = .ok (.ireturn, 1) := by decide +kernel
def md_Cal_holidayPlace_F2 (v_p0_holidayCount : Int32) (f_p0_holidays : Nat → Int32) (a1_x : Int32) (rec2 : Int32 → Option (Int32)) (x1 : Int32) : Option (Int32) :=
  (if v_p0_holidayCount ≤ x1 then (some (-1 : Int32)) else (if sg_in x1 100 = true then (if (f_p0_holidays x1.toNatClampNeg) = a1_x then (some x1) else (rec2 (x1 + 1))) else none))
def md_Cal_holidayPlace (N : Nat) (v_p0_holidayCount : Int32) (f_p0_holidays : Nat → Int32) (a1_x : Int32) : Option (Int32) :=
  (fx1 (md_Cal_holidayPlace_F2 v_p0_holidayCount f_p0_holidays a1_x) N (0 : Int32))
abbrev sc_Cal_holidayPlace (cI cL cM cZ : ClassId) (q_p0 q_p0_rules q_p0_places q_p0_holidays : Nat) (v_p0_made : Int32) (v_p0_holidayCount : Int32) (f_p0_holidays : Nat → Int32) : List va_W := [[(q_p0, .inr (1, [.ref q_p0_rules, .ref q_p0_places, .ref q_p0_holidays, .int v_p0_made, .int v_p0_holidayCount]))], [(q_p0_holidays, .inl (cI, 100, .inl f_p0_holidays))]]
abbrev rm_Cal_holidayPlace : Room := { frames := 0, cells := 0, slots := 0, locals := 0 }
set_option maxHeartbeats 4000000 in
set_option maxRecDepth 100000 in
theorem ct_Cal_holidayPlace (l : Launch) (dC : Nat → ClassId) (dI : Nat → Nat → Nat) (cI cL cM cZ : ClassId) (q_p0 q_p0_rules q_p0_places q_p0_holidays : Nat) (v_p0_made : Int32) (v_p0_holidayCount : Int32) (f_p0_holidays : Nat → Int32) (a1_x : Int32) (N : Nat) (o : Int32) (hm : md_Cal_holidayPlace N v_p0_holidayCount f_p0_holidays a1_x = some o) : ∀ sz : Nat, Met l y_Cal_holidayPlace ws_Cal_holidayPlace rm_Cal_holidayPlace (cP (dC, dI) vwCl [(cI, .int), (cL, .long), (cM, .array .int), (cZ, .boolean)] [.ref q_p0, .int a1_x] sz (sc_Cal_holidayPlace cI cL cM cZ q_p0 q_p0_rules q_p0_places q_p0_holidays v_p0_made v_p0_holidayCount f_p0_holidays)) (cQi (dC, dI) vwCl [(cI, .int), (cL, .long), (cM, .array .int), (cZ, .boolean)] sz (sc_Cal_holidayPlace cI cL cM cZ q_p0 q_p0_rules q_p0_places q_p0_holidays v_p0_made v_p0_holidayCount f_p0_holidays) o (sc_Cal_holidayPlace cI cL cM cZ q_p0 q_p0_rules q_p0_places q_p0_holidays v_p0_made v_p0_holidayCount f_p0_holidays)) 0 0 (va_A ((sc_Cal_holidayPlace cI cL cM cZ q_p0 q_p0_rules q_p0_places q_p0_holidays v_p0_made v_p0_holidayCount f_p0_holidays)).flatten sz) := by
  refine sg_met (fun sz => cQi (dC, dI) vwCl [(cI, .int), (cL, .long), (cM, .array .int), (cZ, .boolean)] sz (sc_Cal_holidayPlace cI cL cM cZ q_p0 q_p0_rules q_p0_places q_p0_holidays v_p0_made v_p0_holidayCount f_p0_holidays) o (sc_Cal_holidayPlace cI cL cM cZ q_p0 q_p0_rules q_p0_places q_p0_holidays v_p0_made v_p0_holidayCount f_p0_holidays)) (by decide) (Nat.le_of_ble_eq_true rfl) ?_
  intro p e s m args below meth c A Q ls hx hb hr hts hown hlocks hml hname hK hNW hA hAe hQ hw hl
  have hl : lv_has ls 3 [(0, .ref q_p0), (1, .int a1_x)] := hl
  have hw : wk (dC, dI) vwCl A s.heap [[(q_p0, .inr (1, [.ref q_p0_rules, .ref q_p0_places, .ref q_p0_holidays, .int v_p0_made, .int v_p0_holidayCount]))], [(q_p0_holidays, .inl (cI, 100, .inl f_p0_holidays))]] s.heap [] := hw
  unfold md_Cal_holidayPlace at hm
  refine lv_iconst (v := 0) hx hb d_Cal_holidayPlace_0 (by decide) ?_
  refine lv_istore_n (lv' := [(2, .int (0 : Int32)), (0, .ref q_p0), (1, .int a1_x)]) hx hb d_Cal_holidayPlace_1 rfl hl (by decide) rfl (fun ls hl => ?_)
  obtain ⟨Fn2, hFn2, hm⟩ := fx1_x hm
  have L2 : ∀ (n : Nat) (x1 : Int32), fx1 Fn2 n x1 = some o → ∀ (H : Heap) (locs : List Loc) (ls : Array Slot), wk (dC, dI) vwCl A s.heap [[(q_p0, .inr (1, [.ref q_p0_rules, .ref q_p0_places, .ref q_p0_holidays, .int v_p0_made, .int v_p0_holidayCount]))], [(q_p0_holidays, .inl (cI, 100, .inl f_p0_holidays))]] H locs → lv_has ls 3 [(2, .int x1), (0, .ref q_p0), (1, .int a1_x)] → W p l e rm_Cal_holidayPlace s m args below meth c H locs 0 0 Q (F0 m 2 ls []) := by
    intro n
    induction n with
    | zero => intro x1 hm; exact (fx1_0 hm).elim
    | succ n ih2 =>
      intro x1 hm H locs ls hw hl
      have hm := fx1_s hFn2 hm
      unfold md_Cal_holidayPlace_F2 at hm
      refine lv_iload_n hx hb d_Cal_holidayPlace_2 rfl (lv_at hl 0 rfl) ?_
      refine lv_aload_n hx hb d_Cal_holidayPlace_3 rfl (lv_at hl 1 rfl) ?_
      refine sg_get (D := (dC, dI)) (ci := 1) (v := .int v_p0_holidayCount) (C := "JobNets$Calendars") (T := T_1) (N := 5) hx hb hts hin_1 hown hK hw 0 rfl rfl 4 (by decide) (hts _ wd_36) rfl rfl d_Cal_holidayPlace_4 ?_
      refine bq_t (lv_icmp_ge (tgt := 28) hx hb d_Cal_holidayPlace_7 (by decide)) hm (fun hm => ?_) (fun hm => ?_)
      · refine lv_iconst (v := -1) hx hb d_Cal_holidayPlace_28 (by decide) ?_
        exact so_iret (rf := fun z_ => z_) (Sf := fun z_ => sc_Cal_holidayPlace cI cL cM cZ q_p0 q_p0_rules q_p0_places q_p0_holidays v_p0_made v_p0_holidayCount f_p0_holidays) hm hx hb hr hlocks hAe hQ hK hw rfl d_Cal_holidayPlace_29
      · refine lv_aload_n hx hb d_Cal_holidayPlace_10 rfl (lv_at hl 1 rfl) ?_
        refine sg_get (D := (dC, dI)) (ci := 1) (v := .ref q_p0_holidays) (C := "JobNets$Calendars") (T := T_1) (N := 5) hx hb hts hin_1 hown hK hw 0 rfl rfl 2 (by decide) (hts _ wd_33) rfl rfl d_Cal_holidayPlace_11 ?_
        refine lv_iload_n hx hb d_Cal_holidayPlace_14 rfl (lv_at hl 0 rfl) ?_
        refine sg_iald hx hb hK hw 1 0 rfl rfl d_Cal_holidayPlace_15 hm (fun hm => ?_)
        refine lv_iload_n hx hb d_Cal_holidayPlace_16 rfl (lv_at hl 2 rfl) ?_
        refine bq_n (lv_icmp_ne (tgt := 22) hx hb d_Cal_holidayPlace_17 (by decide)) hm (fun hm => ?_) (fun hm => ?_)
        · refine lv_iinc (v := x1 + 1) (lv' := [(2, .int (x1 + 1)), (0, .ref q_p0), (1, .int a1_x)]) hx hb d_Cal_holidayPlace_22 hl (k := 0) rfl rfl (by decide) rfl (fun ls hl => ?_)
          refine lv_goto (tgt := 2) hx hb d_Cal_holidayPlace_25 (by decide) ?_
          exact ih2 (x1 + 1) hm _ _ _ hw hl
        · refine lv_iload_n hx hb d_Cal_holidayPlace_20 rfl (lv_at hl 0 rfl) ?_
          exact so_iret (rf := fun z_ => z_) (Sf := fun z_ => sc_Cal_holidayPlace cI cL cM cZ q_p0 q_p0_rules q_p0_places q_p0_holidays v_p0_made v_p0_holidayCount f_p0_holidays) hm hx hb hr hlocks hAe hQ hK hw rfl d_Cal_holidayPlace_21
  exact L2 _ _ hm _ _ _ hw hl
theorem d_Cal_isInWorkWeek_0 : decode prog_2_method_8_code 0 = .ok (.iload_n 0, 1) := by decide +kernel
theorem d_Cal_isInWorkWeek_1 : decode prog_2_method_8_code 1 = .ok (.bipush 7, 2) := by decide +kernel
theorem d_Cal_isInWorkWeek_3 : decode prog_2_method_8_code 3 = .ok (.irem, 1) := by decide +kernel
theorem d_Cal_isInWorkWeek_4 : decode prog_2_method_8_code 4 = .ok (.iconst 5, 1) := by decide +kernel
theorem d_Cal_isInWorkWeek_5 : decode prog_2_method_8_code 5 = .ok (.if_icmp .ge 7, 3) := by decide +kernel
theorem d_Cal_isInWorkWeek_8 : decode prog_2_method_8_code 8 = .ok (.iconst 1, 1) := by decide +kernel
theorem d_Cal_isInWorkWeek_9 : decode prog_2_method_8_code 9 = .ok (.goto 4, 3) := by decide +kernel
theorem d_Cal_isInWorkWeek_12 : decode prog_2_method_8_code 12 = .ok (.iconst 0, 1) := by decide +kernel
theorem d_Cal_isInWorkWeek_13 : decode prog_2_method_8_code 13 = .ok (.ireturn, 1) := by decide +kernel
def md_Cal_isInWorkWeek (N : Nat) (a0_x : Int32) : Option (Int32) :=
  (if (5 : Int32) ≤ (a0_x - a0_x / (7 : Int32) * (7 : Int32)) then (some (0 : Int32)) else (some (1 : Int32)))
abbrev sc_Cal_isInWorkWeek (cI cL cM cZ : ClassId) : List va_W := []
abbrev rm_Cal_isInWorkWeek : Room := { frames := 0, cells := 0, slots := 0, locals := 0 }
set_option maxHeartbeats 4000000 in
set_option maxRecDepth 100000 in
theorem ct_Cal_isInWorkWeek (l : Launch) (dC : Nat → ClassId) (dI : Nat → Nat → Nat) (cI cL cM cZ : ClassId) (a0_x : Int32) (N : Nat) (o : Int32) (hm : md_Cal_isInWorkWeek N a0_x = some o) : ∀ sz : Nat, Met l y_Cal_isInWorkWeek ws_Cal_isInWorkWeek rm_Cal_isInWorkWeek (cP (dC, dI) vwCl [(cI, .int), (cL, .long), (cM, .array .int), (cZ, .boolean)] [.int a0_x] sz (sc_Cal_isInWorkWeek cI cL cM cZ)) (cQi (dC, dI) vwCl [(cI, .int), (cL, .long), (cM, .array .int), (cZ, .boolean)] sz (sc_Cal_isInWorkWeek cI cL cM cZ) o (sc_Cal_isInWorkWeek cI cL cM cZ)) 0 0 (va_A ((sc_Cal_isInWorkWeek cI cL cM cZ)).flatten sz) := by
  refine sg_met (fun sz => cQi (dC, dI) vwCl [(cI, .int), (cL, .long), (cM, .array .int), (cZ, .boolean)] sz (sc_Cal_isInWorkWeek cI cL cM cZ) o (sc_Cal_isInWorkWeek cI cL cM cZ)) (by decide) (Nat.le_of_ble_eq_true rfl) ?_
  intro p e s m args below meth c A Q ls hx hb hr hts hown hlocks hml hname hK hNW hA hAe hQ hw hl
  have hl : lv_has ls 1 [(0, .int a0_x)] := hl
  have hw : wk (dC, dI) vwCl A s.heap [] s.heap [] := hw
  unfold md_Cal_isInWorkWeek at hm
  refine lv_iload_n hx hb d_Cal_isInWorkWeek_0 rfl (lv_at hl 0 rfl) ?_
  refine lv_bipush (v := 7) hx hb d_Cal_isInWorkWeek_1 (by decide) ?_
  refine lv_irem hx hb d_Cal_isInWorkWeek_3 (by decide) ?_
  refine lv_iconst (v := 5) hx hb d_Cal_isInWorkWeek_4 (by decide) ?_
  refine bq_t (lv_icmp_ge (tgt := 12) hx hb d_Cal_isInWorkWeek_5 (by decide)) hm (fun hm => ?_) (fun hm => ?_)
  · refine lv_iconst (v := 0) hx hb d_Cal_isInWorkWeek_12 (by decide) ?_
    exact so_zret (rf := fun z_ => z_) (Sf := fun z_ => sc_Cal_isInWorkWeek cI cL cM cZ) hm hx hb hr rfl hlocks hAe hQ hK hw rfl d_Cal_isInWorkWeek_13
  · refine lv_iconst (v := 1) hx hb d_Cal_isInWorkWeek_8 (by decide) ?_
    refine lv_goto (tgt := 13) hx hb d_Cal_isInWorkWeek_9 (by decide) ?_
    exact so_zret (rf := fun z_ => z_) (Sf := fun z_ => sc_Cal_isInWorkWeek cI cL cM cZ) hm hx hb hr rfl hlocks hAe hQ hK hw rfl d_Cal_isInWorkWeek_13
theorem d_Cal_isWorkDay_0 : decode prog_2_method_9_code 0 = .ok (.iload_n 1, 1) := by decide +kernel
theorem d_Cal_isWorkDay_1 : decode prog_2_method_9_code 1 = .ok (.invokestatic 46, 3) := by decide +kernel
theorem d_Cal_isWorkDay_4 : decode prog_2_method_9_code 4 = .ok (.ifCond .eq 16, 3) := by decide +kernel
theorem d_Cal_isWorkDay_7 : decode prog_2_method_9_code 7 = .ok (.aload_n 0, 1) := by decide +kernel
theorem d_Cal_isWorkDay_8 : decode prog_2_method_9_code 8 = .ok (.iload_n 1, 1) := by decide +kernel
theorem d_Cal_isWorkDay_9 : decode prog_2_method_9_code 9 = .ok (.invokevirtual 32, 3) := by decide +kernel
theorem d_Cal_isWorkDay_12 : decode prog_2_method_9_code 12 = .ok (.iconst (-1), 1) := by decide +kernel
theorem d_Cal_isWorkDay_13 : decode prog_2_method_9_code 13 = .ok (.if_icmp .ne 7, 3) := by decide +kernel
theorem d_Cal_isWorkDay_16 : decode prog_2_method_9_code 16 = .ok (.iconst 1, 1) := by decide +kernel
theorem d_Cal_isWorkDay_17 : decode prog_2_method_9_code 17 = .ok (.goto 4, 3) := by decide +kernel
theorem d_Cal_isWorkDay_20 : decode prog_2_method_9_code 20 = .ok (.iconst 0, 1) := by decide +kernel
theorem d_Cal_isWorkDay_21 : decode prog_2_method_9_code 21 = .ok (.ireturn, 1) := by decide +kernel
def md_Cal_isWorkDay (N : Nat) (v_p0_holidayCount : Int32) (f_p0_holidays : Nat → Int32) (a1_x : Int32) : Option (Int32) :=
  (zc (md_Cal_isInWorkWeek N a1_x) (fun o1 => (if o1 = 0 then (some (0 : Int32)) else (zc (md_Cal_holidayPlace N v_p0_holidayCount f_p0_holidays a1_x) (fun o2 => (if o2 = (-1 : Int32) then (some (1 : Int32)) else (some (0 : Int32))))))))
abbrev sc_Cal_isWorkDay (cI cL cM cZ : ClassId) (q_p0 q_p0_rules q_p0_places q_p0_holidays : Nat) (v_p0_made : Int32) (v_p0_holidayCount : Int32) (f_p0_holidays : Nat → Int32) : List va_W := [[(q_p0, .inr (1, [.ref q_p0_rules, .ref q_p0_places, .ref q_p0_holidays, .int v_p0_made, .int v_p0_holidayCount]))], [(q_p0_holidays, .inl (cI, 100, .inl f_p0_holidays))]]
abbrev rm_Cal_isWorkDay : Room := { frames := 1, cells := 0, slots := 0, locals := 22 }
set_option maxHeartbeats 4000000 in
set_option maxRecDepth 100000 in
theorem ct_Cal_isWorkDay (l : Launch) (dC : Nat → ClassId) (dI : Nat → Nat → Nat) (cI cL cM cZ : ClassId) (q_p0 q_p0_rules q_p0_places q_p0_holidays : Nat) (v_p0_made : Int32) (v_p0_holidayCount : Int32) (f_p0_holidays : Nat → Int32) (a1_x : Int32) (N : Nat) (o : Int32) (hm : md_Cal_isWorkDay N v_p0_holidayCount f_p0_holidays a1_x = some o) : ∀ sz : Nat, Met l y_Cal_isWorkDay ws_Cal_isWorkDay rm_Cal_isWorkDay (cP (dC, dI) vwCl [(cI, .int), (cL, .long), (cM, .array .int), (cZ, .boolean)] [.ref q_p0, .int a1_x] sz (sc_Cal_isWorkDay cI cL cM cZ q_p0 q_p0_rules q_p0_places q_p0_holidays v_p0_made v_p0_holidayCount f_p0_holidays)) (cQi (dC, dI) vwCl [(cI, .int), (cL, .long), (cM, .array .int), (cZ, .boolean)] sz (sc_Cal_isWorkDay cI cL cM cZ q_p0 q_p0_rules q_p0_places q_p0_holidays v_p0_made v_p0_holidayCount f_p0_holidays) o (sc_Cal_isWorkDay cI cL cM cZ q_p0 q_p0_rules q_p0_places q_p0_holidays v_p0_made v_p0_holidayCount f_p0_holidays)) 0 0 (va_A ((sc_Cal_isWorkDay cI cL cM cZ q_p0 q_p0_rules q_p0_places q_p0_holidays v_p0_made v_p0_holidayCount f_p0_holidays)).flatten sz) := by
  refine sg_met (fun sz => cQi (dC, dI) vwCl [(cI, .int), (cL, .long), (cM, .array .int), (cZ, .boolean)] sz (sc_Cal_isWorkDay cI cL cM cZ q_p0 q_p0_rules q_p0_places q_p0_holidays v_p0_made v_p0_holidayCount f_p0_holidays) o (sc_Cal_isWorkDay cI cL cM cZ q_p0 q_p0_rules q_p0_places q_p0_holidays v_p0_made v_p0_holidayCount f_p0_holidays)) (by decide) (Nat.le_of_ble_eq_true rfl) ?_
  intro p e s m args below meth c A Q ls hx hb hr hts hown hlocks hml hname hK hNW hA hAe hQ hw hl
  have hl : lv_has ls 2 [(0, .ref q_p0), (1, .int a1_x)] := hl
  have hw : wk (dC, dI) vwCl A s.heap [[(q_p0, .inr (1, [.ref q_p0_rules, .ref q_p0_places, .ref q_p0_holidays, .int v_p0_made, .int v_p0_holidayCount]))], [(q_p0_holidays, .inl (cI, 100, .inl f_p0_holidays))]] s.heap [] := hw
  unfold md_Cal_isWorkDay at hm
  refine lv_iload_n hx hb d_Cal_isWorkDay_0 rfl (lv_at hl 1 rfl) ?_
  obtain ⟨o1, h1, hm⟩ := zc_x hm
  refine sg_ci0 (Sr := [[(q_p0, .inr (1, [.ref q_p0_rules, .ref q_p0_places, .ref q_p0_holidays, .int v_p0_made, .int v_p0_holidayCount]))], [(q_p0_holidays, .inl (cI, 100, .inl f_p0_holidays))]]) (va_runS (As := [.int a1_x]) (rest := []) ⟨hx, hb, hml, hown, hts⟩ (ct_Cal_isInWorkWeek l dC dI cI cL cM cZ a1_x N o1 h1 _) (cwS 1 hts (gd_S wd_411 wd_412 wd_2 wd_413) rfl rfl rfl (by decide +kernel) ⟨Nat.le_of_ble_eq_true rfl, Nat.le_of_ble_eq_true rfl⟩) (sg_preS hK hNW hw [] rfl rfl) rfl rfl hl.1 rfl (lv_room (Nat.le_of_ble_eq_true rfl)) d_Cal_isWorkDay_1 ⟨Nat.le_of_ble_eq_true rfl, Nat.le_of_ble_eq_true rfl⟩) hw hA [] [0, 1] rfl rfl rfl (by decide) (fun H locs hw => ?_)
  have hw : wk (dC, dI) vwCl A s.heap [[(q_p0, .inr (1, [.ref q_p0_rules, .ref q_p0_places, .ref q_p0_holidays, .int v_p0_made, .int v_p0_holidayCount]))], [(q_p0_holidays, .inl (cI, 100, .inl f_p0_holidays))]] H locs := hw
  refine bq_t (lv_if_eq (tgt := 20) hx hb d_Cal_isWorkDay_4 (by decide)) hm (fun hm => ?_) (fun hm => ?_)
  · refine lv_iconst (v := 0) hx hb d_Cal_isWorkDay_20 (by decide) ?_
    exact so_zret (rf := fun z_ => z_) (Sf := fun z_ => sc_Cal_isWorkDay cI cL cM cZ q_p0 q_p0_rules q_p0_places q_p0_holidays v_p0_made v_p0_holidayCount f_p0_holidays) hm hx hb hr rfl hlocks hAe hQ hK hw rfl d_Cal_isWorkDay_21
  · refine lv_aload_n hx hb d_Cal_isWorkDay_7 rfl (lv_at hl 0 rfl) ?_
    refine lv_iload_n hx hb d_Cal_isWorkDay_8 rfl (lv_at hl 1 rfl) ?_
    obtain ⟨o2, h2, hm⟩ := zc_x hm
    refine sg_ci0 (Sr := []) (va_runV (As := [.int a1_x]) (rest := []) ⟨hx, hb, hml, hown, hts⟩ (ct_Cal_holidayPlace l dC dI cI cL cM cZ q_p0 q_p0_rules q_p0_places q_p0_holidays v_p0_made v_p0_holidayCount f_p0_holidays a1_x N o2 h2 _) (cwV 1 hts (gd_V wd_379 wd_381 ws_9 wd_2 wd_382) rfl rfl rfl (by decide +kernel) ⟨Nat.le_of_ble_eq_true rfl, Nat.le_of_ble_eq_true rfl⟩) (sg_preV (ci := 1) (q0 := 0) hK hNW hw [0, 1] rfl rfl rfl rfl) rfl rfl hl.1 rfl (lv_room (Nat.le_of_ble_eq_true rfl)) d_Cal_isWorkDay_9 ⟨Nat.le_of_ble_eq_true rfl, Nat.le_of_ble_eq_true rfl⟩) hw hA [0, 1] [] rfl rfl rfl (by decide) (fun H locs hw => ?_)
    have hw : wk (dC, dI) vwCl A s.heap [[(q_p0, .inr (1, [.ref q_p0_rules, .ref q_p0_places, .ref q_p0_holidays, .int v_p0_made, .int v_p0_holidayCount]))], [(q_p0_holidays, .inl (cI, 100, .inl f_p0_holidays))]] H locs := hw
    refine lv_iconst (v := -1) hx hb d_Cal_isWorkDay_12 (by decide) ?_
    refine bq_n (lv_icmp_ne (tgt := 20) hx hb d_Cal_isWorkDay_13 (by decide)) hm (fun hm => ?_) (fun hm => ?_)
    · refine lv_iconst (v := 0) hx hb d_Cal_isWorkDay_20 (by decide) ?_
      exact so_zret (rf := fun z_ => z_) (Sf := fun z_ => sc_Cal_isWorkDay cI cL cM cZ q_p0 q_p0_rules q_p0_places q_p0_holidays v_p0_made v_p0_holidayCount f_p0_holidays) hm hx hb hr rfl hlocks hAe hQ hK hw rfl d_Cal_isWorkDay_21
    · refine lv_iconst (v := 1) hx hb d_Cal_isWorkDay_16 (by decide) ?_
      refine lv_goto (tgt := 21) hx hb d_Cal_isWorkDay_17 (by decide) ?_
      exact so_zret (rf := fun z_ => z_) (Sf := fun z_ => sc_Cal_isWorkDay cI cL cM cZ q_p0 q_p0_rules q_p0_places q_p0_holidays v_p0_made v_p0_holidayCount f_p0_holidays) hm hx hb hr rfl hlocks hAe hQ hK hw rfl d_Cal_isWorkDay_21
theorem d_Cal_workDaysOfMonthTill_0 : decode prog_2_method_10_code 0 = .ok (.iload_n 1, 1) := by decide +kernel
theorem d_Cal_workDaysOfMonthTill_1 : decode prog_2_method_10_code 1 = .ok (.iload_n 1, 1) := by decide +kernel
theorem d_Cal_workDaysOfMonthTill_2 : decode prog_2_method_10_code 2 = .ok (.bipush 30, 2) := by decide +kernel
theorem d_Cal_workDaysOfMonthTill_4 : decode prog_2_method_10_code 4 = .ok (.irem, 1) := by decide +kernel
theorem d_Cal_workDaysOfMonthTill_5 : decode prog_2_method_10_code 5 = .ok (.isub, 1) := by decide +kernel
theorem d_Cal_workDaysOfMonthTill_6 : decode prog_2_method_10_code 6 = .ok (.istore_n 2, 1) := by decide +kernel
theorem d_Cal_workDaysOfMonthTill_7 : decode prog_2_method_10_code 7 = .ok (.iconst 0, 1) := by decide +kernel
theorem d_Cal_workDaysOfMonthTill_8 : decode prog_2_method_10_code 8 = .ok (.istore_n 3, 1) := by decide +kernel
theorem d_Cal_workDaysOfMonthTill_9 : decode prog_2_method_10_code 9 = .ok (.iload_n 2, 1) := by decide +kernel
theorem d_Cal_workDaysOfMonthTill_10 : decode prog_2_method_10_code 10 = .ok (.istore 4, 2) := by decide +kernel
theorem d_Cal_workDaysOfMonthTill_12 : decode prog_2_method_10_code 12 = .ok (.iload 4, 2) := by decide +kernel
theorem d_Cal_workDaysOfMonthTill_14 : decode prog_2_method_10_code 14 = .ok (.iload_n 1, 1) := by decide +kernel
theorem d_Cal_workDaysOfMonthTill_15 : decode prog_2_method_10_code 15 = .ok (.if_icmp .gt 20, 3) := by decide +kernel
theorem d_Cal_workDaysOfMonthTill_18 : decode prog_2_method_10_code 18 = .ok (.iload 4, 2) := by decide +kernel
theorem d_Cal_workDaysOfMonthTill_20 : decode prog_2_method_10_code 20 = .ok (.invokestatic 46, 3) := by decide +kernel
theorem d_Cal_workDaysOfMonthTill_23 : decode prog_2_method_10_code 23 = .ok (.ifCond .eq 6, 3) := by decide +kernel
theorem d_Cal_workDaysOfMonthTill_26 : decode prog_2_method_10_code 26 = .ok (.iinc 3 1, 3) := by decide +kernel
theorem d_Cal_workDaysOfMonthTill_29 : decode prog_2_method_10_code 29 = .ok (.iinc 4 1, 3) := by decide +kernel
theorem d_Cal_workDaysOfMonthTill_32 : decode prog_2_method_10_code 32 = .ok (.goto (-20), 3) := by decide +kernel
theorem d_Cal_workDaysOfMonthTill_35 : decode prog_2_method_10_code 35 = .ok (.iconst 0, 1) := by decide +kernel
theorem d_Cal_workDaysOfMonthTill_36 : decode prog_2_method_10_code 36 = .ok (.istore 4, 2) := by decide +kernel
theorem d_Cal_workDaysOfMonthTill_38 : decode prog_2_method_10_code 38 = .ok (.iload 4, 2) := by decide +kernel
theorem d_Cal_workDaysOfMonthTill_40 : decode prog_2_method_10_code 40 = .ok (.aload_n 0, 1) := by decide +kernel
theorem d_Cal_workDaysOfMonthTill_41 : decode prog_2_method_10_code 41 = .ok (.getfield 25, 3) := by decide +kernel
theorem d_Cal_workDaysOfMonthTill_44 : decode prog_2_method_10_code 44 = .ok (.if_icmp .ge 41, 3) := by decide +kernel
theorem d_Cal_workDaysOfMonthTill_47 : decode prog_2_method_10_code 47 = .ok (.aload_n 0, 1) := by decide +kernel
theorem d_Cal_workDaysOfMonthTill_48 : decode prog_2_method_10_code 48 = .ok (.getfield 18, 3) := by decide +kernel
theorem d_Cal_workDaysOfMonthTill_51 : decode prog_2_method_10_code 51 = .ok (.iload 4, 2) := by decide +kernel
theorem d_Cal_workDaysOfMonthTill_53 : decode prog_2_method_10_code 53 = .ok (.iaload, 1) := by decide +kernel
theorem d_Cal_workDaysOfMonthTill_54 : decode prog_2_method_10_code 54 = .ok (.istore 5, 2) := by decide +kernel
theorem d_Cal_workDaysOfMonthTill_56 : decode prog_2_method_10_code 56 = .ok (.iload 5, 2) := by decide +kernel
theorem d_Cal_workDaysOfMonthTill_58 : decode prog_2_method_10_code 58 = .ok (.iload_n 2, 1) := by decide +kernel
theorem d_Cal_workDaysOfMonthTill_59 : decode prog_2_method_10_code 59 = .ok (.if_icmp .lt 20, 3) := by decide +kernel
theorem d_Cal_workDaysOfMonthTill_62 : decode prog_2_method_10_code 62 = .ok (.iload 5, 2) := by decide +kernel
theorem d_Cal_workDaysOfMonthTill_64 : decode prog_2_method_10_code 64 = .ok (.iload_n 1, 1) := by decide +kernel
theorem d_Cal_workDaysOfMonthTill_65 : decode prog_2_method_10_code 65 = .ok (.if_icmp .gt 14, 3) := by decide +kernel
theorem d_Cal_workDaysOfMonthTill_68 : decode prog_2_method_10_code 68 = .ok (.iload 5, 2) := by decide +kernel
theorem d_Cal_workDaysOfMonthTill_70 : decode prog_2_method_10_code 70 = .ok (.invokestatic 46, 3) := by decide +kernel
theorem d_Cal_workDaysOfMonthTill_73 : decode prog_2_method_10_code 73 = .ok (.ifCond .eq 6, 3) := by decide +kernel
theorem d_Cal_workDaysOfMonthTill_76 : decode prog_2_method_10_code 76 = .ok (.iinc 3 (-1), 3) := by decide +kernel
theorem d_Cal_workDaysOfMonthTill_79 : decode prog_2_method_10_code 79 = .ok (.iinc 4 1, 3) := by decide +kernel
theorem d_Cal_workDaysOfMonthTill_82 : decode prog_2_method_10_code 82 = .ok (.goto (-44), 3) := by decide +kernel
theorem d_Cal_workDaysOfMonthTill_85 : decode prog_2_method_10_code 85 = .ok (.iload_n 3, 1) := by decide +kernel
theorem d_Cal_workDaysOfMonthTill_86 : decode prog_2_method_10_code 86 = .ok (.ireturn, 1) := by decide +kernel
def md_Cal_workDaysOfMonthTill_F38 (v_p0_holidayCount : Int32) (f_p0_holidays : Nat → Int32) (a1_x : Int32) (N : Nat) (x1 : Int32) (rec38 : Int32 → Int32 → Option (Int32)) (x4 : Int32) (x5 : Int32) : Option (Int32) :=
  (if v_p0_holidayCount ≤ x4 then (some x5) else (if sg_in x4 100 = true then (if (f_p0_holidays x4.toNatClampNeg) < x1 then (rec38 (x4 + 1) x5) else (if a1_x < (f_p0_holidays x4.toNatClampNeg) then (rec38 (x4 + 1) x5) else (zc (md_Cal_isInWorkWeek N (f_p0_holidays x4.toNatClampNeg)) (fun o6 => (if o6 = 0 then (rec38 (x4 + 1) x5) else (rec38 (x4 + 1) (x5 + (-1)))))))) else none))
def md_Cal_workDaysOfMonthTill_F12 (v_p0_holidayCount : Int32) (f_p0_holidays : Nat → Int32) (a1_x : Int32) (N : Nat) (x1 : Int32) (rec12 : Int32 → Int32 → Option (Int32)) (x2 : Int32) (x3 : Int32) : Option (Int32) :=
  (if a1_x < x2 then (fx2 (md_Cal_workDaysOfMonthTill_F38 v_p0_holidayCount f_p0_holidays a1_x N x1) N (0 : Int32) x3) else (zc (md_Cal_isInWorkWeek N x2) (fun o7 => (if o7 = 0 then (rec12 (x2 + 1) x3) else (rec12 (x2 + 1) (x3 + 1))))))
def md_Cal_workDaysOfMonthTill (N : Nat) (v_p0_holidayCount : Int32) (f_p0_holidays : Nat → Int32) (a1_x : Int32) : Option (Int32) :=
  (zl (a1_x - (a1_x - a1_x / (30 : Int32) * (30 : Int32))) (fun x1 => (fx2 (md_Cal_workDaysOfMonthTill_F12 v_p0_holidayCount f_p0_holidays a1_x N x1) N x1 (0 : Int32))))
abbrev sc_Cal_workDaysOfMonthTill (cI cL cM cZ : ClassId) (q_p0 q_p0_rules q_p0_places q_p0_holidays : Nat) (v_p0_made : Int32) (v_p0_holidayCount : Int32) (f_p0_holidays : Nat → Int32) : List va_W := [[(q_p0, .inr (1, [.ref q_p0_rules, .ref q_p0_places, .ref q_p0_holidays, .int v_p0_made, .int v_p0_holidayCount]))], [(q_p0_holidays, .inl (cI, 100, .inl f_p0_holidays))]]
abbrev rm_Cal_workDaysOfMonthTill : Room := { frames := 1, cells := 0, slots := 0, locals := 20 }
set_option maxHeartbeats 4000000 in
set_option maxRecDepth 100000 in
theorem ct_Cal_workDaysOfMonthTill (l : Launch) (dC : Nat → ClassId) (dI : Nat → Nat → Nat) (cI cL cM cZ : ClassId) (q_p0 q_p0_rules q_p0_places q_p0_holidays : Nat) (v_p0_made : Int32) (v_p0_holidayCount : Int32) (f_p0_holidays : Nat → Int32) (a1_x : Int32) (N : Nat) (o : Int32) (hm : md_Cal_workDaysOfMonthTill N v_p0_holidayCount f_p0_holidays a1_x = some o) : ∀ sz : Nat, Met l y_Cal_workDaysOfMonthTill ws_Cal_workDaysOfMonthTill rm_Cal_workDaysOfMonthTill (cP (dC, dI) vwCl [(cI, .int), (cL, .long), (cM, .array .int), (cZ, .boolean)] [.ref q_p0, .int a1_x] sz (sc_Cal_workDaysOfMonthTill cI cL cM cZ q_p0 q_p0_rules q_p0_places q_p0_holidays v_p0_made v_p0_holidayCount f_p0_holidays)) (cQi (dC, dI) vwCl [(cI, .int), (cL, .long), (cM, .array .int), (cZ, .boolean)] sz (sc_Cal_workDaysOfMonthTill cI cL cM cZ q_p0 q_p0_rules q_p0_places q_p0_holidays v_p0_made v_p0_holidayCount f_p0_holidays) o (sc_Cal_workDaysOfMonthTill cI cL cM cZ q_p0 q_p0_rules q_p0_places q_p0_holidays v_p0_made v_p0_holidayCount f_p0_holidays)) 0 0 (va_A ((sc_Cal_workDaysOfMonthTill cI cL cM cZ q_p0 q_p0_rules q_p0_places q_p0_holidays v_p0_made v_p0_holidayCount f_p0_holidays)).flatten sz) := by
  refine sg_met (fun sz => cQi (dC, dI) vwCl [(cI, .int), (cL, .long), (cM, .array .int), (cZ, .boolean)] sz (sc_Cal_workDaysOfMonthTill cI cL cM cZ q_p0 q_p0_rules q_p0_places q_p0_holidays v_p0_made v_p0_holidayCount f_p0_holidays) o (sc_Cal_workDaysOfMonthTill cI cL cM cZ q_p0 q_p0_rules q_p0_places q_p0_holidays v_p0_made v_p0_holidayCount f_p0_holidays)) (by decide) (Nat.le_of_ble_eq_true rfl) ?_
  intro p e s m args below meth c A Q ls hx hb hr hts hown hlocks hml hname hK hNW hA hAe hQ hw hl
  have hl : lv_has ls 6 [(0, .ref q_p0), (1, .int a1_x)] := hl
  have hw : wk (dC, dI) vwCl A s.heap [[(q_p0, .inr (1, [.ref q_p0_rules, .ref q_p0_places, .ref q_p0_holidays, .int v_p0_made, .int v_p0_holidayCount]))], [(q_p0_holidays, .inl (cI, 100, .inl f_p0_holidays))]] s.heap [] := hw
  unfold md_Cal_workDaysOfMonthTill at hm
  refine lv_iload_n hx hb d_Cal_workDaysOfMonthTill_0 rfl (lv_at hl 1 rfl) ?_
  refine lv_iload_n hx hb d_Cal_workDaysOfMonthTill_1 rfl (lv_at hl 1 rfl) ?_
  refine lv_bipush (v := 30) hx hb d_Cal_workDaysOfMonthTill_2 (by decide) ?_
  refine lv_irem hx hb d_Cal_workDaysOfMonthTill_4 (by decide) ?_
  refine lv_isub hx hb d_Cal_workDaysOfMonthTill_5 ?_
  refine nm_i hm (fun x1 hm => ?_)
  refine lv_istore_n (lv' := [(2, .int x1), (0, .ref q_p0), (1, .int a1_x)]) hx hb d_Cal_workDaysOfMonthTill_6 rfl hl (by decide) rfl (fun ls hl => ?_)
  refine lv_iconst (v := 0) hx hb d_Cal_workDaysOfMonthTill_7 (by decide) ?_
  refine lv_istore_n (lv' := [(3, .int (0 : Int32)), (2, .int x1), (0, .ref q_p0), (1, .int a1_x)]) hx hb d_Cal_workDaysOfMonthTill_8 rfl hl (by decide) rfl (fun ls hl => ?_)
  refine lv_iload_n hx hb d_Cal_workDaysOfMonthTill_9 rfl (lv_at hl 1 rfl) ?_
  refine lv_istore (lv' := [(4, .int x1), (3, .int (0 : Int32)), (2, .int x1), (0, .ref q_p0), (1, .int a1_x)]) hx hb d_Cal_workDaysOfMonthTill_10 hl (by decide) rfl (fun ls hl => ?_)
  obtain ⟨Fn12, hFn12, hm⟩ := fx2_x hm
  have L12 : ∀ (n : Nat) (x2 : Int32) (x3 : Int32), fx2 Fn12 n x2 x3 = some o → ∀ (H : Heap) (locs : List Loc) (ls : Array Slot), wk (dC, dI) vwCl A s.heap [[(q_p0, .inr (1, [.ref q_p0_rules, .ref q_p0_places, .ref q_p0_holidays, .int v_p0_made, .int v_p0_holidayCount]))], [(q_p0_holidays, .inl (cI, 100, .inl f_p0_holidays))]] H locs → lv_has ls 6 [(4, .int x2), (3, .int x3), (2, .int x1), (0, .ref q_p0), (1, .int a1_x)] → W p l e rm_Cal_workDaysOfMonthTill s m args below meth c H locs 0 0 Q (F0 m 12 ls []) := by
    intro n
    induction n with
    | zero => intro x2 x3 hm; exact (fx2_0 hm).elim
    | succ n ih12 =>
      intro x2 x3 hm H locs ls hw hl
      have hm := fx2_s hFn12 hm
      unfold md_Cal_workDaysOfMonthTill_F12 at hm
      refine lv_iload hx hb d_Cal_workDaysOfMonthTill_12 (lv_at hl 0 rfl) ?_
      refine lv_iload_n hx hb d_Cal_workDaysOfMonthTill_14 rfl (lv_at hl 4 rfl) ?_
      refine bq_t (lv_icmp_gt (tgt := 35) hx hb d_Cal_workDaysOfMonthTill_15 (by decide)) hm (fun hm => ?_) (fun hm => ?_)
      · refine lv_iconst (v := 0) hx hb d_Cal_workDaysOfMonthTill_35 (by decide) ?_
        refine lv_istore (lv' := [(4, .int (0 : Int32)), (3, .int x3), (2, .int x1), (0, .ref q_p0), (1, .int a1_x)]) hx hb d_Cal_workDaysOfMonthTill_36 hl (by decide) rfl (fun ls hl => ?_)
        obtain ⟨Fn38, hFn38, hm⟩ := fx2_x hm
        have L38 : ∀ (n : Nat) (x4 : Int32) (x5 : Int32), fx2 Fn38 n x4 x5 = some o → ∀ (H : Heap) (locs : List Loc) (ls : Array Slot), wk (dC, dI) vwCl A s.heap [[(q_p0, .inr (1, [.ref q_p0_rules, .ref q_p0_places, .ref q_p0_holidays, .int v_p0_made, .int v_p0_holidayCount]))], [(q_p0_holidays, .inl (cI, 100, .inl f_p0_holidays))]] H locs → lv_has ls 6 [(4, .int x4), (3, .int x5), (2, .int x1), (0, .ref q_p0), (1, .int a1_x)] → W p l e rm_Cal_workDaysOfMonthTill s m args below meth c H locs 0 0 Q (F0 m 38 ls []) := by
          intro n
          induction n with
          | zero => intro x4 x5 hm; exact (fx2_0 hm).elim
          | succ n ih38 =>
            intro x4 x5 hm H locs ls hw hl
            have hm := fx2_s hFn38 hm
            unfold md_Cal_workDaysOfMonthTill_F38 at hm
            refine lv_iload hx hb d_Cal_workDaysOfMonthTill_38 (lv_at hl 0 rfl) ?_
            refine lv_aload_n hx hb d_Cal_workDaysOfMonthTill_40 rfl (lv_at hl 3 rfl) ?_
            refine sg_get (D := (dC, dI)) (ci := 1) (v := .int v_p0_holidayCount) (C := "JobNets$Calendars") (T := T_1) (N := 5) hx hb hts hin_1 hown hK hw 0 rfl rfl 4 (by decide) (hts _ wd_36) rfl rfl d_Cal_workDaysOfMonthTill_41 ?_
            refine bq_t (lv_icmp_ge (tgt := 85) hx hb d_Cal_workDaysOfMonthTill_44 (by decide)) hm (fun hm => ?_) (fun hm => ?_)
            · refine lv_iload_n hx hb d_Cal_workDaysOfMonthTill_85 rfl (lv_at hl 1 rfl) ?_
              exact so_iret (rf := fun z_ => z_) (Sf := fun z_ => sc_Cal_workDaysOfMonthTill cI cL cM cZ q_p0 q_p0_rules q_p0_places q_p0_holidays v_p0_made v_p0_holidayCount f_p0_holidays) hm hx hb hr hlocks hAe hQ hK hw rfl d_Cal_workDaysOfMonthTill_86
            · refine lv_aload_n hx hb d_Cal_workDaysOfMonthTill_47 rfl (lv_at hl 3 rfl) ?_
              refine sg_get (D := (dC, dI)) (ci := 1) (v := .ref q_p0_holidays) (C := "JobNets$Calendars") (T := T_1) (N := 5) hx hb hts hin_1 hown hK hw 0 rfl rfl 2 (by decide) (hts _ wd_33) rfl rfl d_Cal_workDaysOfMonthTill_48 ?_
              refine lv_iload hx hb d_Cal_workDaysOfMonthTill_51 (lv_at hl 0 rfl) ?_
              refine sg_iald hx hb hK hw 1 0 rfl rfl d_Cal_workDaysOfMonthTill_53 hm (fun hm => ?_)
              refine lv_istore (lv' := [(5, .int (f_p0_holidays x4.toNatClampNeg)), (4, .int x4), (3, .int x5), (2, .int x1), (0, .ref q_p0), (1, .int a1_x)]) hx hb d_Cal_workDaysOfMonthTill_54 hl (by decide) rfl (fun ls hl => ?_)
              refine lv_iload hx hb d_Cal_workDaysOfMonthTill_56 (lv_at hl 0 rfl) ?_
              refine lv_iload_n hx hb d_Cal_workDaysOfMonthTill_58 rfl (lv_at hl 3 rfl) ?_
              refine bq_t (lv_icmp_lt (tgt := 79) hx hb d_Cal_workDaysOfMonthTill_59 (by decide)) hm (fun hm => ?_) (fun hm => ?_)
              · refine lv_iinc (v := x4 + 1) (lv' := [(4, .int (x4 + 1)), (5, .int (f_p0_holidays x4.toNatClampNeg)), (3, .int x5), (2, .int x1), (0, .ref q_p0), (1, .int a1_x)]) hx hb d_Cal_workDaysOfMonthTill_79 hl (k := 1) rfl rfl (by decide) rfl (fun ls hl => ?_)
                refine lv_goto (tgt := 38) hx hb d_Cal_workDaysOfMonthTill_82 (by decide) ?_
                exact ih38 (x4 + 1) x5 hm _ _ _ hw (lv_sub hl [0, 2, 3, 4, 5] rfl)
              · refine lv_iload hx hb d_Cal_workDaysOfMonthTill_62 (lv_at hl 0 rfl) ?_
                refine lv_iload_n hx hb d_Cal_workDaysOfMonthTill_64 rfl (lv_at hl 5 rfl) ?_
                refine bq_t (lv_icmp_gt (tgt := 79) hx hb d_Cal_workDaysOfMonthTill_65 (by decide)) hm (fun hm => ?_) (fun hm => ?_)
                · refine lv_iinc (v := x4 + 1) (lv' := [(4, .int (x4 + 1)), (5, .int (f_p0_holidays x4.toNatClampNeg)), (3, .int x5), (2, .int x1), (0, .ref q_p0), (1, .int a1_x)]) hx hb d_Cal_workDaysOfMonthTill_79 hl (k := 1) rfl rfl (by decide) rfl (fun ls hl => ?_)
                  refine lv_goto (tgt := 38) hx hb d_Cal_workDaysOfMonthTill_82 (by decide) ?_
                  exact ih38 (x4 + 1) x5 hm _ _ _ hw (lv_sub hl [0, 2, 3, 4, 5] rfl)
                · refine lv_iload hx hb d_Cal_workDaysOfMonthTill_68 (lv_at hl 0 rfl) ?_
                  obtain ⟨o6, h6, hm⟩ := zc_x hm
                  refine sg_ci0 (Sr := [[(q_p0, .inr (1, [.ref q_p0_rules, .ref q_p0_places, .ref q_p0_holidays, .int v_p0_made, .int v_p0_holidayCount]))], [(q_p0_holidays, .inl (cI, 100, .inl f_p0_holidays))]]) (va_runS (As := [.int (f_p0_holidays x4.toNatClampNeg)]) (rest := []) ⟨hx, hb, hml, hown, hts⟩ (ct_Cal_isInWorkWeek l dC dI cI cL cM cZ (f_p0_holidays x4.toNatClampNeg) N o6 h6 _) (cwS 1 hts (gd_S wd_411 wd_412 wd_2 wd_413) rfl rfl rfl (by decide +kernel) ⟨Nat.le_of_ble_eq_true rfl, Nat.le_of_ble_eq_true rfl⟩) (sg_preS hK hNW hw [] rfl rfl) rfl rfl hl.1 rfl (lv_room (Nat.le_of_ble_eq_true rfl)) d_Cal_workDaysOfMonthTill_70 ⟨Nat.le_of_ble_eq_true rfl, Nat.le_of_ble_eq_true rfl⟩) hw hA [] [0, 1] rfl rfl rfl (by decide) (fun H locs hw => ?_)
                  have hw : wk (dC, dI) vwCl A s.heap [[(q_p0, .inr (1, [.ref q_p0_rules, .ref q_p0_places, .ref q_p0_holidays, .int v_p0_made, .int v_p0_holidayCount]))], [(q_p0_holidays, .inl (cI, 100, .inl f_p0_holidays))]] H locs := hw
                  refine bq_t (lv_if_eq (tgt := 79) hx hb d_Cal_workDaysOfMonthTill_73 (by decide)) hm (fun hm => ?_) (fun hm => ?_)
                  · refine lv_iinc (v := x4 + 1) (lv' := [(4, .int (x4 + 1)), (5, .int (f_p0_holidays x4.toNatClampNeg)), (3, .int x5), (2, .int x1), (0, .ref q_p0), (1, .int a1_x)]) hx hb d_Cal_workDaysOfMonthTill_79 hl (k := 1) rfl rfl (by decide) rfl (fun ls hl => ?_)
                    refine lv_goto (tgt := 38) hx hb d_Cal_workDaysOfMonthTill_82 (by decide) ?_
                    exact ih38 (x4 + 1) x5 hm _ _ _ hw (lv_sub hl [0, 2, 3, 4, 5] rfl)
                  · refine lv_iinc (v := x5 + (-1)) (lv' := [(3, .int (x5 + (-1))), (5, .int (f_p0_holidays x4.toNatClampNeg)), (4, .int x4), (2, .int x1), (0, .ref q_p0), (1, .int a1_x)]) hx hb d_Cal_workDaysOfMonthTill_76 hl (k := 2) rfl rfl (by decide) rfl (fun ls hl => ?_)
                    refine lv_iinc (v := x4 + 1) (lv' := [(4, .int (x4 + 1)), (3, .int (x5 + (-1))), (5, .int (f_p0_holidays x4.toNatClampNeg)), (2, .int x1), (0, .ref q_p0), (1, .int a1_x)]) hx hb d_Cal_workDaysOfMonthTill_79 hl (k := 2) rfl rfl (by decide) rfl (fun ls hl => ?_)
                    refine lv_goto (tgt := 38) hx hb d_Cal_workDaysOfMonthTill_82 (by decide) ?_
                    exact ih38 (x4 + 1) (x5 + (-1)) hm _ _ _ hw (lv_sub hl [0, 1, 3, 4, 5] rfl)
        exact L38 _ _ _ hm _ _ _ hw hl
      · refine lv_iload hx hb d_Cal_workDaysOfMonthTill_18 (lv_at hl 0 rfl) ?_
        obtain ⟨o7, h7, hm⟩ := zc_x hm
        refine sg_ci0 (Sr := [[(q_p0, .inr (1, [.ref q_p0_rules, .ref q_p0_places, .ref q_p0_holidays, .int v_p0_made, .int v_p0_holidayCount]))], [(q_p0_holidays, .inl (cI, 100, .inl f_p0_holidays))]]) (va_runS (As := [.int x2]) (rest := []) ⟨hx, hb, hml, hown, hts⟩ (ct_Cal_isInWorkWeek l dC dI cI cL cM cZ x2 N o7 h7 _) (cwS 1 hts (gd_S wd_411 wd_412 wd_2 wd_413) rfl rfl rfl (by decide +kernel) ⟨Nat.le_of_ble_eq_true rfl, Nat.le_of_ble_eq_true rfl⟩) (sg_preS hK hNW hw [] rfl rfl) rfl rfl hl.1 rfl (lv_room (Nat.le_of_ble_eq_true rfl)) d_Cal_workDaysOfMonthTill_20 ⟨Nat.le_of_ble_eq_true rfl, Nat.le_of_ble_eq_true rfl⟩) hw hA [] [0, 1] rfl rfl rfl (by decide) (fun H locs hw => ?_)
        have hw : wk (dC, dI) vwCl A s.heap [[(q_p0, .inr (1, [.ref q_p0_rules, .ref q_p0_places, .ref q_p0_holidays, .int v_p0_made, .int v_p0_holidayCount]))], [(q_p0_holidays, .inl (cI, 100, .inl f_p0_holidays))]] H locs := hw
        refine bq_t (lv_if_eq (tgt := 29) hx hb d_Cal_workDaysOfMonthTill_23 (by decide)) hm (fun hm => ?_) (fun hm => ?_)
        · refine lv_iinc (v := x2 + 1) (lv' := [(4, .int (x2 + 1)), (3, .int x3), (2, .int x1), (0, .ref q_p0), (1, .int a1_x)]) hx hb d_Cal_workDaysOfMonthTill_29 hl (k := 0) rfl rfl (by decide) rfl (fun ls hl => ?_)
          refine lv_goto (tgt := 12) hx hb d_Cal_workDaysOfMonthTill_32 (by decide) ?_
          exact ih12 (x2 + 1) x3 hm _ _ _ hw hl
        · refine lv_iinc (v := x3 + 1) (lv' := [(3, .int (x3 + 1)), (4, .int x2), (2, .int x1), (0, .ref q_p0), (1, .int a1_x)]) hx hb d_Cal_workDaysOfMonthTill_26 hl (k := 1) rfl rfl (by decide) rfl (fun ls hl => ?_)
          refine lv_iinc (v := x2 + 1) (lv' := [(4, .int (x2 + 1)), (3, .int (x3 + 1)), (2, .int x1), (0, .ref q_p0), (1, .int a1_x)]) hx hb d_Cal_workDaysOfMonthTill_29 hl (k := 1) rfl rfl (by decide) rfl (fun ls hl => ?_)
          refine lv_goto (tgt := 12) hx hb d_Cal_workDaysOfMonthTill_32 (by decide) ?_
          exact ih12 (x2 + 1) (x3 + 1) hm _ _ _ hw hl
  exact L12 _ _ _ hm _ _ _ hw hl
theorem d_Kep_init_0 : decode prog_3_method_1_code 0 = .ok (.aload_n 0, 1) := by decide +kernel
theorem d_Kep_init_1 : decode prog_3_method_1_code 1 = .ok (.invokespecial 3, 3) := by decide +kernel
theorem d_Kep_init_4 : decode prog_3_method_1_code 4 = .ok (.aload_n 0, 1) := by decide +kernel
theorem d_Kep_init_5 : decode prog_3_method_1_code 5 = .ok (.bipush 27, 2) := by decide +kernel
theorem d_Kep_init_7 : decode prog_3_method_1_code 7 = .ok (.newarray .long, 2) := by decide +kernel
theorem d_Kep_init_9 : decode prog_3_method_1_code 9 = .ok (.putfield 9, 3) := by decide +kernel
theorem d_Kep_init_12 : decode prog_3_method_1_code 12 = .ok (.aload_n 0, 1) := by decide +kernel
theorem d_Kep_init_13 : decode prog_3_method_1_code 13 = .ok (.bipush 27, 2) := by decide +kernel
theorem d_Kep_init_15 : decode prog_3_method_1_code 15 = .ok (.newarray .int, 2) := by decide +kernel
theorem d_Kep_init_17 : decode prog_3_method_1_code 17 = .ok (.putfield 15, 3) := by decide +kernel
theorem d_Kep_init_20 : decode prog_3_method_1_code 20 = .ok (.return_, 1) := by decide +kernel
def sd_Kep_init (cI cL cM cZ : ClassId) (q_p0 : Nat) (u : ADs) : List va_W := [[(q_p0, .inr (2, [.ref (u.1.getD 0 0), .ref (u.1.getD 1 0)]))], [((u.1.getD 0 0), .inl (cL, 27, .inr (.inl (fun _ => 0))))], [((u.1.getD 1 0), .inl (cI, 27, .inl (fun _ => 0)))]]
abbrev rm_Kep_init : Room := { frames := 1, cells := 2, slots := 54, locals := 20 }
set_option maxHeartbeats 4000000 in
set_option maxRecDepth 100000 in
theorem ct_Kep_init (l : Launch) (dC : Nat → ClassId) (dI : Nat → Nat → Nat) (cI cL cM cZ : ClassId) (q_p0 : Nat) : ∀ sz : Nat, Met l y_Kep_init ws_Kep_init rm_Kep_init (cP (dC, dI) vwCl [(cI, .int), (cL, .long), (cM, .array .int), (cZ, .boolean)] [.ref q_p0] sz [[(q_p0, .inr (2, [.null, .null]))]]) (cQc (dC, dI) vwCl [(cI, .int), (cL, .long), (cM, .array .int), (cZ, .boolean)] sz [[(q_p0, .inr (2, [.null, .null]))]] (sd_Kep_init cI cL cM cZ q_p0)) 2 54 (va_A (List.flatten [[(q_p0, .inr (2, [.null, .null]))]]) sz) := by
  refine sg_met (y := y_Kep_init) (cc := prog_3_method_1_code) (maxL := 1) (ret := none) (rm := rm_Kep_init) (av := [.ref q_p0]) (Sc := [[(q_p0, .inr (2, [.null, .null]))]]) (mc := 2) (ms := 54) (D := (dC, dI)) (cl := vwCl) (tys := [(cI, .int), (cL, .long), (cM, .array .int), (cZ, .boolean)]) (fun sz => cQc (dC, dI) vwCl [(cI, .int), (cL, .long), (cM, .array .int), (cZ, .boolean)] sz [[(q_p0, .inr (2, [.null, .null]))]] (sd_Kep_init cI cL cM cZ q_p0)) (by decide) (Nat.le_of_ble_eq_true rfl) ?_
  intro p e s m args below meth c A Q ls hx hb hr hts hown hlocks hml hname hK hNW hA hAe hQ hw hl
  have hl : lv_has ls 1 [(0, .ref q_p0)] := hl
  have hw : wk (dC, dI) vwCl A s.heap [[(q_p0, .inr (2, [.null, .null]))]] s.heap [] := hw
  refine lv_aload_n hx hb d_Kep_init_0 rfl (lv_at hl 0 rfl) ?_
  refine W.objInit hx hb hown (hts _ wd_120) (hts _ wd_23) (hts _ wd_24) rfl (by rw [hml]; exact hl.1) rfl d_Kep_init_1 (Nat.le_of_ble_eq_true rfl) (Nat.le_of_ble_eq_true rfl) ?_
  refine W.eq (g2 := F0 m 4 ls []) rfl ?_
  refine lv_aload_n hx hb d_Kep_init_4 rfl (lv_at hl 0 rfl) ?_
  refine lv_bipush (v := 27) hx hb d_Kep_init_5 (by decide) ?_
  refine sg_newl hx hb (hts _ wd_130) hK hw hA 1 rfl (N' := 27) (by decide) (by decide) (by decide) (Nat.le_of_ble_eq_true rfl) (Nat.le_of_ble_eq_true rfl) d_Kep_init_7 (fun q_p0_sums H hw => ?_)
  have hw : wk (dC, dI) vwCl A s.heap [[(q_p0, .inr (2, [.null, .null]))], [(q_p0_sums, .inl (cL, 27, .inr (.inl (fun _ => 0))))]] H _ := hw
  refine sg_putF (D := (dC, dI)) (ci := 2) (v := .ref q_p0_sums) (ty := .array .long) (C := "JobNets$KeptTimes") (T := T_2) (N := 2) (S1 := [[(q_p0, .inr (2, [.ref q_p0_sums, .null]))], [(q_p0_sums, .inl (cL, 27, .inr (.inl (fun _ => 0))))]]) hx hb hts hin_2 ty_2 tok_2 nd_2 hown hK hw 0 rfl rfl 0 (by decide) (hts _ wd_121) rfl rfl hname rfl (by decide +kernel) rfl rfl (Nat.le_of_ble_eq_true rfl) rfl d_Kep_init_9 (fun H locs hw => ?_)
  refine lv_aload_n hx hb d_Kep_init_12 rfl (lv_at hl 0 rfl) ?_
  refine lv_bipush (v := 27) hx hb d_Kep_init_13 (by decide) ?_
  refine sg_newi hx hb (hts _ wd_49) hK hw hA 0 rfl (N' := 27) (by decide) (by decide) (by decide) (Nat.le_of_ble_eq_true rfl) (Nat.le_of_ble_eq_true rfl) d_Kep_init_15 (fun q_p0_counts H hw => ?_)
  have hw : wk (dC, dI) vwCl A s.heap [[(q_p0, .inr (2, [.ref q_p0_sums, .null]))], [(q_p0_sums, .inl (cL, 27, .inr (.inl (fun _ => 0))))], [(q_p0_counts, .inl (cI, 27, .inl (fun _ => 0)))]] H _ := hw
  refine sg_putF (D := (dC, dI)) (ci := 2) (v := .ref q_p0_counts) (ty := .array .int) (C := "JobNets$KeptTimes") (T := T_2) (N := 2) (S1 := [[(q_p0, .inr (2, [.ref q_p0_sums, .ref q_p0_counts]))], [(q_p0_sums, .inl (cL, 27, .inr (.inl (fun _ => 0))))], [(q_p0_counts, .inl (cI, 27, .inl (fun _ => 0)))]]) hx hb hts hin_2 ty_2 tok_2 nd_2 hown hK hw 0 rfl rfl 1 (by decide) (hts _ wd_123) rfl rfl hname rfl (by decide +kernel) rfl rfl (Nat.le_of_ble_eq_true rfl) rfl d_Kep_init_17 (fun H locs hw => ?_)
  exact sg_cret ([q_p0_sums, q_p0_counts], []) hx hb hr hlocks hAe hQ hK (hw.sub [0, 1, 2] (by decide) rfl) d_Kep_init_20
theorem d_Kep_add_0 : decode prog_3_method_3_code 0 = .ok (.aload_n 0, 1) := by decide +kernel
theorem d_Kep_add_1 : decode prog_3_method_3_code 1 = .ok (.getfield 9, 3) := by decide +kernel
theorem d_Kep_add_4 : decode prog_3_method_3_code 4 = .ok (.iload_n 1, 1) := by decide +kernel
theorem d_Kep_add_5 : decode prog_3_method_3_code 5 = .ok (.dup2, 1) := by decide +kernel
theorem d_Kep_add_6 : decode prog_3_method_3_code 6 = .ok (.laload, 1) := by decide +kernel
theorem d_Kep_add_7 : decode prog_3_method_3_code 7 = .ok (.iload_n 2, 1) := by decide +kernel
theorem d_Kep_add_8 : decode prog_3_method_3_code 8 = .ok (.i2l, 1) := by decide +kernel
theorem d_Kep_add_9 : decode prog_3_method_3_code 9 = .ok (.ladd, 1) := by decide +kernel
theorem d_Kep_add_10 : decode prog_3_method_3_code 10 = .ok (.lastore, 1) := by decide +kernel
theorem d_Kep_add_11 : decode prog_3_method_3_code 11 = .ok (.aload_n 0, 1) := by decide +kernel
theorem d_Kep_add_12 : decode prog_3_method_3_code 12 = .ok (.getfield 15, 3) := by decide +kernel
theorem d_Kep_add_15 : decode prog_3_method_3_code 15 = .ok (.iload_n 1, 1) := by decide +kernel
theorem d_Kep_add_16 : decode prog_3_method_3_code 16 = .ok (.dup2, 1) := by decide +kernel
theorem d_Kep_add_17 : decode prog_3_method_3_code 17 = .ok (.iaload, 1) := by decide +kernel
theorem d_Kep_add_18 : decode prog_3_method_3_code 18 = .ok (.iconst 1, 1) := by decide +kernel
theorem d_Kep_add_19 : decode prog_3_method_3_code 19 = .ok (.iadd, 1) := by decide +kernel
theorem d_Kep_add_20 : decode prog_3_method_3_code 20 = .ok (.iastore, 1) := by decide +kernel
theorem d_Kep_add_21 : decode prog_3_method_3_code 21 = .ok (.return_, 1) := by decide +kernel
def md_Kep_add (N : Nat) (f_p0_sums : Nat → Int64) (f_p0_counts : Nat → Int32) (a1_x : Int32) (a2_x : Int32) : Option ((Nat → Int64) × (Nat → Int32)) :=
  (if sg_in a1_x 27 = true then (if sg_in a1_x 27 = true then zl (vp_updL f_p0_sums a1_x.toNatClampNeg ((f_p0_sums a1_x.toNatClampNeg) + a2_x.toInt64)) (fun f1 => (if sg_in a1_x 27 = true then (if sg_in a1_x 27 = true then zl (upd f_p0_counts a1_x.toNatClampNeg ((f_p0_counts a1_x.toNatClampNeg) + (1 : Int32))) (fun f2 => (some (f1, f2))) else none) else none)) else none) else none)
abbrev sc_Kep_add (cI cL cM cZ : ClassId) (q_p0 q_p0_sums q_p0_counts : Nat) (f_p0_sums : Nat → Int64) (f_p0_counts : Nat → Int32) : List va_W := [[(q_p0, .inr (2, [.ref q_p0_sums, .ref q_p0_counts]))], [(q_p0_sums, .inl (cL, 27, .inr (.inl f_p0_sums)))], [(q_p0_counts, .inl (cI, 27, .inl f_p0_counts))]]
abbrev rm_Kep_add : Room := { frames := 0, cells := 0, slots := 0, locals := 0 }
set_option maxHeartbeats 4000000 in
set_option maxRecDepth 100000 in
theorem ct_Kep_add (l : Launch) (dC : Nat → ClassId) (dI : Nat → Nat → Nat) (cI cL cM cZ : ClassId) (q_p0 q_p0_sums q_p0_counts : Nat) (f_p0_sums : Nat → Int64) (f_p0_counts : Nat → Int32) (a1_x : Int32) (a2_x : Int32) (N : Nat) (o : (Nat → Int64) × (Nat → Int32)) (hm : md_Kep_add N f_p0_sums f_p0_counts a1_x a2_x = some o) : ∀ sz : Nat, Met l y_Kep_add ws_Kep_add rm_Kep_add (cP (dC, dI) vwCl [(cI, .int), (cL, .long), (cM, .array .int), (cZ, .boolean)] [.ref q_p0, .int a1_x, .int a2_x] sz (sc_Kep_add cI cL cM cZ q_p0 q_p0_sums q_p0_counts f_p0_sums f_p0_counts)) (cQv (dC, dI) vwCl [(cI, .int), (cL, .long), (cM, .array .int), (cZ, .boolean)] sz (sc_Kep_add cI cL cM cZ q_p0 q_p0_sums q_p0_counts f_p0_sums f_p0_counts) (sc_Kep_add cI cL cM cZ q_p0 q_p0_sums q_p0_counts o.1 o.2)) 0 0 (va_A ((sc_Kep_add cI cL cM cZ q_p0 q_p0_sums q_p0_counts f_p0_sums f_p0_counts)).flatten sz) := by
  refine sg_met (fun sz => cQv (dC, dI) vwCl [(cI, .int), (cL, .long), (cM, .array .int), (cZ, .boolean)] sz (sc_Kep_add cI cL cM cZ q_p0 q_p0_sums q_p0_counts f_p0_sums f_p0_counts) (sc_Kep_add cI cL cM cZ q_p0 q_p0_sums q_p0_counts o.1 o.2)) (by decide) (Nat.le_of_ble_eq_true rfl) ?_
  intro p e s m args below meth c A Q ls hx hb hr hts hown hlocks hml hname hK hNW hA hAe hQ hw hl
  have hl : lv_has ls 3 [(0, .ref q_p0), (1, .int a1_x), (2, .int a2_x)] := hl
  have hw : wk (dC, dI) vwCl A s.heap [[(q_p0, .inr (2, [.ref q_p0_sums, .ref q_p0_counts]))], [(q_p0_sums, .inl (cL, 27, .inr (.inl f_p0_sums)))], [(q_p0_counts, .inl (cI, 27, .inl f_p0_counts))]] s.heap [] := hw
  unfold md_Kep_add at hm
  refine lv_aload_n hx hb d_Kep_add_0 rfl (lv_at hl 0 rfl) ?_
  refine sg_get (D := (dC, dI)) (ci := 2) (v := .ref q_p0_sums) (C := "JobNets$KeptTimes") (T := T_2) (N := 2) hx hb hts hin_2 hown hK hw 0 rfl rfl 0 (by decide) (hts _ wd_121) rfl rfl d_Kep_add_1 ?_
  refine lv_iload_n hx hb d_Kep_add_4 rfl (lv_at hl 1 rfl) ?_
  refine lv_dup2_11 hx hb d_Kep_add_5 rfl rfl ?_
  refine sg_lald hx hb hK hw 1 1 rfl rfl d_Kep_add_6 hm (fun hm => ?_)
  refine lv_iload_n hx hb d_Kep_add_7 rfl (lv_at hl 2 rfl) ?_
  refine lv_i2l hx hb d_Kep_add_8 rfl ?_
  refine lv_ladd hx hb d_Kep_add_9 ?_
  refine sg_last (S1 := fun f1 => [[(q_p0, .inr (2, [.ref q_p0_sums, .ref q_p0_counts]))], [(q_p0_sums, .inl (cL, 27, .inr (.inl f1)))], [(q_p0_counts, .inl (cI, 27, .inl f_p0_counts))]]) hx hb hK hw 1 1 rfl rfl d_Kep_add_10 (fun _ => rfl) hm (fun f1 H locs hm hw => ?_)
  refine lv_aload_n hx hb d_Kep_add_11 rfl (lv_at hl 0 rfl) ?_
  refine sg_get (D := (dC, dI)) (ci := 2) (v := .ref q_p0_counts) (C := "JobNets$KeptTimes") (T := T_2) (N := 2) hx hb hts hin_2 hown hK hw 0 rfl rfl 1 (by decide) (hts _ wd_123) rfl rfl d_Kep_add_12 ?_
  refine lv_iload_n hx hb d_Kep_add_15 rfl (lv_at hl 1 rfl) ?_
  refine lv_dup2_11 hx hb d_Kep_add_16 rfl rfl ?_
  refine sg_iald hx hb hK hw 2 0 rfl rfl d_Kep_add_17 hm (fun hm => ?_)
  refine lv_iconst (v := 1) hx hb d_Kep_add_18 (by decide) ?_
  refine lv_iadd hx hb d_Kep_add_19 ?_
  refine sg_iast (S1 := fun f2 => [[(q_p0, .inr (2, [.ref q_p0_sums, .ref q_p0_counts]))], [(q_p0_sums, .inl (cL, 27, .inr (.inl f1)))], [(q_p0_counts, .inl (cI, 27, .inl f2))]]) hx hb hK hw 2 0 rfl rfl d_Kep_add_20 (fun _ => rfl) hm (fun f2 H locs hm hw => ?_)
  exact so_vret (Sf := fun z_ => sc_Kep_add cI cL cM cZ q_p0 q_p0_sums q_p0_counts z_.1 z_.2) hm hx hb hr hlocks hAe hQ hK hw d_Kep_add_21
theorem d_Kep_usualTime_0 : decode prog_3_method_4_code 0 = .ok (.aload_n 0, 1) := by decide +kernel
theorem d_Kep_usualTime_1 : decode prog_3_method_4_code 1 = .ok (.getfield 15, 3) := by decide +kernel
theorem d_Kep_usualTime_4 : decode prog_3_method_4_code 4 = .ok (.iload_n 1, 1) := by decide +kernel
theorem d_Kep_usualTime_5 : decode prog_3_method_4_code 5 = .ok (.iaload, 1) := by decide +kernel
theorem d_Kep_usualTime_6 : decode prog_3_method_4_code 6 = .ok (.ifCond .le 20, 3) := by decide +kernel
theorem d_Kep_usualTime_9 : decode prog_3_method_4_code 9 = .ok (.aload_n 0, 1) := by decide +kernel
theorem d_Kep_usualTime_10 : decode prog_3_method_4_code 10 = .ok (.getfield 9, 3) := by decide +kernel
theorem d_Kep_usualTime_13 : decode prog_3_method_4_code 13 = .ok (.iload_n 1, 1) := by decide +kernel
theorem d_Kep_usualTime_14 : decode prog_3_method_4_code 14 = .ok (.laload, 1) := by decide +kernel
theorem d_Kep_usualTime_15 : decode prog_3_method_4_code 15 = .ok (.aload_n 0, 1) := by decide +kernel
theorem d_Kep_usualTime_16 : decode prog_3_method_4_code 16 = .ok (.getfield 15, 3) := by decide +kernel
theorem d_Kep_usualTime_19 : decode prog_3_method_4_code 19 = .ok (.iload_n 1, 1) := by decide +kernel
theorem d_Kep_usualTime_20 : decode prog_3_method_4_code 20 = .ok (.iaload, 1) := by decide +kernel
theorem d_Kep_usualTime_21 : decode prog_3_method_4_code 21 = .ok (.i2l, 1) := by decide +kernel
theorem d_Kep_usualTime_22 : decode prog_3_method_4_code 22 = .ok (.ldiv, 1) := by decide +kernel
theorem d_Kep_usualTime_23 : decode prog_3_method_4_code 23 = .ok (.goto 5, 3) := by decide +kernel
theorem d_Kep_usualTime_26 : decode prog_3_method_4_code 26 = .ok (.iload_n 2, 1) := by decide +kernel
theorem d_Kep_usualTime_27 : decode prog_3_method_4_code 27 = .ok (.i2l, 1) := by decide +kernel
theorem d_Kep_usualTime_28 : decode prog_3_method_4_code 28 = .ok (.lreturn, 1) := by decide +kernel
def md_Kep_usualTime (N : Nat) (f_p0_sums : Nat → Int64) (f_p0_counts : Nat → Int32) (a1_x : Int32) (a2_x : Int32) : Option (Int64) :=
  (if sg_in a1_x 27 = true then (if (f_p0_counts a1_x.toNatClampNeg) ≤ 0 then (some a2_x.toInt64) else (if sg_in a1_x 27 = true then (if sg_in a1_x 27 = true then (if ¬ ((f_p0_counts a1_x.toNatClampNeg).toInt64) = (0 : Int64) then (some ((f_p0_sums a1_x.toNatClampNeg) / ((f_p0_counts a1_x.toNatClampNeg).toInt64))) else none) else none) else none)) else none)
abbrev sc_Kep_usualTime (cI cL cM cZ : ClassId) (q_p0 q_p0_sums q_p0_counts : Nat) (f_p0_sums : Nat → Int64) (f_p0_counts : Nat → Int32) : List va_W := [[(q_p0, .inr (2, [.ref q_p0_sums, .ref q_p0_counts]))], [(q_p0_sums, .inl (cL, 27, .inr (.inl f_p0_sums)))], [(q_p0_counts, .inl (cI, 27, .inl f_p0_counts))]]
abbrev rm_Kep_usualTime : Room := { frames := 0, cells := 0, slots := 0, locals := 0 }
set_option maxHeartbeats 4000000 in
set_option maxRecDepth 100000 in
theorem ct_Kep_usualTime (l : Launch) (dC : Nat → ClassId) (dI : Nat → Nat → Nat) (cI cL cM cZ : ClassId) (q_p0 q_p0_sums q_p0_counts : Nat) (f_p0_sums : Nat → Int64) (f_p0_counts : Nat → Int32) (a1_x : Int32) (a2_x : Int32) (N : Nat) (o : Int64) (hm : md_Kep_usualTime N f_p0_sums f_p0_counts a1_x a2_x = some o) : ∀ sz : Nat, Met l y_Kep_usualTime ws_Kep_usualTime rm_Kep_usualTime (cP (dC, dI) vwCl [(cI, .int), (cL, .long), (cM, .array .int), (cZ, .boolean)] [.ref q_p0, .int a1_x, .int a2_x] sz (sc_Kep_usualTime cI cL cM cZ q_p0 q_p0_sums q_p0_counts f_p0_sums f_p0_counts)) (cQl (dC, dI) vwCl [(cI, .int), (cL, .long), (cM, .array .int), (cZ, .boolean)] sz (sc_Kep_usualTime cI cL cM cZ q_p0 q_p0_sums q_p0_counts f_p0_sums f_p0_counts) o (sc_Kep_usualTime cI cL cM cZ q_p0 q_p0_sums q_p0_counts f_p0_sums f_p0_counts)) 0 0 (va_A ((sc_Kep_usualTime cI cL cM cZ q_p0 q_p0_sums q_p0_counts f_p0_sums f_p0_counts)).flatten sz) := by
  refine sg_met (fun sz => cQl (dC, dI) vwCl [(cI, .int), (cL, .long), (cM, .array .int), (cZ, .boolean)] sz (sc_Kep_usualTime cI cL cM cZ q_p0 q_p0_sums q_p0_counts f_p0_sums f_p0_counts) o (sc_Kep_usualTime cI cL cM cZ q_p0 q_p0_sums q_p0_counts f_p0_sums f_p0_counts)) (by decide) (Nat.le_of_ble_eq_true rfl) ?_
  intro p e s m args below meth c A Q ls hx hb hr hts hown hlocks hml hname hK hNW hA hAe hQ hw hl
  have hl : lv_has ls 3 [(0, .ref q_p0), (1, .int a1_x), (2, .int a2_x)] := hl
  have hw : wk (dC, dI) vwCl A s.heap [[(q_p0, .inr (2, [.ref q_p0_sums, .ref q_p0_counts]))], [(q_p0_sums, .inl (cL, 27, .inr (.inl f_p0_sums)))], [(q_p0_counts, .inl (cI, 27, .inl f_p0_counts))]] s.heap [] := hw
  unfold md_Kep_usualTime at hm
  refine lv_aload_n hx hb d_Kep_usualTime_0 rfl (lv_at hl 0 rfl) ?_
  refine sg_get (D := (dC, dI)) (ci := 2) (v := .ref q_p0_counts) (C := "JobNets$KeptTimes") (T := T_2) (N := 2) hx hb hts hin_2 hown hK hw 0 rfl rfl 1 (by decide) (hts _ wd_123) rfl rfl d_Kep_usualTime_1 ?_
  refine lv_iload_n hx hb d_Kep_usualTime_4 rfl (lv_at hl 1 rfl) ?_
  refine sg_iald hx hb hK hw 2 0 rfl rfl d_Kep_usualTime_5 hm (fun hm => ?_)
  refine bq_t (lv_if_le (tgt := 26) hx hb d_Kep_usualTime_6 (by decide)) hm (fun hm => ?_) (fun hm => ?_)
  · refine lv_iload_n hx hb d_Kep_usualTime_26 rfl (lv_at hl 2 rfl) ?_
    refine lv_i2l hx hb d_Kep_usualTime_27 rfl ?_
    exact so_lret (rf := fun z_ => z_) (Sf := fun z_ => sc_Kep_usualTime cI cL cM cZ q_p0 q_p0_sums q_p0_counts f_p0_sums f_p0_counts) hm hx hb hr hlocks hAe hQ hK hw rfl d_Kep_usualTime_28
  · refine lv_aload_n hx hb d_Kep_usualTime_9 rfl (lv_at hl 0 rfl) ?_
    refine sg_get (D := (dC, dI)) (ci := 2) (v := .ref q_p0_sums) (C := "JobNets$KeptTimes") (T := T_2) (N := 2) hx hb hts hin_2 hown hK hw 0 rfl rfl 0 (by decide) (hts _ wd_121) rfl rfl d_Kep_usualTime_10 ?_
    refine lv_iload_n hx hb d_Kep_usualTime_13 rfl (lv_at hl 1 rfl) ?_
    refine sg_lald hx hb hK hw 1 1 rfl rfl d_Kep_usualTime_14 hm (fun hm => ?_)
    refine lv_aload_n hx hb d_Kep_usualTime_15 rfl (lv_at hl 0 rfl) ?_
    refine sg_get (D := (dC, dI)) (ci := 2) (v := .ref q_p0_counts) (C := "JobNets$KeptTimes") (T := T_2) (N := 2) hx hb hts hin_2 hown hK hw 0 rfl rfl 1 (by decide) (hts _ wd_123) rfl rfl d_Kep_usualTime_16 ?_
    refine lv_iload_n hx hb d_Kep_usualTime_19 rfl (lv_at hl 1 rfl) ?_
    refine sg_iald hx hb hK hw 2 0 rfl rfl d_Kep_usualTime_20 hm (fun hm => ?_)
    refine lv_i2l hx hb d_Kep_usualTime_21 rfl ?_
    obtain ⟨hne, hm⟩ := it_n hm
    refine lv_ldiv hx hb d_Kep_usualTime_22 hne ?_
    refine lv_goto (tgt := 28) hx hb d_Kep_usualTime_23 (by decide) ?_
    exact so_lret (rf := fun z_ => z_) (Sf := fun z_ => sc_Kep_usualTime cI cL cM cZ q_p0 q_p0_sums q_p0_counts f_p0_sums f_p0_counts) hm hx hb hr hlocks hAe hQ hK hw rfl d_Kep_usualTime_28
theorem d_Lon_measure_0 : decode prog_4_method_3_code 0 = .ok (.iconst 0, 1) := by decide +kernel
theorem d_Lon_measure_1 : decode prog_4_method_3_code 1 = .ok (.istore 4, 2) := by decide +kernel
theorem d_Lon_measure_3 : decode prog_4_method_3_code 3 = .ok (.iconst 0, 1) := by decide +kernel
theorem d_Lon_measure_4 : decode prog_4_method_3_code 4 = .ok (.istore 5, 2) := by decide +kernel
theorem d_Lon_measure_6 : decode prog_4_method_3_code 6 = .ok (.iconst 0, 1) := by decide +kernel
theorem d_Lon_measure_7 : decode prog_4_method_3_code 7 = .ok (.istore 6, 2) := by decide +kernel
theorem d_Lon_measure_9 : decode prog_4_method_3_code 9 = .ok (.iload 6, 2) := by decide +kernel
theorem d_Lon_measure_11 : decode prog_4_method_3_code 11 = .ok (.aload_n 1, 1) := by decide +kernel
theorem d_Lon_measure_12 : decode prog_4_method_3_code 12 = .ok (.getfield 52, 3) := by decide +kernel
theorem d_Lon_measure_15 : decode prog_4_method_3_code 15 = .ok (.iload_n 3, 1) := by decide +kernel
theorem d_Lon_measure_16 : decode prog_4_method_3_code 16 = .ok (.iaload, 1) := by decide +kernel
theorem d_Lon_measure_17 : decode prog_4_method_3_code 17 = .ok (.if_icmp .ge 74, 3) := by decide +kernel
theorem d_Lon_measure_20 : decode prog_4_method_3_code 20 = .ok (.aload_n 1, 1) := by decide +kernel
theorem d_Lon_measure_21 : decode prog_4_method_3_code 21 = .ok (.getfield 55, 3) := by decide +kernel
theorem d_Lon_measure_24 : decode prog_4_method_3_code 24 = .ok (.iload_n 3, 1) := by decide +kernel
theorem d_Lon_measure_25 : decode prog_4_method_3_code 25 = .ok (.aaload, 1) := by decide +kernel
theorem d_Lon_measure_26 : decode prog_4_method_3_code 26 = .ok (.iload 6, 2) := by decide +kernel
theorem d_Lon_measure_28 : decode prog_4_method_3_code 28 = .ok (.iaload, 1) := by decide +kernel
theorem d_Lon_measure_29 : decode prog_4_method_3_code 29 = .ok (.istore 7, 2) := by decide +kernel
theorem d_Lon_measure_31 : decode prog_4_method_3_code 31 = .ok (.aload_n 2, 1) := by decide +kernel
theorem d_Lon_measure_32 : decode prog_4_method_3_code 32 = .ok (.iload 7, 2) := by decide +kernel
theorem d_Lon_measure_34 : decode prog_4_method_3_code 34 = .ok (.iaload, 1) := by decide +kernel
theorem d_Lon_measure_35 : decode prog_4_method_3_code 35 = .ok (.ifCond .ne 6, 3) := by decide +kernel
theorem d_Lon_measure_38 : decode prog_4_method_3_code 38 = .ok (.goto 47, 3) := by decide +kernel
theorem d_Lon_measure_41 : decode prog_4_method_3_code 41 = .ok (.aload_n 0, 1) := by decide +kernel
theorem d_Lon_measure_42 : decode prog_4_method_3_code 42 = .ok (.getfield 9, 3) := by decide +kernel
theorem d_Lon_measure_45 : decode prog_4_method_3_code 45 = .ok (.iload 7, 2) := by decide +kernel
theorem d_Lon_measure_47 : decode prog_4_method_3_code 47 = .ok (.iaload, 1) := by decide +kernel
theorem d_Lon_measure_48 : decode prog_4_method_3_code 48 = .ok (.iload 4, 2) := by decide +kernel
theorem d_Lon_measure_50 : decode prog_4_method_3_code 50 = .ok (.if_icmp .gt 22, 3) := by decide +kernel
theorem d_Lon_measure_53 : decode prog_4_method_3_code 53 = .ok (.aload_n 0, 1) := by decide +kernel
theorem d_Lon_measure_54 : decode prog_4_method_3_code 54 = .ok (.getfield 9, 3) := by decide +kernel
theorem d_Lon_measure_57 : decode prog_4_method_3_code 57 = .ok (.iload 7, 2) := by decide +kernel
theorem d_Lon_measure_59 : decode prog_4_method_3_code 59 = .ok (.iaload, 1) := by decide +kernel
theorem d_Lon_measure_60 : decode prog_4_method_3_code 60 = .ok (.iload 4, 2) := by decide +kernel
theorem d_Lon_measure_62 : decode prog_4_method_3_code 62 = .ok (.if_icmp .ne 23, 3) := by decide +kernel
theorem d_Lon_measure_65 : decode prog_4_method_3_code 65 = .ok (.iload 7, 2) := by decide +kernel
theorem d_Lon_measure_67 : decode prog_4_method_3_code 67 = .ok (.iload 5, 2) := by decide +kernel
theorem d_Lon_measure_69 : decode prog_4_method_3_code 69 = .ok (.if_icmp .ge 16, 3) := by decide +kernel
theorem d_Lon_measure_72 : decode prog_4_method_3_code 72 = .ok (.aload_n 0, 1) := by decide +kernel
theorem d_Lon_measure_73 : decode prog_4_method_3_code 73 = .ok (.getfield 9, 3) := by decide +kernel
theorem d_Lon_measure_76 : decode prog_4_method_3_code 76 = .ok (.iload 7, 2) := by decide +kernel
theorem d_Lon_measure_78 : decode prog_4_method_3_code 78 = .ok (.iaload, 1) := by decide +kernel
theorem d_Lon_measure_79 : decode prog_4_method_3_code 79 = .ok (.istore 4, 2) := by decide +kernel
theorem d_Lon_measure_81 : decode prog_4_method_3_code 81 = .ok (.iload 7, 2) := by decide +kernel
theorem d_Lon_measure_83 : decode prog_4_method_3_code 83 = .ok (.istore 5, 2) := by decide +kernel
theorem d_Lon_measure_85 : decode prog_4_method_3_code 85 = .ok (.iinc 6 1, 3) := by decide +kernel
theorem d_Lon_measure_88 : decode prog_4_method_3_code 88 = .ok (.goto (-79), 3) := by decide +kernel
theorem d_Lon_measure_91 : decode prog_4_method_3_code 91 = .ok (.aload_n 0, 1) := by decide +kernel
theorem d_Lon_measure_92 : decode prog_4_method_3_code 92 = .ok (.getfield 9, 3) := by decide +kernel
theorem d_Lon_measure_95 : decode prog_4_method_3_code 95 = .ok (.iload_n 3, 1) := by decide +kernel
theorem d_Lon_measure_96 : decode prog_4_method_3_code 96 = .ok (.iload 4, 2) := by decide +kernel
theorem d_Lon_measure_98 : decode prog_4_method_3_code 98 = .ok (.aload_n 1, 1) := by decide +kernel
theorem d_Lon_measure_99 : decode prog_4_method_3_code 99 = .ok (.getfield 59, 3) := by decide +kernel
theorem d_Lon_measure_102 : decode prog_4_method_3_code 102 = .ok (.iload_n 3, 1) := by decide +kernel
theorem d_Lon_measure_103 : decode prog_4_method_3_code 103 = .ok (.aaload, 1) := by decide +kernel
theorem d_Lon_measure_104 : decode prog_4_method_3_code 104 = .ok (.iconst 3, 1) := by decide +kernel
theorem d_Lon_measure_105 : decode prog_4_method_3_code 105 = .ok (.iaload, 1) := by decide +kernel
theorem d_Lon_measure_106 : decode prog_4_method_3_code 106 = .ok (.iadd, 1) := by decide +kernel
theorem d_Lon_measure_107 : decode prog_4_method_3_code 107 = .ok (.iastore, 1) := by decide +kernel
theorem d_Lon_measure_108 : decode prog_4_method_3_code 108 = .ok (.aload_n 0, 1) := by decide +kernel
theorem d_Lon_measure_109 : decode prog_4_method_3_code 109 = .ok (.getfield 15, 3) := by decide +kernel
theorem d_Lon_measure_112 : decode prog_4_method_3_code 112 = .ok (.iload_n 3, 1) := by decide +kernel
theorem d_Lon_measure_113 : decode prog_4_method_3_code 113 = .ok (.iload 5, 2) := by decide +kernel
theorem d_Lon_measure_115 : decode prog_4_method_3_code 115 = .ok (.iastore, 1) := by decide +kernel
theorem d_Lon_measure_116 : decode prog_4_method_3_code 116 = .ok (.return_, 1) := by decide +kernel
def md_Lon_measure_F9 (f_p0_sums : Nat → Int32) (f_p0_before : Nat → Int32) (g_p1_numbers : Nat → Nat → Int32) (f_p1_needCounts : Nat → Int32) (g_p1_needed : Nat → Nat → Int32) (f_p2 : Nat → Int32) (a3_x : Int32) (rec9 : Int32 → Int32 → Int32 → Option ((Nat → Int32) × (Nat → Int32))) (x1 : Int32) (x2 : Int32) (x3 : Int32) : Option ((Nat → Int32) × (Nat → Int32)) :=
  (if sg_in a3_x 27 = true then (if (f_p1_needCounts a3_x.toNatClampNeg) ≤ x1 then (if sg_in a3_x 27 = true then (if sg_in (3 : Int32) 4 = true then (if sg_in a3_x 27 = true then zl (upd f_p0_sums a3_x.toNatClampNeg (x3 + (g_p1_numbers a3_x.toNatClampNeg (3 : Int32).toNatClampNeg))) (fun f5 => (if sg_in a3_x 27 = true then zl (upd f_p0_before a3_x.toNatClampNeg x2) (fun f6 => (some (f5, f6))) else none)) else none) else none) else none) else (if sg_in a3_x 27 = true then (if sg_in x1 20 = true then (zl (g_p1_needed a3_x.toNatClampNeg x1.toNatClampNeg) (fun x8 => (if sg_in x8 27 = true then (if (f_p2 x8.toNatClampNeg) = 0 then (rec9 (x1 + 1) x2 x3) else (if sg_in x8 27 = true then (if x3 < (f_p0_sums x8.toNatClampNeg) then (if sg_in x8 27 = true then (rec9 (x1 + 1) x8 (f_p0_sums x8.toNatClampNeg)) else none) else (if sg_in x8 27 = true then (if (f_p0_sums x8.toNatClampNeg) = x3 then (if x2 ≤ x8 then (rec9 (x1 + 1) x2 x3) else (if sg_in x8 27 = true then (rec9 (x1 + 1) x8 (f_p0_sums x8.toNatClampNeg)) else none)) else (rec9 (x1 + 1) x2 x3)) else none)) else none)) else none))) else none) else none)) else none)
def md_Lon_measure (N : Nat) (f_p0_sums : Nat → Int32) (f_p0_before : Nat → Int32) (g_p1_numbers : Nat → Nat → Int32) (f_p1_needCounts : Nat → Int32) (g_p1_needed : Nat → Nat → Int32) (f_p2 : Nat → Int32) (a3_x : Int32) : Option ((Nat → Int32) × (Nat → Int32)) :=
  (fx3 (md_Lon_measure_F9 f_p0_sums f_p0_before g_p1_numbers f_p1_needCounts g_p1_needed f_p2 a3_x) N (0 : Int32) (0 : Int32) (0 : Int32))
abbrev sc_Lon_measure (cI cL cM cZ : ClassId) (q_p0 q_p1 q_p2 q_p0_sums q_p0_before q_p0_way q_p1_numbers q_p1_needCounts q_p1_needed q_p1_conditions q_p1_allNeeded : Nat) (d_p1_numbers d_p1_needed : Nat → Nat) (f_p0_sums : Nat → Int32) (f_p0_before : Nat → Int32) (v_p1_jobs : Int32) (g_p1_numbers : Nat → Nat → Int32) (f_p1_needCounts : Nat → Int32) (g_p1_needed : Nat → Nat → Int32) (f_p2 : Nat → Int32) : List va_W := [[(q_p0, .inr (3, [.ref q_p0_sums, .ref q_p0_before, .ref q_p0_way]))], [(q_p0_sums, .inl (cI, 27, .inl f_p0_sums))], [(q_p0_before, .inl (cI, 27, .inl f_p0_before))], [(q_p1, .inr (4, [.ref q_p1_numbers, .ref q_p1_needCounts, .ref q_p1_needed, .ref q_p1_conditions, .ref q_p1_allNeeded, .int v_p1_jobs]))], [(q_p1_numbers, .inl (cM, gro 27 d_p1_numbers))], gl cI d_p1_numbers 27 4 g_p1_numbers, [(q_p1_needCounts, .inl (cI, 27, .inl f_p1_needCounts))], [(q_p1_needed, .inl (cM, gro 27 d_p1_needed))], gl cI d_p1_needed 27 20 g_p1_needed, [(q_p2, .inl (cI, 27, .inl f_p2))]]
abbrev rm_Lon_measure : Room := { frames := 0, cells := 0, slots := 0, locals := 0 }
set_option maxHeartbeats 4000000 in
set_option maxRecDepth 100000 in
theorem ct_Lon_measure (l : Launch) (dC : Nat → ClassId) (dI : Nat → Nat → Nat) (cI cL cM cZ : ClassId) (q_p0 q_p1 q_p2 q_p0_sums q_p0_before q_p0_way q_p1_numbers q_p1_needCounts q_p1_needed q_p1_conditions q_p1_allNeeded : Nat) (d_p1_numbers d_p1_needed : Nat → Nat) (f_p0_sums : Nat → Int32) (f_p0_before : Nat → Int32) (v_p1_jobs : Int32) (g_p1_numbers : Nat → Nat → Int32) (f_p1_needCounts : Nat → Int32) (g_p1_needed : Nat → Nat → Int32) (f_p2 : Nat → Int32) (a3_x : Int32) (N : Nat) (o : (Nat → Int32) × (Nat → Int32)) (hm : md_Lon_measure N f_p0_sums f_p0_before g_p1_numbers f_p1_needCounts g_p1_needed f_p2 a3_x = some o) : ∀ sz : Nat, Met l y_Lon_measure ws_Lon_measure rm_Lon_measure (cP (dC, dI) vwCl [(cI, .int), (cL, .long), (cM, .array .int), (cZ, .boolean)] [.ref q_p0, .ref q_p1, .ref q_p2, .int a3_x] sz (sc_Lon_measure cI cL cM cZ q_p0 q_p1 q_p2 q_p0_sums q_p0_before q_p0_way q_p1_numbers q_p1_needCounts q_p1_needed q_p1_conditions q_p1_allNeeded d_p1_numbers d_p1_needed f_p0_sums f_p0_before v_p1_jobs g_p1_numbers f_p1_needCounts g_p1_needed f_p2)) (cQv (dC, dI) vwCl [(cI, .int), (cL, .long), (cM, .array .int), (cZ, .boolean)] sz (sc_Lon_measure cI cL cM cZ q_p0 q_p1 q_p2 q_p0_sums q_p0_before q_p0_way q_p1_numbers q_p1_needCounts q_p1_needed q_p1_conditions q_p1_allNeeded d_p1_numbers d_p1_needed f_p0_sums f_p0_before v_p1_jobs g_p1_numbers f_p1_needCounts g_p1_needed f_p2) (sc_Lon_measure cI cL cM cZ q_p0 q_p1 q_p2 q_p0_sums q_p0_before q_p0_way q_p1_numbers q_p1_needCounts q_p1_needed q_p1_conditions q_p1_allNeeded d_p1_numbers d_p1_needed o.1 o.2 v_p1_jobs g_p1_numbers f_p1_needCounts g_p1_needed f_p2)) 0 0 (va_A ((sc_Lon_measure cI cL cM cZ q_p0 q_p1 q_p2 q_p0_sums q_p0_before q_p0_way q_p1_numbers q_p1_needCounts q_p1_needed q_p1_conditions q_p1_allNeeded d_p1_numbers d_p1_needed f_p0_sums f_p0_before v_p1_jobs g_p1_numbers f_p1_needCounts g_p1_needed f_p2)).flatten sz) := by
  refine sg_met (fun sz => cQv (dC, dI) vwCl [(cI, .int), (cL, .long), (cM, .array .int), (cZ, .boolean)] sz (sc_Lon_measure cI cL cM cZ q_p0 q_p1 q_p2 q_p0_sums q_p0_before q_p0_way q_p1_numbers q_p1_needCounts q_p1_needed q_p1_conditions q_p1_allNeeded d_p1_numbers d_p1_needed f_p0_sums f_p0_before v_p1_jobs g_p1_numbers f_p1_needCounts g_p1_needed f_p2) (sc_Lon_measure cI cL cM cZ q_p0 q_p1 q_p2 q_p0_sums q_p0_before q_p0_way q_p1_numbers q_p1_needCounts q_p1_needed q_p1_conditions q_p1_allNeeded d_p1_numbers d_p1_needed o.1 o.2 v_p1_jobs g_p1_numbers f_p1_needCounts g_p1_needed f_p2)) (by decide) (Nat.le_of_ble_eq_true rfl) ?_
  intro p e s m args below meth c A Q ls hx hb hr hts hown hlocks hml hname hK hNW hA hAe hQ hw hl
  have hl : lv_has ls 8 [(0, .ref q_p0), (1, .ref q_p1), (2, .ref q_p2), (3, .int a3_x)] := hl
  have hw : wk (dC, dI) vwCl A s.heap [[(q_p0, .inr (3, [.ref q_p0_sums, .ref q_p0_before, .ref q_p0_way]))], [(q_p0_sums, .inl (cI, 27, .inl f_p0_sums))], [(q_p0_before, .inl (cI, 27, .inl f_p0_before))], [(q_p1, .inr (4, [.ref q_p1_numbers, .ref q_p1_needCounts, .ref q_p1_needed, .ref q_p1_conditions, .ref q_p1_allNeeded, .int v_p1_jobs]))], [(q_p1_numbers, .inl (cM, gro 27 d_p1_numbers))], gl cI d_p1_numbers 27 4 g_p1_numbers, [(q_p1_needCounts, .inl (cI, 27, .inl f_p1_needCounts))], [(q_p1_needed, .inl (cM, gro 27 d_p1_needed))], gl cI d_p1_needed 27 20 g_p1_needed, [(q_p2, .inl (cI, 27, .inl f_p2))]] s.heap [] := hw
  unfold md_Lon_measure at hm
  refine lv_iconst (v := 0) hx hb d_Lon_measure_0 (by decide) ?_
  refine lv_istore (lv' := [(4, .int (0 : Int32)), (0, .ref q_p0), (1, .ref q_p1), (2, .ref q_p2), (3, .int a3_x)]) hx hb d_Lon_measure_1 hl (by decide) rfl (fun ls hl => ?_)
  refine lv_iconst (v := 0) hx hb d_Lon_measure_3 (by decide) ?_
  refine lv_istore (lv' := [(5, .int (0 : Int32)), (4, .int (0 : Int32)), (0, .ref q_p0), (1, .ref q_p1), (2, .ref q_p2), (3, .int a3_x)]) hx hb d_Lon_measure_4 hl (by decide) rfl (fun ls hl => ?_)
  refine lv_iconst (v := 0) hx hb d_Lon_measure_6 (by decide) ?_
  refine lv_istore (lv' := [(6, .int (0 : Int32)), (5, .int (0 : Int32)), (4, .int (0 : Int32)), (0, .ref q_p0), (1, .ref q_p1), (2, .ref q_p2), (3, .int a3_x)]) hx hb d_Lon_measure_7 hl (by decide) rfl (fun ls hl => ?_)
  obtain ⟨Fn9, hFn9, hm⟩ := fx3_x hm
  have L9 : ∀ (n : Nat) (x1 : Int32) (x2 : Int32) (x3 : Int32), fx3 Fn9 n x1 x2 x3 = some o → ∀ (H : Heap) (locs : List Loc) (ls : Array Slot), wk (dC, dI) vwCl A s.heap [[(q_p0, .inr (3, [.ref q_p0_sums, .ref q_p0_before, .ref q_p0_way]))], [(q_p0_sums, .inl (cI, 27, .inl f_p0_sums))], [(q_p0_before, .inl (cI, 27, .inl f_p0_before))], [(q_p1, .inr (4, [.ref q_p1_numbers, .ref q_p1_needCounts, .ref q_p1_needed, .ref q_p1_conditions, .ref q_p1_allNeeded, .int v_p1_jobs]))], [(q_p1_numbers, .inl (cM, gro 27 d_p1_numbers))], gl cI d_p1_numbers 27 4 g_p1_numbers, [(q_p1_needCounts, .inl (cI, 27, .inl f_p1_needCounts))], [(q_p1_needed, .inl (cM, gro 27 d_p1_needed))], gl cI d_p1_needed 27 20 g_p1_needed, [(q_p2, .inl (cI, 27, .inl f_p2))]] H locs → lv_has ls 8 [(6, .int x1), (5, .int x2), (4, .int x3), (0, .ref q_p0), (1, .ref q_p1), (2, .ref q_p2), (3, .int a3_x)] → W p l e rm_Lon_measure s m args below meth c H locs 0 0 Q (F0 m 9 ls []) := by
    intro n
    induction n with
    | zero => intro x1 x2 x3 hm; exact (fx3_0 hm).elim
    | succ n ih9 =>
      intro x1 x2 x3 hm H locs ls hw hl
      have hm := fx3_s hFn9 hm
      unfold md_Lon_measure_F9 at hm
      refine lv_iload hx hb d_Lon_measure_9 (lv_at hl 0 rfl) ?_
      refine lv_aload_n hx hb d_Lon_measure_11 rfl (lv_at hl 4 rfl) ?_
      refine sg_getN (D := (dC, dI)) (ci := 4) (v := .ref q_p1_needCounts) (C := "JobNets$Net") (T := T_4) (N := 6) hx hb hts hin_4 hown hK hw 3 rfl rfl 1 (by decide) (nF_17 hNW) rfl rfl d_Lon_measure_12 ?_
      refine lv_iload_n hx hb d_Lon_measure_15 rfl (lv_at hl 6 rfl) ?_
      refine sg_iald hx hb hK hw 6 0 rfl rfl d_Lon_measure_16 hm (fun hm => ?_)
      refine bq_t (lv_icmp_ge (tgt := 91) hx hb d_Lon_measure_17 (by decide)) hm (fun hm => ?_) (fun hm => ?_)
      · refine lv_aload_n hx hb d_Lon_measure_91 rfl (lv_at hl 3 rfl) ?_
        refine sg_get (D := (dC, dI)) (ci := 3) (v := .ref q_p0_sums) (C := "JobNets$LongestWay") (T := T_3) (N := 3) hx hb hts hin_3 hown hK hw 0 rfl rfl 0 (by decide) (hts _ wd_166) rfl rfl d_Lon_measure_92 ?_
        refine lv_iload_n hx hb d_Lon_measure_95 rfl (lv_at hl 6 rfl) ?_
        refine lv_iload hx hb d_Lon_measure_96 (lv_at hl 2 rfl) ?_
        refine lv_aload_n hx hb d_Lon_measure_98 rfl (lv_at hl 4 rfl) ?_
        refine sg_getN (D := (dC, dI)) (ci := 4) (v := .ref q_p1_numbers) (C := "JobNets$Net") (T := T_4) (N := 6) hx hb hts hin_4 hown hK hw 3 rfl rfl 0 (by decide) (nF_13 hNW) rfl rfl d_Lon_measure_99 ?_
        refine lv_iload_n hx hb d_Lon_measure_102 rfl (lv_at hl 6 rfl) ?_
        obtain ⟨hi4, hm⟩ := it_n hm
        refine sg_aald hx hb hK hw 4 2 rfl rfl hi4 d_Lon_measure_103 ?_
        refine lv_iconst (v := 3) hx hb d_Lon_measure_104 (by decide) ?_
        refine sg_rald hx hb hK hw 5 0 rfl (sg_lt hi4) rfl d_Lon_measure_105 hm (fun hm => ?_)
        refine lv_iadd hx hb d_Lon_measure_106 ?_
        refine sg_iast (S1 := fun f5 => [[(q_p0, .inr (3, [.ref q_p0_sums, .ref q_p0_before, .ref q_p0_way]))], [(q_p0_sums, .inl (cI, 27, .inl f5))], [(q_p0_before, .inl (cI, 27, .inl f_p0_before))], [(q_p1, .inr (4, [.ref q_p1_numbers, .ref q_p1_needCounts, .ref q_p1_needed, .ref q_p1_conditions, .ref q_p1_allNeeded, .int v_p1_jobs]))], [(q_p1_numbers, .inl (cM, gro 27 d_p1_numbers))], gl cI d_p1_numbers 27 4 g_p1_numbers, [(q_p1_needCounts, .inl (cI, 27, .inl f_p1_needCounts))], [(q_p1_needed, .inl (cM, gro 27 d_p1_needed))], gl cI d_p1_needed 27 20 g_p1_needed, [(q_p2, .inl (cI, 27, .inl f_p2))]]) hx hb hK hw 1 0 rfl rfl d_Lon_measure_107 (fun _ => rfl) hm (fun f5 H locs hm hw => ?_)
        refine lv_aload_n hx hb d_Lon_measure_108 rfl (lv_at hl 3 rfl) ?_
        refine sg_get (D := (dC, dI)) (ci := 3) (v := .ref q_p0_before) (C := "JobNets$LongestWay") (T := T_3) (N := 3) hx hb hts hin_3 hown hK hw 0 rfl rfl 1 (by decide) (hts _ wd_167) rfl rfl d_Lon_measure_109 ?_
        refine lv_iload_n hx hb d_Lon_measure_112 rfl (lv_at hl 6 rfl) ?_
        refine lv_iload hx hb d_Lon_measure_113 (lv_at hl 1 rfl) ?_
        refine sg_iast (S1 := fun f6 => [[(q_p0, .inr (3, [.ref q_p0_sums, .ref q_p0_before, .ref q_p0_way]))], [(q_p0_sums, .inl (cI, 27, .inl f5))], [(q_p0_before, .inl (cI, 27, .inl f6))], [(q_p1, .inr (4, [.ref q_p1_numbers, .ref q_p1_needCounts, .ref q_p1_needed, .ref q_p1_conditions, .ref q_p1_allNeeded, .int v_p1_jobs]))], [(q_p1_numbers, .inl (cM, gro 27 d_p1_numbers))], gl cI d_p1_numbers 27 4 g_p1_numbers, [(q_p1_needCounts, .inl (cI, 27, .inl f_p1_needCounts))], [(q_p1_needed, .inl (cM, gro 27 d_p1_needed))], gl cI d_p1_needed 27 20 g_p1_needed, [(q_p2, .inl (cI, 27, .inl f_p2))]]) hx hb hK hw 2 0 rfl rfl d_Lon_measure_115 (fun _ => rfl) hm (fun f6 H locs hm hw => ?_)
        exact so_vret (Sf := fun z_ => sc_Lon_measure cI cL cM cZ q_p0 q_p1 q_p2 q_p0_sums q_p0_before q_p0_way q_p1_numbers q_p1_needCounts q_p1_needed q_p1_conditions q_p1_allNeeded d_p1_numbers d_p1_needed z_.1 z_.2 v_p1_jobs g_p1_numbers f_p1_needCounts g_p1_needed f_p2) hm hx hb hr hlocks hAe hQ hK hw d_Lon_measure_116
      · refine lv_aload_n hx hb d_Lon_measure_20 rfl (lv_at hl 4 rfl) ?_
        refine sg_getN (D := (dC, dI)) (ci := 4) (v := .ref q_p1_needed) (C := "JobNets$Net") (T := T_4) (N := 6) hx hb hts hin_4 hown hK hw 3 rfl rfl 2 (by decide) (nF_21 hNW) rfl rfl d_Lon_measure_21 ?_
        refine lv_iload_n hx hb d_Lon_measure_24 rfl (lv_at hl 6 rfl) ?_
        obtain ⟨hi7, hm⟩ := it_n hm
        refine sg_aald hx hb hK hw 7 2 rfl rfl hi7 d_Lon_measure_25 ?_
        refine lv_iload hx hb d_Lon_measure_26 (lv_at hl 0 rfl) ?_
        refine sg_rald hx hb hK hw 8 0 rfl (sg_lt hi7) rfl d_Lon_measure_28 hm (fun hm => ?_)
        refine nm_i hm (fun x8 hm => ?_)
        refine lv_istore (lv' := [(7, .int x8), (6, .int x1), (5, .int x2), (4, .int x3), (0, .ref q_p0), (1, .ref q_p1), (2, .ref q_p2), (3, .int a3_x)]) hx hb d_Lon_measure_29 hl (by decide) rfl (fun ls hl => ?_)
        refine lv_aload_n hx hb d_Lon_measure_31 rfl (lv_at hl 6 rfl) ?_
        refine lv_iload hx hb d_Lon_measure_32 (lv_at hl 0 rfl) ?_
        refine sg_iald hx hb hK hw 9 0 rfl rfl d_Lon_measure_34 hm (fun hm => ?_)
        refine bq_n (lv_if_ne (tgt := 41) hx hb d_Lon_measure_35 (by decide)) hm (fun hm => ?_) (fun hm => ?_)
        · refine lv_aload_n hx hb d_Lon_measure_41 rfl (lv_at hl 4 rfl) ?_
          refine sg_get (D := (dC, dI)) (ci := 3) (v := .ref q_p0_sums) (C := "JobNets$LongestWay") (T := T_3) (N := 3) hx hb hts hin_3 hown hK hw 0 rfl rfl 0 (by decide) (hts _ wd_166) rfl rfl d_Lon_measure_42 ?_
          refine lv_iload hx hb d_Lon_measure_45 (lv_at hl 0 rfl) ?_
          refine sg_iald hx hb hK hw 1 0 rfl rfl d_Lon_measure_47 hm (fun hm => ?_)
          refine lv_iload hx hb d_Lon_measure_48 (lv_at hl 3 rfl) ?_
          refine bq_t (lv_icmp_gt (tgt := 72) hx hb d_Lon_measure_50 (by decide)) hm (fun hm => ?_) (fun hm => ?_)
          · refine lv_aload_n hx hb d_Lon_measure_72 rfl (lv_at hl 4 rfl) ?_
            refine sg_get (D := (dC, dI)) (ci := 3) (v := .ref q_p0_sums) (C := "JobNets$LongestWay") (T := T_3) (N := 3) hx hb hts hin_3 hown hK hw 0 rfl rfl 0 (by decide) (hts _ wd_166) rfl rfl d_Lon_measure_73 ?_
            refine lv_iload hx hb d_Lon_measure_76 (lv_at hl 0 rfl) ?_
            refine sg_iald hx hb hK hw 1 0 rfl rfl d_Lon_measure_78 hm (fun hm => ?_)
            refine lv_istore (lv' := [(4, .int (f_p0_sums x8.toNatClampNeg)), (7, .int x8), (6, .int x1), (5, .int x2), (0, .ref q_p0), (1, .ref q_p1), (2, .ref q_p2), (3, .int a3_x)]) hx hb d_Lon_measure_79 hl (by decide) rfl (fun ls hl => ?_)
            refine lv_iload hx hb d_Lon_measure_81 (lv_at hl 1 rfl) ?_
            refine lv_istore (lv' := [(5, .int x8), (4, .int (f_p0_sums x8.toNatClampNeg)), (7, .int x8), (6, .int x1), (0, .ref q_p0), (1, .ref q_p1), (2, .ref q_p2), (3, .int a3_x)]) hx hb d_Lon_measure_83 hl (by decide) rfl (fun ls hl => ?_)
            refine lv_iinc (v := x1 + 1) (lv' := [(6, .int (x1 + 1)), (5, .int x8), (4, .int (f_p0_sums x8.toNatClampNeg)), (7, .int x8), (0, .ref q_p0), (1, .ref q_p1), (2, .ref q_p2), (3, .int a3_x)]) hx hb d_Lon_measure_85 hl (k := 3) rfl rfl (by decide) rfl (fun ls hl => ?_)
            refine lv_goto (tgt := 9) hx hb d_Lon_measure_88 (by decide) ?_
            exact ih9 (x1 + 1) x8 (f_p0_sums x8.toNatClampNeg) hm _ _ _ hw (lv_sub hl [0, 1, 2, 4, 5, 6, 7] rfl)
          · refine lv_aload_n hx hb d_Lon_measure_53 rfl (lv_at hl 4 rfl) ?_
            refine sg_get (D := (dC, dI)) (ci := 3) (v := .ref q_p0_sums) (C := "JobNets$LongestWay") (T := T_3) (N := 3) hx hb hts hin_3 hown hK hw 0 rfl rfl 0 (by decide) (hts _ wd_166) rfl rfl d_Lon_measure_54 ?_
            refine lv_iload hx hb d_Lon_measure_57 (lv_at hl 0 rfl) ?_
            refine sg_iald hx hb hK hw 1 0 rfl rfl d_Lon_measure_59 hm (fun hm => ?_)
            refine lv_iload hx hb d_Lon_measure_60 (lv_at hl 3 rfl) ?_
            refine bq_n (lv_icmp_ne (tgt := 85) hx hb d_Lon_measure_62 (by decide)) hm (fun hm => ?_) (fun hm => ?_)
            · refine lv_iinc (v := x1 + 1) (lv' := [(6, .int (x1 + 1)), (7, .int x8), (5, .int x2), (4, .int x3), (0, .ref q_p0), (1, .ref q_p1), (2, .ref q_p2), (3, .int a3_x)]) hx hb d_Lon_measure_85 hl (k := 1) rfl rfl (by decide) rfl (fun ls hl => ?_)
              refine lv_goto (tgt := 9) hx hb d_Lon_measure_88 (by decide) ?_
              exact ih9 (x1 + 1) x2 x3 hm _ _ _ hw (lv_sub hl [0, 2, 3, 4, 5, 6, 7] rfl)
            · refine lv_iload hx hb d_Lon_measure_65 (lv_at hl 0 rfl) ?_
              refine lv_iload hx hb d_Lon_measure_67 (lv_at hl 2 rfl) ?_
              refine bq_t (lv_icmp_ge (tgt := 85) hx hb d_Lon_measure_69 (by decide)) hm (fun hm => ?_) (fun hm => ?_)
              · refine lv_iinc (v := x1 + 1) (lv' := [(6, .int (x1 + 1)), (7, .int x8), (5, .int x2), (4, .int x3), (0, .ref q_p0), (1, .ref q_p1), (2, .ref q_p2), (3, .int a3_x)]) hx hb d_Lon_measure_85 hl (k := 1) rfl rfl (by decide) rfl (fun ls hl => ?_)
                refine lv_goto (tgt := 9) hx hb d_Lon_measure_88 (by decide) ?_
                exact ih9 (x1 + 1) x2 x3 hm _ _ _ hw (lv_sub hl [0, 2, 3, 4, 5, 6, 7] rfl)
              · refine lv_aload_n hx hb d_Lon_measure_72 rfl (lv_at hl 4 rfl) ?_
                refine sg_get (D := (dC, dI)) (ci := 3) (v := .ref q_p0_sums) (C := "JobNets$LongestWay") (T := T_3) (N := 3) hx hb hts hin_3 hown hK hw 0 rfl rfl 0 (by decide) (hts _ wd_166) rfl rfl d_Lon_measure_73 ?_
                refine lv_iload hx hb d_Lon_measure_76 (lv_at hl 0 rfl) ?_
                refine sg_iald hx hb hK hw 1 0 rfl rfl d_Lon_measure_78 hm (fun hm => ?_)
                refine lv_istore (lv' := [(4, .int (f_p0_sums x8.toNatClampNeg)), (7, .int x8), (6, .int x1), (5, .int x2), (0, .ref q_p0), (1, .ref q_p1), (2, .ref q_p2), (3, .int a3_x)]) hx hb d_Lon_measure_79 hl (by decide) rfl (fun ls hl => ?_)
                refine lv_iload hx hb d_Lon_measure_81 (lv_at hl 1 rfl) ?_
                refine lv_istore (lv' := [(5, .int x8), (4, .int (f_p0_sums x8.toNatClampNeg)), (7, .int x8), (6, .int x1), (0, .ref q_p0), (1, .ref q_p1), (2, .ref q_p2), (3, .int a3_x)]) hx hb d_Lon_measure_83 hl (by decide) rfl (fun ls hl => ?_)
                refine lv_iinc (v := x1 + 1) (lv' := [(6, .int (x1 + 1)), (5, .int x8), (4, .int (f_p0_sums x8.toNatClampNeg)), (7, .int x8), (0, .ref q_p0), (1, .ref q_p1), (2, .ref q_p2), (3, .int a3_x)]) hx hb d_Lon_measure_85 hl (k := 3) rfl rfl (by decide) rfl (fun ls hl => ?_)
                refine lv_goto (tgt := 9) hx hb d_Lon_measure_88 (by decide) ?_
                exact ih9 (x1 + 1) x8 (f_p0_sums x8.toNatClampNeg) hm _ _ _ hw (lv_sub hl [0, 1, 2, 4, 5, 6, 7] rfl)
        · refine lv_goto (tgt := 85) hx hb d_Lon_measure_38 (by decide) ?_
          refine lv_iinc (v := x1 + 1) (lv' := [(6, .int (x1 + 1)), (7, .int x8), (5, .int x2), (4, .int x3), (0, .ref q_p0), (1, .ref q_p1), (2, .ref q_p2), (3, .int a3_x)]) hx hb d_Lon_measure_85 hl (k := 1) rfl rfl (by decide) rfl (fun ls hl => ?_)
          refine lv_goto (tgt := 9) hx hb d_Lon_measure_88 (by decide) ?_
          exact ih9 (x1 + 1) x2 x3 hm _ _ _ hw (lv_sub hl [0, 2, 3, 4, 5, 6, 7] rfl)
  exact L9 _ _ _ _ hm _ _ _ hw hl
theorem d_Lon_longestEnd_0 : decode prog_4_method_4_code 0 = .ok (.iconst 0, 1) := by decide +kernel
theorem d_Lon_longestEnd_1 : decode prog_4_method_4_code 1 = .ok (.istore_n 3, 1) := by decide +kernel
theorem d_Lon_longestEnd_2 : decode prog_4_method_4_code 2 = .ok (.iconst 1, 1) := by decide +kernel
theorem d_Lon_longestEnd_3 : decode prog_4_method_4_code 3 = .ok (.istore 4, 2) := by decide +kernel
theorem d_Lon_longestEnd_5 : decode prog_4_method_4_code 5 = .ok (.iload 4, 2) := by decide +kernel
theorem d_Lon_longestEnd_7 : decode prog_4_method_4_code 7 = .ok (.aload_n 1, 1) := by decide +kernel
theorem d_Lon_longestEnd_8 : decode prog_4_method_4_code 8 = .ok (.getfield 25, 3) := by decide +kernel
theorem d_Lon_longestEnd_11 : decode prog_4_method_4_code 11 = .ok (.if_icmp .gt 39, 3) := by decide +kernel
theorem d_Lon_longestEnd_14 : decode prog_4_method_4_code 14 = .ok (.aload_n 2, 1) := by decide +kernel
theorem d_Lon_longestEnd_15 : decode prog_4_method_4_code 15 = .ok (.iload 4, 2) := by decide +kernel
theorem d_Lon_longestEnd_17 : decode prog_4_method_4_code 17 = .ok (.iaload, 1) := by decide +kernel
theorem d_Lon_longestEnd_18 : decode prog_4_method_4_code 18 = .ok (.ifCond .eq 26, 3) := by decide +kernel
theorem d_Lon_longestEnd_21 : decode prog_4_method_4_code 21 = .ok (.iload_n 3, 1) := by decide +kernel
theorem d_Lon_longestEnd_22 : decode prog_4_method_4_code 22 = .ok (.ifCond .eq 19, 3) := by decide +kernel
theorem d_Lon_longestEnd_25 : decode prog_4_method_4_code 25 = .ok (.aload_n 0, 1) := by decide +kernel
theorem d_Lon_longestEnd_26 : decode prog_4_method_4_code 26 = .ok (.getfield 9, 3) := by decide +kernel
theorem d_Lon_longestEnd_29 : decode prog_4_method_4_code 29 = .ok (.iload 4, 2) := by decide +kernel
theorem d_Lon_longestEnd_31 : decode prog_4_method_4_code 31 = .ok (.iaload, 1) := by decide +kernel
theorem d_Lon_longestEnd_32 : decode prog_4_method_4_code 32 = .ok (.aload_n 0, 1) := by decide +kernel
theorem d_Lon_longestEnd_33 : decode prog_4_method_4_code 33 = .ok (.getfield 9, 3) := by decide +kernel
theorem d_Lon_longestEnd_36 : decode prog_4_method_4_code 36 = .ok (.iload_n 3, 1) := by decide +kernel
theorem d_Lon_longestEnd_37 : decode prog_4_method_4_code 37 = .ok (.iaload, 1) := by decide +kernel
theorem d_Lon_longestEnd_38 : decode prog_4_method_4_code 38 = .ok (.if_icmp .le 6, 3) := by decide +kernel
theorem d_Lon_longestEnd_41 : decode prog_4_method_4_code 41 = .ok (.iload 4, 2) := by decide +kernel
theorem d_Lon_longestEnd_43 : decode prog_4_method_4_code 43 = .ok (.istore_n 3, 1) := by decide +kernel
theorem d_Lon_longestEnd_44 : decode prog_4_method_4_code 44 = .ok (.iinc 4 1, 3) := by decide +kernel
theorem d_Lon_longestEnd_47 : decode prog_4_method_4_code 47 = .ok (.goto (-42), 3) := by decide +kernel
theorem d_Lon_longestEnd_50 : decode prog_4_method_4_code 50 = .ok (.iload_n 3, 1) := by decide +kernel
theorem d_Lon_longestEnd_51 : decode prog_4_method_4_code 51 = .ok (.ireturn, 1) := by decide +kernel
def md_Lon_longestEnd_F5 (f_p0_sums : Nat → Int32) (v_p1_jobs : Int32) (f_p2 : Nat → Int32) (rec5 : Int32 → Int32 → Option (Int32)) (x1 : Int32) (x2 : Int32) : Option (Int32) :=
  (if v_p1_jobs < x1 then (some x2) else (if sg_in x1 27 = true then (if (f_p2 x1.toNatClampNeg) = 0 then (rec5 (x1 + 1) x2) else (if x2 = 0 then (rec5 (x1 + 1) x1) else (if sg_in x1 27 = true then (if sg_in x2 27 = true then (if (f_p0_sums x1.toNatClampNeg) ≤ (f_p0_sums x2.toNatClampNeg) then (rec5 (x1 + 1) x2) else (rec5 (x1 + 1) x1)) else none) else none))) else none))
def md_Lon_longestEnd (N : Nat) (f_p0_sums : Nat → Int32) (v_p1_jobs : Int32) (f_p2 : Nat → Int32) : Option (Int32) :=
  (fx2 (md_Lon_longestEnd_F5 f_p0_sums v_p1_jobs f_p2) N (1 : Int32) (0 : Int32))
abbrev sc_Lon_longestEnd (cI cL cM cZ : ClassId) (q_p0 q_p1 q_p2 q_p0_sums q_p0_before q_p0_way q_p1_numbers q_p1_needCounts q_p1_needed q_p1_conditions q_p1_allNeeded : Nat) (f_p0_sums : Nat → Int32) (v_p1_jobs : Int32) (f_p2 : Nat → Int32) : List va_W := [[(q_p0, .inr (3, [.ref q_p0_sums, .ref q_p0_before, .ref q_p0_way]))], [(q_p0_sums, .inl (cI, 27, .inl f_p0_sums))], [(q_p1, .inr (4, [.ref q_p1_numbers, .ref q_p1_needCounts, .ref q_p1_needed, .ref q_p1_conditions, .ref q_p1_allNeeded, .int v_p1_jobs]))], [(q_p2, .inl (cI, 27, .inl f_p2))]]
abbrev rm_Lon_longestEnd : Room := { frames := 0, cells := 0, slots := 0, locals := 0 }
set_option maxHeartbeats 4000000 in
set_option maxRecDepth 100000 in
theorem ct_Lon_longestEnd (l : Launch) (dC : Nat → ClassId) (dI : Nat → Nat → Nat) (cI cL cM cZ : ClassId) (q_p0 q_p1 q_p2 q_p0_sums q_p0_before q_p0_way q_p1_numbers q_p1_needCounts q_p1_needed q_p1_conditions q_p1_allNeeded : Nat) (f_p0_sums : Nat → Int32) (v_p1_jobs : Int32) (f_p2 : Nat → Int32) (N : Nat) (o : Int32) (hm : md_Lon_longestEnd N f_p0_sums v_p1_jobs f_p2 = some o) : ∀ sz : Nat, Met l y_Lon_longestEnd ws_Lon_longestEnd rm_Lon_longestEnd (cP (dC, dI) vwCl [(cI, .int), (cL, .long), (cM, .array .int), (cZ, .boolean)] [.ref q_p0, .ref q_p1, .ref q_p2] sz (sc_Lon_longestEnd cI cL cM cZ q_p0 q_p1 q_p2 q_p0_sums q_p0_before q_p0_way q_p1_numbers q_p1_needCounts q_p1_needed q_p1_conditions q_p1_allNeeded f_p0_sums v_p1_jobs f_p2)) (cQi (dC, dI) vwCl [(cI, .int), (cL, .long), (cM, .array .int), (cZ, .boolean)] sz (sc_Lon_longestEnd cI cL cM cZ q_p0 q_p1 q_p2 q_p0_sums q_p0_before q_p0_way q_p1_numbers q_p1_needCounts q_p1_needed q_p1_conditions q_p1_allNeeded f_p0_sums v_p1_jobs f_p2) o (sc_Lon_longestEnd cI cL cM cZ q_p0 q_p1 q_p2 q_p0_sums q_p0_before q_p0_way q_p1_numbers q_p1_needCounts q_p1_needed q_p1_conditions q_p1_allNeeded f_p0_sums v_p1_jobs f_p2)) 0 0 (va_A ((sc_Lon_longestEnd cI cL cM cZ q_p0 q_p1 q_p2 q_p0_sums q_p0_before q_p0_way q_p1_numbers q_p1_needCounts q_p1_needed q_p1_conditions q_p1_allNeeded f_p0_sums v_p1_jobs f_p2)).flatten sz) := by
  refine sg_met (fun sz => cQi (dC, dI) vwCl [(cI, .int), (cL, .long), (cM, .array .int), (cZ, .boolean)] sz (sc_Lon_longestEnd cI cL cM cZ q_p0 q_p1 q_p2 q_p0_sums q_p0_before q_p0_way q_p1_numbers q_p1_needCounts q_p1_needed q_p1_conditions q_p1_allNeeded f_p0_sums v_p1_jobs f_p2) o (sc_Lon_longestEnd cI cL cM cZ q_p0 q_p1 q_p2 q_p0_sums q_p0_before q_p0_way q_p1_numbers q_p1_needCounts q_p1_needed q_p1_conditions q_p1_allNeeded f_p0_sums v_p1_jobs f_p2)) (by decide) (Nat.le_of_ble_eq_true rfl) ?_
  intro p e s m args below meth c A Q ls hx hb hr hts hown hlocks hml hname hK hNW hA hAe hQ hw hl
  have hl : lv_has ls 5 [(0, .ref q_p0), (1, .ref q_p1), (2, .ref q_p2)] := hl
  have hw : wk (dC, dI) vwCl A s.heap [[(q_p0, .inr (3, [.ref q_p0_sums, .ref q_p0_before, .ref q_p0_way]))], [(q_p0_sums, .inl (cI, 27, .inl f_p0_sums))], [(q_p1, .inr (4, [.ref q_p1_numbers, .ref q_p1_needCounts, .ref q_p1_needed, .ref q_p1_conditions, .ref q_p1_allNeeded, .int v_p1_jobs]))], [(q_p2, .inl (cI, 27, .inl f_p2))]] s.heap [] := hw
  unfold md_Lon_longestEnd at hm
  refine lv_iconst (v := 0) hx hb d_Lon_longestEnd_0 (by decide) ?_
  refine lv_istore_n (lv' := [(3, .int (0 : Int32)), (0, .ref q_p0), (1, .ref q_p1), (2, .ref q_p2)]) hx hb d_Lon_longestEnd_1 rfl hl (by decide) rfl (fun ls hl => ?_)
  refine lv_iconst (v := 1) hx hb d_Lon_longestEnd_2 (by decide) ?_
  refine lv_istore (lv' := [(4, .int (1 : Int32)), (3, .int (0 : Int32)), (0, .ref q_p0), (1, .ref q_p1), (2, .ref q_p2)]) hx hb d_Lon_longestEnd_3 hl (by decide) rfl (fun ls hl => ?_)
  obtain ⟨Fn5, hFn5, hm⟩ := fx2_x hm
  have L5 : ∀ (n : Nat) (x1 : Int32) (x2 : Int32), fx2 Fn5 n x1 x2 = some o → ∀ (H : Heap) (locs : List Loc) (ls : Array Slot), wk (dC, dI) vwCl A s.heap [[(q_p0, .inr (3, [.ref q_p0_sums, .ref q_p0_before, .ref q_p0_way]))], [(q_p0_sums, .inl (cI, 27, .inl f_p0_sums))], [(q_p1, .inr (4, [.ref q_p1_numbers, .ref q_p1_needCounts, .ref q_p1_needed, .ref q_p1_conditions, .ref q_p1_allNeeded, .int v_p1_jobs]))], [(q_p2, .inl (cI, 27, .inl f_p2))]] H locs → lv_has ls 5 [(4, .int x1), (3, .int x2), (0, .ref q_p0), (1, .ref q_p1), (2, .ref q_p2)] → W p l e rm_Lon_longestEnd s m args below meth c H locs 0 0 Q (F0 m 5 ls []) := by
    intro n
    induction n with
    | zero => intro x1 x2 hm; exact (fx2_0 hm).elim
    | succ n ih5 =>
      intro x1 x2 hm H locs ls hw hl
      have hm := fx2_s hFn5 hm
      unfold md_Lon_longestEnd_F5 at hm
      refine lv_iload hx hb d_Lon_longestEnd_5 (lv_at hl 0 rfl) ?_
      refine lv_aload_n hx hb d_Lon_longestEnd_7 rfl (lv_at hl 3 rfl) ?_
      refine sg_getN (D := (dC, dI)) (ci := 4) (v := .int v_p1_jobs) (C := "JobNets$Net") (T := T_4) (N := 6) hx hb hts hin_4 hown hK hw 2 rfl rfl 5 (by decide) (nF_26 hNW) rfl rfl d_Lon_longestEnd_8 ?_
      refine bq_t (lv_icmp_gt (tgt := 50) hx hb d_Lon_longestEnd_11 (by decide)) hm (fun hm => ?_) (fun hm => ?_)
      · refine lv_iload_n hx hb d_Lon_longestEnd_50 rfl (lv_at hl 1 rfl) ?_
        exact so_iret (rf := fun z_ => z_) (Sf := fun z_ => sc_Lon_longestEnd cI cL cM cZ q_p0 q_p1 q_p2 q_p0_sums q_p0_before q_p0_way q_p1_numbers q_p1_needCounts q_p1_needed q_p1_conditions q_p1_allNeeded f_p0_sums v_p1_jobs f_p2) hm hx hb hr hlocks hAe hQ hK hw rfl d_Lon_longestEnd_51
      · refine lv_aload_n hx hb d_Lon_longestEnd_14 rfl (lv_at hl 4 rfl) ?_
        refine lv_iload hx hb d_Lon_longestEnd_15 (lv_at hl 0 rfl) ?_
        refine sg_iald hx hb hK hw 3 0 rfl rfl d_Lon_longestEnd_17 hm (fun hm => ?_)
        refine bq_t (lv_if_eq (tgt := 44) hx hb d_Lon_longestEnd_18 (by decide)) hm (fun hm => ?_) (fun hm => ?_)
        · refine lv_iinc (v := x1 + 1) (lv' := [(4, .int (x1 + 1)), (3, .int x2), (0, .ref q_p0), (1, .ref q_p1), (2, .ref q_p2)]) hx hb d_Lon_longestEnd_44 hl (k := 0) rfl rfl (by decide) rfl (fun ls hl => ?_)
          refine lv_goto (tgt := 5) hx hb d_Lon_longestEnd_47 (by decide) ?_
          exact ih5 (x1 + 1) x2 hm _ _ _ hw hl
        · refine lv_iload_n hx hb d_Lon_longestEnd_21 rfl (lv_at hl 1 rfl) ?_
          refine bq_t (lv_if_eq (tgt := 41) hx hb d_Lon_longestEnd_22 (by decide)) hm (fun hm => ?_) (fun hm => ?_)
          · refine lv_iload hx hb d_Lon_longestEnd_41 (lv_at hl 0 rfl) ?_
            refine lv_istore_n (lv' := [(3, .int x1), (4, .int x1), (0, .ref q_p0), (1, .ref q_p1), (2, .ref q_p2)]) hx hb d_Lon_longestEnd_43 rfl hl (by decide) rfl (fun ls hl => ?_)
            refine lv_iinc (v := x1 + 1) (lv' := [(4, .int (x1 + 1)), (3, .int x1), (0, .ref q_p0), (1, .ref q_p1), (2, .ref q_p2)]) hx hb d_Lon_longestEnd_44 hl (k := 1) rfl rfl (by decide) rfl (fun ls hl => ?_)
            refine lv_goto (tgt := 5) hx hb d_Lon_longestEnd_47 (by decide) ?_
            exact ih5 (x1 + 1) x1 hm _ _ _ hw hl
          · refine lv_aload_n hx hb d_Lon_longestEnd_25 rfl (lv_at hl 2 rfl) ?_
            refine sg_get (D := (dC, dI)) (ci := 3) (v := .ref q_p0_sums) (C := "JobNets$LongestWay") (T := T_3) (N := 3) hx hb hts hin_3 hown hK hw 0 rfl rfl 0 (by decide) (hts _ wd_166) rfl rfl d_Lon_longestEnd_26 ?_
            refine lv_iload hx hb d_Lon_longestEnd_29 (lv_at hl 0 rfl) ?_
            refine sg_iald hx hb hK hw 1 0 rfl rfl d_Lon_longestEnd_31 hm (fun hm => ?_)
            refine lv_aload_n hx hb d_Lon_longestEnd_32 rfl (lv_at hl 2 rfl) ?_
            refine sg_get (D := (dC, dI)) (ci := 3) (v := .ref q_p0_sums) (C := "JobNets$LongestWay") (T := T_3) (N := 3) hx hb hts hin_3 hown hK hw 0 rfl rfl 0 (by decide) (hts _ wd_166) rfl rfl d_Lon_longestEnd_33 ?_
            refine lv_iload_n hx hb d_Lon_longestEnd_36 rfl (lv_at hl 1 rfl) ?_
            refine sg_iald hx hb hK hw 1 0 rfl rfl d_Lon_longestEnd_37 hm (fun hm => ?_)
            refine bq_t (lv_icmp_le (tgt := 44) hx hb d_Lon_longestEnd_38 (by decide)) hm (fun hm => ?_) (fun hm => ?_)
            · refine lv_iinc (v := x1 + 1) (lv' := [(4, .int (x1 + 1)), (3, .int x2), (0, .ref q_p0), (1, .ref q_p1), (2, .ref q_p2)]) hx hb d_Lon_longestEnd_44 hl (k := 0) rfl rfl (by decide) rfl (fun ls hl => ?_)
              refine lv_goto (tgt := 5) hx hb d_Lon_longestEnd_47 (by decide) ?_
              exact ih5 (x1 + 1) x2 hm _ _ _ hw hl
            · refine lv_iload hx hb d_Lon_longestEnd_41 (lv_at hl 0 rfl) ?_
              refine lv_istore_n (lv' := [(3, .int x1), (4, .int x1), (0, .ref q_p0), (1, .ref q_p1), (2, .ref q_p2)]) hx hb d_Lon_longestEnd_43 rfl hl (by decide) rfl (fun ls hl => ?_)
              refine lv_iinc (v := x1 + 1) (lv' := [(4, .int (x1 + 1)), (3, .int x1), (0, .ref q_p0), (1, .ref q_p1), (2, .ref q_p2)]) hx hb d_Lon_longestEnd_44 hl (k := 1) rfl rfl (by decide) rfl (fun ls hl => ?_)
              refine lv_goto (tgt := 5) hx hb d_Lon_longestEnd_47 (by decide) ?_
              exact ih5 (x1 + 1) x1 hm _ _ _ hw hl
  exact L5 _ _ _ hm _ _ _ hw hl
theorem d_Net_init_0 : decode prog_5_method_1_code 0 = .ok (.aload_n 0, 1) := by decide +kernel
theorem d_Net_init_1 : decode prog_5_method_1_code 1 = .ok (.invokespecial 3, 3) := by decide +kernel
theorem d_Net_init_4 : decode prog_5_method_1_code 4 = .ok (.aload_n 0, 1) := by decide +kernel
theorem d_Net_init_5 : decode prog_5_method_1_code 5 = .ok (.bipush 27, 2) := by decide +kernel
theorem d_Net_init_7 : decode prog_5_method_1_code 7 = .ok (.iconst 4, 1) := by decide +kernel
theorem d_Net_init_8 : decode prog_5_method_1_code 8 = .ok (.multianewarray 9 2, 4) := by decide +kernel
theorem d_Net_init_12 : decode prog_5_method_1_code 12 = .ok (.putfield 11, 3) := by decide +kernel
theorem d_Net_init_15 : decode prog_5_method_1_code 15 = .ok (.aload_n 0, 1) := by decide +kernel
theorem d_Net_init_16 : decode prog_5_method_1_code 16 = .ok (.bipush 27, 2) := by decide +kernel
theorem d_Net_init_18 : decode prog_5_method_1_code 18 = .ok (.newarray .int, 2) := by decide +kernel
theorem d_Net_init_20 : decode prog_5_method_1_code 20 = .ok (.putfield 16, 3) := by decide +kernel
theorem d_Net_init_23 : decode prog_5_method_1_code 23 = .ok (.aload_n 0, 1) := by decide +kernel
theorem d_Net_init_24 : decode prog_5_method_1_code 24 = .ok (.bipush 27, 2) := by decide +kernel
theorem d_Net_init_26 : decode prog_5_method_1_code 26 = .ok (.bipush 20, 2) := by decide +kernel
theorem d_Net_init_28 : decode prog_5_method_1_code 28 = .ok (.multianewarray 9 2, 4) := by decide +kernel
theorem d_Net_init_32 : decode prog_5_method_1_code 32 = .ok (.putfield 20, 3) := by decide +kernel
theorem d_Net_init_35 : decode prog_5_method_1_code 35 = .ok (.aload_n 0, 1) := by decide +kernel
theorem d_Net_init_36 : decode prog_5_method_1_code 36 = .ok (.bipush 27, 2) := by decide +kernel
theorem d_Net_init_38 : decode prog_5_method_1_code 38 = .ok (.bipush 20, 2) := by decide +kernel
theorem d_Net_init_40 : decode prog_5_method_1_code 40 = .ok (.multianewarray 9 2, 4) := by decide +kernel
theorem d_Net_init_44 : decode prog_5_method_1_code 44 = .ok (.putfield 23, 3) := by decide +kernel
theorem d_Net_init_47 : decode prog_5_method_1_code 47 = .ok (.aload_n 0, 1) := by decide +kernel
theorem d_Net_init_48 : decode prog_5_method_1_code 48 = .ok (.bipush 27, 2) := by decide +kernel
theorem d_Net_init_50 : decode prog_5_method_1_code 50 = .ok (.newarray .int, 2) := by decide +kernel
theorem d_Net_init_52 : decode prog_5_method_1_code 52 = .ok (.putfield 26, 3) := by decide +kernel
theorem d_Net_init_55 : decode prog_5_method_1_code 55 = .ok (.aload_n 0, 1) := by decide +kernel
theorem d_Net_init_56 : decode prog_5_method_1_code 56 = .ok (.iconst 0, 1) := by decide +kernel
theorem d_Net_init_57 : decode prog_5_method_1_code 57 = .ok (.putfield 29, 3) := by decide +kernel
theorem d_Net_init_60 : decode prog_5_method_1_code 60 = .ok (.return_, 1) := by decide +kernel
def sd_Net_init (cI cL cM cZ : ClassId) (q_p0 : Nat) (u : ADs) : List va_W := [[(q_p0, .inr (4, [.ref (u.1.getD 0 0), .ref (u.1.getD 1 0), .ref (u.1.getD 2 0), .ref (u.1.getD 3 0), .ref (u.1.getD 4 0), .int 0]))], [((u.1.getD 0 0), .inl (cM, gro 27 (u.2.getD 0 (fun _ => 0))))], gl cI (u.2.getD 0 (fun _ => 0)) 27 4 (fun _ _ => 0), [((u.1.getD 1 0), .inl (cI, 27, .inl (fun _ => 0)))], [((u.1.getD 2 0), .inl (cM, gro 27 (u.2.getD 1 (fun _ => 0))))], gl cI (u.2.getD 1 (fun _ => 0)) 27 20 (fun _ _ => 0), [((u.1.getD 3 0), .inl (cM, gro 27 (u.2.getD 2 (fun _ => 0))))], gl cI (u.2.getD 2 (fun _ => 0)) 27 20 (fun _ _ => 0), [((u.1.getD 4 0), .inl (cI, 27, .inl (fun _ => 0)))]]
abbrev rm_Net_init : Room := { frames := 1, cells := 86, slots := 1323, locals := 20 }
set_option maxHeartbeats 4000000 in
set_option maxRecDepth 100000 in
theorem ct_Net_init (l : Launch) (dC : Nat → ClassId) (dI : Nat → Nat → Nat) (cI cL cM cZ : ClassId) (q_p0 : Nat) : ∀ sz : Nat, Met l y_Net_init ws_Net_init rm_Net_init (cP (dC, dI) vwCl [(cI, .int), (cL, .long), (cM, .array .int), (cZ, .boolean)] [.ref q_p0] sz [[(q_p0, .inr (4, [.null, .null, .null, .null, .null, .int 0]))]]) (cQc (dC, dI) vwCl [(cI, .int), (cL, .long), (cM, .array .int), (cZ, .boolean)] sz [[(q_p0, .inr (4, [.null, .null, .null, .null, .null, .int 0]))]] (sd_Net_init cI cL cM cZ q_p0)) 86 1323 (va_A (List.flatten [[(q_p0, .inr (4, [.null, .null, .null, .null, .null, .int 0]))]]) sz) := by
  refine sg_met (y := y_Net_init) (cc := prog_5_method_1_code) (maxL := 1) (ret := none) (rm := rm_Net_init) (av := [.ref q_p0]) (Sc := [[(q_p0, .inr (4, [.null, .null, .null, .null, .null, .int 0]))]]) (mc := 86) (ms := 1323) (D := (dC, dI)) (cl := vwCl) (tys := [(cI, .int), (cL, .long), (cM, .array .int), (cZ, .boolean)]) (fun sz => cQc (dC, dI) vwCl [(cI, .int), (cL, .long), (cM, .array .int), (cZ, .boolean)] sz [[(q_p0, .inr (4, [.null, .null, .null, .null, .null, .int 0]))]] (sd_Net_init cI cL cM cZ q_p0)) (by decide) (Nat.le_of_ble_eq_true rfl) ?_
  intro p e s m args below meth c A Q ls hx hb hr hts hown hlocks hml hname hK hNW hA hAe hQ hw hl
  have hl : lv_has ls 1 [(0, .ref q_p0)] := hl
  have hw : wk (dC, dI) vwCl A s.heap [[(q_p0, .inr (4, [.null, .null, .null, .null, .null, .int 0]))]] s.heap [] := hw
  refine lv_aload_n hx hb d_Net_init_0 rfl (lv_at hl 0 rfl) ?_
  refine W.objInit hx hb hown (hts _ wd_182) (hts _ wd_23) (hts _ wd_24) rfl (by rw [hml]; exact hl.1) rfl d_Net_init_1 (Nat.le_of_ble_eq_true rfl) (Nat.le_of_ble_eq_true rfl) ?_
  refine W.eq (g2 := F0 m 4 ls []) rfl ?_
  refine lv_aload_n hx hb d_Net_init_4 rfl (lv_at hl 0 rfl) ?_
  refine lv_bipush (v := 27) hx hb d_Net_init_5 (by decide) ?_
  refine lv_iconst (v := 4) hx hb d_Net_init_7 (by decide) ?_
  refine sg_newm hx hb hown (hts _ wd_183) hNW (hts _ wd_49) hK hw hA 0 2 rfl rfl (n' := 27) (k' := 4) (by decide) (by decide) (by decide) (by decide) (by decide) (by decide) (Nat.le_of_ble_eq_true rfl) (Nat.le_of_ble_eq_true rfl) d_Net_init_8 (fun q_p0_numbers d_p0_numbers H hw => ?_)
  have hw : wk (dC, dI) vwCl A s.heap [[(q_p0, .inr (4, [.null, .null, .null, .null, .null, .int 0]))], [(q_p0_numbers, .inl (cM, gro 27 d_p0_numbers))], gl cI d_p0_numbers 27 4 (fun _ _ => 0)] H _ := hw
  refine sg_putF (D := (dC, dI)) (ci := 4) (v := .ref q_p0_numbers) (ty := .array (.array .int)) (C := "JobNets$Net") (T := T_4) (N := 6) (S1 := [[(q_p0, .inr (4, [.ref q_p0_numbers, .null, .null, .null, .null, .int 0]))], [(q_p0_numbers, .inl (cM, gro 27 d_p0_numbers))], gl cI d_p0_numbers 27 4 (fun _ _ => 0)]) hx hb hts hin_4 ty_4 tok_4 nd_4 hown hK hw 0 rfl rfl 0 (by decide) (hts _ wd_185) rfl rfl hname rfl (by decide +kernel) rfl rfl (Nat.le_of_ble_eq_true rfl) rfl d_Net_init_12 (fun H locs hw => ?_)
  refine lv_aload_n hx hb d_Net_init_15 rfl (lv_at hl 0 rfl) ?_
  refine lv_bipush (v := 27) hx hb d_Net_init_16 (by decide) ?_
  refine sg_newi hx hb (hts _ wd_49) hK hw hA 0 rfl (N' := 27) (by decide) (by decide) (by decide) (Nat.le_of_ble_eq_true rfl) (Nat.le_of_ble_eq_true rfl) d_Net_init_18 (fun q_p0_needCounts H hw => ?_)
  have hw : wk (dC, dI) vwCl A s.heap [[(q_p0, .inr (4, [.ref q_p0_numbers, .null, .null, .null, .null, .int 0]))], [(q_p0_numbers, .inl (cM, gro 27 d_p0_numbers))], gl cI d_p0_numbers 27 4 (fun _ _ => 0), [(q_p0_needCounts, .inl (cI, 27, .inl (fun _ => 0)))]] H _ := hw
  refine sg_putF (D := (dC, dI)) (ci := 4) (v := .ref q_p0_needCounts) (ty := .array .int) (C := "JobNets$Net") (T := T_4) (N := 6) (S1 := [[(q_p0, .inr (4, [.ref q_p0_numbers, .ref q_p0_needCounts, .null, .null, .null, .int 0]))], [(q_p0_numbers, .inl (cM, gro 27 d_p0_numbers))], gl cI d_p0_numbers 27 4 (fun _ _ => 0), [(q_p0_needCounts, .inl (cI, 27, .inl (fun _ => 0)))]]) hx hb hts hin_4 ty_4 tok_4 nd_4 hown hK hw 0 rfl rfl 1 (by decide) (hts _ wd_190) rfl rfl hname rfl (by decide +kernel) rfl rfl (Nat.le_of_ble_eq_true rfl) rfl d_Net_init_20 (fun H locs hw => ?_)
  refine lv_aload_n hx hb d_Net_init_23 rfl (lv_at hl 0 rfl) ?_
  refine lv_bipush (v := 27) hx hb d_Net_init_24 (by decide) ?_
  refine lv_bipush (v := 20) hx hb d_Net_init_26 (by decide) ?_
  refine sg_newm hx hb hown (hts _ wd_183) hNW (hts _ wd_49) hK hw hA 0 2 rfl rfl (n' := 27) (k' := 20) (by decide) (by decide) (by decide) (by decide) (by decide) (by decide) (Nat.le_of_ble_eq_true rfl) (Nat.le_of_ble_eq_true rfl) d_Net_init_28 (fun q_p0_needed d_p0_needed H hw => ?_)
  have hw : wk (dC, dI) vwCl A s.heap [[(q_p0, .inr (4, [.ref q_p0_numbers, .ref q_p0_needCounts, .null, .null, .null, .int 0]))], [(q_p0_numbers, .inl (cM, gro 27 d_p0_numbers))], gl cI d_p0_numbers 27 4 (fun _ _ => 0), [(q_p0_needCounts, .inl (cI, 27, .inl (fun _ => 0)))], [(q_p0_needed, .inl (cM, gro 27 d_p0_needed))], gl cI d_p0_needed 27 20 (fun _ _ => 0)] H _ := hw
  refine sg_putF (D := (dC, dI)) (ci := 4) (v := .ref q_p0_needed) (ty := .array (.array .int)) (C := "JobNets$Net") (T := T_4) (N := 6) (S1 := [[(q_p0, .inr (4, [.ref q_p0_numbers, .ref q_p0_needCounts, .ref q_p0_needed, .null, .null, .int 0]))], [(q_p0_numbers, .inl (cM, gro 27 d_p0_numbers))], gl cI d_p0_numbers 27 4 (fun _ _ => 0), [(q_p0_needCounts, .inl (cI, 27, .inl (fun _ => 0)))], [(q_p0_needed, .inl (cM, gro 27 d_p0_needed))], gl cI d_p0_needed 27 20 (fun _ _ => 0)]) hx hb hts hin_4 ty_4 tok_4 nd_4 hown hK hw 0 rfl rfl 2 (by decide) (hts _ wd_195) rfl rfl hname rfl (by decide +kernel) rfl rfl (Nat.le_of_ble_eq_true rfl) rfl d_Net_init_32 (fun H locs hw => ?_)
  refine lv_aload_n hx hb d_Net_init_35 rfl (lv_at hl 0 rfl) ?_
  refine lv_bipush (v := 27) hx hb d_Net_init_36 (by decide) ?_
  refine lv_bipush (v := 20) hx hb d_Net_init_38 (by decide) ?_
  refine sg_newm hx hb hown (hts _ wd_183) hNW (hts _ wd_49) hK hw hA 0 2 rfl rfl (n' := 27) (k' := 20) (by decide) (by decide) (by decide) (by decide) (by decide) (by decide) (Nat.le_of_ble_eq_true rfl) (Nat.le_of_ble_eq_true rfl) d_Net_init_40 (fun q_p0_conditions d_p0_conditions H hw => ?_)
  have hw : wk (dC, dI) vwCl A s.heap [[(q_p0, .inr (4, [.ref q_p0_numbers, .ref q_p0_needCounts, .ref q_p0_needed, .null, .null, .int 0]))], [(q_p0_numbers, .inl (cM, gro 27 d_p0_numbers))], gl cI d_p0_numbers 27 4 (fun _ _ => 0), [(q_p0_needCounts, .inl (cI, 27, .inl (fun _ => 0)))], [(q_p0_needed, .inl (cM, gro 27 d_p0_needed))], gl cI d_p0_needed 27 20 (fun _ _ => 0), [(q_p0_conditions, .inl (cM, gro 27 d_p0_conditions))], gl cI d_p0_conditions 27 20 (fun _ _ => 0)] H _ := hw
  refine sg_putF (D := (dC, dI)) (ci := 4) (v := .ref q_p0_conditions) (ty := .array (.array .int)) (C := "JobNets$Net") (T := T_4) (N := 6) (S1 := [[(q_p0, .inr (4, [.ref q_p0_numbers, .ref q_p0_needCounts, .ref q_p0_needed, .ref q_p0_conditions, .null, .int 0]))], [(q_p0_numbers, .inl (cM, gro 27 d_p0_numbers))], gl cI d_p0_numbers 27 4 (fun _ _ => 0), [(q_p0_needCounts, .inl (cI, 27, .inl (fun _ => 0)))], [(q_p0_needed, .inl (cM, gro 27 d_p0_needed))], gl cI d_p0_needed 27 20 (fun _ _ => 0), [(q_p0_conditions, .inl (cM, gro 27 d_p0_conditions))], gl cI d_p0_conditions 27 20 (fun _ _ => 0)]) hx hb hts hin_4 ty_4 tok_4 nd_4 hown hK hw 0 rfl rfl 3 (by decide) (hts _ wd_199) rfl rfl hname rfl (by decide +kernel) rfl rfl (Nat.le_of_ble_eq_true rfl) rfl d_Net_init_44 (fun H locs hw => ?_)
  refine lv_aload_n hx hb d_Net_init_47 rfl (lv_at hl 0 rfl) ?_
  refine lv_bipush (v := 27) hx hb d_Net_init_48 (by decide) ?_
  refine sg_newi hx hb (hts _ wd_49) hK hw hA 0 rfl (N' := 27) (by decide) (by decide) (by decide) (Nat.le_of_ble_eq_true rfl) (Nat.le_of_ble_eq_true rfl) d_Net_init_50 (fun q_p0_allNeeded H hw => ?_)
  have hw : wk (dC, dI) vwCl A s.heap [[(q_p0, .inr (4, [.ref q_p0_numbers, .ref q_p0_needCounts, .ref q_p0_needed, .ref q_p0_conditions, .null, .int 0]))], [(q_p0_numbers, .inl (cM, gro 27 d_p0_numbers))], gl cI d_p0_numbers 27 4 (fun _ _ => 0), [(q_p0_needCounts, .inl (cI, 27, .inl (fun _ => 0)))], [(q_p0_needed, .inl (cM, gro 27 d_p0_needed))], gl cI d_p0_needed 27 20 (fun _ _ => 0), [(q_p0_conditions, .inl (cM, gro 27 d_p0_conditions))], gl cI d_p0_conditions 27 20 (fun _ _ => 0), [(q_p0_allNeeded, .inl (cI, 27, .inl (fun _ => 0)))]] H _ := hw
  refine sg_putF (D := (dC, dI)) (ci := 4) (v := .ref q_p0_allNeeded) (ty := .array .int) (C := "JobNets$Net") (T := T_4) (N := 6) (S1 := [[(q_p0, .inr (4, [.ref q_p0_numbers, .ref q_p0_needCounts, .ref q_p0_needed, .ref q_p0_conditions, .ref q_p0_allNeeded, .int 0]))], [(q_p0_numbers, .inl (cM, gro 27 d_p0_numbers))], gl cI d_p0_numbers 27 4 (fun _ _ => 0), [(q_p0_needCounts, .inl (cI, 27, .inl (fun _ => 0)))], [(q_p0_needed, .inl (cM, gro 27 d_p0_needed))], gl cI d_p0_needed 27 20 (fun _ _ => 0), [(q_p0_conditions, .inl (cM, gro 27 d_p0_conditions))], gl cI d_p0_conditions 27 20 (fun _ _ => 0), [(q_p0_allNeeded, .inl (cI, 27, .inl (fun _ => 0)))]]) hx hb hts hin_4 ty_4 tok_4 nd_4 hown hK hw 0 rfl rfl 4 (by decide) (hts _ wd_201) rfl rfl hname rfl (by decide +kernel) rfl rfl (Nat.le_of_ble_eq_true rfl) rfl d_Net_init_52 (fun H locs hw => ?_)
  refine lv_aload_n hx hb d_Net_init_55 rfl (lv_at hl 0 rfl) ?_
  refine lv_iconst (v := 0) hx hb d_Net_init_56 (by decide) ?_
  refine sg_put (D := (dC, dI)) (ci := 4) (v := .int 0) (ty := .int) (C := "JobNets$Net") (T := T_4) (N := 6) (S1 := [[(q_p0, .inr (4, [.ref q_p0_numbers, .ref q_p0_needCounts, .ref q_p0_needed, .ref q_p0_conditions, .ref q_p0_allNeeded, .int 0]))], [(q_p0_numbers, .inl (cM, gro 27 d_p0_numbers))], gl cI d_p0_numbers 27 4 (fun _ _ => 0), [(q_p0_needCounts, .inl (cI, 27, .inl (fun _ => 0)))], [(q_p0_needed, .inl (cM, gro 27 d_p0_needed))], gl cI d_p0_needed 27 20 (fun _ _ => 0), [(q_p0_conditions, .inl (cM, gro 27 d_p0_conditions))], gl cI d_p0_conditions 27 20 (fun _ _ => 0), [(q_p0_allNeeded, .inl (cI, 27, .inl (fun _ => 0)))]]) hx hb hts hin_4 ty_4 tok_4 nd_4 hown hK hw 0 rfl rfl 5 (by decide) (hts _ wd_203) rfl rfl (by decide +kernel) rfl rfl (Nat.le_of_ble_eq_true rfl) rfl d_Net_init_57 (fun H locs hw => ?_)
  exact sg_cret ([q_p0_numbers, q_p0_needCounts, q_p0_needed, q_p0_conditions, q_p0_allNeeded], [d_p0_numbers, d_p0_needed, d_p0_conditions]) hx hb hr hlocks hAe hQ hK (hw.sub [0, 1, 2, 3, 4, 5, 6, 7, 8] (by decide) rfl) d_Net_init_60
