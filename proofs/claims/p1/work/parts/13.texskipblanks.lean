theorem d_Tex_skipBlanks_0 : decode prog_8_method_13_code 0 = .ok (.aload_n 0, 1) := by decide +kernel
theorem d_Tex_skipBlanks_1 : decode prog_8_method_13_code 1 = .ok (.getfield 34, 3) := by decide +kernel
theorem d_Tex_skipBlanks_4 : decode prog_8_method_13_code 4 = .ok (.aload_n 0, 1) := by decide +kernel
theorem d_Tex_skipBlanks_5 : decode prog_8_method_13_code 5 = .ok (.getfield 31, 3) := by decide +kernel
theorem d_Tex_skipBlanks_8 : decode prog_8_method_13_code 8 = .ok (.if_icmp .ge 44, 3) := by decide +kernel
theorem d_Tex_skipBlanks_11 : decode prog_8_method_13_code 11 = .ok (.aload_n 0, 1) := by decide +kernel
theorem d_Tex_skipBlanks_12 : decode prog_8_method_13_code 12 = .ok (.getfield 9, 3) := by decide +kernel
theorem d_Tex_skipBlanks_15 : decode prog_8_method_13_code 15 = .ok (.aload_n 0, 1) := by decide +kernel
theorem d_Tex_skipBlanks_16 : decode prog_8_method_13_code 16 = .ok (.getfield 34, 3) := by decide +kernel
theorem d_Tex_skipBlanks_19 : decode prog_8_method_13_code 19 = .ok (.iaload, 1) := by decide +kernel
theorem d_Tex_skipBlanks_20 : decode prog_8_method_13_code 20 = .ok (.bipush 32, 2) := by decide +kernel
theorem d_Tex_skipBlanks_22 : decode prog_8_method_13_code 22 = .ok (.if_icmp .eq 17, 3) := by decide +kernel
theorem d_Tex_skipBlanks_25 : decode prog_8_method_13_code 25 = .ok (.aload_n 0, 1) := by decide +kernel
theorem d_Tex_skipBlanks_26 : decode prog_8_method_13_code 26 = .ok (.getfield 9, 3) := by decide +kernel
theorem d_Tex_skipBlanks_29 : decode prog_8_method_13_code 29 = .ok (.aload_n 0, 1) := by decide +kernel
theorem d_Tex_skipBlanks_30 : decode prog_8_method_13_code 30 = .ok (.getfield 34, 3) := by decide +kernel
theorem d_Tex_skipBlanks_33 : decode prog_8_method_13_code 33 = .ok (.iaload, 1) := by decide +kernel
theorem d_Tex_skipBlanks_34 : decode prog_8_method_13_code 34 = .ok (.bipush 10, 2) := by decide +kernel
theorem d_Tex_skipBlanks_36 : decode prog_8_method_13_code 36 = .ok (.if_icmp .ne 16, 3) := by decide +kernel
theorem d_Tex_skipBlanks_39 : decode prog_8_method_13_code 39 = .ok (.aload_n 0, 1) := by decide +kernel
theorem d_Tex_skipBlanks_40 : decode prog_8_method_13_code 40 = .ok (.dup, 1) := by decide +kernel
theorem d_Tex_skipBlanks_41 : decode prog_8_method_13_code 41 = .ok (.getfield 34, 3) := by decide +kernel
theorem d_Tex_skipBlanks_44 : decode prog_8_method_13_code 44 = .ok (.iconst 1, 1) := by decide +kernel
theorem d_Tex_skipBlanks_45 : decode prog_8_method_13_code 45 = .ok (.iadd, 1) := by decide +kernel
theorem d_Tex_skipBlanks_46 : decode prog_8_method_13_code 46 = .ok (.putfield 34, 3) := by decide +kernel
theorem d_Tex_skipBlanks_49 : decode prog_8_method_13_code 49 = .ok (.goto (-49), 3) := by decide +kernel
theorem d_Tex_skipBlanks_52 : decode prog_8_method_13_code 52 = .ok (.return_, 1) := by decide +kernel
def md_Tex_skipBlanks_F0 (v_p0_length : Int32) (f_p0_text : Nat → Int32) (rec0 : Int32 → Option (Int32)) (x1 : Int32) : Option (Int32) :=
  (if v_p0_length ≤ x1 then (some x1) else (if sg_in x1 2000 = true then (if (f_p0_text x1.toNatClampNeg) = (32 : Int32) then (rec0 (x1 + (1 : Int32))) else (if sg_in x1 2000 = true then (if (f_p0_text x1.toNatClampNeg) = (10 : Int32) then (rec0 (x1 + (1 : Int32))) else (some x1)) else none)) else none))
def md_Tex_skipBlanks (N : Nat) (v_p0_length : Int32) (v_p0_at : Int32) (f_p0_text : Nat → Int32) : Option (Int32) :=
  (fx1 (md_Tex_skipBlanks_F0 v_p0_length f_p0_text) N v_p0_at)
abbrev sc_Tex_skipBlanks (cI cL cM cZ : ClassId) (q_p0 q_p0_text q_p0_jobOfLetter q_p0_owners q_p0_namePlaces q_p0_conditions : Nat) (v_p0_pending : Int32) (v_p0_length : Int32) (v_p0_at : Int32) (v_p0_number : Int32) (f_p0_text : Nat → Int32) : List va_W := [[(q_p0, .inr (7, [.ref q_p0_text, .ref q_p0_jobOfLetter, .ref q_p0_owners, .ref q_p0_namePlaces, .ref q_p0_conditions, .int v_p0_pending, .int v_p0_length, .int v_p0_at, .int v_p0_number]))], [(q_p0_text, .inl (cI, 2000, .inl f_p0_text))]]
abbrev rm_Tex_skipBlanks : Room := { frames := 0, cells := 0, slots := 0, locals := 0 }
set_option maxHeartbeats 4000000 in
set_option maxRecDepth 100000 in
theorem ct_Tex_skipBlanks (l : Launch) (dC : Nat → ClassId) (dI : Nat → Nat → Nat) (cI cL cM cZ : ClassId) (q_p0 q_p0_text q_p0_jobOfLetter q_p0_owners q_p0_namePlaces q_p0_conditions : Nat) (v_p0_pending : Int32) (v_p0_length : Int32) (v_p0_at : Int32) (v_p0_number : Int32) (f_p0_text : Nat → Int32) (N : Nat) (o : Int32) (hm : md_Tex_skipBlanks N v_p0_length v_p0_at f_p0_text = some o) : ∀ sz : Nat, Met l y_Tex_skipBlanks ws_Tex_skipBlanks rm_Tex_skipBlanks (cP (dC, dI) vwCl [(cI, .int), (cL, .long), (cM, .array .int), (cZ, .boolean)] [.ref q_p0] sz (sc_Tex_skipBlanks cI cL cM cZ q_p0 q_p0_text q_p0_jobOfLetter q_p0_owners q_p0_namePlaces q_p0_conditions v_p0_pending v_p0_length v_p0_at v_p0_number f_p0_text)) (cQv (dC, dI) vwCl [(cI, .int), (cL, .long), (cM, .array .int), (cZ, .boolean)] sz (sc_Tex_skipBlanks cI cL cM cZ q_p0 q_p0_text q_p0_jobOfLetter q_p0_owners q_p0_namePlaces q_p0_conditions v_p0_pending v_p0_length v_p0_at v_p0_number f_p0_text) (sc_Tex_skipBlanks cI cL cM cZ q_p0 q_p0_text q_p0_jobOfLetter q_p0_owners q_p0_namePlaces q_p0_conditions v_p0_pending v_p0_length o v_p0_number f_p0_text)) 0 0 (va_A ((sc_Tex_skipBlanks cI cL cM cZ q_p0 q_p0_text q_p0_jobOfLetter q_p0_owners q_p0_namePlaces q_p0_conditions v_p0_pending v_p0_length v_p0_at v_p0_number f_p0_text)).flatten sz) := by
  refine sg_met (fun sz => cQv (dC, dI) vwCl [(cI, .int), (cL, .long), (cM, .array .int), (cZ, .boolean)] sz (sc_Tex_skipBlanks cI cL cM cZ q_p0 q_p0_text q_p0_jobOfLetter q_p0_owners q_p0_namePlaces q_p0_conditions v_p0_pending v_p0_length v_p0_at v_p0_number f_p0_text) (sc_Tex_skipBlanks cI cL cM cZ q_p0 q_p0_text q_p0_jobOfLetter q_p0_owners q_p0_namePlaces q_p0_conditions v_p0_pending v_p0_length o v_p0_number f_p0_text)) (by decide) (Nat.le_of_ble_eq_true rfl) ?_
  intro p e s m args below meth c A Q ls hx hb hr hts hown hlocks hml hname hK hNW hA hAe hQ hw hl
  have hl : lv_has ls 1 [(0, .ref q_p0)] := hl
  have hw : wk (dC, dI) vwCl A s.heap [[(q_p0, .inr (7, [.ref q_p0_text, .ref q_p0_jobOfLetter, .ref q_p0_owners, .ref q_p0_namePlaces, .ref q_p0_conditions, .int v_p0_pending, .int v_p0_length, .int v_p0_at, .int v_p0_number]))], [(q_p0_text, .inl (cI, 2000, .inl f_p0_text))]] s.heap [] := hw
  unfold md_Tex_skipBlanks at hm
  obtain ⟨Fn0, hFn0, hm⟩ := fx1_x hm
  have L0 : ∀ (n : Nat) (x1 : Int32), fx1 Fn0 n x1 = some o → ∀ (H : Heap) (locs : List Loc) (ls : Array Slot), wk (dC, dI) vwCl A s.heap [[(q_p0, .inr (7, [.ref q_p0_text, .ref q_p0_jobOfLetter, .ref q_p0_owners, .ref q_p0_namePlaces, .ref q_p0_conditions, .int v_p0_pending, .int v_p0_length, .int x1, .int v_p0_number]))], [(q_p0_text, .inl (cI, 2000, .inl f_p0_text))]] H locs → lv_has ls 1 [(0, .ref q_p0)] → W p l e rm_Tex_skipBlanks s m args below meth c H locs 0 0 Q (F0 m 0 ls []) := by
    intro n
    induction n with
    | zero => intro x1 hm; exact (fx1_0 hm).elim
    | succ n ih0 =>
      intro x1 hm H locs ls hw hl
      have hm := fx1_s hFn0 hm
      unfold md_Tex_skipBlanks_F0 at hm
      refine lv_aload_n hx hb d_Tex_skipBlanks_0 rfl (lv_at hl 0 rfl) ?_
      refine sg_get (D := (dC, dI)) (ci := 7) (v := .int x1) (C := "JobNets$TextReader") (T := T_7) (N := 9) hx hb hts hin_7 hown hK hw 0 rfl rfl 7 (by decide) (hts _ wd_63) rfl rfl d_Tex_skipBlanks_1 ?_
      refine lv_aload_n hx hb d_Tex_skipBlanks_4 rfl (lv_at hl 0 rfl) ?_
      refine sg_get (D := (dC, dI)) (ci := 7) (v := .int v_p0_length) (C := "JobNets$TextReader") (T := T_7) (N := 9) hx hb hts hin_7 hown hK hw 0 rfl rfl 6 (by decide) (hts _ wd_62) rfl rfl d_Tex_skipBlanks_5 ?_
      refine bq_t (lv_icmp_ge (tgt := 52) hx hb d_Tex_skipBlanks_8 (by decide)) hm (fun hm => ?_) (fun hm => ?_)
      · exact so_vret (Sf := fun z_ => sc_Tex_skipBlanks cI cL cM cZ q_p0 q_p0_text q_p0_jobOfLetter q_p0_owners q_p0_namePlaces q_p0_conditions v_p0_pending v_p0_length z_ v_p0_number f_p0_text) hm hx hb hr hlocks hAe hQ hK hw d_Tex_skipBlanks_52
      · refine lv_aload_n hx hb d_Tex_skipBlanks_11 rfl (lv_at hl 0 rfl) ?_
        refine sg_get (D := (dC, dI)) (ci := 7) (v := .ref q_p0_text) (C := "JobNets$TextReader") (T := T_7) (N := 9) hx hb hts hin_7 hown hK hw 0 rfl rfl 0 (by decide) (hts _ wd_56) rfl rfl d_Tex_skipBlanks_12 ?_
        refine lv_aload_n hx hb d_Tex_skipBlanks_15 rfl (lv_at hl 0 rfl) ?_
        refine sg_get (D := (dC, dI)) (ci := 7) (v := .int x1) (C := "JobNets$TextReader") (T := T_7) (N := 9) hx hb hts hin_7 hown hK hw 0 rfl rfl 7 (by decide) (hts _ wd_63) rfl rfl d_Tex_skipBlanks_16 ?_
        refine sg_iald hx hb hK hw 1 0 rfl rfl d_Tex_skipBlanks_19 hm (fun hm => ?_)
        refine lv_bipush (v := 32) hx hb d_Tex_skipBlanks_20 (by decide) ?_
        refine bq_t (lv_icmp_eq (tgt := 39) hx hb d_Tex_skipBlanks_22 (by decide)) hm (fun hm => ?_) (fun hm => ?_)
        · refine lv_aload_n hx hb d_Tex_skipBlanks_39 rfl (lv_at hl 0 rfl) ?_
          refine lv_dup hx hb d_Tex_skipBlanks_40 rfl ?_
          refine sg_get (D := (dC, dI)) (ci := 7) (v := .int x1) (C := "JobNets$TextReader") (T := T_7) (N := 9) hx hb hts hin_7 hown hK hw 0 rfl rfl 7 (by decide) (hts _ wd_63) rfl rfl d_Tex_skipBlanks_41 ?_
          refine lv_iconst (v := 1) hx hb d_Tex_skipBlanks_44 (by decide) ?_
          refine lv_iadd hx hb d_Tex_skipBlanks_45 ?_
          refine sg_put (D := (dC, dI)) (ci := 7) (v := .int (x1 + (1 : Int32))) (ty := .int) (C := "JobNets$TextReader") (T := T_7) (N := 9) (S1 := [[(q_p0, .inr (7, [.ref q_p0_text, .ref q_p0_jobOfLetter, .ref q_p0_owners, .ref q_p0_namePlaces, .ref q_p0_conditions, .int v_p0_pending, .int v_p0_length, .int (x1 + (1 : Int32)), .int v_p0_number]))], [(q_p0_text, .inl (cI, 2000, .inl f_p0_text))]]) hx hb hts hin_7 ty_7 tok_7 nd_7 hown hK hw 0 rfl rfl 7 (by decide) (hts _ wd_63) rfl rfl (by decide +kernel) rfl rfl (Nat.le_of_ble_eq_true rfl) rfl d_Tex_skipBlanks_46 (fun H locs hw => ?_)
          refine lv_goto (tgt := 0) hx hb d_Tex_skipBlanks_49 (by decide) ?_
          exact ih0 (x1 + (1 : Int32)) hm _ _ _ hw hl
        · refine lv_aload_n hx hb d_Tex_skipBlanks_25 rfl (lv_at hl 0 rfl) ?_
          refine sg_get (D := (dC, dI)) (ci := 7) (v := .ref q_p0_text) (C := "JobNets$TextReader") (T := T_7) (N := 9) hx hb hts hin_7 hown hK hw 0 rfl rfl 0 (by decide) (hts _ wd_56) rfl rfl d_Tex_skipBlanks_26 ?_
          refine lv_aload_n hx hb d_Tex_skipBlanks_29 rfl (lv_at hl 0 rfl) ?_
          refine sg_get (D := (dC, dI)) (ci := 7) (v := .int x1) (C := "JobNets$TextReader") (T := T_7) (N := 9) hx hb hts hin_7 hown hK hw 0 rfl rfl 7 (by decide) (hts _ wd_63) rfl rfl d_Tex_skipBlanks_30 ?_
          refine sg_iald hx hb hK hw 1 0 rfl rfl d_Tex_skipBlanks_33 hm (fun hm => ?_)
          refine lv_bipush (v := 10) hx hb d_Tex_skipBlanks_34 (by decide) ?_
          refine bq_n (lv_icmp_ne (tgt := 52) hx hb d_Tex_skipBlanks_36 (by decide)) hm (fun hm => ?_) (fun hm => ?_)
          · exact so_vret (Sf := fun z_ => sc_Tex_skipBlanks cI cL cM cZ q_p0 q_p0_text q_p0_jobOfLetter q_p0_owners q_p0_namePlaces q_p0_conditions v_p0_pending v_p0_length z_ v_p0_number f_p0_text) hm hx hb hr hlocks hAe hQ hK hw d_Tex_skipBlanks_52
          · refine lv_aload_n hx hb d_Tex_skipBlanks_39 rfl (lv_at hl 0 rfl) ?_
            refine lv_dup hx hb d_Tex_skipBlanks_40 rfl ?_
            refine sg_get (D := (dC, dI)) (ci := 7) (v := .int x1) (C := "JobNets$TextReader") (T := T_7) (N := 9) hx hb hts hin_7 hown hK hw 0 rfl rfl 7 (by decide) (hts _ wd_63) rfl rfl d_Tex_skipBlanks_41 ?_
            refine lv_iconst (v := 1) hx hb d_Tex_skipBlanks_44 (by decide) ?_
            refine lv_iadd hx hb d_Tex_skipBlanks_45 ?_
            refine sg_put (D := (dC, dI)) (ci := 7) (v := .int (x1 + (1 : Int32))) (ty := .int) (C := "JobNets$TextReader") (T := T_7) (N := 9) (S1 := [[(q_p0, .inr (7, [.ref q_p0_text, .ref q_p0_jobOfLetter, .ref q_p0_owners, .ref q_p0_namePlaces, .ref q_p0_conditions, .int v_p0_pending, .int v_p0_length, .int (x1 + (1 : Int32)), .int v_p0_number]))], [(q_p0_text, .inl (cI, 2000, .inl f_p0_text))]]) hx hb hts hin_7 ty_7 tok_7 nd_7 hown hK hw 0 rfl rfl 7 (by decide) (hts _ wd_63) rfl rfl (by decide +kernel) rfl rfl (Nat.le_of_ble_eq_true rfl) rfl d_Tex_skipBlanks_46 (fun H locs hw => ?_)
            refine lv_goto (tgt := 0) hx hb d_Tex_skipBlanks_49 (by decide) ?_
            exact ih0 (x1 + (1 : Int32)) hm _ _ _ hw hl
  exact L0 _ _ hm _ _ _ hw hl
theorem d_Way_init_0 : decode prog_9_method_1_code 0 = .ok (.aload_n 0, 1) := by decide +kernel
theorem d_Way_init_1 : decode prog_9_method_1_code 1 = .ok (.invokespecial 3, 3) := by decide +kernel
theorem d_Way_init_4 : decode prog_9_method_1_code 4 = .ok (.aload_n 0, 1) := by decide +kernel
theorem d_Way_init_5 : decode prog_9_method_1_code 5 = .ok (.bipush 26, 2) := by decide +kernel
theorem d_Way_init_7 : decode prog_9_method_1_code 7 = .ok (.newarray .int, 2) := by decide +kernel
theorem d_Way_init_9 : decode prog_9_method_1_code 9 = .ok (.putfield 9, 3) := by decide +kernel
theorem d_Way_init_12 : decode prog_9_method_1_code 12 = .ok (.aload_n 0, 1) := by decide +kernel
theorem d_Way_init_13 : decode prog_9_method_1_code 13 = .ok (.iconst 0, 1) := by decide +kernel
theorem d_Way_init_14 : decode prog_9_method_1_code 14 = .ok (.putfield 15, 3) := by decide +kernel
theorem d_Way_init_17 : decode prog_9_method_1_code 17 = .ok (.return_, 1) := by decide +kernel
def sd_Way_init (cI cL cM cZ : ClassId) (q_p0 : Nat) (u : ADs) : List va_W := [[(q_p0, .inr (8, [.ref (u.1.getD 0 0), .int 0]))], [((u.1.getD 0 0), .inl (cI, 26, .inl (fun _ => 0)))]]
abbrev rm_Way_init : Room := { frames := 1, cells := 1, slots := 26, locals := 20 }
set_option maxHeartbeats 4000000 in
set_option maxRecDepth 100000 in
theorem ct_Way_init (l : Launch) (dC : Nat → ClassId) (dI : Nat → Nat → Nat) (cI cL cM cZ : ClassId) (q_p0 : Nat) : ∀ sz : Nat, Met l y_Way_init ws_Way_init rm_Way_init (cP (dC, dI) vwCl [(cI, .int), (cL, .long), (cM, .array .int), (cZ, .boolean)] [.ref q_p0] sz [[(q_p0, .inr (8, [.null, .int 0]))]]) (cQc (dC, dI) vwCl [(cI, .int), (cL, .long), (cM, .array .int), (cZ, .boolean)] sz [[(q_p0, .inr (8, [.null, .int 0]))]] (sd_Way_init cI cL cM cZ q_p0)) 1 26 (va_A (List.flatten [[(q_p0, .inr (8, [.null, .int 0]))]]) sz) := by
  refine sg_met (y := y_Way_init) (cc := prog_9_method_1_code) (maxL := 1) (ret := none) (rm := rm_Way_init) (av := [.ref q_p0]) (Sc := [[(q_p0, .inr (8, [.null, .int 0]))]]) (mc := 1) (ms := 26) (D := (dC, dI)) (cl := vwCl) (tys := [(cI, .int), (cL, .long), (cM, .array .int), (cZ, .boolean)]) (fun sz => cQc (dC, dI) vwCl [(cI, .int), (cL, .long), (cM, .array .int), (cZ, .boolean)] sz [[(q_p0, .inr (8, [.null, .int 0]))]] (sd_Way_init cI cL cM cZ q_p0)) (by decide) (Nat.le_of_ble_eq_true rfl) ?_
  intro p e s m args below meth c A Q ls hx hb hr hts hown hlocks hml hname hK hNW hA hAe hQ hw hl
  have hl : lv_has ls 1 [(0, .ref q_p0)] := hl
  have hw : wk (dC, dI) vwCl A s.heap [[(q_p0, .inr (8, [.null, .int 0]))]] s.heap [] := hw
  refine lv_aload_n hx hb d_Way_init_0 rfl (lv_at hl 0 rfl) ?_
  refine W.objInit hx hb hown (hts _ wd_136) (hts _ wd_23) (hts _ wd_24) rfl (by rw [hml]; exact hl.1) rfl d_Way_init_1 (Nat.le_of_ble_eq_true rfl) (Nat.le_of_ble_eq_true rfl) ?_
  refine W.eq (g2 := F0 m 4 ls []) rfl ?_
  refine lv_aload_n hx hb d_Way_init_4 rfl (lv_at hl 0 rfl) ?_
  refine lv_bipush (v := 26) hx hb d_Way_init_5 (by decide) ?_
  refine sg_newi hx hb (hts _ wd_49) hK hw hA 0 rfl (N' := 26) (by decide) (by decide) (by decide) (Nat.le_of_ble_eq_true rfl) (Nat.le_of_ble_eq_true rfl) d_Way_init_7 (fun q_p0_row H hw => ?_)
  have hw : wk (dC, dI) vwCl A s.heap [[(q_p0, .inr (8, [.null, .int 0]))], [(q_p0_row, .inl (cI, 26, .inl (fun _ => 0)))]] H _ := hw
  refine sg_putF (D := (dC, dI)) (ci := 8) (v := .ref q_p0_row) (ty := .array .int) (C := "JobNets$Way") (T := T_8) (N := 2) (S1 := [[(q_p0, .inr (8, [.ref q_p0_row, .int 0]))], [(q_p0_row, .inl (cI, 26, .inl (fun _ => 0)))]]) hx hb hts hin_8 ty_8 tok_8 nd_8 hown hK hw 0 rfl rfl 0 (by decide) (hts _ wd_137) rfl rfl hname rfl (by decide +kernel) rfl rfl (Nat.le_of_ble_eq_true rfl) rfl d_Way_init_9 (fun H locs hw => ?_)
  refine lv_aload_n hx hb d_Way_init_12 rfl (lv_at hl 0 rfl) ?_
  refine lv_iconst (v := 0) hx hb d_Way_init_13 (by decide) ?_
  refine sg_put (D := (dC, dI)) (ci := 8) (v := .int 0) (ty := .int) (C := "JobNets$Way") (T := T_8) (N := 2) (S1 := [[(q_p0, .inr (8, [.ref q_p0_row, .int 0]))], [(q_p0_row, .inl (cI, 26, .inl (fun _ => 0)))]]) hx hb hts hin_8 ty_8 tok_8 nd_8 hown hK hw 0 rfl rfl 1 (by decide) (hts _ wd_138) rfl rfl (by decide +kernel) rfl rfl (Nat.le_of_ble_eq_true rfl) rfl d_Way_init_14 (fun H locs hw => ?_)
  exact sg_cret ([q_p0_row], []) hx hb hr hlocks hAe hQ hK (hw.sub [0, 1] (by decide) rfl) d_Way_init_17
theorem d_Way_jobAt_0 : decode prog_9_method_2_code 0 = .ok (.iload_n 1, 1) := by decide +kernel
theorem d_Way_jobAt_1 : decode prog_9_method_2_code 1 = .ok (.ifCond .lt 20, 3) := by decide +kernel
theorem d_Way_jobAt_4 : decode prog_9_method_2_code 4 = .ok (.iload_n 1, 1) := by decide +kernel
theorem d_Way_jobAt_5 : decode prog_9_method_2_code 5 = .ok (.aload_n 0, 1) := by decide +kernel
theorem d_Way_jobAt_6 : decode prog_9_method_2_code 6 = .ok (.getfield 15, 3) := by decide +kernel
theorem d_Way_jobAt_9 : decode prog_9_method_2_code 9 = .ok (.if_icmp .ge 12, 3) := by decide +kernel
theorem d_Way_jobAt_12 : decode prog_9_method_2_code 12 = .ok (.aload_n 0, 1) := by decide +kernel
theorem d_Way_jobAt_13 : decode prog_9_method_2_code 13 = .ok (.getfield 9, 3) := by decide +kernel
theorem d_Way_jobAt_16 : decode prog_9_method_2_code 16 = .ok (.iload_n 1, 1) := by decide +kernel
theorem d_Way_jobAt_17 : decode prog_9_method_2_code 17 = .ok (.iaload, 1) := by decide +kernel
theorem d_Way_jobAt_18 : decode prog_9_method_2_code 18 = .ok (.goto 4, 3) := by decide +kernel
theorem d_Way_jobAt_21 : decode prog_9_method_2_code 21 = .ok (.iconst 0, 1) := by decide +kernel
theorem d_Way_jobAt_22 : decode prog_9_method_2_code 22 = .ok (.ireturn, 1) := by decide +kernel
def md_Way_jobAt (N : Nat) (v_p0_length : Int32) (f_p0_row : Nat → Int32) (a1_x : Int32) : Option (Int32) :=
  (if a1_x < 0 then (some (0 : Int32)) else (if v_p0_length ≤ a1_x then (some (0 : Int32)) else (if sg_in a1_x 26 = true then (some (f_p0_row a1_x.toNatClampNeg)) else none)))
abbrev sc_Way_jobAt (cI cL cM cZ : ClassId) (q_p0 q_p0_row : Nat) (v_p0_length : Int32) (f_p0_row : Nat → Int32) : List va_W := [[(q_p0, .inr (8, [.ref q_p0_row, .int v_p0_length]))], [(q_p0_row, .inl (cI, 26, .inl f_p0_row))]]
abbrev rm_Way_jobAt : Room := { frames := 0, cells := 0, slots := 0, locals := 0 }
set_option maxHeartbeats 4000000 in
set_option maxRecDepth 100000 in
theorem ct_Way_jobAt (l : Launch) (dC : Nat → ClassId) (dI : Nat → Nat → Nat) (cI cL cM cZ : ClassId) (q_p0 q_p0_row : Nat) (v_p0_length : Int32) (f_p0_row : Nat → Int32) (a1_x : Int32) (N : Nat) (o : Int32) (hm : md_Way_jobAt N v_p0_length f_p0_row a1_x = some o) : ∀ sz : Nat, Met l y_Way_jobAt ws_Way_jobAt rm_Way_jobAt (cP (dC, dI) vwCl [(cI, .int), (cL, .long), (cM, .array .int), (cZ, .boolean)] [.ref q_p0, .int a1_x] sz (sc_Way_jobAt cI cL cM cZ q_p0 q_p0_row v_p0_length f_p0_row)) (cQi (dC, dI) vwCl [(cI, .int), (cL, .long), (cM, .array .int), (cZ, .boolean)] sz (sc_Way_jobAt cI cL cM cZ q_p0 q_p0_row v_p0_length f_p0_row) o (sc_Way_jobAt cI cL cM cZ q_p0 q_p0_row v_p0_length f_p0_row)) 0 0 (va_A ((sc_Way_jobAt cI cL cM cZ q_p0 q_p0_row v_p0_length f_p0_row)).flatten sz) := by
  refine sg_met (fun sz => cQi (dC, dI) vwCl [(cI, .int), (cL, .long), (cM, .array .int), (cZ, .boolean)] sz (sc_Way_jobAt cI cL cM cZ q_p0 q_p0_row v_p0_length f_p0_row) o (sc_Way_jobAt cI cL cM cZ q_p0 q_p0_row v_p0_length f_p0_row)) (by decide) (Nat.le_of_ble_eq_true rfl) ?_
  intro p e s m args below meth c A Q ls hx hb hr hts hown hlocks hml hname hK hNW hA hAe hQ hw hl
  have hl : lv_has ls 2 [(0, .ref q_p0), (1, .int a1_x)] := hl
  have hw : wk (dC, dI) vwCl A s.heap [[(q_p0, .inr (8, [.ref q_p0_row, .int v_p0_length]))], [(q_p0_row, .inl (cI, 26, .inl f_p0_row))]] s.heap [] := hw
  unfold md_Way_jobAt at hm
  refine lv_iload_n hx hb d_Way_jobAt_0 rfl (lv_at hl 1 rfl) ?_
  refine bq_t (lv_if_lt (tgt := 21) hx hb d_Way_jobAt_1 (by decide)) hm (fun hm => ?_) (fun hm => ?_)
  · refine lv_iconst (v := 0) hx hb d_Way_jobAt_21 (by decide) ?_
    exact so_iret (rf := fun z_ => z_) (Sf := fun z_ => sc_Way_jobAt cI cL cM cZ q_p0 q_p0_row v_p0_length f_p0_row) hm hx hb hr hlocks hAe hQ hK hw rfl d_Way_jobAt_22
  · refine lv_iload_n hx hb d_Way_jobAt_4 rfl (lv_at hl 1 rfl) ?_
    refine lv_aload_n hx hb d_Way_jobAt_5 rfl (lv_at hl 0 rfl) ?_
    refine sg_get (D := (dC, dI)) (ci := 8) (v := .int v_p0_length) (C := "JobNets$Way") (T := T_8) (N := 2) hx hb hts hin_8 hown hK hw 0 rfl rfl 1 (by decide) (hts _ wd_138) rfl rfl d_Way_jobAt_6 ?_
    refine bq_t (lv_icmp_ge (tgt := 21) hx hb d_Way_jobAt_9 (by decide)) hm (fun hm => ?_) (fun hm => ?_)
    · refine lv_iconst (v := 0) hx hb d_Way_jobAt_21 (by decide) ?_
      exact so_iret (rf := fun z_ => z_) (Sf := fun z_ => sc_Way_jobAt cI cL cM cZ q_p0 q_p0_row v_p0_length f_p0_row) hm hx hb hr hlocks hAe hQ hK hw rfl d_Way_jobAt_22
    · refine lv_aload_n hx hb d_Way_jobAt_12 rfl (lv_at hl 0 rfl) ?_
      refine sg_get (D := (dC, dI)) (ci := 8) (v := .ref q_p0_row) (C := "JobNets$Way") (T := T_8) (N := 2) hx hb hts hin_8 hown hK hw 0 rfl rfl 0 (by decide) (hts _ wd_137) rfl rfl d_Way_jobAt_13 ?_
      refine lv_iload_n hx hb d_Way_jobAt_16 rfl (lv_at hl 1 rfl) ?_
      refine sg_iald hx hb hK hw 1 0 rfl rfl d_Way_jobAt_17 hm (fun hm => ?_)
      refine lv_goto (tgt := 22) hx hb d_Way_jobAt_18 (by decide) ?_
      exact so_iret (rf := fun z_ => z_) (Sf := fun z_ => sc_Way_jobAt cI cL cM cZ q_p0 q_p0_row v_p0_length f_p0_row) hm hx hb hr hlocks hAe hQ hK hw rfl d_Way_jobAt_22
theorem d_Way_trace_0 : decode prog_9_method_3_code 0 = .ok (.aload_n 0, 1) := by decide +kernel
theorem d_Way_trace_1 : decode prog_9_method_3_code 1 = .ok (.iconst 0, 1) := by decide +kernel
theorem d_Way_trace_2 : decode prog_9_method_3_code 2 = .ok (.putfield 15, 3) := by decide +kernel
theorem d_Way_trace_5 : decode prog_9_method_3_code 5 = .ok (.iload_n 2, 1) := by decide +kernel
theorem d_Way_trace_6 : decode prog_9_method_3_code 6 = .ok (.istore_n 3, 1) := by decide +kernel
theorem d_Way_trace_7 : decode prog_9_method_3_code 7 = .ok (.iload_n 3, 1) := by decide +kernel
theorem d_Way_trace_8 : decode prog_9_method_3_code 8 = .ok (.ifCond .le 29, 3) := by decide +kernel
theorem d_Way_trace_11 : decode prog_9_method_3_code 11 = .ok (.aload_n 0, 1) := by decide +kernel
theorem d_Way_trace_12 : decode prog_9_method_3_code 12 = .ok (.getfield 15, 3) := by decide +kernel
theorem d_Way_trace_15 : decode prog_9_method_3_code 15 = .ok (.bipush 26, 2) := by decide +kernel
theorem d_Way_trace_17 : decode prog_9_method_3_code 17 = .ok (.if_icmp .ge 20, 3) := by decide +kernel
theorem d_Way_trace_20 : decode prog_9_method_3_code 20 = .ok (.aload_n 0, 1) := by decide +kernel
theorem d_Way_trace_21 : decode prog_9_method_3_code 21 = .ok (.dup, 1) := by decide +kernel
theorem d_Way_trace_22 : decode prog_9_method_3_code 22 = .ok (.getfield 15, 3) := by decide +kernel
theorem d_Way_trace_25 : decode prog_9_method_3_code 25 = .ok (.iconst 1, 1) := by decide +kernel
theorem d_Way_trace_26 : decode prog_9_method_3_code 26 = .ok (.iadd, 1) := by decide +kernel
theorem d_Way_trace_27 : decode prog_9_method_3_code 27 = .ok (.putfield 15, 3) := by decide +kernel
theorem d_Way_trace_30 : decode prog_9_method_3_code 30 = .ok (.aload_n 1, 1) := by decide +kernel
theorem d_Way_trace_31 : decode prog_9_method_3_code 31 = .ok (.iload_n 3, 1) := by decide +kernel
theorem d_Way_trace_32 : decode prog_9_method_3_code 32 = .ok (.iaload, 1) := by decide +kernel
theorem d_Way_trace_33 : decode prog_9_method_3_code 33 = .ok (.istore_n 3, 1) := by decide +kernel
theorem d_Way_trace_34 : decode prog_9_method_3_code 34 = .ok (.goto (-27), 3) := by decide +kernel
theorem d_Way_trace_37 : decode prog_9_method_3_code 37 = .ok (.iload_n 2, 1) := by decide +kernel
theorem d_Way_trace_38 : decode prog_9_method_3_code 38 = .ok (.istore_n 3, 1) := by decide +kernel
theorem d_Way_trace_39 : decode prog_9_method_3_code 39 = .ok (.aload_n 0, 1) := by decide +kernel
theorem d_Way_trace_40 : decode prog_9_method_3_code 40 = .ok (.getfield 15, 3) := by decide +kernel
theorem d_Way_trace_43 : decode prog_9_method_3_code 43 = .ok (.iconst 1, 1) := by decide +kernel
theorem d_Way_trace_44 : decode prog_9_method_3_code 44 = .ok (.isub, 1) := by decide +kernel
theorem d_Way_trace_45 : decode prog_9_method_3_code 45 = .ok (.istore 4, 2) := by decide +kernel
theorem d_Way_trace_47 : decode prog_9_method_3_code 47 = .ok (.iload 4, 2) := by decide +kernel
theorem d_Way_trace_49 : decode prog_9_method_3_code 49 = .ok (.ifCond .lt 21, 3) := by decide +kernel
theorem d_Way_trace_52 : decode prog_9_method_3_code 52 = .ok (.aload_n 0, 1) := by decide +kernel
theorem d_Way_trace_53 : decode prog_9_method_3_code 53 = .ok (.getfield 9, 3) := by decide +kernel
theorem d_Way_trace_56 : decode prog_9_method_3_code 56 = .ok (.iload 4, 2) := by decide +kernel
theorem d_Way_trace_58 : decode prog_9_method_3_code 58 = .ok (.iload_n 3, 1) := by decide +kernel
theorem d_Way_trace_59 : decode prog_9_method_3_code 59 = .ok (.iastore, 1) := by decide +kernel
theorem d_Way_trace_60 : decode prog_9_method_3_code 60 = .ok (.aload_n 1, 1) := by decide +kernel
theorem d_Way_trace_61 : decode prog_9_method_3_code 61 = .ok (.iload_n 3, 1) := by decide +kernel
theorem d_Way_trace_62 : decode prog_9_method_3_code 62 = .ok (.iaload, 1) := by decide +kernel
theorem d_Way_trace_63 : decode prog_9_method_3_code 63 = .ok (.istore_n 3, 1) := by decide +kernel
theorem d_Way_trace_64 : decode prog_9_method_3_code 64 = .ok (.iinc 4 (-1), 3) := by decide +kernel
theorem d_Way_trace_67 : decode prog_9_method_3_code 67 = .ok (.goto (-20), 3) := by decide +kernel
theorem d_Way_trace_70 : decode prog_9_method_3_code 70 = .ok (.return_, 1) := by decide +kernel
def md_Way_trace_F47 (f_p1 : Nat → Int32) (x2 : Int32) (rec47 : Int32 → Int32 → (Nat → Int32) → Option (Int32 × (Nat → Int32))) (x3 : Int32) (x4 : Int32) (f5 : Nat → Int32) : Option (Int32 × (Nat → Int32)) :=
  (if x3 < 0 then (some (x2, f5)) else (if sg_in x3 26 = true then zl (upd f5 x3.toNatClampNeg x4) (fun f6 => (if sg_in x4 27 = true then (rec47 (x3 + (-1)) (f_p1 x4.toNatClampNeg) f6) else none)) else none))
def md_Way_trace_F7 (f_p0_row : Nat → Int32) (f_p1 : Nat → Int32) (a2_x : Int32) (N : Nat) (rec7 : Int32 → Int32 → Option (Int32 × (Nat → Int32))) (x1 : Int32) (x2 : Int32) : Option (Int32 × (Nat → Int32)) :=
  (zl (fx3 (md_Way_trace_F47 f_p1 x2) N (x2 - (1 : Int32)) a2_x f_p0_row) (fun k37 => (if x1 ≤ 0 then (k37) else (if (26 : Int32) ≤ x2 then (k37) else (if sg_in x1 27 = true then (rec7 (f_p1 x1.toNatClampNeg) (x2 + (1 : Int32))) else none)))))
def md_Way_trace (N : Nat) (v_p0_length : Int32) (f_p0_row : Nat → Int32) (f_p1 : Nat → Int32) (a2_x : Int32) : Option (Int32 × (Nat → Int32)) :=
  (fx2 (md_Way_trace_F7 f_p0_row f_p1 a2_x N) N a2_x (0 : Int32))
abbrev sc_Way_trace (cI cL cM cZ : ClassId) (q_p0 q_p1 q_p0_row : Nat) (v_p0_length : Int32) (f_p0_row : Nat → Int32) (f_p1 : Nat → Int32) : List va_W := [[(q_p0, .inr (8, [.ref q_p0_row, .int v_p0_length]))], [(q_p0_row, .inl (cI, 26, .inl f_p0_row))], [(q_p1, .inl (cI, 27, .inl f_p1))]]
abbrev rm_Way_trace : Room := { frames := 0, cells := 0, slots := 0, locals := 0 }
set_option maxHeartbeats 4000000 in
set_option maxRecDepth 100000 in
theorem ct_Way_trace (l : Launch) (dC : Nat → ClassId) (dI : Nat → Nat → Nat) (cI cL cM cZ : ClassId) (q_p0 q_p1 q_p0_row : Nat) (v_p0_length : Int32) (f_p0_row : Nat → Int32) (f_p1 : Nat → Int32) (a2_x : Int32) (N : Nat) (o : Int32 × (Nat → Int32)) (hm : md_Way_trace N v_p0_length f_p0_row f_p1 a2_x = some o) : ∀ sz : Nat, Met l y_Way_trace ws_Way_trace rm_Way_trace (cP (dC, dI) vwCl [(cI, .int), (cL, .long), (cM, .array .int), (cZ, .boolean)] [.ref q_p0, .ref q_p1, .int a2_x] sz (sc_Way_trace cI cL cM cZ q_p0 q_p1 q_p0_row v_p0_length f_p0_row f_p1)) (cQv (dC, dI) vwCl [(cI, .int), (cL, .long), (cM, .array .int), (cZ, .boolean)] sz (sc_Way_trace cI cL cM cZ q_p0 q_p1 q_p0_row v_p0_length f_p0_row f_p1) (sc_Way_trace cI cL cM cZ q_p0 q_p1 q_p0_row o.1 o.2 f_p1)) 0 0 (va_A ((sc_Way_trace cI cL cM cZ q_p0 q_p1 q_p0_row v_p0_length f_p0_row f_p1)).flatten sz) := by
  refine sg_met (fun sz => cQv (dC, dI) vwCl [(cI, .int), (cL, .long), (cM, .array .int), (cZ, .boolean)] sz (sc_Way_trace cI cL cM cZ q_p0 q_p1 q_p0_row v_p0_length f_p0_row f_p1) (sc_Way_trace cI cL cM cZ q_p0 q_p1 q_p0_row o.1 o.2 f_p1)) (by decide) (Nat.le_of_ble_eq_true rfl) ?_
  intro p e s m args below meth c A Q ls hx hb hr hts hown hlocks hml hname hK hNW hA hAe hQ hw hl
  have hl : lv_has ls 5 [(0, .ref q_p0), (1, .ref q_p1), (2, .int a2_x)] := hl
  have hw : wk (dC, dI) vwCl A s.heap [[(q_p0, .inr (8, [.ref q_p0_row, .int v_p0_length]))], [(q_p0_row, .inl (cI, 26, .inl f_p0_row))], [(q_p1, .inl (cI, 27, .inl f_p1))]] s.heap [] := hw
  unfold md_Way_trace at hm
  refine lv_aload_n hx hb d_Way_trace_0 rfl (lv_at hl 0 rfl) ?_
  refine lv_iconst (v := 0) hx hb d_Way_trace_1 (by decide) ?_
  refine sg_put (D := (dC, dI)) (ci := 8) (v := .int (0 : Int32)) (ty := .int) (C := "JobNets$Way") (T := T_8) (N := 2) (S1 := [[(q_p0, .inr (8, [.ref q_p0_row, .int (0 : Int32)]))], [(q_p0_row, .inl (cI, 26, .inl f_p0_row))], [(q_p1, .inl (cI, 27, .inl f_p1))]]) hx hb hts hin_8 ty_8 tok_8 nd_8 hown hK hw 0 rfl rfl 1 (by decide) (hts _ wd_138) rfl rfl (by decide +kernel) rfl rfl (Nat.le_of_ble_eq_true rfl) rfl d_Way_trace_2 (fun H locs hw => ?_)
  refine lv_iload_n hx hb d_Way_trace_5 rfl (lv_at hl 2 rfl) ?_
  refine lv_istore_n (lv' := [(3, .int a2_x), (0, .ref q_p0), (1, .ref q_p1), (2, .int a2_x)]) hx hb d_Way_trace_6 rfl hl (by decide) rfl (fun ls hl => ?_)
  obtain ⟨Fn7, hFn7, hm⟩ := fx2_x hm
  have L7 : ∀ (n : Nat) (x1 : Int32) (x2 : Int32), fx2 Fn7 n x1 x2 = some o → ∀ (H : Heap) (locs : List Loc) (ls : Array Slot), wk (dC, dI) vwCl A s.heap [[(q_p0, .inr (8, [.ref q_p0_row, .int x2]))], [(q_p0_row, .inl (cI, 26, .inl f_p0_row))], [(q_p1, .inl (cI, 27, .inl f_p1))]] H locs → lv_has ls 5 [(3, .int x1), (0, .ref q_p0), (1, .ref q_p1), (2, .int a2_x)] → W p l e rm_Way_trace s m args below meth c H locs 0 0 Q (F0 m 7 ls []) := by
    intro n
    induction n with
    | zero => intro x1 x2 hm; exact (fx2_0 hm).elim
    | succ n ih7 =>
      intro x1 x2 hm H locs ls hw hl
      have hm := fx2_s hFn7 hm
      unfold md_Way_trace_F7 at hm
      refine lv_iload_n hx hb d_Way_trace_7 rfl (lv_at hl 0 rfl) ?_
      obtain ⟨k37, hk37, hm⟩ := zl_x hm
      have J37 : k37 = some o → ∀ (H : Heap) (locs : List Loc) (ls : Array Slot), wk (dC, dI) vwCl A s.heap [[(q_p0, .inr (8, [.ref q_p0_row, .int x2]))], [(q_p0_row, .inl (cI, 26, .inl f_p0_row))], [(q_p1, .inl (cI, 27, .inl f_p1))]] H locs → lv_has ls 5 [(0, .ref q_p0), (1, .ref q_p1), (2, .int a2_x)] → W p l e rm_Way_trace s m args below meth c H locs 0 0 Q (F0 m 37 ls []) := by
        intro hm H locs ls hw hl
        subst hk37
        refine lv_iload_n hx hb d_Way_trace_37 rfl (lv_at hl 2 rfl) ?_
        refine lv_istore_n (lv' := [(3, .int a2_x), (0, .ref q_p0), (1, .ref q_p1), (2, .int a2_x)]) hx hb d_Way_trace_38 rfl hl (by decide) rfl (fun ls hl => ?_)
        refine lv_aload_n hx hb d_Way_trace_39 rfl (lv_at hl 1 rfl) ?_
        refine sg_get (D := (dC, dI)) (ci := 8) (v := .int x2) (C := "JobNets$Way") (T := T_8) (N := 2) hx hb hts hin_8 hown hK hw 0 rfl rfl 1 (by decide) (hts _ wd_138) rfl rfl d_Way_trace_40 ?_
        refine lv_iconst (v := 1) hx hb d_Way_trace_43 (by decide) ?_
        refine lv_isub hx hb d_Way_trace_44 ?_
        refine lv_istore (lv' := [(4, .int (x2 - (1 : Int32))), (3, .int a2_x), (0, .ref q_p0), (1, .ref q_p1), (2, .int a2_x)]) hx hb d_Way_trace_45 hl (by decide) rfl (fun ls hl => ?_)
        obtain ⟨Fn47, hFn47, hm⟩ := fx3_x hm
        have L47 : ∀ (n : Nat) (x3 : Int32) (x4 : Int32) (f5 : Nat → Int32), fx3 Fn47 n x3 x4 f5 = some o → ∀ (H : Heap) (locs : List Loc) (ls : Array Slot), wk (dC, dI) vwCl A s.heap [[(q_p0, .inr (8, [.ref q_p0_row, .int x2]))], [(q_p0_row, .inl (cI, 26, .inl f5))], [(q_p1, .inl (cI, 27, .inl f_p1))]] H locs → lv_has ls 5 [(4, .int x3), (3, .int x4), (0, .ref q_p0), (1, .ref q_p1)] → W p l e rm_Way_trace s m args below meth c H locs 0 0 Q (F0 m 47 ls []) := by
          intro n
          induction n with
          | zero => intro x3 x4 f5 hm; exact (fx3_0 hm).elim
          | succ n ih47 =>
            intro x3 x4 f5 hm H locs ls hw hl
            have hm := fx3_s hFn47 hm
            unfold md_Way_trace_F47 at hm
            refine lv_iload hx hb d_Way_trace_47 (lv_at hl 0 rfl) ?_
            refine bq_t (lv_if_lt (tgt := 70) hx hb d_Way_trace_49 (by decide)) hm (fun hm => ?_) (fun hm => ?_)
            · exact so_vret (Sf := fun z_ => sc_Way_trace cI cL cM cZ q_p0 q_p1 q_p0_row z_.1 z_.2 f_p1) hm hx hb hr hlocks hAe hQ hK hw d_Way_trace_70
            · refine lv_aload_n hx hb d_Way_trace_52 rfl (lv_at hl 2 rfl) ?_
              refine sg_get (D := (dC, dI)) (ci := 8) (v := .ref q_p0_row) (C := "JobNets$Way") (T := T_8) (N := 2) hx hb hts hin_8 hown hK hw 0 rfl rfl 0 (by decide) (hts _ wd_137) rfl rfl d_Way_trace_53 ?_
              refine lv_iload hx hb d_Way_trace_56 (lv_at hl 0 rfl) ?_
              refine lv_iload_n hx hb d_Way_trace_58 rfl (lv_at hl 1 rfl) ?_
              refine sg_iast (S1 := fun f6 => [[(q_p0, .inr (8, [.ref q_p0_row, .int x2]))], [(q_p0_row, .inl (cI, 26, .inl f6))], [(q_p1, .inl (cI, 27, .inl f_p1))]]) hx hb hK hw 1 0 rfl rfl d_Way_trace_59 (fun _ => rfl) hm (fun f6 H locs hm hw => ?_)
              refine lv_aload_n hx hb d_Way_trace_60 rfl (lv_at hl 3 rfl) ?_
              refine lv_iload_n hx hb d_Way_trace_61 rfl (lv_at hl 1 rfl) ?_
              refine sg_iald hx hb hK hw 2 0 rfl rfl d_Way_trace_62 hm (fun hm => ?_)
              refine lv_istore_n (lv' := [(3, .int (f_p1 x4.toNatClampNeg)), (4, .int x3), (0, .ref q_p0), (1, .ref q_p1)]) hx hb d_Way_trace_63 rfl hl (by decide) rfl (fun ls hl => ?_)
              refine lv_iinc (v := x3 + (-1)) (lv' := [(4, .int (x3 + (-1))), (3, .int (f_p1 x4.toNatClampNeg)), (0, .ref q_p0), (1, .ref q_p1)]) hx hb d_Way_trace_64 hl (k := 1) rfl rfl (by decide) rfl (fun ls hl => ?_)
              refine lv_goto (tgt := 47) hx hb d_Way_trace_67 (by decide) ?_
              exact ih47 (x3 + (-1)) (f_p1 x4.toNatClampNeg) f6 hm _ _ _ hw hl
        exact L47 _ _ _ _ hm _ _ _ hw (lv_sub hl [0, 1, 2, 3] rfl)
      refine bq_t (lv_if_le (tgt := 37) hx hb d_Way_trace_8 (by decide)) hm (fun hm => ?_) (fun hm => ?_)
      · exact J37  hm _ _ _ hw (lv_sub hl [1, 2, 3] rfl)
      · refine lv_aload_n hx hb d_Way_trace_11 rfl (lv_at hl 1 rfl) ?_
        refine sg_get (D := (dC, dI)) (ci := 8) (v := .int x2) (C := "JobNets$Way") (T := T_8) (N := 2) hx hb hts hin_8 hown hK hw 0 rfl rfl 1 (by decide) (hts _ wd_138) rfl rfl d_Way_trace_12 ?_
        refine lv_bipush (v := 26) hx hb d_Way_trace_15 (by decide) ?_
        refine bq_t (lv_icmp_ge (tgt := 37) hx hb d_Way_trace_17 (by decide)) hm (fun hm => ?_) (fun hm => ?_)
        · exact J37  hm _ _ _ hw (lv_sub hl [1, 2, 3] rfl)
        · refine lv_aload_n hx hb d_Way_trace_20 rfl (lv_at hl 1 rfl) ?_
          refine lv_dup hx hb d_Way_trace_21 rfl ?_
          refine sg_get (D := (dC, dI)) (ci := 8) (v := .int x2) (C := "JobNets$Way") (T := T_8) (N := 2) hx hb hts hin_8 hown hK hw 0 rfl rfl 1 (by decide) (hts _ wd_138) rfl rfl d_Way_trace_22 ?_
          refine lv_iconst (v := 1) hx hb d_Way_trace_25 (by decide) ?_
          refine lv_iadd hx hb d_Way_trace_26 ?_
          refine sg_put (D := (dC, dI)) (ci := 8) (v := .int (x2 + (1 : Int32))) (ty := .int) (C := "JobNets$Way") (T := T_8) (N := 2) (S1 := [[(q_p0, .inr (8, [.ref q_p0_row, .int (x2 + (1 : Int32))]))], [(q_p0_row, .inl (cI, 26, .inl f_p0_row))], [(q_p1, .inl (cI, 27, .inl f_p1))]]) hx hb hts hin_8 ty_8 tok_8 nd_8 hown hK hw 0 rfl rfl 1 (by decide) (hts _ wd_138) rfl rfl (by decide +kernel) rfl rfl (Nat.le_of_ble_eq_true rfl) rfl d_Way_trace_27 (fun H locs hw => ?_)
          refine lv_aload_n hx hb d_Way_trace_30 rfl (lv_at hl 2 rfl) ?_
          refine lv_iload_n hx hb d_Way_trace_31 rfl (lv_at hl 0 rfl) ?_
          refine sg_iald hx hb hK hw 2 0 rfl rfl d_Way_trace_32 hm (fun hm => ?_)
          refine lv_istore_n (lv' := [(3, .int (f_p1 x1.toNatClampNeg)), (0, .ref q_p0), (1, .ref q_p1), (2, .int a2_x)]) hx hb d_Way_trace_33 rfl hl (by decide) rfl (fun ls hl => ?_)
          refine lv_goto (tgt := 7) hx hb d_Way_trace_34 (by decide) ?_
          exact ih7 (f_p1 x1.toNatClampNeg) (x2 + (1 : Int32)) hm _ _ _ hw hl
  exact L7 _ _ _ hm _ _ _ hw hl
theorem d_A_sign_0 : decode prog_1_method_2_code 0 = .ok (.aload_n 0, 1) := by decide +kernel
theorem d_A_sign_1 : decode prog_1_method_2_code 1 = .ok (.getfield 19, 3) := by decide +kernel
theorem d_A_sign_4 : decode prog_1_method_2_code 4 = .ok (.iload_n 1, 1) := by decide +kernel
theorem d_A_sign_5 : decode prog_1_method_2_code 5 = .ok (.invokevirtual 68, 3) := by decide +kernel
theorem d_A_sign_8 : decode prog_1_method_2_code 8 = .ok (.return_, 1) := by decide +kernel
def md_A_sign (N : Nat) (v_p0_reader_length : Int32) (f_p0_reader_text : Nat → Int32) (a1_x : Int32) : Option (Int32 × (Nat → Int32)) :=
  (zc (md_Tex_append N v_p0_reader_length f_p0_reader_text a1_x) (fun o1 => (some (o1.1, o1.2))))
abbrev sc_A_sign (cI cL cM cZ : ClassId) (q_p0 q_p0_calendars q_p0_reader q_p0_current q_p0_kept q_p0_latestRing q_p0_ringFinder q_p0_longest q_p0_net q_p0_spare q_p0_reader_text q_p0_reader_jobOfLetter q_p0_reader_owners q_p0_reader_namePlaces q_p0_reader_conditions : Nat) (v_p0_reader_pending : Int32) (v_p0_reader_length : Int32) (v_p0_reader_at : Int32) (v_p0_reader_number : Int32) (f_p0_reader_text : Nat → Int32) : List va_W := [[(q_p0, .inr (0, [.ref q_p0_calendars, .ref q_p0_reader, .ref q_p0_current, .ref q_p0_kept, .ref q_p0_latestRing, .ref q_p0_ringFinder, .ref q_p0_longest, .ref q_p0_net, .ref q_p0_spare]))], [(q_p0_reader, .inr (7, [.ref q_p0_reader_text, .ref q_p0_reader_jobOfLetter, .ref q_p0_reader_owners, .ref q_p0_reader_namePlaces, .ref q_p0_reader_conditions, .int v_p0_reader_pending, .int v_p0_reader_length, .int v_p0_reader_at, .int v_p0_reader_number]))], [(q_p0_reader_text, .inl (cI, 2000, .inl f_p0_reader_text))]]
abbrev rm_A_sign : Room := { frames := 1, cells := 0, slots := 0, locals := 21 }
set_option maxHeartbeats 4000000 in
set_option maxRecDepth 100000 in
theorem ct_A_sign (l : Launch) (dC : Nat → ClassId) (dI : Nat → Nat → Nat) (cI cL cM cZ : ClassId) (q_p0 q_p0_calendars q_p0_reader q_p0_current q_p0_kept q_p0_latestRing q_p0_ringFinder q_p0_longest q_p0_net q_p0_spare q_p0_reader_text q_p0_reader_jobOfLetter q_p0_reader_owners q_p0_reader_namePlaces q_p0_reader_conditions : Nat) (v_p0_reader_pending : Int32) (v_p0_reader_length : Int32) (v_p0_reader_at : Int32) (v_p0_reader_number : Int32) (f_p0_reader_text : Nat → Int32) (a1_x : Int32) (N : Nat) (o : Int32 × (Nat → Int32)) (hm : md_A_sign N v_p0_reader_length f_p0_reader_text a1_x = some o) : ∀ sz : Nat, Met l y_A_sign ws_A_sign rm_A_sign (cP (dC, dI) vwCl [(cI, .int), (cL, .long), (cM, .array .int), (cZ, .boolean)] [.ref q_p0, .int a1_x] sz (sc_A_sign cI cL cM cZ q_p0 q_p0_calendars q_p0_reader q_p0_current q_p0_kept q_p0_latestRing q_p0_ringFinder q_p0_longest q_p0_net q_p0_spare q_p0_reader_text q_p0_reader_jobOfLetter q_p0_reader_owners q_p0_reader_namePlaces q_p0_reader_conditions v_p0_reader_pending v_p0_reader_length v_p0_reader_at v_p0_reader_number f_p0_reader_text)) (cQv (dC, dI) vwCl [(cI, .int), (cL, .long), (cM, .array .int), (cZ, .boolean)] sz (sc_A_sign cI cL cM cZ q_p0 q_p0_calendars q_p0_reader q_p0_current q_p0_kept q_p0_latestRing q_p0_ringFinder q_p0_longest q_p0_net q_p0_spare q_p0_reader_text q_p0_reader_jobOfLetter q_p0_reader_owners q_p0_reader_namePlaces q_p0_reader_conditions v_p0_reader_pending v_p0_reader_length v_p0_reader_at v_p0_reader_number f_p0_reader_text) (sc_A_sign cI cL cM cZ q_p0 q_p0_calendars q_p0_reader q_p0_current q_p0_kept q_p0_latestRing q_p0_ringFinder q_p0_longest q_p0_net q_p0_spare q_p0_reader_text q_p0_reader_jobOfLetter q_p0_reader_owners q_p0_reader_namePlaces q_p0_reader_conditions v_p0_reader_pending o.1 v_p0_reader_at v_p0_reader_number o.2)) 0 0 (va_A ((sc_A_sign cI cL cM cZ q_p0 q_p0_calendars q_p0_reader q_p0_current q_p0_kept q_p0_latestRing q_p0_ringFinder q_p0_longest q_p0_net q_p0_spare q_p0_reader_text q_p0_reader_jobOfLetter q_p0_reader_owners q_p0_reader_namePlaces q_p0_reader_conditions v_p0_reader_pending v_p0_reader_length v_p0_reader_at v_p0_reader_number f_p0_reader_text)).flatten sz) := by
  refine sg_met (fun sz => cQv (dC, dI) vwCl [(cI, .int), (cL, .long), (cM, .array .int), (cZ, .boolean)] sz (sc_A_sign cI cL cM cZ q_p0 q_p0_calendars q_p0_reader q_p0_current q_p0_kept q_p0_latestRing q_p0_ringFinder q_p0_longest q_p0_net q_p0_spare q_p0_reader_text q_p0_reader_jobOfLetter q_p0_reader_owners q_p0_reader_namePlaces q_p0_reader_conditions v_p0_reader_pending v_p0_reader_length v_p0_reader_at v_p0_reader_number f_p0_reader_text) (sc_A_sign cI cL cM cZ q_p0 q_p0_calendars q_p0_reader q_p0_current q_p0_kept q_p0_latestRing q_p0_ringFinder q_p0_longest q_p0_net q_p0_spare q_p0_reader_text q_p0_reader_jobOfLetter q_p0_reader_owners q_p0_reader_namePlaces q_p0_reader_conditions v_p0_reader_pending o.1 v_p0_reader_at v_p0_reader_number o.2)) (by decide) (Nat.le_of_ble_eq_true rfl) ?_
  intro p e s m args below meth c A Q ls hx hb hr hts hown hlocks hml hname hK hNW hA hAe hQ hw hl
  have hl : lv_has ls 2 [(0, .ref q_p0), (1, .int a1_x)] := hl
  have hw : wk (dC, dI) vwCl A s.heap [[(q_p0, .inr (0, [.ref q_p0_calendars, .ref q_p0_reader, .ref q_p0_current, .ref q_p0_kept, .ref q_p0_latestRing, .ref q_p0_ringFinder, .ref q_p0_longest, .ref q_p0_net, .ref q_p0_spare]))], [(q_p0_reader, .inr (7, [.ref q_p0_reader_text, .ref q_p0_reader_jobOfLetter, .ref q_p0_reader_owners, .ref q_p0_reader_namePlaces, .ref q_p0_reader_conditions, .int v_p0_reader_pending, .int v_p0_reader_length, .int v_p0_reader_at, .int v_p0_reader_number]))], [(q_p0_reader_text, .inl (cI, 2000, .inl f_p0_reader_text))]] s.heap [] := hw
  unfold md_A_sign at hm
  refine lv_aload_n hx hb d_A_sign_0 rfl (lv_at hl 0 rfl) ?_
  refine sg_get (D := (dC, dI)) (ci := 0) (v := .ref q_p0_reader) (C := "JobNets") (T := T_0) (N := 9) hx hb hts hin_0 hown hK hw 0 rfl rfl 1 (by decide) (hts _ wd_223) rfl rfl d_A_sign_1 ?_
  refine lv_iload_n hx hb d_A_sign_4 rfl (lv_at hl 1 rfl) ?_
  obtain ⟨o1, h1, hm⟩ := zc_x hm
  refine sg_cv0 (Sr := [[(q_p0, .inr (0, [.ref q_p0_calendars, .ref q_p0_reader, .ref q_p0_current, .ref q_p0_kept, .ref q_p0_latestRing, .ref q_p0_ringFinder, .ref q_p0_longest, .ref q_p0_net, .ref q_p0_spare]))]]) (va_runV (As := [.int a1_x]) (rest := []) ⟨hx, hb, hml, hown, hts⟩ (ct_Tex_append l dC dI cI cL cM cZ q_p0_reader q_p0_reader_text q_p0_reader_jobOfLetter q_p0_reader_owners q_p0_reader_namePlaces q_p0_reader_conditions v_p0_reader_pending v_p0_reader_length v_p0_reader_at v_p0_reader_number f_p0_reader_text a1_x N o1 h1 _) (cwV 1 hts (gd_V wd_254 wd_255 wd_256 wd_3 wd_257) rfl rfl rfl (by decide +kernel) ⟨Nat.le_of_ble_eq_true rfl, Nat.le_of_ble_eq_true rfl⟩) (sg_preV (ci := 7) (q0 := 1) hK hNW hw [1, 2] rfl rfl rfl rfl) rfl rfl hl.1 rfl (lv_room (Nat.le_of_ble_eq_true rfl)) d_A_sign_5 ⟨Nat.le_of_ble_eq_true rfl, Nat.le_of_ble_eq_true rfl⟩) hw hA [1, 2] [0] rfl rfl rfl (by decide) (fun H locs hw => ?_)
  have hw : wk (dC, dI) vwCl A s.heap [[(q_p0, .inr (0, [.ref q_p0_calendars, .ref q_p0_reader, .ref q_p0_current, .ref q_p0_kept, .ref q_p0_latestRing, .ref q_p0_ringFinder, .ref q_p0_longest, .ref q_p0_net, .ref q_p0_spare]))], [(q_p0_reader, .inr (7, [.ref q_p0_reader_text, .ref q_p0_reader_jobOfLetter, .ref q_p0_reader_owners, .ref q_p0_reader_namePlaces, .ref q_p0_reader_conditions, .int v_p0_reader_pending, .int o1.1, .int v_p0_reader_at, .int v_p0_reader_number]))], [(q_p0_reader_text, .inl (cI, 2000, .inl o1.2))]] H locs := hw
  exact so_vret (Sf := fun z_ => sc_A_sign cI cL cM cZ q_p0 q_p0_calendars q_p0_reader q_p0_current q_p0_kept q_p0_latestRing q_p0_ringFinder q_p0_longest q_p0_net q_p0_spare q_p0_reader_text q_p0_reader_jobOfLetter q_p0_reader_owners q_p0_reader_namePlaces q_p0_reader_conditions v_p0_reader_pending z_.1 v_p0_reader_at v_p0_reader_number z_.2) hm hx hb hr hlocks hAe hQ hK hw d_A_sign_8
theorem d_A_started_0 : decode prog_1_method_10_code 0 = .ok (.iload_n 1, 1) := by decide +kernel
theorem d_A_started_1 : decode prog_1_method_10_code 1 = .ok (.ifCond .lt 14, 3) := by decide +kernel
theorem d_A_started_4 : decode prog_1_method_10_code 4 = .ok (.iload_n 1, 1) := by decide +kernel
theorem d_A_started_5 : decode prog_1_method_10_code 5 = .ok (.aload_n 0, 1) := by decide +kernel
theorem d_A_started_6 : decode prog_1_method_10_code 6 = .ok (.getfield 26, 3) := by decide +kernel
theorem d_A_started_9 : decode prog_1_method_10_code 9 = .ok (.getfield 160, 3) := by decide +kernel
theorem d_A_started_12 : decode prog_1_method_10_code 12 = .ok (.if_icmp .lt 5, 3) := by decide +kernel
theorem d_A_started_15 : decode prog_1_method_10_code 15 = .ok (.iconst (-1), 1) := by decide +kernel
theorem d_A_started_16 : decode prog_1_method_10_code 16 = .ok (.ireturn, 1) := by decide +kernel
theorem d_A_started_17 : decode prog_1_method_10_code 17 = .ok (.iload_n 2, 1) := by decide +kernel
theorem d_A_started_18 : decode prog_1_method_10_code 18 = .ok (.lookupswitch 46 #[(0, 26), (1, 36)], 26) := by decide +kernel
theorem d_A_started_44 : decode prog_1_method_10_code 44 = .ok (.aload_n 0, 1) := by decide +kernel
theorem d_A_started_45 : decode prog_1_method_10_code 45 = .ok (.getfield 26, 3) := by decide +kernel
theorem d_A_started_48 : decode prog_1_method_10_code 48 = .ok (.getfield 163, 3) := by decide +kernel
theorem d_A_started_51 : decode prog_1_method_10_code 51 = .ok (.iload_n 1, 1) := by decide +kernel
theorem d_A_started_52 : decode prog_1_method_10_code 52 = .ok (.iaload, 1) := by decide +kernel
theorem d_A_started_53 : decode prog_1_method_10_code 53 = .ok (.ireturn, 1) := by decide +kernel
theorem d_A_started_54 : decode prog_1_method_10_code 54 = .ok (.aload_n 0, 1) := by decide +kernel
theorem d_A_started_55 : decode prog_1_method_10_code 55 = .ok (.getfield 26, 3) := by decide +kernel
theorem d_A_started_58 : decode prog_1_method_10_code 58 = .ok (.getfield 166, 3) := by decide +kernel
theorem d_A_started_61 : decode prog_1_method_10_code 61 = .ok (.iload_n 1, 1) := by decide +kernel
theorem d_A_started_62 : decode prog_1_method_10_code 62 = .ok (.iaload, 1) := by decide +kernel
theorem d_A_started_63 : decode prog_1_method_10_code 63 = .ok (.ireturn, 1) := by decide +kernel
theorem d_A_started_64 : decode prog_1_method_10_code 64 = .ok (.iconst (-1), 1) := by decide +kernel
theorem d_A_started_65 : decode prog_1_method_10_code 65 = .ok (.ireturn, 1) := by decide +kernel
def md_A_started (N : Nat) (v_p0_current_starts : Int32) (f_p0_current_loggedJobs : Nat → Int32) (f_p0_current_loggedTimes : Nat → Int32) (a1_x : Int32) (a2_x : Int32) : Option (Int32) :=
  (if a1_x < 0 then (some (-1 : Int32)) else (if a1_x < v_p0_current_starts then (if a2_x = (0 : Int32) then (if sg_in a1_x 538 = true then (some (f_p0_current_loggedJobs a1_x.toNatClampNeg)) else none) else (if a2_x = (1 : Int32) then (if sg_in a1_x 538 = true then (some (f_p0_current_loggedTimes a1_x.toNatClampNeg)) else none) else (some (-1 : Int32)))) else (some (-1 : Int32))))
abbrev sc_A_started (cI cL cM cZ : ClassId) (q_p0 q_p0_calendars q_p0_reader q_p0_current q_p0_kept q_p0_latestRing q_p0_ringFinder q_p0_longest q_p0_net q_p0_spare q_p0_current_states q_p0_current_startTimes q_p0_current_loggedJobs q_p0_current_loggedTimes : Nat) (v_p0_current_starts : Int32) (v_p0_current_time : Int32) (f_p0_current_loggedJobs : Nat → Int32) (f_p0_current_loggedTimes : Nat → Int32) : List va_W := [[(q_p0, .inr (0, [.ref q_p0_calendars, .ref q_p0_reader, .ref q_p0_current, .ref q_p0_kept, .ref q_p0_latestRing, .ref q_p0_ringFinder, .ref q_p0_longest, .ref q_p0_net, .ref q_p0_spare]))], [(q_p0_current, .inr (5, [.ref q_p0_current_states, .ref q_p0_current_startTimes, .ref q_p0_current_loggedJobs, .ref q_p0_current_loggedTimes, .int v_p0_current_starts, .int v_p0_current_time]))], [(q_p0_current_loggedJobs, .inl (cI, 538, .inl f_p0_current_loggedJobs))], [(q_p0_current_loggedTimes, .inl (cI, 538, .inl f_p0_current_loggedTimes))]]
abbrev rm_A_started : Room := { frames := 0, cells := 0, slots := 0, locals := 0 }
set_option maxHeartbeats 4000000 in
set_option maxRecDepth 100000 in
theorem ct_A_started (l : Launch) (dC : Nat → ClassId) (dI : Nat → Nat → Nat) (cI cL cM cZ : ClassId) (q_p0 q_p0_calendars q_p0_reader q_p0_current q_p0_kept q_p0_latestRing q_p0_ringFinder q_p0_longest q_p0_net q_p0_spare q_p0_current_states q_p0_current_startTimes q_p0_current_loggedJobs q_p0_current_loggedTimes : Nat) (v_p0_current_starts : Int32) (v_p0_current_time : Int32) (f_p0_current_loggedJobs : Nat → Int32) (f_p0_current_loggedTimes : Nat → Int32) (a1_x : Int32) (a2_x : Int32) (N : Nat) (o : Int32) (hm : md_A_started N v_p0_current_starts f_p0_current_loggedJobs f_p0_current_loggedTimes a1_x a2_x = some o) : ∀ sz : Nat, Met l y_A_started ws_A_started rm_A_started (cP (dC, dI) vwCl [(cI, .int), (cL, .long), (cM, .array .int), (cZ, .boolean)] [.ref q_p0, .int a1_x, .int a2_x] sz (sc_A_started cI cL cM cZ q_p0 q_p0_calendars q_p0_reader q_p0_current q_p0_kept q_p0_latestRing q_p0_ringFinder q_p0_longest q_p0_net q_p0_spare q_p0_current_states q_p0_current_startTimes q_p0_current_loggedJobs q_p0_current_loggedTimes v_p0_current_starts v_p0_current_time f_p0_current_loggedJobs f_p0_current_loggedTimes)) (cQi (dC, dI) vwCl [(cI, .int), (cL, .long), (cM, .array .int), (cZ, .boolean)] sz (sc_A_started cI cL cM cZ q_p0 q_p0_calendars q_p0_reader q_p0_current q_p0_kept q_p0_latestRing q_p0_ringFinder q_p0_longest q_p0_net q_p0_spare q_p0_current_states q_p0_current_startTimes q_p0_current_loggedJobs q_p0_current_loggedTimes v_p0_current_starts v_p0_current_time f_p0_current_loggedJobs f_p0_current_loggedTimes) o (sc_A_started cI cL cM cZ q_p0 q_p0_calendars q_p0_reader q_p0_current q_p0_kept q_p0_latestRing q_p0_ringFinder q_p0_longest q_p0_net q_p0_spare q_p0_current_states q_p0_current_startTimes q_p0_current_loggedJobs q_p0_current_loggedTimes v_p0_current_starts v_p0_current_time f_p0_current_loggedJobs f_p0_current_loggedTimes)) 0 0 (va_A ((sc_A_started cI cL cM cZ q_p0 q_p0_calendars q_p0_reader q_p0_current q_p0_kept q_p0_latestRing q_p0_ringFinder q_p0_longest q_p0_net q_p0_spare q_p0_current_states q_p0_current_startTimes q_p0_current_loggedJobs q_p0_current_loggedTimes v_p0_current_starts v_p0_current_time f_p0_current_loggedJobs f_p0_current_loggedTimes)).flatten sz) := by
  refine sg_met (fun sz => cQi (dC, dI) vwCl [(cI, .int), (cL, .long), (cM, .array .int), (cZ, .boolean)] sz (sc_A_started cI cL cM cZ q_p0 q_p0_calendars q_p0_reader q_p0_current q_p0_kept q_p0_latestRing q_p0_ringFinder q_p0_longest q_p0_net q_p0_spare q_p0_current_states q_p0_current_startTimes q_p0_current_loggedJobs q_p0_current_loggedTimes v_p0_current_starts v_p0_current_time f_p0_current_loggedJobs f_p0_current_loggedTimes) o (sc_A_started cI cL cM cZ q_p0 q_p0_calendars q_p0_reader q_p0_current q_p0_kept q_p0_latestRing q_p0_ringFinder q_p0_longest q_p0_net q_p0_spare q_p0_current_states q_p0_current_startTimes q_p0_current_loggedJobs q_p0_current_loggedTimes v_p0_current_starts v_p0_current_time f_p0_current_loggedJobs f_p0_current_loggedTimes)) (by decide) (Nat.le_of_ble_eq_true rfl) ?_
  intro p e s m args below meth c A Q ls hx hb hr hts hown hlocks hml hname hK hNW hA hAe hQ hw hl
  have hl : lv_has ls 3 [(0, .ref q_p0), (1, .int a1_x), (2, .int a2_x)] := hl
  have hw : wk (dC, dI) vwCl A s.heap [[(q_p0, .inr (0, [.ref q_p0_calendars, .ref q_p0_reader, .ref q_p0_current, .ref q_p0_kept, .ref q_p0_latestRing, .ref q_p0_ringFinder, .ref q_p0_longest, .ref q_p0_net, .ref q_p0_spare]))], [(q_p0_current, .inr (5, [.ref q_p0_current_states, .ref q_p0_current_startTimes, .ref q_p0_current_loggedJobs, .ref q_p0_current_loggedTimes, .int v_p0_current_starts, .int v_p0_current_time]))], [(q_p0_current_loggedJobs, .inl (cI, 538, .inl f_p0_current_loggedJobs))], [(q_p0_current_loggedTimes, .inl (cI, 538, .inl f_p0_current_loggedTimes))]] s.heap [] := hw
  unfold md_A_started at hm
  refine lv_iload_n hx hb d_A_started_0 rfl (lv_at hl 1 rfl) ?_
  refine bq_t (lv_if_lt (tgt := 15) hx hb d_A_started_1 (by decide)) hm (fun hm => ?_) (fun hm => ?_)
  · refine lv_iconst (v := -1) hx hb d_A_started_15 (by decide) ?_
    exact so_iret (rf := fun z_ => z_) (Sf := fun z_ => sc_A_started cI cL cM cZ q_p0 q_p0_calendars q_p0_reader q_p0_current q_p0_kept q_p0_latestRing q_p0_ringFinder q_p0_longest q_p0_net q_p0_spare q_p0_current_states q_p0_current_startTimes q_p0_current_loggedJobs q_p0_current_loggedTimes v_p0_current_starts v_p0_current_time f_p0_current_loggedJobs f_p0_current_loggedTimes) hm hx hb hr hlocks hAe hQ hK hw rfl d_A_started_16
  · refine lv_iload_n hx hb d_A_started_4 rfl (lv_at hl 1 rfl) ?_
    refine lv_aload_n hx hb d_A_started_5 rfl (lv_at hl 0 rfl) ?_
    refine sg_get (D := (dC, dI)) (ci := 0) (v := .ref q_p0_current) (C := "JobNets") (T := T_0) (N := 9) hx hb hts hin_0 hown hK hw 0 rfl rfl 2 (by decide) (hts _ wd_224) rfl rfl d_A_started_6 ?_
    refine sg_getN (D := (dC, dI)) (ci := 5) (v := .int v_p0_current_starts) (C := "JobNets$Plan") (T := T_5) (N := 6) hx hb hts hin_5 hown hK hw 1 rfl rfl 4 (by decide) (nF_6 hNW) rfl rfl d_A_started_9 ?_
    refine bq_t (lv_icmp_lt (tgt := 17) hx hb d_A_started_12 (by decide)) hm (fun hm => ?_) (fun hm => ?_)
    · refine lv_iload_n hx hb d_A_started_17 rfl (lv_at hl 2 rfl) ?_
      refine it_c hm (fun hc1 hm => ?_) (fun hc1 hm => ?_)
      · refine lv_lookup (tgt := 44) hx hb d_A_started_18 (by decide) (by rw [hc1]; try rfl) (by decide) ?_
        refine lv_aload_n hx hb d_A_started_44 rfl (lv_at hl 0 rfl) ?_
        refine sg_get (D := (dC, dI)) (ci := 0) (v := .ref q_p0_current) (C := "JobNets") (T := T_0) (N := 9) hx hb hts hin_0 hown hK hw 0 rfl rfl 2 (by decide) (hts _ wd_224) rfl rfl d_A_started_45 ?_
        refine sg_getN (D := (dC, dI)) (ci := 5) (v := .ref q_p0_current_loggedJobs) (C := "JobNets$Plan") (T := T_5) (N := 6) hx hb hts hin_5 hown hK hw 1 rfl rfl 2 (by decide) (nF_4 hNW) rfl rfl d_A_started_48 ?_
        refine lv_iload_n hx hb d_A_started_51 rfl (lv_at hl 1 rfl) ?_
        refine sg_iald hx hb hK hw 2 0 rfl rfl d_A_started_52 hm (fun hm => ?_)
        exact so_iret (rf := fun z_ => z_) (Sf := fun z_ => sc_A_started cI cL cM cZ q_p0 q_p0_calendars q_p0_reader q_p0_current q_p0_kept q_p0_latestRing q_p0_ringFinder q_p0_longest q_p0_net q_p0_spare q_p0_current_states q_p0_current_startTimes q_p0_current_loggedJobs q_p0_current_loggedTimes v_p0_current_starts v_p0_current_time f_p0_current_loggedJobs f_p0_current_loggedTimes) hm hx hb hr hlocks hAe hQ hK hw rfl d_A_started_53
      · skip
        refine it_c hm (fun hc2 hm => ?_) (fun hc2 hm => ?_)
        · refine lv_lookup (tgt := 54) hx hb d_A_started_18 (by decide) (by rw [hc2]; try rfl) (by decide) ?_
          refine lv_aload_n hx hb d_A_started_54 rfl (lv_at hl 0 rfl) ?_
          refine sg_get (D := (dC, dI)) (ci := 0) (v := .ref q_p0_current) (C := "JobNets") (T := T_0) (N := 9) hx hb hts hin_0 hown hK hw 0 rfl rfl 2 (by decide) (hts _ wd_224) rfl rfl d_A_started_55 ?_
          refine sg_getN (D := (dC, dI)) (ci := 5) (v := .ref q_p0_current_loggedTimes) (C := "JobNets$Plan") (T := T_5) (N := 6) hx hb hts hin_5 hown hK hw 1 rfl rfl 3 (by decide) (nF_5 hNW) rfl rfl d_A_started_58 ?_
          refine lv_iload_n hx hb d_A_started_61 rfl (lv_at hl 1 rfl) ?_
          refine sg_iald hx hb hK hw 3 0 rfl rfl d_A_started_62 hm (fun hm => ?_)
          exact so_iret (rf := fun z_ => z_) (Sf := fun z_ => sc_A_started cI cL cM cZ q_p0 q_p0_calendars q_p0_reader q_p0_current q_p0_kept q_p0_latestRing q_p0_ringFinder q_p0_longest q_p0_net q_p0_spare q_p0_current_states q_p0_current_startTimes q_p0_current_loggedJobs q_p0_current_loggedTimes v_p0_current_starts v_p0_current_time f_p0_current_loggedJobs f_p0_current_loggedTimes) hm hx hb hr hlocks hAe hQ hK hw rfl d_A_started_63
        · skip
          refine lv_lookup (off := 46) (tgt := 64) hx hb d_A_started_18 (by decide) (by have mhc1 := i32_nk (0) (0) (by decide) hc1; have mhc2 := i32_nk (1) (1) (by decide) hc2; show Op.lookupswitch.offset [(0, 26), (1, 36)] 46 a2_x.toInt = _; rw [Op.lookupswitch.offset_cons, if_neg (fun q => mhc1 q.symm), Op.lookupswitch.offset_cons, if_neg (fun q => mhc2 q.symm), Op.lookupswitch.offset_nil]) (by decide) ?_
          refine lv_iconst (v := -1) hx hb d_A_started_64 (by decide) ?_
          exact so_iret (rf := fun z_ => z_) (Sf := fun z_ => sc_A_started cI cL cM cZ q_p0 q_p0_calendars q_p0_reader q_p0_current q_p0_kept q_p0_latestRing q_p0_ringFinder q_p0_longest q_p0_net q_p0_spare q_p0_current_states q_p0_current_startTimes q_p0_current_loggedJobs q_p0_current_loggedTimes v_p0_current_starts v_p0_current_time f_p0_current_loggedJobs f_p0_current_loggedTimes) hm hx hb hr hlocks hAe hQ hK hw rfl d_A_started_65
    · refine lv_iconst (v := -1) hx hb d_A_started_15 (by decide) ?_
      exact so_iret (rf := fun z_ => z_) (Sf := fun z_ => sc_A_started cI cL cM cZ q_p0 q_p0_calendars q_p0_reader q_p0_current q_p0_kept q_p0_latestRing q_p0_ringFinder q_p0_longest q_p0_net q_p0_spare q_p0_current_states q_p0_current_startTimes q_p0_current_loggedJobs q_p0_current_loggedTimes v_p0_current_starts v_p0_current_time f_p0_current_loggedJobs f_p0_current_loggedTimes) hm hx hb hr hlocks hAe hQ hK hw rfl d_A_started_16
theorem d_A_ring_0 : decode prog_1_method_12_code 0 = .ok (.aload_n 0, 1) := by decide +kernel
theorem d_A_ring_1 : decode prog_1_method_12_code 1 = .ok (.getfield 40, 3) := by decide +kernel
theorem d_A_ring_4 : decode prog_1_method_12_code 4 = .ok (.iload_n 1, 1) := by decide +kernel
theorem d_A_ring_5 : decode prog_1_method_12_code 5 = .ok (.invokevirtual 177, 3) := by decide +kernel
theorem d_A_ring_8 : decode prog_1_method_12_code 8 = .ok (.ireturn, 1) := by decide +kernel
def md_A_ring (N : Nat) (v_p0_latestRing_length : Int32) (f_p0_latestRing_row : Nat → Int32) (a1_x : Int32) : Option (Int32) :=
  (zc (md_Way_jobAt N v_p0_latestRing_length f_p0_latestRing_row a1_x) (fun o1 => (some o1)))
abbrev sc_A_ring (cI cL cM cZ : ClassId) (q_p0 q_p0_calendars q_p0_reader q_p0_current q_p0_kept q_p0_latestRing q_p0_ringFinder q_p0_longest q_p0_net q_p0_spare q_p0_latestRing_row : Nat) (v_p0_latestRing_length : Int32) (f_p0_latestRing_row : Nat → Int32) : List va_W := [[(q_p0, .inr (0, [.ref q_p0_calendars, .ref q_p0_reader, .ref q_p0_current, .ref q_p0_kept, .ref q_p0_latestRing, .ref q_p0_ringFinder, .ref q_p0_longest, .ref q_p0_net, .ref q_p0_spare]))], [(q_p0_latestRing, .inr (8, [.ref q_p0_latestRing_row, .int v_p0_latestRing_length]))], [(q_p0_latestRing_row, .inl (cI, 26, .inl f_p0_latestRing_row))]]
abbrev rm_A_ring : Room := { frames := 1, cells := 0, slots := 0, locals := 21 }
set_option maxHeartbeats 4000000 in
set_option maxRecDepth 100000 in
theorem ct_A_ring (l : Launch) (dC : Nat → ClassId) (dI : Nat → Nat → Nat) (cI cL cM cZ : ClassId) (q_p0 q_p0_calendars q_p0_reader q_p0_current q_p0_kept q_p0_latestRing q_p0_ringFinder q_p0_longest q_p0_net q_p0_spare q_p0_latestRing_row : Nat) (v_p0_latestRing_length : Int32) (f_p0_latestRing_row : Nat → Int32) (a1_x : Int32) (N : Nat) (o : Int32) (hm : md_A_ring N v_p0_latestRing_length f_p0_latestRing_row a1_x = some o) : ∀ sz : Nat, Met l y_A_ring ws_A_ring rm_A_ring (cP (dC, dI) vwCl [(cI, .int), (cL, .long), (cM, .array .int), (cZ, .boolean)] [.ref q_p0, .int a1_x] sz (sc_A_ring cI cL cM cZ q_p0 q_p0_calendars q_p0_reader q_p0_current q_p0_kept q_p0_latestRing q_p0_ringFinder q_p0_longest q_p0_net q_p0_spare q_p0_latestRing_row v_p0_latestRing_length f_p0_latestRing_row)) (cQi (dC, dI) vwCl [(cI, .int), (cL, .long), (cM, .array .int), (cZ, .boolean)] sz (sc_A_ring cI cL cM cZ q_p0 q_p0_calendars q_p0_reader q_p0_current q_p0_kept q_p0_latestRing q_p0_ringFinder q_p0_longest q_p0_net q_p0_spare q_p0_latestRing_row v_p0_latestRing_length f_p0_latestRing_row) o (sc_A_ring cI cL cM cZ q_p0 q_p0_calendars q_p0_reader q_p0_current q_p0_kept q_p0_latestRing q_p0_ringFinder q_p0_longest q_p0_net q_p0_spare q_p0_latestRing_row v_p0_latestRing_length f_p0_latestRing_row)) 0 0 (va_A ((sc_A_ring cI cL cM cZ q_p0 q_p0_calendars q_p0_reader q_p0_current q_p0_kept q_p0_latestRing q_p0_ringFinder q_p0_longest q_p0_net q_p0_spare q_p0_latestRing_row v_p0_latestRing_length f_p0_latestRing_row)).flatten sz) := by
  refine sg_met (fun sz => cQi (dC, dI) vwCl [(cI, .int), (cL, .long), (cM, .array .int), (cZ, .boolean)] sz (sc_A_ring cI cL cM cZ q_p0 q_p0_calendars q_p0_reader q_p0_current q_p0_kept q_p0_latestRing q_p0_ringFinder q_p0_longest q_p0_net q_p0_spare q_p0_latestRing_row v_p0_latestRing_length f_p0_latestRing_row) o (sc_A_ring cI cL cM cZ q_p0 q_p0_calendars q_p0_reader q_p0_current q_p0_kept q_p0_latestRing q_p0_ringFinder q_p0_longest q_p0_net q_p0_spare q_p0_latestRing_row v_p0_latestRing_length f_p0_latestRing_row)) (by decide) (Nat.le_of_ble_eq_true rfl) ?_
  intro p e s m args below meth c A Q ls hx hb hr hts hown hlocks hml hname hK hNW hA hAe hQ hw hl
  have hl : lv_has ls 2 [(0, .ref q_p0), (1, .int a1_x)] := hl
  have hw : wk (dC, dI) vwCl A s.heap [[(q_p0, .inr (0, [.ref q_p0_calendars, .ref q_p0_reader, .ref q_p0_current, .ref q_p0_kept, .ref q_p0_latestRing, .ref q_p0_ringFinder, .ref q_p0_longest, .ref q_p0_net, .ref q_p0_spare]))], [(q_p0_latestRing, .inr (8, [.ref q_p0_latestRing_row, .int v_p0_latestRing_length]))], [(q_p0_latestRing_row, .inl (cI, 26, .inl f_p0_latestRing_row))]] s.heap [] := hw
  unfold md_A_ring at hm
  refine lv_aload_n hx hb d_A_ring_0 rfl (lv_at hl 0 rfl) ?_
  refine sg_get (D := (dC, dI)) (ci := 0) (v := .ref q_p0_latestRing) (C := "JobNets") (T := T_0) (N := 9) hx hb hts hin_0 hown hK hw 0 rfl rfl 4 (by decide) (hts _ wd_226) rfl rfl d_A_ring_1 ?_
  refine lv_iload_n hx hb d_A_ring_4 rfl (lv_at hl 1 rfl) ?_
  obtain ⟨o1, h1, hm⟩ := zc_x hm
  refine sg_ci0 (Sr := [[(q_p0, .inr (0, [.ref q_p0_calendars, .ref q_p0_reader, .ref q_p0_current, .ref q_p0_kept, .ref q_p0_latestRing, .ref q_p0_ringFinder, .ref q_p0_longest, .ref q_p0_net, .ref q_p0_spare]))]]) (va_runV (As := [.int a1_x]) (rest := []) ⟨hx, hb, hml, hown, hts⟩ (ct_Way_jobAt l dC dI cI cL cM cZ q_p0_latestRing q_p0_latestRing_row v_p0_latestRing_length f_p0_latestRing_row a1_x N o1 h1 _) (cwV 1 hts (gd_V wd_485 wd_486 wd_487 wd_6 wd_488) rfl rfl rfl (by decide +kernel) ⟨Nat.le_of_ble_eq_true rfl, Nat.le_of_ble_eq_true rfl⟩) (sg_preV (ci := 8) (q0 := 1) hK hNW hw [1, 2] rfl rfl rfl rfl) rfl rfl hl.1 rfl (lv_room (Nat.le_of_ble_eq_true rfl)) d_A_ring_5 ⟨Nat.le_of_ble_eq_true rfl, Nat.le_of_ble_eq_true rfl⟩) hw hA [1, 2] [0] rfl rfl rfl (by decide) (fun H locs hw => ?_)
  have hw : wk (dC, dI) vwCl A s.heap [[(q_p0, .inr (0, [.ref q_p0_calendars, .ref q_p0_reader, .ref q_p0_current, .ref q_p0_kept, .ref q_p0_latestRing, .ref q_p0_ringFinder, .ref q_p0_longest, .ref q_p0_net, .ref q_p0_spare]))], [(q_p0_latestRing, .inr (8, [.ref q_p0_latestRing_row, .int v_p0_latestRing_length]))], [(q_p0_latestRing_row, .inl (cI, 26, .inl f_p0_latestRing_row))]] H locs := hw
  exact so_iret (rf := fun z_ => z_) (Sf := fun z_ => sc_A_ring cI cL cM cZ q_p0 q_p0_calendars q_p0_reader q_p0_current q_p0_kept q_p0_latestRing q_p0_ringFinder q_p0_longest q_p0_net q_p0_spare q_p0_latestRing_row v_p0_latestRing_length f_p0_latestRing_row) hm hx hb hr hlocks hAe hQ hK hw rfl d_A_ring_8
theorem d_A_state_0 : decode prog_1_method_16_code 0 = .ok (.aload_n 0, 1) := by decide +kernel
theorem d_A_state_1 : decode prog_1_method_16_code 1 = .ok (.getfield 61, 3) := by decide +kernel
theorem d_A_state_4 : decode prog_1_method_16_code 4 = .ok (.iload_n 1, 1) := by decide +kernel
theorem d_A_state_5 : decode prog_1_method_16_code 5 = .ok (.invokevirtual 107, 3) := by decide +kernel
theorem d_A_state_8 : decode prog_1_method_16_code 8 = .ok (.ifCond .eq 15, 3) := by decide +kernel
theorem d_A_state_11 : decode prog_1_method_16_code 11 = .ok (.aload_n 0, 1) := by decide +kernel
theorem d_A_state_12 : decode prog_1_method_16_code 12 = .ok (.getfield 26, 3) := by decide +kernel
theorem d_A_state_15 : decode prog_1_method_16_code 15 = .ok (.getfield 150, 3) := by decide +kernel
theorem d_A_state_18 : decode prog_1_method_16_code 18 = .ok (.iload_n 1, 1) := by decide +kernel
theorem d_A_state_19 : decode prog_1_method_16_code 19 = .ok (.iaload, 1) := by decide +kernel
theorem d_A_state_20 : decode prog_1_method_16_code 20 = .ok (.goto 4, 3) := by decide +kernel
theorem d_A_state_23 : decode prog_1_method_16_code 23 = .ok (.iconst (-1), 1) := by decide +kernel
theorem d_A_state_24 : decode prog_1_method_16_code 24 = .ok (.ireturn, 1) := by decide +kernel
def md_A_state (N : Nat) (f_p0_current_states : Nat → Int32) (v_p0_net_jobs : Int32) (a1_x : Int32) : Option (Int32) :=
  (zc (md_Net_has N v_p0_net_jobs a1_x) (fun o1 => (if o1 = 0 then (some (-1 : Int32)) else (if sg_in a1_x 27 = true then (some (f_p0_current_states a1_x.toNatClampNeg)) else none))))
abbrev sc_A_state (cI cL cM cZ : ClassId) (q_p0 q_p0_calendars q_p0_reader q_p0_current q_p0_kept q_p0_latestRing q_p0_ringFinder q_p0_longest q_p0_net q_p0_spare q_p0_current_states q_p0_current_startTimes q_p0_current_loggedJobs q_p0_current_loggedTimes q_p0_net_numbers q_p0_net_needCounts q_p0_net_needed q_p0_net_conditions q_p0_net_allNeeded : Nat) (v_p0_current_starts : Int32) (v_p0_current_time : Int32) (f_p0_current_states : Nat → Int32) (v_p0_net_jobs : Int32) : List va_W := [[(q_p0, .inr (0, [.ref q_p0_calendars, .ref q_p0_reader, .ref q_p0_current, .ref q_p0_kept, .ref q_p0_latestRing, .ref q_p0_ringFinder, .ref q_p0_longest, .ref q_p0_net, .ref q_p0_spare]))], [(q_p0_current, .inr (5, [.ref q_p0_current_states, .ref q_p0_current_startTimes, .ref q_p0_current_loggedJobs, .ref q_p0_current_loggedTimes, .int v_p0_current_starts, .int v_p0_current_time]))], [(q_p0_current_states, .inl (cI, 27, .inl f_p0_current_states))], [(q_p0_net, .inr (4, [.ref q_p0_net_numbers, .ref q_p0_net_needCounts, .ref q_p0_net_needed, .ref q_p0_net_conditions, .ref q_p0_net_allNeeded, .int v_p0_net_jobs]))]]
abbrev rm_A_state : Room := { frames := 1, cells := 0, slots := 0, locals := 21 }
set_option maxHeartbeats 4000000 in
set_option maxRecDepth 100000 in
theorem ct_A_state (l : Launch) (dC : Nat → ClassId) (dI : Nat → Nat → Nat) (cI cL cM cZ : ClassId) (q_p0 q_p0_calendars q_p0_reader q_p0_current q_p0_kept q_p0_latestRing q_p0_ringFinder q_p0_longest q_p0_net q_p0_spare q_p0_current_states q_p0_current_startTimes q_p0_current_loggedJobs q_p0_current_loggedTimes q_p0_net_numbers q_p0_net_needCounts q_p0_net_needed q_p0_net_conditions q_p0_net_allNeeded : Nat) (v_p0_current_starts : Int32) (v_p0_current_time : Int32) (f_p0_current_states : Nat → Int32) (v_p0_net_jobs : Int32) (a1_x : Int32) (N : Nat) (o : Int32) (hm : md_A_state N f_p0_current_states v_p0_net_jobs a1_x = some o) : ∀ sz : Nat, Met l y_A_state ws_A_state rm_A_state (cP (dC, dI) vwCl [(cI, .int), (cL, .long), (cM, .array .int), (cZ, .boolean)] [.ref q_p0, .int a1_x] sz (sc_A_state cI cL cM cZ q_p0 q_p0_calendars q_p0_reader q_p0_current q_p0_kept q_p0_latestRing q_p0_ringFinder q_p0_longest q_p0_net q_p0_spare q_p0_current_states q_p0_current_startTimes q_p0_current_loggedJobs q_p0_current_loggedTimes q_p0_net_numbers q_p0_net_needCounts q_p0_net_needed q_p0_net_conditions q_p0_net_allNeeded v_p0_current_starts v_p0_current_time f_p0_current_states v_p0_net_jobs)) (cQi (dC, dI) vwCl [(cI, .int), (cL, .long), (cM, .array .int), (cZ, .boolean)] sz (sc_A_state cI cL cM cZ q_p0 q_p0_calendars q_p0_reader q_p0_current q_p0_kept q_p0_latestRing q_p0_ringFinder q_p0_longest q_p0_net q_p0_spare q_p0_current_states q_p0_current_startTimes q_p0_current_loggedJobs q_p0_current_loggedTimes q_p0_net_numbers q_p0_net_needCounts q_p0_net_needed q_p0_net_conditions q_p0_net_allNeeded v_p0_current_starts v_p0_current_time f_p0_current_states v_p0_net_jobs) o (sc_A_state cI cL cM cZ q_p0 q_p0_calendars q_p0_reader q_p0_current q_p0_kept q_p0_latestRing q_p0_ringFinder q_p0_longest q_p0_net q_p0_spare q_p0_current_states q_p0_current_startTimes q_p0_current_loggedJobs q_p0_current_loggedTimes q_p0_net_numbers q_p0_net_needCounts q_p0_net_needed q_p0_net_conditions q_p0_net_allNeeded v_p0_current_starts v_p0_current_time f_p0_current_states v_p0_net_jobs)) 0 0 (va_A ((sc_A_state cI cL cM cZ q_p0 q_p0_calendars q_p0_reader q_p0_current q_p0_kept q_p0_latestRing q_p0_ringFinder q_p0_longest q_p0_net q_p0_spare q_p0_current_states q_p0_current_startTimes q_p0_current_loggedJobs q_p0_current_loggedTimes q_p0_net_numbers q_p0_net_needCounts q_p0_net_needed q_p0_net_conditions q_p0_net_allNeeded v_p0_current_starts v_p0_current_time f_p0_current_states v_p0_net_jobs)).flatten sz) := by
  refine sg_met (fun sz => cQi (dC, dI) vwCl [(cI, .int), (cL, .long), (cM, .array .int), (cZ, .boolean)] sz (sc_A_state cI cL cM cZ q_p0 q_p0_calendars q_p0_reader q_p0_current q_p0_kept q_p0_latestRing q_p0_ringFinder q_p0_longest q_p0_net q_p0_spare q_p0_current_states q_p0_current_startTimes q_p0_current_loggedJobs q_p0_current_loggedTimes q_p0_net_numbers q_p0_net_needCounts q_p0_net_needed q_p0_net_conditions q_p0_net_allNeeded v_p0_current_starts v_p0_current_time f_p0_current_states v_p0_net_jobs) o (sc_A_state cI cL cM cZ q_p0 q_p0_calendars q_p0_reader q_p0_current q_p0_kept q_p0_latestRing q_p0_ringFinder q_p0_longest q_p0_net q_p0_spare q_p0_current_states q_p0_current_startTimes q_p0_current_loggedJobs q_p0_current_loggedTimes q_p0_net_numbers q_p0_net_needCounts q_p0_net_needed q_p0_net_conditions q_p0_net_allNeeded v_p0_current_starts v_p0_current_time f_p0_current_states v_p0_net_jobs)) (by decide) (Nat.le_of_ble_eq_true rfl) ?_
  intro p e s m args below meth c A Q ls hx hb hr hts hown hlocks hml hname hK hNW hA hAe hQ hw hl
  have hl : lv_has ls 2 [(0, .ref q_p0), (1, .int a1_x)] := hl
  have hw : wk (dC, dI) vwCl A s.heap [[(q_p0, .inr (0, [.ref q_p0_calendars, .ref q_p0_reader, .ref q_p0_current, .ref q_p0_kept, .ref q_p0_latestRing, .ref q_p0_ringFinder, .ref q_p0_longest, .ref q_p0_net, .ref q_p0_spare]))], [(q_p0_current, .inr (5, [.ref q_p0_current_states, .ref q_p0_current_startTimes, .ref q_p0_current_loggedJobs, .ref q_p0_current_loggedTimes, .int v_p0_current_starts, .int v_p0_current_time]))], [(q_p0_current_states, .inl (cI, 27, .inl f_p0_current_states))], [(q_p0_net, .inr (4, [.ref q_p0_net_numbers, .ref q_p0_net_needCounts, .ref q_p0_net_needed, .ref q_p0_net_conditions, .ref q_p0_net_allNeeded, .int v_p0_net_jobs]))]] s.heap [] := hw
  unfold md_A_state at hm
  refine lv_aload_n hx hb d_A_state_0 rfl (lv_at hl 0 rfl) ?_
  refine sg_get (D := (dC, dI)) (ci := 0) (v := .ref q_p0_net) (C := "JobNets") (T := T_0) (N := 9) hx hb hts hin_0 hown hK hw 0 rfl rfl 7 (by decide) (hts _ wd_229) rfl rfl d_A_state_1 ?_
  refine lv_iload_n hx hb d_A_state_4 rfl (lv_at hl 1 rfl) ?_
  obtain ⟨o1, h1, hm⟩ := zc_x hm
  refine sg_ci0 (Sr := [[(q_p0, .inr (0, [.ref q_p0_calendars, .ref q_p0_reader, .ref q_p0_current, .ref q_p0_kept, .ref q_p0_latestRing, .ref q_p0_ringFinder, .ref q_p0_longest, .ref q_p0_net, .ref q_p0_spare]))], [(q_p0_current, .inr (5, [.ref q_p0_current_states, .ref q_p0_current_startTimes, .ref q_p0_current_loggedJobs, .ref q_p0_current_loggedTimes, .int v_p0_current_starts, .int v_p0_current_time]))], [(q_p0_current_states, .inl (cI, 27, .inl f_p0_current_states))]]) (va_runV (As := [.int a1_x]) (rest := []) ⟨hx, hb, hml, hown, hts⟩ (ct_Net_has l dC dI cI cL cM cZ q_p0_net q_p0_net_numbers q_p0_net_needCounts q_p0_net_needed q_p0_net_conditions q_p0_net_allNeeded v_p0_net_jobs a1_x N o1 h1 _) (cwV 1 hts (gd_V wd_387 wd_388 wd_389 wd_9 wd_390) rfl rfl rfl (by decide +kernel) ⟨Nat.le_of_ble_eq_true rfl, Nat.le_of_ble_eq_true rfl⟩) (sg_preV (ci := 4) (q0 := 3) hK hNW hw [3] rfl rfl rfl rfl) rfl rfl hl.1 rfl (lv_room (Nat.le_of_ble_eq_true rfl)) d_A_state_5 ⟨Nat.le_of_ble_eq_true rfl, Nat.le_of_ble_eq_true rfl⟩) hw hA [3] [0, 1, 2] rfl rfl rfl (by decide) (fun H locs hw => ?_)
  have hw : wk (dC, dI) vwCl A s.heap [[(q_p0, .inr (0, [.ref q_p0_calendars, .ref q_p0_reader, .ref q_p0_current, .ref q_p0_kept, .ref q_p0_latestRing, .ref q_p0_ringFinder, .ref q_p0_longest, .ref q_p0_net, .ref q_p0_spare]))], [(q_p0_current, .inr (5, [.ref q_p0_current_states, .ref q_p0_current_startTimes, .ref q_p0_current_loggedJobs, .ref q_p0_current_loggedTimes, .int v_p0_current_starts, .int v_p0_current_time]))], [(q_p0_current_states, .inl (cI, 27, .inl f_p0_current_states))], [(q_p0_net, .inr (4, [.ref q_p0_net_numbers, .ref q_p0_net_needCounts, .ref q_p0_net_needed, .ref q_p0_net_conditions, .ref q_p0_net_allNeeded, .int v_p0_net_jobs]))]] H locs := hw
  refine bq_t (lv_if_eq (tgt := 23) hx hb d_A_state_8 (by decide)) hm (fun hm => ?_) (fun hm => ?_)
  · refine lv_iconst (v := -1) hx hb d_A_state_23 (by decide) ?_
    exact so_iret (rf := fun z_ => z_) (Sf := fun z_ => sc_A_state cI cL cM cZ q_p0 q_p0_calendars q_p0_reader q_p0_current q_p0_kept q_p0_latestRing q_p0_ringFinder q_p0_longest q_p0_net q_p0_spare q_p0_current_states q_p0_current_startTimes q_p0_current_loggedJobs q_p0_current_loggedTimes q_p0_net_numbers q_p0_net_needCounts q_p0_net_needed q_p0_net_conditions q_p0_net_allNeeded v_p0_current_starts v_p0_current_time f_p0_current_states v_p0_net_jobs) hm hx hb hr hlocks hAe hQ hK hw rfl d_A_state_24
  · refine lv_aload_n hx hb d_A_state_11 rfl (lv_at hl 0 rfl) ?_
    refine sg_get (D := (dC, dI)) (ci := 0) (v := .ref q_p0_current) (C := "JobNets") (T := T_0) (N := 9) hx hb hts hin_0 hown hK hw 0 rfl rfl 2 (by decide) (hts _ wd_224) rfl rfl d_A_state_12 ?_
    refine sg_getN (D := (dC, dI)) (ci := 5) (v := .ref q_p0_current_states) (C := "JobNets$Plan") (T := T_5) (N := 6) hx hb hts hin_5 hown hK hw 1 rfl rfl 0 (by decide) (nF_2 hNW) rfl rfl d_A_state_15 ?_
    refine lv_iload_n hx hb d_A_state_18 rfl (lv_at hl 1 rfl) ?_
    refine sg_iald hx hb hK hw 2 0 rfl rfl d_A_state_19 hm (fun hm => ?_)
    refine lv_goto (tgt := 24) hx hb d_A_state_20 (by decide) ?_
    exact so_iret (rf := fun z_ => z_) (Sf := fun z_ => sc_A_state cI cL cM cZ q_p0 q_p0_calendars q_p0_reader q_p0_current q_p0_kept q_p0_latestRing q_p0_ringFinder q_p0_longest q_p0_net q_p0_spare q_p0_current_states q_p0_current_startTimes q_p0_current_loggedJobs q_p0_current_loggedTimes q_p0_net_numbers q_p0_net_needCounts q_p0_net_needed q_p0_net_conditions q_p0_net_allNeeded v_p0_current_starts v_p0_current_time f_p0_current_states v_p0_net_jobs) hm hx hb hr hlocks hAe hQ hK hw rfl d_A_state_24
theorem d_A_count_0 : decode prog_1_method_17_code 0 = .ok (.iload_n 1, 1) := by decide +kernel
theorem d_A_count_1 : decode prog_1_method_17_code 1 = .ok (.tableswitch 119 0 7 #[47, 55, 63, 71, 79, 91, 99, 107], 47) := by decide +kernel
theorem d_A_count_48 : decode prog_1_method_17_code 48 = .ok (.aload_n 0, 1) := by decide +kernel
theorem d_A_count_49 : decode prog_1_method_17_code 49 = .ok (.getfield 61, 3) := by decide +kernel
theorem d_A_count_52 : decode prog_1_method_17_code 52 = .ok (.getfield 91, 3) := by decide +kernel
theorem d_A_count_55 : decode prog_1_method_17_code 55 = .ok (.ireturn, 1) := by decide +kernel
theorem d_A_count_56 : decode prog_1_method_17_code 56 = .ok (.aload_n 0, 1) := by decide +kernel
theorem d_A_count_57 : decode prog_1_method_17_code 57 = .ok (.getfield 12, 3) := by decide +kernel
theorem d_A_count_60 : decode prog_1_method_17_code 60 = .ok (.getfield 204, 3) := by decide +kernel
theorem d_A_count_63 : decode prog_1_method_17_code 63 = .ok (.ireturn, 1) := by decide +kernel
theorem d_A_count_64 : decode prog_1_method_17_code 64 = .ok (.aload_n 0, 1) := by decide +kernel
theorem d_A_count_65 : decode prog_1_method_17_code 65 = .ok (.getfield 12, 3) := by decide +kernel
theorem d_A_count_68 : decode prog_1_method_17_code 68 = .ok (.getfield 207, 3) := by decide +kernel
theorem d_A_count_71 : decode prog_1_method_17_code 71 = .ok (.ireturn, 1) := by decide +kernel
theorem d_A_count_72 : decode prog_1_method_17_code 72 = .ok (.aload_n 0, 1) := by decide +kernel
theorem d_A_count_73 : decode prog_1_method_17_code 73 = .ok (.getfield 26, 3) := by decide +kernel
theorem d_A_count_76 : decode prog_1_method_17_code 76 = .ok (.getfield 160, 3) := by decide +kernel
theorem d_A_count_79 : decode prog_1_method_17_code 79 = .ok (.ireturn, 1) := by decide +kernel
theorem d_A_count_80 : decode prog_1_method_17_code 80 = .ok (.aload_n 0, 1) := by decide +kernel
theorem d_A_count_81 : decode prog_1_method_17_code 81 = .ok (.getfield 26, 3) := by decide +kernel
theorem d_A_count_84 : decode prog_1_method_17_code 84 = .ok (.aload_n 0, 1) := by decide +kernel
theorem d_A_count_85 : decode prog_1_method_17_code 85 = .ok (.getfield 61, 3) := by decide +kernel
theorem d_A_count_88 : decode prog_1_method_17_code 88 = .ok (.invokevirtual 139, 3) := by decide +kernel
theorem d_A_count_91 : decode prog_1_method_17_code 91 = .ok (.ireturn, 1) := by decide +kernel
theorem d_A_count_92 : decode prog_1_method_17_code 92 = .ok (.aload_n 0, 1) := by decide +kernel
theorem d_A_count_93 : decode prog_1_method_17_code 93 = .ok (.getfield 26, 3) := by decide +kernel
theorem d_A_count_96 : decode prog_1_method_17_code 96 = .ok (.getfield 142, 3) := by decide +kernel
theorem d_A_count_99 : decode prog_1_method_17_code 99 = .ok (.ireturn, 1) := by decide +kernel
theorem d_A_count_100 : decode prog_1_method_17_code 100 = .ok (.aload_n 0, 1) := by decide +kernel
theorem d_A_count_101 : decode prog_1_method_17_code 101 = .ok (.getfield 40, 3) := by decide +kernel
theorem d_A_count_104 : decode prog_1_method_17_code 104 = .ok (.getfield 210, 3) := by decide +kernel
theorem d_A_count_107 : decode prog_1_method_17_code 107 = .ok (.ireturn, 1) := by decide +kernel
theorem d_A_count_108 : decode prog_1_method_17_code 108 = .ok (.aload_n 0, 1) := by decide +kernel
theorem d_A_count_109 : decode prog_1_method_17_code 109 = .ok (.getfield 26, 3) := by decide +kernel
theorem d_A_count_112 : decode prog_1_method_17_code 112 = .ok (.aload_n 0, 1) := by decide +kernel
theorem d_A_count_113 : decode prog_1_method_17_code 113 = .ok (.getfield 61, 3) := by decide +kernel
theorem d_A_count_116 : decode prog_1_method_17_code 116 = .ok (.invokevirtual 213, 3) := by decide +kernel
theorem d_A_count_119 : decode prog_1_method_17_code 119 = .ok (.ireturn, 1) := by decide +kernel
theorem d_A_count_120 : decode prog_1_method_17_code 120 = .ok (.iconst (-1), 1) := by decide +kernel
theorem d_A_count_121 : decode prog_1_method_17_code 121 = .ok (.ireturn, 1) := by decide +kernel
def md_A_count (N : Nat) (v_p0_calendars_made : Int32) (v_p0_calendars_holidayCount : Int32) (v_p0_current_starts : Int32) (v_p0_current_time : Int32) (f_p0_current_states : Nat → Int32) (v_p0_latestRing_length : Int32) (v_p0_net_jobs : Int32) (a1_x : Int32) : Option (Int32) :=
  (if a1_x = (0 : Int32) then (some v_p0_net_jobs) else (if a1_x = (1 : Int32) then (some v_p0_calendars_made) else (if a1_x = (2 : Int32) then (some v_p0_calendars_holidayCount) else (if a1_x = (3 : Int32) then (some v_p0_current_starts) else (if a1_x = (4 : Int32) then (zc (md_Pla_jobsIn N f_p0_current_states v_p0_net_jobs) (fun o6 => (some o6))) else (if a1_x = (5 : Int32) then (some v_p0_current_time) else (if a1_x = (6 : Int32) then (some v_p0_latestRing_length) else (if a1_x = (7 : Int32) then (zc (md_Pla_running N f_p0_current_states v_p0_net_jobs) (fun o10 => (some o10))) else (some (-1 : Int32))))))))))
abbrev sc_A_count (cI cL cM cZ : ClassId) (q_p0 q_p0_calendars q_p0_reader q_p0_current q_p0_kept q_p0_latestRing q_p0_ringFinder q_p0_longest q_p0_net q_p0_spare q_p0_calendars_rules q_p0_calendars_places q_p0_calendars_holidays q_p0_current_states q_p0_current_startTimes q_p0_current_loggedJobs q_p0_current_loggedTimes q_p0_latestRing_row q_p0_net_numbers q_p0_net_needCounts q_p0_net_needed q_p0_net_conditions q_p0_net_allNeeded : Nat) (v_p0_calendars_made : Int32) (v_p0_calendars_holidayCount : Int32) (v_p0_current_starts : Int32) (v_p0_current_time : Int32) (f_p0_current_states : Nat → Int32) (v_p0_latestRing_length : Int32) (v_p0_net_jobs : Int32) : List va_W := [[(q_p0, .inr (0, [.ref q_p0_calendars, .ref q_p0_reader, .ref q_p0_current, .ref q_p0_kept, .ref q_p0_latestRing, .ref q_p0_ringFinder, .ref q_p0_longest, .ref q_p0_net, .ref q_p0_spare]))], [(q_p0_calendars, .inr (1, [.ref q_p0_calendars_rules, .ref q_p0_calendars_places, .ref q_p0_calendars_holidays, .int v_p0_calendars_made, .int v_p0_calendars_holidayCount]))], [(q_p0_current, .inr (5, [.ref q_p0_current_states, .ref q_p0_current_startTimes, .ref q_p0_current_loggedJobs, .ref q_p0_current_loggedTimes, .int v_p0_current_starts, .int v_p0_current_time]))], [(q_p0_current_states, .inl (cI, 27, .inl f_p0_current_states))], [(q_p0_latestRing, .inr (8, [.ref q_p0_latestRing_row, .int v_p0_latestRing_length]))], [(q_p0_net, .inr (4, [.ref q_p0_net_numbers, .ref q_p0_net_needCounts, .ref q_p0_net_needed, .ref q_p0_net_conditions, .ref q_p0_net_allNeeded, .int v_p0_net_jobs]))]]
abbrev rm_A_count : Room := { frames := 1, cells := 0, slots := 0, locals := 23 }
set_option maxHeartbeats 4000000 in
set_option maxRecDepth 100000 in
theorem ct_A_count (l : Launch) (dC : Nat → ClassId) (dI : Nat → Nat → Nat) (cI cL cM cZ : ClassId) (q_p0 q_p0_calendars q_p0_reader q_p0_current q_p0_kept q_p0_latestRing q_p0_ringFinder q_p0_longest q_p0_net q_p0_spare q_p0_calendars_rules q_p0_calendars_places q_p0_calendars_holidays q_p0_current_states q_p0_current_startTimes q_p0_current_loggedJobs q_p0_current_loggedTimes q_p0_latestRing_row q_p0_net_numbers q_p0_net_needCounts q_p0_net_needed q_p0_net_conditions q_p0_net_allNeeded : Nat) (v_p0_calendars_made : Int32) (v_p0_calendars_holidayCount : Int32) (v_p0_current_starts : Int32) (v_p0_current_time : Int32) (f_p0_current_states : Nat → Int32) (v_p0_latestRing_length : Int32) (v_p0_net_jobs : Int32) (a1_x : Int32) (N : Nat) (o : Int32) (hm : md_A_count N v_p0_calendars_made v_p0_calendars_holidayCount v_p0_current_starts v_p0_current_time f_p0_current_states v_p0_latestRing_length v_p0_net_jobs a1_x = some o) : ∀ sz : Nat, Met l y_A_count ws_A_count rm_A_count (cP (dC, dI) vwCl [(cI, .int), (cL, .long), (cM, .array .int), (cZ, .boolean)] [.ref q_p0, .int a1_x] sz (sc_A_count cI cL cM cZ q_p0 q_p0_calendars q_p0_reader q_p0_current q_p0_kept q_p0_latestRing q_p0_ringFinder q_p0_longest q_p0_net q_p0_spare q_p0_calendars_rules q_p0_calendars_places q_p0_calendars_holidays q_p0_current_states q_p0_current_startTimes q_p0_current_loggedJobs q_p0_current_loggedTimes q_p0_latestRing_row q_p0_net_numbers q_p0_net_needCounts q_p0_net_needed q_p0_net_conditions q_p0_net_allNeeded v_p0_calendars_made v_p0_calendars_holidayCount v_p0_current_starts v_p0_current_time f_p0_current_states v_p0_latestRing_length v_p0_net_jobs)) (cQi (dC, dI) vwCl [(cI, .int), (cL, .long), (cM, .array .int), (cZ, .boolean)] sz (sc_A_count cI cL cM cZ q_p0 q_p0_calendars q_p0_reader q_p0_current q_p0_kept q_p0_latestRing q_p0_ringFinder q_p0_longest q_p0_net q_p0_spare q_p0_calendars_rules q_p0_calendars_places q_p0_calendars_holidays q_p0_current_states q_p0_current_startTimes q_p0_current_loggedJobs q_p0_current_loggedTimes q_p0_latestRing_row q_p0_net_numbers q_p0_net_needCounts q_p0_net_needed q_p0_net_conditions q_p0_net_allNeeded v_p0_calendars_made v_p0_calendars_holidayCount v_p0_current_starts v_p0_current_time f_p0_current_states v_p0_latestRing_length v_p0_net_jobs) o (sc_A_count cI cL cM cZ q_p0 q_p0_calendars q_p0_reader q_p0_current q_p0_kept q_p0_latestRing q_p0_ringFinder q_p0_longest q_p0_net q_p0_spare q_p0_calendars_rules q_p0_calendars_places q_p0_calendars_holidays q_p0_current_states q_p0_current_startTimes q_p0_current_loggedJobs q_p0_current_loggedTimes q_p0_latestRing_row q_p0_net_numbers q_p0_net_needCounts q_p0_net_needed q_p0_net_conditions q_p0_net_allNeeded v_p0_calendars_made v_p0_calendars_holidayCount v_p0_current_starts v_p0_current_time f_p0_current_states v_p0_latestRing_length v_p0_net_jobs)) 0 0 (va_A ((sc_A_count cI cL cM cZ q_p0 q_p0_calendars q_p0_reader q_p0_current q_p0_kept q_p0_latestRing q_p0_ringFinder q_p0_longest q_p0_net q_p0_spare q_p0_calendars_rules q_p0_calendars_places q_p0_calendars_holidays q_p0_current_states q_p0_current_startTimes q_p0_current_loggedJobs q_p0_current_loggedTimes q_p0_latestRing_row q_p0_net_numbers q_p0_net_needCounts q_p0_net_needed q_p0_net_conditions q_p0_net_allNeeded v_p0_calendars_made v_p0_calendars_holidayCount v_p0_current_starts v_p0_current_time f_p0_current_states v_p0_latestRing_length v_p0_net_jobs)).flatten sz) := by
  refine sg_met (fun sz => cQi (dC, dI) vwCl [(cI, .int), (cL, .long), (cM, .array .int), (cZ, .boolean)] sz (sc_A_count cI cL cM cZ q_p0 q_p0_calendars q_p0_reader q_p0_current q_p0_kept q_p0_latestRing q_p0_ringFinder q_p0_longest q_p0_net q_p0_spare q_p0_calendars_rules q_p0_calendars_places q_p0_calendars_holidays q_p0_current_states q_p0_current_startTimes q_p0_current_loggedJobs q_p0_current_loggedTimes q_p0_latestRing_row q_p0_net_numbers q_p0_net_needCounts q_p0_net_needed q_p0_net_conditions q_p0_net_allNeeded v_p0_calendars_made v_p0_calendars_holidayCount v_p0_current_starts v_p0_current_time f_p0_current_states v_p0_latestRing_length v_p0_net_jobs) o (sc_A_count cI cL cM cZ q_p0 q_p0_calendars q_p0_reader q_p0_current q_p0_kept q_p0_latestRing q_p0_ringFinder q_p0_longest q_p0_net q_p0_spare q_p0_calendars_rules q_p0_calendars_places q_p0_calendars_holidays q_p0_current_states q_p0_current_startTimes q_p0_current_loggedJobs q_p0_current_loggedTimes q_p0_latestRing_row q_p0_net_numbers q_p0_net_needCounts q_p0_net_needed q_p0_net_conditions q_p0_net_allNeeded v_p0_calendars_made v_p0_calendars_holidayCount v_p0_current_starts v_p0_current_time f_p0_current_states v_p0_latestRing_length v_p0_net_jobs)) (by decide) (Nat.le_of_ble_eq_true rfl) ?_
  intro p e s m args below meth c A Q ls hx hb hr hts hown hlocks hml hname hK hNW hA hAe hQ hw hl
  have hl : lv_has ls 2 [(0, .ref q_p0), (1, .int a1_x)] := hl
  have hw : wk (dC, dI) vwCl A s.heap [[(q_p0, .inr (0, [.ref q_p0_calendars, .ref q_p0_reader, .ref q_p0_current, .ref q_p0_kept, .ref q_p0_latestRing, .ref q_p0_ringFinder, .ref q_p0_longest, .ref q_p0_net, .ref q_p0_spare]))], [(q_p0_calendars, .inr (1, [.ref q_p0_calendars_rules, .ref q_p0_calendars_places, .ref q_p0_calendars_holidays, .int v_p0_calendars_made, .int v_p0_calendars_holidayCount]))], [(q_p0_current, .inr (5, [.ref q_p0_current_states, .ref q_p0_current_startTimes, .ref q_p0_current_loggedJobs, .ref q_p0_current_loggedTimes, .int v_p0_current_starts, .int v_p0_current_time]))], [(q_p0_current_states, .inl (cI, 27, .inl f_p0_current_states))], [(q_p0_latestRing, .inr (8, [.ref q_p0_latestRing_row, .int v_p0_latestRing_length]))], [(q_p0_net, .inr (4, [.ref q_p0_net_numbers, .ref q_p0_net_needCounts, .ref q_p0_net_needed, .ref q_p0_net_conditions, .ref q_p0_net_allNeeded, .int v_p0_net_jobs]))]] s.heap [] := hw
  unfold md_A_count at hm
  refine lv_iload_n hx hb d_A_count_0 rfl (lv_at hl 1 rfl) ?_
  refine it_c hm (fun hc1 hm => ?_) (fun hc1 hm => ?_)
  · refine lv_tableIn (tgt := 48) hx hb d_A_count_1 (by rw [hc1]; decide) (by rw [hc1]; decide) (by rw [hc1]; rfl) (by decide) ?_
    refine lv_aload_n hx hb d_A_count_48 rfl (lv_at hl 0 rfl) ?_
    refine sg_get (D := (dC, dI)) (ci := 0) (v := .ref q_p0_net) (C := "JobNets") (T := T_0) (N := 9) hx hb hts hin_0 hown hK hw 0 rfl rfl 7 (by decide) (hts _ wd_229) rfl rfl d_A_count_49 ?_
    refine sg_getN (D := (dC, dI)) (ci := 4) (v := .int v_p0_net_jobs) (C := "JobNets$Net") (T := T_4) (N := 6) hx hb hts hin_4 hown hK hw 5 rfl rfl 5 (by decide) (nF_28 hNW) rfl rfl d_A_count_52 ?_
    exact so_iret (rf := fun z_ => z_) (Sf := fun z_ => sc_A_count cI cL cM cZ q_p0 q_p0_calendars q_p0_reader q_p0_current q_p0_kept q_p0_latestRing q_p0_ringFinder q_p0_longest q_p0_net q_p0_spare q_p0_calendars_rules q_p0_calendars_places q_p0_calendars_holidays q_p0_current_states q_p0_current_startTimes q_p0_current_loggedJobs q_p0_current_loggedTimes q_p0_latestRing_row q_p0_net_numbers q_p0_net_needCounts q_p0_net_needed q_p0_net_conditions q_p0_net_allNeeded v_p0_calendars_made v_p0_calendars_holidayCount v_p0_current_starts v_p0_current_time f_p0_current_states v_p0_latestRing_length v_p0_net_jobs) hm hx hb hr hlocks hAe hQ hK hw rfl d_A_count_55
  · skip
    refine it_c hm (fun hc2 hm => ?_) (fun hc2 hm => ?_)
    · refine lv_tableIn (tgt := 56) hx hb d_A_count_1 (by rw [hc2]; decide) (by rw [hc2]; decide) (by rw [hc2]; rfl) (by decide) ?_
      refine lv_aload_n hx hb d_A_count_56 rfl (lv_at hl 0 rfl) ?_
      refine sg_get (D := (dC, dI)) (ci := 0) (v := .ref q_p0_calendars) (C := "JobNets") (T := T_0) (N := 9) hx hb hts hin_0 hown hK hw 0 rfl rfl 0 (by decide) (hts _ wd_222) rfl rfl d_A_count_57 ?_
      refine sg_getN (D := (dC, dI)) (ci := 1) (v := .int v_p0_calendars_made) (C := "JobNets$Calendars") (T := T_1) (N := 5) hx hb hts hin_1 hown hK hw 1 rfl rfl 3 (by decide) (nF_0 hNW) rfl rfl d_A_count_60 ?_
      exact so_iret (rf := fun z_ => z_) (Sf := fun z_ => sc_A_count cI cL cM cZ q_p0 q_p0_calendars q_p0_reader q_p0_current q_p0_kept q_p0_latestRing q_p0_ringFinder q_p0_longest q_p0_net q_p0_spare q_p0_calendars_rules q_p0_calendars_places q_p0_calendars_holidays q_p0_current_states q_p0_current_startTimes q_p0_current_loggedJobs q_p0_current_loggedTimes q_p0_latestRing_row q_p0_net_numbers q_p0_net_needCounts q_p0_net_needed q_p0_net_conditions q_p0_net_allNeeded v_p0_calendars_made v_p0_calendars_holidayCount v_p0_current_starts v_p0_current_time f_p0_current_states v_p0_latestRing_length v_p0_net_jobs) hm hx hb hr hlocks hAe hQ hK hw rfl d_A_count_63
    · skip
      refine it_c hm (fun hc3 hm => ?_) (fun hc3 hm => ?_)
      · refine lv_tableIn (tgt := 64) hx hb d_A_count_1 (by rw [hc3]; decide) (by rw [hc3]; decide) (by rw [hc3]; rfl) (by decide) ?_
        refine lv_aload_n hx hb d_A_count_64 rfl (lv_at hl 0 rfl) ?_
        refine sg_get (D := (dC, dI)) (ci := 0) (v := .ref q_p0_calendars) (C := "JobNets") (T := T_0) (N := 9) hx hb hts hin_0 hown hK hw 0 rfl rfl 0 (by decide) (hts _ wd_222) rfl rfl d_A_count_65 ?_
        refine sg_getN (D := (dC, dI)) (ci := 1) (v := .int v_p0_calendars_holidayCount) (C := "JobNets$Calendars") (T := T_1) (N := 5) hx hb hts hin_1 hown hK hw 1 rfl rfl 4 (by decide) (nF_1 hNW) rfl rfl d_A_count_68 ?_
        exact so_iret (rf := fun z_ => z_) (Sf := fun z_ => sc_A_count cI cL cM cZ q_p0 q_p0_calendars q_p0_reader q_p0_current q_p0_kept q_p0_latestRing q_p0_ringFinder q_p0_longest q_p0_net q_p0_spare q_p0_calendars_rules q_p0_calendars_places q_p0_calendars_holidays q_p0_current_states q_p0_current_startTimes q_p0_current_loggedJobs q_p0_current_loggedTimes q_p0_latestRing_row q_p0_net_numbers q_p0_net_needCounts q_p0_net_needed q_p0_net_conditions q_p0_net_allNeeded v_p0_calendars_made v_p0_calendars_holidayCount v_p0_current_starts v_p0_current_time f_p0_current_states v_p0_latestRing_length v_p0_net_jobs) hm hx hb hr hlocks hAe hQ hK hw rfl d_A_count_71
      · skip
        refine it_c hm (fun hc4 hm => ?_) (fun hc4 hm => ?_)
        · refine lv_tableIn (tgt := 72) hx hb d_A_count_1 (by rw [hc4]; decide) (by rw [hc4]; decide) (by rw [hc4]; rfl) (by decide) ?_
          refine lv_aload_n hx hb d_A_count_72 rfl (lv_at hl 0 rfl) ?_
          refine sg_get (D := (dC, dI)) (ci := 0) (v := .ref q_p0_current) (C := "JobNets") (T := T_0) (N := 9) hx hb hts hin_0 hown hK hw 0 rfl rfl 2 (by decide) (hts _ wd_224) rfl rfl d_A_count_73 ?_
          refine sg_getN (D := (dC, dI)) (ci := 5) (v := .int v_p0_current_starts) (C := "JobNets$Plan") (T := T_5) (N := 6) hx hb hts hin_5 hown hK hw 2 rfl rfl 4 (by decide) (nF_6 hNW) rfl rfl d_A_count_76 ?_
          exact so_iret (rf := fun z_ => z_) (Sf := fun z_ => sc_A_count cI cL cM cZ q_p0 q_p0_calendars q_p0_reader q_p0_current q_p0_kept q_p0_latestRing q_p0_ringFinder q_p0_longest q_p0_net q_p0_spare q_p0_calendars_rules q_p0_calendars_places q_p0_calendars_holidays q_p0_current_states q_p0_current_startTimes q_p0_current_loggedJobs q_p0_current_loggedTimes q_p0_latestRing_row q_p0_net_numbers q_p0_net_needCounts q_p0_net_needed q_p0_net_conditions q_p0_net_allNeeded v_p0_calendars_made v_p0_calendars_holidayCount v_p0_current_starts v_p0_current_time f_p0_current_states v_p0_latestRing_length v_p0_net_jobs) hm hx hb hr hlocks hAe hQ hK hw rfl d_A_count_79
        · skip
          refine it_c hm (fun hc5 hm => ?_) (fun hc5 hm => ?_)
          · refine lv_tableIn (tgt := 80) hx hb d_A_count_1 (by rw [hc5]; decide) (by rw [hc5]; decide) (by rw [hc5]; rfl) (by decide) ?_
            refine lv_aload_n hx hb d_A_count_80 rfl (lv_at hl 0 rfl) ?_
            refine sg_get (D := (dC, dI)) (ci := 0) (v := .ref q_p0_current) (C := "JobNets") (T := T_0) (N := 9) hx hb hts hin_0 hown hK hw 0 rfl rfl 2 (by decide) (hts _ wd_224) rfl rfl d_A_count_81 ?_
            refine lv_aload_n hx hb d_A_count_84 rfl (lv_at hl 0 rfl) ?_
            refine sg_get (D := (dC, dI)) (ci := 0) (v := .ref q_p0_net) (C := "JobNets") (T := T_0) (N := 9) hx hb hts hin_0 hown hK hw 0 rfl rfl 7 (by decide) (hts _ wd_229) rfl rfl d_A_count_85 ?_
            obtain ⟨o6, h6, hm⟩ := zc_x hm
            refine sg_ci0 (Sr := [[(q_p0, .inr (0, [.ref q_p0_calendars, .ref q_p0_reader, .ref q_p0_current, .ref q_p0_kept, .ref q_p0_latestRing, .ref q_p0_ringFinder, .ref q_p0_longest, .ref q_p0_net, .ref q_p0_spare]))], [(q_p0_calendars, .inr (1, [.ref q_p0_calendars_rules, .ref q_p0_calendars_places, .ref q_p0_calendars_holidays, .int v_p0_calendars_made, .int v_p0_calendars_holidayCount]))], [(q_p0_latestRing, .inr (8, [.ref q_p0_latestRing_row, .int v_p0_latestRing_length]))]]) (va_runV (As := [.ref q_p0_net]) (rest := []) ⟨hx, hb, hml, hown, hts⟩ (ct_Pla_jobsIn l dC dI cI cL cM cZ q_p0_current q_p0_net q_p0_current_states q_p0_current_startTimes q_p0_current_loggedJobs q_p0_current_loggedTimes q_p0_net_numbers q_p0_net_needCounts q_p0_net_needed q_p0_net_conditions q_p0_net_allNeeded v_p0_current_starts v_p0_current_time f_p0_current_states v_p0_net_jobs N o6 h6 _) (cwV 1 hts (gd_V wd_447 wd_448 wd_449 wd_4 wd_450) rfl rfl rfl (by decide +kernel) ⟨Nat.le_of_ble_eq_true rfl, Nat.le_of_ble_eq_true rfl⟩) (sg_preV (ci := 5) (q0 := 2) hK hNW hw [2, 3, 5] rfl rfl rfl rfl) rfl rfl hl.1 rfl (lv_room (Nat.le_of_ble_eq_true rfl)) d_A_count_88 ⟨Nat.le_of_ble_eq_true rfl, Nat.le_of_ble_eq_true rfl⟩) hw hA [2, 3, 5] [0, 1, 4] rfl rfl rfl (by decide) (fun H locs hw => ?_)
            have hw : wk (dC, dI) vwCl A s.heap [[(q_p0, .inr (0, [.ref q_p0_calendars, .ref q_p0_reader, .ref q_p0_current, .ref q_p0_kept, .ref q_p0_latestRing, .ref q_p0_ringFinder, .ref q_p0_longest, .ref q_p0_net, .ref q_p0_spare]))], [(q_p0_calendars, .inr (1, [.ref q_p0_calendars_rules, .ref q_p0_calendars_places, .ref q_p0_calendars_holidays, .int v_p0_calendars_made, .int v_p0_calendars_holidayCount]))], [(q_p0_latestRing, .inr (8, [.ref q_p0_latestRing_row, .int v_p0_latestRing_length]))], [(q_p0_current, .inr (5, [.ref q_p0_current_states, .ref q_p0_current_startTimes, .ref q_p0_current_loggedJobs, .ref q_p0_current_loggedTimes, .int v_p0_current_starts, .int v_p0_current_time]))], [(q_p0_current_states, .inl (cI, 27, .inl f_p0_current_states))], [(q_p0_net, .inr (4, [.ref q_p0_net_numbers, .ref q_p0_net_needCounts, .ref q_p0_net_needed, .ref q_p0_net_conditions, .ref q_p0_net_allNeeded, .int v_p0_net_jobs]))]] H locs := hw
            exact so_iret (rf := fun z_ => z_) (Sf := fun z_ => sc_A_count cI cL cM cZ q_p0 q_p0_calendars q_p0_reader q_p0_current q_p0_kept q_p0_latestRing q_p0_ringFinder q_p0_longest q_p0_net q_p0_spare q_p0_calendars_rules q_p0_calendars_places q_p0_calendars_holidays q_p0_current_states q_p0_current_startTimes q_p0_current_loggedJobs q_p0_current_loggedTimes q_p0_latestRing_row q_p0_net_numbers q_p0_net_needCounts q_p0_net_needed q_p0_net_conditions q_p0_net_allNeeded v_p0_calendars_made v_p0_calendars_holidayCount v_p0_current_starts v_p0_current_time f_p0_current_states v_p0_latestRing_length v_p0_net_jobs) hm hx hb hr hlocks hAe hQ hK (hw.sub [0, 1, 3, 4, 2, 5] (by decide) rfl) rfl d_A_count_91
          · skip
            refine it_c hm (fun hc7 hm => ?_) (fun hc7 hm => ?_)
            · refine lv_tableIn (tgt := 92) hx hb d_A_count_1 (by rw [hc7]; decide) (by rw [hc7]; decide) (by rw [hc7]; rfl) (by decide) ?_
              refine lv_aload_n hx hb d_A_count_92 rfl (lv_at hl 0 rfl) ?_
              refine sg_get (D := (dC, dI)) (ci := 0) (v := .ref q_p0_current) (C := "JobNets") (T := T_0) (N := 9) hx hb hts hin_0 hown hK hw 0 rfl rfl 2 (by decide) (hts _ wd_224) rfl rfl d_A_count_93 ?_
              refine sg_getN (D := (dC, dI)) (ci := 5) (v := .int v_p0_current_time) (C := "JobNets$Plan") (T := T_5) (N := 6) hx hb hts hin_5 hown hK hw 2 rfl rfl 5 (by decide) (nF_7 hNW) rfl rfl d_A_count_96 ?_
              exact so_iret (rf := fun z_ => z_) (Sf := fun z_ => sc_A_count cI cL cM cZ q_p0 q_p0_calendars q_p0_reader q_p0_current q_p0_kept q_p0_latestRing q_p0_ringFinder q_p0_longest q_p0_net q_p0_spare q_p0_calendars_rules q_p0_calendars_places q_p0_calendars_holidays q_p0_current_states q_p0_current_startTimes q_p0_current_loggedJobs q_p0_current_loggedTimes q_p0_latestRing_row q_p0_net_numbers q_p0_net_needCounts q_p0_net_needed q_p0_net_conditions q_p0_net_allNeeded v_p0_calendars_made v_p0_calendars_holidayCount v_p0_current_starts v_p0_current_time f_p0_current_states v_p0_latestRing_length v_p0_net_jobs) hm hx hb hr hlocks hAe hQ hK hw rfl d_A_count_99
            · skip
              refine it_c hm (fun hc8 hm => ?_) (fun hc8 hm => ?_)
              · refine lv_tableIn (tgt := 100) hx hb d_A_count_1 (by rw [hc8]; decide) (by rw [hc8]; decide) (by rw [hc8]; rfl) (by decide) ?_
                refine lv_aload_n hx hb d_A_count_100 rfl (lv_at hl 0 rfl) ?_
                refine sg_get (D := (dC, dI)) (ci := 0) (v := .ref q_p0_latestRing) (C := "JobNets") (T := T_0) (N := 9) hx hb hts hin_0 hown hK hw 0 rfl rfl 4 (by decide) (hts _ wd_226) rfl rfl d_A_count_101 ?_
                refine sg_getN (D := (dC, dI)) (ci := 8) (v := .int v_p0_latestRing_length) (C := "JobNets$Way") (T := T_8) (N := 2) hx hb hts hin_8 hown hK hw 4 rfl rfl 1 (by decide) (nF_10 hNW) rfl rfl d_A_count_104 ?_
                exact so_iret (rf := fun z_ => z_) (Sf := fun z_ => sc_A_count cI cL cM cZ q_p0 q_p0_calendars q_p0_reader q_p0_current q_p0_kept q_p0_latestRing q_p0_ringFinder q_p0_longest q_p0_net q_p0_spare q_p0_calendars_rules q_p0_calendars_places q_p0_calendars_holidays q_p0_current_states q_p0_current_startTimes q_p0_current_loggedJobs q_p0_current_loggedTimes q_p0_latestRing_row q_p0_net_numbers q_p0_net_needCounts q_p0_net_needed q_p0_net_conditions q_p0_net_allNeeded v_p0_calendars_made v_p0_calendars_holidayCount v_p0_current_starts v_p0_current_time f_p0_current_states v_p0_latestRing_length v_p0_net_jobs) hm hx hb hr hlocks hAe hQ hK hw rfl d_A_count_107
              · skip
                refine it_c hm (fun hc9 hm => ?_) (fun hc9 hm => ?_)
                · refine lv_tableIn (tgt := 108) hx hb d_A_count_1 (by rw [hc9]; decide) (by rw [hc9]; decide) (by rw [hc9]; rfl) (by decide) ?_
                  refine lv_aload_n hx hb d_A_count_108 rfl (lv_at hl 0 rfl) ?_
                  refine sg_get (D := (dC, dI)) (ci := 0) (v := .ref q_p0_current) (C := "JobNets") (T := T_0) (N := 9) hx hb hts hin_0 hown hK hw 0 rfl rfl 2 (by decide) (hts _ wd_224) rfl rfl d_A_count_109 ?_
                  refine lv_aload_n hx hb d_A_count_112 rfl (lv_at hl 0 rfl) ?_
                  refine sg_get (D := (dC, dI)) (ci := 0) (v := .ref q_p0_net) (C := "JobNets") (T := T_0) (N := 9) hx hb hts hin_0 hown hK hw 0 rfl rfl 7 (by decide) (hts _ wd_229) rfl rfl d_A_count_113 ?_
                  obtain ⟨o10, h10, hm⟩ := zc_x hm
                  refine sg_ci0 (Sr := [[(q_p0, .inr (0, [.ref q_p0_calendars, .ref q_p0_reader, .ref q_p0_current, .ref q_p0_kept, .ref q_p0_latestRing, .ref q_p0_ringFinder, .ref q_p0_longest, .ref q_p0_net, .ref q_p0_spare]))], [(q_p0_calendars, .inr (1, [.ref q_p0_calendars_rules, .ref q_p0_calendars_places, .ref q_p0_calendars_holidays, .int v_p0_calendars_made, .int v_p0_calendars_holidayCount]))], [(q_p0_latestRing, .inr (8, [.ref q_p0_latestRing_row, .int v_p0_latestRing_length]))]]) (va_runV (As := [.ref q_p0_net]) (rest := []) ⟨hx, hb, hml, hown, hts⟩ (ct_Pla_running l dC dI cI cL cM cZ q_p0_current q_p0_net q_p0_current_states q_p0_current_startTimes q_p0_current_loggedJobs q_p0_current_loggedTimes q_p0_net_numbers q_p0_net_needCounts q_p0_net_needed q_p0_net_conditions q_p0_net_allNeeded v_p0_current_starts v_p0_current_time f_p0_current_states v_p0_net_jobs N o10 h10 _) (cwV 1 hts (gd_V wd_532 wd_533 wd_534 wd_4 wd_535) rfl rfl rfl (by decide +kernel) ⟨Nat.le_of_ble_eq_true rfl, Nat.le_of_ble_eq_true rfl⟩) (sg_preV (ci := 5) (q0 := 2) hK hNW hw [2, 3, 5] rfl rfl rfl rfl) rfl rfl hl.1 rfl (lv_room (Nat.le_of_ble_eq_true rfl)) d_A_count_116 ⟨Nat.le_of_ble_eq_true rfl, Nat.le_of_ble_eq_true rfl⟩) hw hA [2, 3, 5] [0, 1, 4] rfl rfl rfl (by decide) (fun H locs hw => ?_)
                  have hw : wk (dC, dI) vwCl A s.heap [[(q_p0, .inr (0, [.ref q_p0_calendars, .ref q_p0_reader, .ref q_p0_current, .ref q_p0_kept, .ref q_p0_latestRing, .ref q_p0_ringFinder, .ref q_p0_longest, .ref q_p0_net, .ref q_p0_spare]))], [(q_p0_calendars, .inr (1, [.ref q_p0_calendars_rules, .ref q_p0_calendars_places, .ref q_p0_calendars_holidays, .int v_p0_calendars_made, .int v_p0_calendars_holidayCount]))], [(q_p0_latestRing, .inr (8, [.ref q_p0_latestRing_row, .int v_p0_latestRing_length]))], [(q_p0_current, .inr (5, [.ref q_p0_current_states, .ref q_p0_current_startTimes, .ref q_p0_current_loggedJobs, .ref q_p0_current_loggedTimes, .int v_p0_current_starts, .int v_p0_current_time]))], [(q_p0_current_states, .inl (cI, 27, .inl f_p0_current_states))], [(q_p0_net, .inr (4, [.ref q_p0_net_numbers, .ref q_p0_net_needCounts, .ref q_p0_net_needed, .ref q_p0_net_conditions, .ref q_p0_net_allNeeded, .int v_p0_net_jobs]))]] H locs := hw
                  exact so_iret (rf := fun z_ => z_) (Sf := fun z_ => sc_A_count cI cL cM cZ q_p0 q_p0_calendars q_p0_reader q_p0_current q_p0_kept q_p0_latestRing q_p0_ringFinder q_p0_longest q_p0_net q_p0_spare q_p0_calendars_rules q_p0_calendars_places q_p0_calendars_holidays q_p0_current_states q_p0_current_startTimes q_p0_current_loggedJobs q_p0_current_loggedTimes q_p0_latestRing_row q_p0_net_numbers q_p0_net_needCounts q_p0_net_needed q_p0_net_conditions q_p0_net_allNeeded v_p0_calendars_made v_p0_calendars_holidayCount v_p0_current_starts v_p0_current_time f_p0_current_states v_p0_latestRing_length v_p0_net_jobs) hm hx hb hr hlocks hAe hQ hK (hw.sub [0, 1, 3, 4, 2, 5] (by decide) rfl) rfl d_A_count_119
                · skip
                  refine lv_tableOut (tgt := 120) hx hb d_A_count_1 (by have mhc1 := i32_nk (0) (0) (by decide) hc1; have mhc2 := i32_nk (1) (1) (by decide) hc2; have mhc3 := i32_nk (2) (2) (by decide) hc3; have mhc4 := i32_nk (3) (3) (by decide) hc4; have mhc5 := i32_nk (4) (4) (by decide) hc5; have mhc7 := i32_nk (5) (5) (by decide) hc7; have mhc8 := i32_nk (6) (6) (by decide) hc8; have mhc9 := i32_nk (7) (7) (by decide) hc9; omega) (by decide) ?_
                  refine lv_iconst (v := -1) hx hb d_A_count_120 (by decide) ?_
                  exact so_iret (rf := fun z_ => z_) (Sf := fun z_ => sc_A_count cI cL cM cZ q_p0 q_p0_calendars q_p0_reader q_p0_current q_p0_kept q_p0_latestRing q_p0_ringFinder q_p0_longest q_p0_net q_p0_spare q_p0_calendars_rules q_p0_calendars_places q_p0_calendars_holidays q_p0_current_states q_p0_current_startTimes q_p0_current_loggedJobs q_p0_current_loggedTimes q_p0_latestRing_row q_p0_net_numbers q_p0_net_needCounts q_p0_net_needed q_p0_net_conditions q_p0_net_allNeeded v_p0_calendars_made v_p0_calendars_holidayCount v_p0_current_starts v_p0_current_time f_p0_current_states v_p0_latestRing_length v_p0_net_jobs) hm hx hb hr hlocks hAe hQ hK hw rfl d_A_count_121
theorem d_A_isDay_0 : decode prog_1_method_18_code 0 = .ok (.lload_n 0, 1) := by decide +kernel
theorem d_A_isDay_1 : decode prog_1_method_18_code 1 = .ok (.lconst 0, 1) := by decide +kernel
theorem d_A_isDay_2 : decode prog_1_method_18_code 2 = .ok (.lcmp, 1) := by decide +kernel
theorem d_A_isDay_3 : decode prog_1_method_18_code 3 = .ok (.ifCond .lt 15, 3) := by decide +kernel
theorem d_A_isDay_6 : decode prog_1_method_18_code 6 = .ok (.lload_n 0, 1) := by decide +kernel
theorem d_A_isDay_7 : decode prog_1_method_18_code 7 = .ok (.ldc2_w 216, 3) := by decide +kernel
theorem d_A_isDay_10 : decode prog_1_method_18_code 10 = .ok (.lcmp, 1) := by decide +kernel
theorem d_A_isDay_11 : decode prog_1_method_18_code 11 = .ok (.ifCond .gt 7, 3) := by decide +kernel
theorem d_A_isDay_14 : decode prog_1_method_18_code 14 = .ok (.iconst 1, 1) := by decide +kernel
theorem d_A_isDay_15 : decode prog_1_method_18_code 15 = .ok (.goto 4, 3) := by decide +kernel
theorem d_A_isDay_18 : decode prog_1_method_18_code 18 = .ok (.iconst 0, 1) := by decide +kernel
theorem d_A_isDay_19 : decode prog_1_method_18_code 19 = .ok (.ireturn, 1) := by decide +kernel
def md_A_isDay (N : Nat) (a0_x : Int64) : Option (Int32) :=
  (if (lg_cmp a0_x (0 : Int64)) < 0 then (some (0 : Int32)) else (if 0 < (lg_cmp a0_x (1000000 : Int64)) then (some (0 : Int32)) else (some (1 : Int32))))
abbrev sc_A_isDay (cI cL cM cZ : ClassId) : List va_W := []
abbrev rm_A_isDay : Room := { frames := 0, cells := 0, slots := 0, locals := 0 }
set_option maxHeartbeats 4000000 in
set_option maxRecDepth 100000 in
theorem ct_A_isDay (l : Launch) (dC : Nat → ClassId) (dI : Nat → Nat → Nat) (cI cL cM cZ : ClassId) (a0_x : Int64) (N : Nat) (o : Int32) (hm : md_A_isDay N a0_x = some o) : ∀ sz : Nat, Met l y_A_isDay ws_A_isDay rm_A_isDay (cP (dC, dI) vwCl [(cI, .int), (cL, .long), (cM, .array .int), (cZ, .boolean)] [.long a0_x] sz (sc_A_isDay cI cL cM cZ)) (cQi (dC, dI) vwCl [(cI, .int), (cL, .long), (cM, .array .int), (cZ, .boolean)] sz (sc_A_isDay cI cL cM cZ) o (sc_A_isDay cI cL cM cZ)) 0 0 (va_A ((sc_A_isDay cI cL cM cZ)).flatten sz) := by
  refine sg_met (fun sz => cQi (dC, dI) vwCl [(cI, .int), (cL, .long), (cM, .array .int), (cZ, .boolean)] sz (sc_A_isDay cI cL cM cZ) o (sc_A_isDay cI cL cM cZ)) (by decide) (Nat.le_of_ble_eq_true rfl) ?_
  intro p e s m args below meth c A Q ls hx hb hr hts hown hlocks hml hname hK hNW hA hAe hQ hw hl
  have hl : lv_has ls 2 [(0, .long a0_x)] := hl
  have hw : wk (dC, dI) vwCl A s.heap [] s.heap [] := hw
  unfold md_A_isDay at hm
  refine lv_lload_n hx hb d_A_isDay_0 rfl (lv_at hl 0 rfl) ?_
  refine lv_lconst (v := 0) hx hb d_A_isDay_1 (by decide) ?_
  refine W.lcmp hx hb d_A_isDay_2 ?_
  refine bq_t (lv_if_lt (tgt := 18) hx hb d_A_isDay_3 (by decide)) hm (fun hm => ?_) (fun hm => ?_)
  · refine lv_iconst (v := 0) hx hb d_A_isDay_18 (by decide) ?_
    exact so_zret (rf := fun z_ => z_) (Sf := fun z_ => sc_A_isDay cI cL cM cZ) hm hx hb hr rfl hlocks hAe hQ hK hw rfl d_A_isDay_19
  · refine lv_lload_n hx hb d_A_isDay_6 rfl (lv_at hl 0 rfl) ?_
    refine lv_ldc2 hx hb (v := 1000000) hown (hts _ wd_374) d_A_isDay_7 ?_
    refine W.lcmp hx hb d_A_isDay_10 ?_
    refine bq_t (lv_if_gt (tgt := 18) hx hb d_A_isDay_11 (by decide)) hm (fun hm => ?_) (fun hm => ?_)
    · refine lv_iconst (v := 0) hx hb d_A_isDay_18 (by decide) ?_
      exact so_zret (rf := fun z_ => z_) (Sf := fun z_ => sc_A_isDay cI cL cM cZ) hm hx hb hr rfl hlocks hAe hQ hK hw rfl d_A_isDay_19
    · refine lv_iconst (v := 1) hx hb d_A_isDay_14 (by decide) ?_
      refine lv_goto (tgt := 19) hx hb d_A_isDay_15 (by decide) ?_
      exact so_zret (rf := fun z_ => z_) (Sf := fun z_ => sc_A_isDay cI cL cM cZ) hm hx hb hr rfl hlocks hAe hQ hK hw rfl d_A_isDay_19
theorem d_A_isIn_0 : decode prog_1_method_19_code 0 = .ok (.aload_n 0, 1) := by decide +kernel
theorem d_A_isIn_1 : decode prog_1_method_19_code 1 = .ok (.getfield 61, 3) := by decide +kernel
theorem d_A_isIn_4 : decode prog_1_method_19_code 4 = .ok (.iload_n 1, 1) := by decide +kernel
theorem d_A_isIn_5 : decode prog_1_method_19_code 5 = .ok (.invokevirtual 107, 3) := by decide +kernel
theorem d_A_isIn_8 : decode prog_1_method_19_code 8 = .ok (.ifCond .eq 20, 3) := by decide +kernel
theorem d_A_isIn_11 : decode prog_1_method_19_code 11 = .ok (.aload_n 0, 1) := by decide +kernel
theorem d_A_isIn_12 : decode prog_1_method_19_code 12 = .ok (.getfield 26, 3) := by decide +kernel
theorem d_A_isIn_15 : decode prog_1_method_19_code 15 = .ok (.getfield 150, 3) := by decide +kernel
theorem d_A_isIn_18 : decode prog_1_method_19_code 18 = .ok (.iload_n 1, 1) := by decide +kernel
theorem d_A_isIn_19 : decode prog_1_method_19_code 19 = .ok (.iaload, 1) := by decide +kernel
theorem d_A_isIn_20 : decode prog_1_method_19_code 20 = .ok (.iload_n 2, 1) := by decide +kernel
theorem d_A_isIn_21 : decode prog_1_method_19_code 21 = .ok (.if_icmp .ne 7, 3) := by decide +kernel
theorem d_A_isIn_24 : decode prog_1_method_19_code 24 = .ok (.iconst 1, 1) := by decide +kernel
theorem d_A_isIn_25 : decode prog_1_method_19_code 25 = .ok (.goto 4, 3) := by decide +kernel
theorem d_A_isIn_28 : decode prog_1_method_19_code 28 = .ok (.iconst 0, 1) := by decide +kernel
theorem d_A_isIn_29 : decode prog_1_method_19_code 29 = .ok (.ireturn, 1) := by decide +kernel
def md_A_isIn (N : Nat) (f_p0_current_states : Nat → Int32) (v_p0_net_jobs : Int32) (a1_x : Int32) (a2_x : Int32) : Option (Int32) :=
  (zc (md_Net_has N v_p0_net_jobs a1_x) (fun o1 => (if o1 = 0 then (some (0 : Int32)) else (if sg_in a1_x 27 = true then (if (f_p0_current_states a1_x.toNatClampNeg) = a2_x then (some (1 : Int32)) else (some (0 : Int32))) else none))))
abbrev sc_A_isIn (cI cL cM cZ : ClassId) (q_p0 q_p0_calendars q_p0_reader q_p0_current q_p0_kept q_p0_latestRing q_p0_ringFinder q_p0_longest q_p0_net q_p0_spare q_p0_current_states q_p0_current_startTimes q_p0_current_loggedJobs q_p0_current_loggedTimes q_p0_net_numbers q_p0_net_needCounts q_p0_net_needed q_p0_net_conditions q_p0_net_allNeeded : Nat) (v_p0_current_starts : Int32) (v_p0_current_time : Int32) (f_p0_current_states : Nat → Int32) (v_p0_net_jobs : Int32) : List va_W := [[(q_p0, .inr (0, [.ref q_p0_calendars, .ref q_p0_reader, .ref q_p0_current, .ref q_p0_kept, .ref q_p0_latestRing, .ref q_p0_ringFinder, .ref q_p0_longest, .ref q_p0_net, .ref q_p0_spare]))], [(q_p0_current, .inr (5, [.ref q_p0_current_states, .ref q_p0_current_startTimes, .ref q_p0_current_loggedJobs, .ref q_p0_current_loggedTimes, .int v_p0_current_starts, .int v_p0_current_time]))], [(q_p0_current_states, .inl (cI, 27, .inl f_p0_current_states))], [(q_p0_net, .inr (4, [.ref q_p0_net_numbers, .ref q_p0_net_needCounts, .ref q_p0_net_needed, .ref q_p0_net_conditions, .ref q_p0_net_allNeeded, .int v_p0_net_jobs]))]]
abbrev rm_A_isIn : Room := { frames := 1, cells := 0, slots := 0, locals := 21 }
set_option maxHeartbeats 4000000 in
set_option maxRecDepth 100000 in
theorem ct_A_isIn (l : Launch) (dC : Nat → ClassId) (dI : Nat → Nat → Nat) (cI cL cM cZ : ClassId) (q_p0 q_p0_calendars q_p0_reader q_p0_current q_p0_kept q_p0_latestRing q_p0_ringFinder q_p0_longest q_p0_net q_p0_spare q_p0_current_states q_p0_current_startTimes q_p0_current_loggedJobs q_p0_current_loggedTimes q_p0_net_numbers q_p0_net_needCounts q_p0_net_needed q_p0_net_conditions q_p0_net_allNeeded : Nat) (v_p0_current_starts : Int32) (v_p0_current_time : Int32) (f_p0_current_states : Nat → Int32) (v_p0_net_jobs : Int32) (a1_x : Int32) (a2_x : Int32) (N : Nat) (o : Int32) (hm : md_A_isIn N f_p0_current_states v_p0_net_jobs a1_x a2_x = some o) : ∀ sz : Nat, Met l y_A_isIn ws_A_isIn rm_A_isIn (cP (dC, dI) vwCl [(cI, .int), (cL, .long), (cM, .array .int), (cZ, .boolean)] [.ref q_p0, .int a1_x, .int a2_x] sz (sc_A_isIn cI cL cM cZ q_p0 q_p0_calendars q_p0_reader q_p0_current q_p0_kept q_p0_latestRing q_p0_ringFinder q_p0_longest q_p0_net q_p0_spare q_p0_current_states q_p0_current_startTimes q_p0_current_loggedJobs q_p0_current_loggedTimes q_p0_net_numbers q_p0_net_needCounts q_p0_net_needed q_p0_net_conditions q_p0_net_allNeeded v_p0_current_starts v_p0_current_time f_p0_current_states v_p0_net_jobs)) (cQi (dC, dI) vwCl [(cI, .int), (cL, .long), (cM, .array .int), (cZ, .boolean)] sz (sc_A_isIn cI cL cM cZ q_p0 q_p0_calendars q_p0_reader q_p0_current q_p0_kept q_p0_latestRing q_p0_ringFinder q_p0_longest q_p0_net q_p0_spare q_p0_current_states q_p0_current_startTimes q_p0_current_loggedJobs q_p0_current_loggedTimes q_p0_net_numbers q_p0_net_needCounts q_p0_net_needed q_p0_net_conditions q_p0_net_allNeeded v_p0_current_starts v_p0_current_time f_p0_current_states v_p0_net_jobs) o (sc_A_isIn cI cL cM cZ q_p0 q_p0_calendars q_p0_reader q_p0_current q_p0_kept q_p0_latestRing q_p0_ringFinder q_p0_longest q_p0_net q_p0_spare q_p0_current_states q_p0_current_startTimes q_p0_current_loggedJobs q_p0_current_loggedTimes q_p0_net_numbers q_p0_net_needCounts q_p0_net_needed q_p0_net_conditions q_p0_net_allNeeded v_p0_current_starts v_p0_current_time f_p0_current_states v_p0_net_jobs)) 0 0 (va_A ((sc_A_isIn cI cL cM cZ q_p0 q_p0_calendars q_p0_reader q_p0_current q_p0_kept q_p0_latestRing q_p0_ringFinder q_p0_longest q_p0_net q_p0_spare q_p0_current_states q_p0_current_startTimes q_p0_current_loggedJobs q_p0_current_loggedTimes q_p0_net_numbers q_p0_net_needCounts q_p0_net_needed q_p0_net_conditions q_p0_net_allNeeded v_p0_current_starts v_p0_current_time f_p0_current_states v_p0_net_jobs)).flatten sz) := by
  refine sg_met (fun sz => cQi (dC, dI) vwCl [(cI, .int), (cL, .long), (cM, .array .int), (cZ, .boolean)] sz (sc_A_isIn cI cL cM cZ q_p0 q_p0_calendars q_p0_reader q_p0_current q_p0_kept q_p0_latestRing q_p0_ringFinder q_p0_longest q_p0_net q_p0_spare q_p0_current_states q_p0_current_startTimes q_p0_current_loggedJobs q_p0_current_loggedTimes q_p0_net_numbers q_p0_net_needCounts q_p0_net_needed q_p0_net_conditions q_p0_net_allNeeded v_p0_current_starts v_p0_current_time f_p0_current_states v_p0_net_jobs) o (sc_A_isIn cI cL cM cZ q_p0 q_p0_calendars q_p0_reader q_p0_current q_p0_kept q_p0_latestRing q_p0_ringFinder q_p0_longest q_p0_net q_p0_spare q_p0_current_states q_p0_current_startTimes q_p0_current_loggedJobs q_p0_current_loggedTimes q_p0_net_numbers q_p0_net_needCounts q_p0_net_needed q_p0_net_conditions q_p0_net_allNeeded v_p0_current_starts v_p0_current_time f_p0_current_states v_p0_net_jobs)) (by decide) (Nat.le_of_ble_eq_true rfl) ?_
  intro p e s m args below meth c A Q ls hx hb hr hts hown hlocks hml hname hK hNW hA hAe hQ hw hl
  have hl : lv_has ls 3 [(0, .ref q_p0), (1, .int a1_x), (2, .int a2_x)] := hl
  have hw : wk (dC, dI) vwCl A s.heap [[(q_p0, .inr (0, [.ref q_p0_calendars, .ref q_p0_reader, .ref q_p0_current, .ref q_p0_kept, .ref q_p0_latestRing, .ref q_p0_ringFinder, .ref q_p0_longest, .ref q_p0_net, .ref q_p0_spare]))], [(q_p0_current, .inr (5, [.ref q_p0_current_states, .ref q_p0_current_startTimes, .ref q_p0_current_loggedJobs, .ref q_p0_current_loggedTimes, .int v_p0_current_starts, .int v_p0_current_time]))], [(q_p0_current_states, .inl (cI, 27, .inl f_p0_current_states))], [(q_p0_net, .inr (4, [.ref q_p0_net_numbers, .ref q_p0_net_needCounts, .ref q_p0_net_needed, .ref q_p0_net_conditions, .ref q_p0_net_allNeeded, .int v_p0_net_jobs]))]] s.heap [] := hw
  unfold md_A_isIn at hm
  refine lv_aload_n hx hb d_A_isIn_0 rfl (lv_at hl 0 rfl) ?_
  refine sg_get (D := (dC, dI)) (ci := 0) (v := .ref q_p0_net) (C := "JobNets") (T := T_0) (N := 9) hx hb hts hin_0 hown hK hw 0 rfl rfl 7 (by decide) (hts _ wd_229) rfl rfl d_A_isIn_1 ?_
  refine lv_iload_n hx hb d_A_isIn_4 rfl (lv_at hl 1 rfl) ?_
  obtain ⟨o1, h1, hm⟩ := zc_x hm
  refine sg_ci0 (Sr := [[(q_p0, .inr (0, [.ref q_p0_calendars, .ref q_p0_reader, .ref q_p0_current, .ref q_p0_kept, .ref q_p0_latestRing, .ref q_p0_ringFinder, .ref q_p0_longest, .ref q_p0_net, .ref q_p0_spare]))], [(q_p0_current, .inr (5, [.ref q_p0_current_states, .ref q_p0_current_startTimes, .ref q_p0_current_loggedJobs, .ref q_p0_current_loggedTimes, .int v_p0_current_starts, .int v_p0_current_time]))], [(q_p0_current_states, .inl (cI, 27, .inl f_p0_current_states))]]) (va_runV (As := [.int a1_x]) (rest := []) ⟨hx, hb, hml, hown, hts⟩ (ct_Net_has l dC dI cI cL cM cZ q_p0_net q_p0_net_numbers q_p0_net_needCounts q_p0_net_needed q_p0_net_conditions q_p0_net_allNeeded v_p0_net_jobs a1_x N o1 h1 _) (cwV 1 hts (gd_V wd_387 wd_388 wd_389 wd_9 wd_390) rfl rfl rfl (by decide +kernel) ⟨Nat.le_of_ble_eq_true rfl, Nat.le_of_ble_eq_true rfl⟩) (sg_preV (ci := 4) (q0 := 3) hK hNW hw [3] rfl rfl rfl rfl) rfl rfl hl.1 rfl (lv_room (Nat.le_of_ble_eq_true rfl)) d_A_isIn_5 ⟨Nat.le_of_ble_eq_true rfl, Nat.le_of_ble_eq_true rfl⟩) hw hA [3] [0, 1, 2] rfl rfl rfl (by decide) (fun H locs hw => ?_)
  have hw : wk (dC, dI) vwCl A s.heap [[(q_p0, .inr (0, [.ref q_p0_calendars, .ref q_p0_reader, .ref q_p0_current, .ref q_p0_kept, .ref q_p0_latestRing, .ref q_p0_ringFinder, .ref q_p0_longest, .ref q_p0_net, .ref q_p0_spare]))], [(q_p0_current, .inr (5, [.ref q_p0_current_states, .ref q_p0_current_startTimes, .ref q_p0_current_loggedJobs, .ref q_p0_current_loggedTimes, .int v_p0_current_starts, .int v_p0_current_time]))], [(q_p0_current_states, .inl (cI, 27, .inl f_p0_current_states))], [(q_p0_net, .inr (4, [.ref q_p0_net_numbers, .ref q_p0_net_needCounts, .ref q_p0_net_needed, .ref q_p0_net_conditions, .ref q_p0_net_allNeeded, .int v_p0_net_jobs]))]] H locs := hw
  refine bq_t (lv_if_eq (tgt := 28) hx hb d_A_isIn_8 (by decide)) hm (fun hm => ?_) (fun hm => ?_)
  · refine lv_iconst (v := 0) hx hb d_A_isIn_28 (by decide) ?_
    exact so_zret (rf := fun z_ => z_) (Sf := fun z_ => sc_A_isIn cI cL cM cZ q_p0 q_p0_calendars q_p0_reader q_p0_current q_p0_kept q_p0_latestRing q_p0_ringFinder q_p0_longest q_p0_net q_p0_spare q_p0_current_states q_p0_current_startTimes q_p0_current_loggedJobs q_p0_current_loggedTimes q_p0_net_numbers q_p0_net_needCounts q_p0_net_needed q_p0_net_conditions q_p0_net_allNeeded v_p0_current_starts v_p0_current_time f_p0_current_states v_p0_net_jobs) hm hx hb hr rfl hlocks hAe hQ hK hw rfl d_A_isIn_29
  · refine lv_aload_n hx hb d_A_isIn_11 rfl (lv_at hl 0 rfl) ?_
    refine sg_get (D := (dC, dI)) (ci := 0) (v := .ref q_p0_current) (C := "JobNets") (T := T_0) (N := 9) hx hb hts hin_0 hown hK hw 0 rfl rfl 2 (by decide) (hts _ wd_224) rfl rfl d_A_isIn_12 ?_
    refine sg_getN (D := (dC, dI)) (ci := 5) (v := .ref q_p0_current_states) (C := "JobNets$Plan") (T := T_5) (N := 6) hx hb hts hin_5 hown hK hw 1 rfl rfl 0 (by decide) (nF_2 hNW) rfl rfl d_A_isIn_15 ?_
    refine lv_iload_n hx hb d_A_isIn_18 rfl (lv_at hl 1 rfl) ?_
    refine sg_iald hx hb hK hw 2 0 rfl rfl d_A_isIn_19 hm (fun hm => ?_)
    refine lv_iload_n hx hb d_A_isIn_20 rfl (lv_at hl 2 rfl) ?_
    refine bq_n (lv_icmp_ne (tgt := 28) hx hb d_A_isIn_21 (by decide)) hm (fun hm => ?_) (fun hm => ?_)
    · refine lv_iconst (v := 0) hx hb d_A_isIn_28 (by decide) ?_
      exact so_zret (rf := fun z_ => z_) (Sf := fun z_ => sc_A_isIn cI cL cM cZ q_p0 q_p0_calendars q_p0_reader q_p0_current q_p0_kept q_p0_latestRing q_p0_ringFinder q_p0_longest q_p0_net q_p0_spare q_p0_current_states q_p0_current_startTimes q_p0_current_loggedJobs q_p0_current_loggedTimes q_p0_net_numbers q_p0_net_needCounts q_p0_net_needed q_p0_net_conditions q_p0_net_allNeeded v_p0_current_starts v_p0_current_time f_p0_current_states v_p0_net_jobs) hm hx hb hr rfl hlocks hAe hQ hK hw rfl d_A_isIn_29
    · refine lv_iconst (v := 1) hx hb d_A_isIn_24 (by decide) ?_
      refine lv_goto (tgt := 29) hx hb d_A_isIn_25 (by decide) ?_
      exact so_zret (rf := fun z_ => z_) (Sf := fun z_ => sc_A_isIn cI cL cM cZ q_p0 q_p0_calendars q_p0_reader q_p0_current q_p0_kept q_p0_latestRing q_p0_ringFinder q_p0_longest q_p0_net q_p0_spare q_p0_current_states q_p0_current_startTimes q_p0_current_loggedJobs q_p0_current_loggedTimes q_p0_net_numbers q_p0_net_needCounts q_p0_net_needed q_p0_net_conditions q_p0_net_allNeeded v_p0_current_starts v_p0_current_time f_p0_current_states v_p0_net_jobs) hm hx hb hr rfl hlocks hAe hQ hK hw rfl d_A_isIn_29
