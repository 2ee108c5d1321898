theorem d_JA_fill2_0 : decode prog_18_method_103_code 0 = .ok (.iconst 0, 1) := by decide +kernel
theorem d_JA_fill2_1 : decode prog_18_method_103_code 1 = .ok (.istore_n 2, 1) := by decide +kernel
theorem d_JA_fill2_2 : decode prog_18_method_103_code 2 = .ok (.aload_n 0, 1) := by decide +kernel
theorem d_JA_fill2_3 : decode prog_18_method_103_code 3 = .ok (.arraylength, 1) := by decide +kernel
theorem d_JA_fill2_4 : decode prog_18_method_103_code 4 = .ok (.istore_n 3, 1) := by decide +kernel
theorem d_JA_fill2_5 : decode prog_18_method_103_code 5 = .ok (.iload_n 2, 1) := by decide +kernel
theorem d_JA_fill2_6 : decode prog_18_method_103_code 6 = .ok (.iload_n 3, 1) := by decide +kernel
theorem d_JA_fill2_7 : decode prog_18_method_103_code 7 = .ok (.if_icmp .ge 13, 3) := by decide +kernel
theorem d_JA_fill2_10 : decode prog_18_method_103_code 10 = .ok (.aload_n 0, 1) := by decide +kernel
theorem d_JA_fill2_11 : decode prog_18_method_103_code 11 = .ok (.iload_n 2, 1) := by decide +kernel
theorem d_JA_fill2_12 : decode prog_18_method_103_code 12 = .ok (.iload_n 1, 1) := by decide +kernel
theorem d_JA_fill2_13 : decode prog_18_method_103_code 13 = .ok (.iastore, 1) := by decide +kernel
theorem d_JA_fill2_14 : decode prog_18_method_103_code 14 = .ok (.iinc 2 1, 3) := by decide +kernel
theorem d_JA_fill2_17 : decode prog_18_method_103_code 17 = .ok (.goto (-12), 3) := by decide +kernel
theorem d_JA_fill2_20 : decode prog_18_method_103_code 20 = .ok (.return_, 1) := by decide +kernel
def md_JA_fill2_F5 (a1_x : Int32) (n_p0 : Nat) (rec5 : Int32 → (Nat → Int32) → Option ((Nat → Int32))) (x1 : Int32) (f2 : Nat → Int32) : Option ((Nat → Int32)) :=
  (if (Int32.ofNat n_p0) ≤ x1 then (some f2) else (if sg_in x1 n_p0 = true then zl (upd f2 x1.toNatClampNeg a1_x) (fun f3 => (rec5 (x1 + 1) f3)) else none))
def md_JA_fill2 (N : Nat) (n_p0 : Nat) (f_p0 : Nat → Int32) (a1_x : Int32) : Option ((Nat → Int32)) :=
  (fx2 (md_JA_fill2_F5 a1_x n_p0) N (0 : Int32) f_p0)
abbrev sc_JA_fill2 (cI cL cM cZ : ClassId) (q_p0 : Nat) (n_p0 : Nat) (f_p0 : Nat → Int32) : List va_W := [[(q_p0, .inl (cI, n_p0, .inl f_p0))]]
abbrev rm_JA_fill2 : Room := { frames := 0, cells := 0, slots := 0, locals := 0 }
set_option maxHeartbeats 4000000 in
set_option maxRecDepth 100000 in
theorem ct_JA_fill2 (l : Launch) (dC : Nat → ClassId) (dI : Nat → Nat → Nat) (cI cL cM cZ : ClassId) (q_p0 : Nat) (n_p0 : Nat) (f_p0 : Nat → Int32) (a1_x : Int32) (N : Nat) (o : (Nat → Int32)) (hm : md_JA_fill2 N n_p0 f_p0 a1_x = some o) : ∀ sz : Nat, Met l y_JA_fill2 ws_JA_fill2 rm_JA_fill2 (cP (dC, dI) vwCl [(cI, .int), (cL, .long), (cM, .array .int), (cZ, .boolean)] [.ref q_p0, .int a1_x] sz (sc_JA_fill2 cI cL cM cZ q_p0 n_p0 f_p0)) (cQv (dC, dI) vwCl [(cI, .int), (cL, .long), (cM, .array .int), (cZ, .boolean)] sz (sc_JA_fill2 cI cL cM cZ q_p0 n_p0 f_p0) (sc_JA_fill2 cI cL cM cZ q_p0 n_p0 o)) 0 0 (va_A ((sc_JA_fill2 cI cL cM cZ q_p0 n_p0 f_p0)).flatten sz) := by
  refine sg_metF (fun sz => cQv (dC, dI) vwCl [(cI, .int), (cL, .long), (cM, .array .int), (cZ, .boolean)] sz (sc_JA_fill2 cI cL cM cZ q_p0 n_p0 f_p0) (sc_JA_fill2 cI cL cM cZ q_p0 n_p0 o)) (by decide +kernel) (Nat.le_of_ble_eq_true rfl) ?_
  intro p e s m args below meth c A Q ls hx hb hr hts hown hlocks hml hname hK hNW hA hAe hQ hw hl
  have hl : lv_has ls 4 [(0, .ref q_p0), (1, .int a1_x)] := hl
  have hw : wk (dC, dI) vwCl A s.heap [[(q_p0, .inl (cI, n_p0, .inl f_p0))]] s.heap [] := hw
  unfold md_JA_fill2 at hm
  refine lv_iconst (v := 0) hx hb d_JA_fill2_0 (by decide) ?_
  refine lv_istore_n (lv' := [(2, .int (0 : Int32)), (0, .ref q_p0), (1, .int a1_x)]) hx hb d_JA_fill2_1 rfl hl (by decide) rfl (fun ls hl => ?_)
  refine lv_aload_n hx hb d_JA_fill2_2 rfl (lv_at hl 1 rfl) ?_
  refine sg_alen (v := Int32.ofNat n_p0) hx hb hK hw 0 0 rfl rfl rfl d_JA_fill2_3 ?_
  refine lv_istore_n (lv' := [(3, .int (Int32.ofNat n_p0)), (2, .int (0 : Int32)), (0, .ref q_p0), (1, .int a1_x)]) hx hb d_JA_fill2_4 rfl hl (by decide) rfl (fun ls hl => ?_)
  obtain ⟨Fn5, hFn5, hm⟩ := fx2_x hm
  have L5 : ∀ (n : Nat) (x1 : Int32) (f2 : Nat → Int32), fx2 Fn5 n x1 f2 = some o → ∀ (H : Heap) (locs : List Loc) (ls : Array Slot), wk (dC, dI) vwCl A s.heap [[(q_p0, .inl (cI, n_p0, .inl f2))]] H locs → lv_has ls 4 [(3, .int (Int32.ofNat n_p0)), (2, .int x1), (0, .ref q_p0), (1, .int a1_x)] → W p l e rm_JA_fill2 s m args below meth c H locs 0 0 Q (F0 m 5 ls []) := by
    intro n
    induction n with
    | zero => intro x1 f2 hm; exact (fx2_0 hm).elim
    | succ n ih5 =>
      intro x1 f2 hm H locs ls hw hl
      have hm := fx2_s hFn5 hm
      unfold md_JA_fill2_F5 at hm
      refine lv_iload_n hx hb d_JA_fill2_5 rfl (lv_at hl 1 rfl) ?_
      refine lv_iload_n hx hb d_JA_fill2_6 rfl (lv_at hl 0 rfl) ?_
      refine bq_t (lv_icmp_ge (tgt := 20) hx hb d_JA_fill2_7 (by decide)) hm (fun hm => ?_) (fun hm => ?_)
      · exact so_vret (Sf := fun z_ => sc_JA_fill2 cI cL cM cZ q_p0 n_p0 z_) hm hx hb hr hlocks hAe hQ hK hw d_JA_fill2_20
      · refine lv_aload_n hx hb d_JA_fill2_10 rfl (lv_at hl 2 rfl) ?_
        refine lv_iload_n hx hb d_JA_fill2_11 rfl (lv_at hl 1 rfl) ?_
        refine lv_iload_n hx hb d_JA_fill2_12 rfl (lv_at hl 3 rfl) ?_
        refine sg_iast (S1 := fun f3 => [[(q_p0, .inl (cI, n_p0, .inl f3))]]) hx hb hK hw 0 0 rfl rfl d_JA_fill2_13 (fun _ => rfl) hm (fun f3 H locs hm hw => ?_)
        refine lv_iinc (v := x1 + 1) (lv' := [(2, .int (x1 + 1)), (3, .int (Int32.ofNat n_p0)), (0, .ref q_p0), (1, .int a1_x)]) hx hb d_JA_fill2_14 hl (k := 1) rfl rfl (by decide) rfl (fun ls hl => ?_)
        refine lv_goto (tgt := 5) hx hb d_JA_fill2_17 (by decide) ?_
        exact ih5 (x1 + 1) f3 hm _ _ _ hw (lv_sub hl [1, 0, 2, 3] rfl)
  exact L5 _ _ _ hm _ _ _ hw hl
theorem d_JI_bitCount_0 : decode prog_14_method_49_code 0 = .ok (.iload_n 0, 1) := by decide +kernel
theorem d_JI_bitCount_1 : decode prog_14_method_49_code 1 = .ok (.iload_n 0, 1) := by decide +kernel
theorem d_JI_bitCount_2 : decode prog_14_method_49_code 2 = .ok (.iconst 1, 1) := by decide +kernel
theorem d_JI_bitCount_3 : decode prog_14_method_49_code 3 = .ok (.iushr, 1) := by decide +kernel
theorem d_JI_bitCount_4 : decode prog_14_method_49_code 4 = .ok (.ldc_w 265, 3) := by decide +kernel
theorem d_JI_bitCount_7 : decode prog_14_method_49_code 7 = .ok (.iand, 1) := by decide +kernel
theorem d_JI_bitCount_8 : decode prog_14_method_49_code 8 = .ok (.isub, 1) := by decide +kernel
theorem d_JI_bitCount_9 : decode prog_14_method_49_code 9 = .ok (.istore_n 0, 1) := by decide +kernel
theorem d_JI_bitCount_10 : decode prog_14_method_49_code 10 = .ok (.iload_n 0, 1) := by decide +kernel
theorem d_JI_bitCount_11 : decode prog_14_method_49_code 11 = .ok (.ldc_w 266, 3) := by decide +kernel
theorem d_JI_bitCount_14 : decode prog_14_method_49_code 14 = .ok (.iand, 1) := by decide +kernel
theorem d_JI_bitCount_15 : decode prog_14_method_49_code 15 = .ok (.iload_n 0, 1) := by decide +kernel
theorem d_JI_bitCount_16 : decode prog_14_method_49_code 16 = .ok (.iconst 2, 1) := by decide +kernel
theorem d_JI_bitCount_17 : decode prog_14_method_49_code 17 = .ok (.iushr, 1) := by decide +kernel
theorem d_JI_bitCount_18 : decode prog_14_method_49_code 18 = .ok (.ldc_w 266, 3) := by decide +kernel
theorem d_JI_bitCount_21 : decode prog_14_method_49_code 21 = .ok (.iand, 1) := by decide +kernel
theorem d_JI_bitCount_22 : decode prog_14_method_49_code 22 = .ok (.iadd, 1) := by decide +kernel
theorem d_JI_bitCount_23 : decode prog_14_method_49_code 23 = .ok (.istore_n 0, 1) := by decide +kernel
theorem d_JI_bitCount_24 : decode prog_14_method_49_code 24 = .ok (.iload_n 0, 1) := by decide +kernel
theorem d_JI_bitCount_25 : decode prog_14_method_49_code 25 = .ok (.iload_n 0, 1) := by decide +kernel
theorem d_JI_bitCount_26 : decode prog_14_method_49_code 26 = .ok (.iconst 4, 1) := by decide +kernel
theorem d_JI_bitCount_27 : decode prog_14_method_49_code 27 = .ok (.iushr, 1) := by decide +kernel
theorem d_JI_bitCount_28 : decode prog_14_method_49_code 28 = .ok (.iadd, 1) := by decide +kernel
theorem d_JI_bitCount_29 : decode prog_14_method_49_code 29 = .ok (.ldc_w 267, 3) := by decide +kernel
theorem d_JI_bitCount_32 : decode prog_14_method_49_code 32 = .ok (.iand, 1) := by decide +kernel
theorem d_JI_bitCount_33 : decode prog_14_method_49_code 33 = .ok (.istore_n 0, 1) := by decide +kernel
theorem d_JI_bitCount_34 : decode prog_14_method_49_code 34 = .ok (.iload_n 0, 1) := by decide +kernel
theorem d_JI_bitCount_35 : decode prog_14_method_49_code 35 = .ok (.iload_n 0, 1) := by decide +kernel
theorem d_JI_bitCount_36 : decode prog_14_method_49_code 36 = .ok (.bipush 8, 2) := by decide +kernel
theorem d_JI_bitCount_38 : decode prog_14_method_49_code 38 = .ok (.iushr, 1) := by decide +kernel
theorem d_JI_bitCount_39 : decode prog_14_method_49_code 39 = .ok (.iadd, 1) := by decide +kernel
theorem d_JI_bitCount_40 : decode prog_14_method_49_code 40 = .ok (.istore_n 0, 1) := by decide +kernel
theorem d_JI_bitCount_41 : decode prog_14_method_49_code 41 = .ok (.iload_n 0, 1) := by decide +kernel
theorem d_JI_bitCount_42 : decode prog_14_method_49_code 42 = .ok (.iload_n 0, 1) := by decide +kernel
theorem d_JI_bitCount_43 : decode prog_14_method_49_code 43 = .ok (.bipush 16, 2) := by decide +kernel
theorem d_JI_bitCount_45 : decode prog_14_method_49_code 45 = .ok (.iushr, 1) := by decide +kernel
theorem d_JI_bitCount_46 : decode prog_14_method_49_code 46 = .ok (.iadd, 1) := by decide +kernel
theorem d_JI_bitCount_47 : decode prog_14_method_49_code 47 = .ok (.istore_n 0, 1) := by decide +kernel
theorem d_JI_bitCount_48 : decode prog_14_method_49_code 48 = .ok (.iload_n 0, 1) := by decide +kernel
theorem d_JI_bitCount_49 : decode prog_14_method_49_code 49 = .ok (.bipush 63, 2) := by decide +kernel
theorem d_JI_bitCount_51 : decode prog_14_method_49_code 51 = .ok (.iand, 1) := by decide +kernel
theorem d_JI_bitCount_52 : decode prog_14_method_49_code 52 = .ok (.ireturn, 1) := by decide +kernel
def md_JI_bitCount (N : Nat) (a0_x : Int32) : Option (Int32) :=
  (zl (a0_x - (((a0_x.toUInt32 >>> ((1 : Int32).toUInt32 &&& Int32.toUInt32 31)).toInt32) &&& (1431655765 : Int32))) (fun x1 => (zl ((x1 &&& (858993459 : Int32)) + (((x1.toUInt32 >>> ((2 : Int32).toUInt32 &&& Int32.toUInt32 31)).toInt32) &&& (858993459 : Int32))) (fun x2 => (zl ((x2 + ((x2.toUInt32 >>> ((4 : Int32).toUInt32 &&& Int32.toUInt32 31)).toInt32)) &&& (252645135 : Int32)) (fun x3 => (zl (x3 + ((x3.toUInt32 >>> ((8 : Int32).toUInt32 &&& Int32.toUInt32 31)).toInt32)) (fun x4 => (zl (x4 + ((x4.toUInt32 >>> ((16 : Int32).toUInt32 &&& Int32.toUInt32 31)).toInt32)) (fun x5 => (some (x5 &&& (63 : Int32)))))))))))))
abbrev sc_JI_bitCount (cI cL cM cZ : ClassId) : List va_W := []
abbrev rm_JI_bitCount : Room := { frames := 0, cells := 0, slots := 0, locals := 0 }
set_option maxHeartbeats 4000000 in
set_option maxRecDepth 100000 in
theorem ct_JI_bitCount (l : Launch) (dC : Nat → ClassId) (dI : Nat → Nat → Nat) (cI cL cM cZ : ClassId) (a0_x : Int32) (N : Nat) (o : Int32) (hm : md_JI_bitCount N a0_x = some o) : ∀ sz : Nat, Met l y_JI_bitCount ws_JI_bitCount rm_JI_bitCount (cP (dC, dI) vwCl [(cI, .int), (cL, .long), (cM, .array .int), (cZ, .boolean)] [.int a0_x] sz (sc_JI_bitCount cI cL cM cZ)) (cQi (dC, dI) vwCl [(cI, .int), (cL, .long), (cM, .array .int), (cZ, .boolean)] sz (sc_JI_bitCount cI cL cM cZ) o (sc_JI_bitCount cI cL cM cZ)) 0 0 (va_A ((sc_JI_bitCount cI cL cM cZ)).flatten sz) := by
  refine sg_metF (fun sz => cQi (dC, dI) vwCl [(cI, .int), (cL, .long), (cM, .array .int), (cZ, .boolean)] sz (sc_JI_bitCount cI cL cM cZ) o (sc_JI_bitCount cI cL cM cZ)) (by decide +kernel) (Nat.le_of_ble_eq_true rfl) ?_
  intro p e s m args below meth c A Q ls hx hb hr hts hown hlocks hml hname hK hNW hA hAe hQ hw hl
  have hl : lv_has ls 1 [(0, .int a0_x)] := hl
  have hw : wk (dC, dI) vwCl A s.heap [] s.heap [] := hw
  unfold md_JI_bitCount at hm
  refine lv_iload_n hx hb d_JI_bitCount_0 rfl (lv_at hl 0 rfl) ?_
  refine lv_iload_n hx hb d_JI_bitCount_1 rfl (lv_at hl 0 rfl) ?_
  refine lv_iconst (v := 1) hx hb d_JI_bitCount_2 (by decide) ?_
  refine lv_iushr hx hb d_JI_bitCount_3 rfl ?_
  refine lv_ldcw hx hb (v := 1431655765) hown (hts _ wd_500) d_JI_bitCount_4 ?_
  refine lv_iand hx hb d_JI_bitCount_7 ?_
  refine lv_isub hx hb d_JI_bitCount_8 ?_
  refine nm_i hm (fun x1 hm => ?_)
  refine lv_istore_n (lv' := [(0, .int x1)]) hx hb d_JI_bitCount_9 rfl hl (by decide) rfl (fun ls hl => ?_)
  refine lv_iload_n hx hb d_JI_bitCount_10 rfl (lv_at hl 0 rfl) ?_
  refine lv_ldcw hx hb (v := 858993459) hown (hts _ wd_501) d_JI_bitCount_11 ?_
  refine lv_iand hx hb d_JI_bitCount_14 ?_
  refine lv_iload_n hx hb d_JI_bitCount_15 rfl (lv_at hl 0 rfl) ?_
  refine lv_iconst (v := 2) hx hb d_JI_bitCount_16 (by decide) ?_
  refine lv_iushr hx hb d_JI_bitCount_17 rfl ?_
  refine lv_ldcw hx hb (v := 858993459) hown (hts _ wd_501) d_JI_bitCount_18 ?_
  refine lv_iand hx hb d_JI_bitCount_21 ?_
  refine lv_iadd hx hb d_JI_bitCount_22 ?_
  refine nm_i hm (fun x2 hm => ?_)
  refine lv_istore_n (lv' := [(0, .int x2)]) hx hb d_JI_bitCount_23 rfl hl (by decide) rfl (fun ls hl => ?_)
  refine lv_iload_n hx hb d_JI_bitCount_24 rfl (lv_at hl 0 rfl) ?_
  refine lv_iload_n hx hb d_JI_bitCount_25 rfl (lv_at hl 0 rfl) ?_
  refine lv_iconst (v := 4) hx hb d_JI_bitCount_26 (by decide) ?_
  refine lv_iushr hx hb d_JI_bitCount_27 rfl ?_
  refine lv_iadd hx hb d_JI_bitCount_28 ?_
  refine lv_ldcw hx hb (v := 252645135) hown (hts _ wd_502) d_JI_bitCount_29 ?_
  refine lv_iand hx hb d_JI_bitCount_32 ?_
  refine nm_i hm (fun x3 hm => ?_)
  refine lv_istore_n (lv' := [(0, .int x3)]) hx hb d_JI_bitCount_33 rfl hl (by decide) rfl (fun ls hl => ?_)
  refine lv_iload_n hx hb d_JI_bitCount_34 rfl (lv_at hl 0 rfl) ?_
  refine lv_iload_n hx hb d_JI_bitCount_35 rfl (lv_at hl 0 rfl) ?_
  refine lv_bipush (v := 8) hx hb d_JI_bitCount_36 (by decide) ?_
  refine lv_iushr hx hb d_JI_bitCount_38 rfl ?_
  refine lv_iadd hx hb d_JI_bitCount_39 ?_
  refine nm_i hm (fun x4 hm => ?_)
  refine lv_istore_n (lv' := [(0, .int x4)]) hx hb d_JI_bitCount_40 rfl hl (by decide) rfl (fun ls hl => ?_)
  refine lv_iload_n hx hb d_JI_bitCount_41 rfl (lv_at hl 0 rfl) ?_
  refine lv_iload_n hx hb d_JI_bitCount_42 rfl (lv_at hl 0 rfl) ?_
  refine lv_bipush (v := 16) hx hb d_JI_bitCount_43 (by decide) ?_
  refine lv_iushr hx hb d_JI_bitCount_45 rfl ?_
  refine lv_iadd hx hb d_JI_bitCount_46 ?_
  refine nm_i hm (fun x5 hm => ?_)
  refine lv_istore_n (lv' := [(0, .int x5)]) hx hb d_JI_bitCount_47 rfl hl (by decide) rfl (fun ls hl => ?_)
  refine lv_iload_n hx hb d_JI_bitCount_48 rfl (lv_at hl 0 rfl) ?_
  refine lv_bipush (v := 63) hx hb d_JI_bitCount_49 (by decide) ?_
  refine lv_iand hx hb d_JI_bitCount_51 ?_
  exact so_iret (rf := fun z_ => z_) (Sf := fun z_ => sc_JI_bitCount cI cL cM cZ) hm hx hb hr hlocks hAe hQ hK hw rfl d_JI_bitCount_52
theorem d_Cal_make_0 : decode prog_2_method_2_code 0 = .ok (.iload_n 1, 1) := by decide +kernel
theorem d_Cal_make_1 : decode prog_2_method_2_code 1 = .ok (.iload_n 2, 1) := by decide +kernel
theorem d_Cal_make_2 : decode prog_2_method_2_code 2 = .ok (.invokestatic 28, 3) := by decide +kernel
theorem d_Cal_make_5 : decode prog_2_method_2_code 5 = .ok (.ifCond .eq 12, 3) := by decide +kernel
theorem d_Cal_make_8 : decode prog_2_method_2_code 8 = .ok (.aload_n 0, 1) := by decide +kernel
theorem d_Cal_make_9 : decode prog_2_method_2_code 9 = .ok (.getfield 21, 3) := by decide +kernel
theorem d_Cal_make_12 : decode prog_2_method_2_code 12 = .ok (.bipush 20, 2) := by decide +kernel
theorem d_Cal_make_14 : decode prog_2_method_2_code 14 = .ok (.if_icmp .lt 5, 3) := by decide +kernel
theorem d_Cal_make_17 : decode prog_2_method_2_code 17 = .ok (.iconst (-1), 1) := by decide +kernel
theorem d_Cal_make_18 : decode prog_2_method_2_code 18 = .ok (.ireturn, 1) := by decide +kernel
theorem d_Cal_make_19 : decode prog_2_method_2_code 19 = .ok (.aload_n 0, 1) := by decide +kernel
theorem d_Cal_make_20 : decode prog_2_method_2_code 20 = .ok (.getfield 9, 3) := by decide +kernel
theorem d_Cal_make_23 : decode prog_2_method_2_code 23 = .ok (.aload_n 0, 1) := by decide +kernel
theorem d_Cal_make_24 : decode prog_2_method_2_code 24 = .ok (.getfield 21, 3) := by decide +kernel
theorem d_Cal_make_27 : decode prog_2_method_2_code 27 = .ok (.iload_n 1, 1) := by decide +kernel
theorem d_Cal_make_28 : decode prog_2_method_2_code 28 = .ok (.iastore, 1) := by decide +kernel
theorem d_Cal_make_29 : decode prog_2_method_2_code 29 = .ok (.aload_n 0, 1) := by decide +kernel
theorem d_Cal_make_30 : decode prog_2_method_2_code 30 = .ok (.getfield 15, 3) := by decide +kernel
theorem d_Cal_make_33 : decode prog_2_method_2_code 33 = .ok (.aload_n 0, 1) := by decide +kernel
theorem d_Cal_make_34 : decode prog_2_method_2_code 34 = .ok (.getfield 21, 3) := by decide +kernel
theorem d_Cal_make_37 : decode prog_2_method_2_code 37 = .ok (.iload_n 2, 1) := by decide +kernel
theorem d_Cal_make_38 : decode prog_2_method_2_code 38 = .ok (.iastore, 1) := by decide +kernel
theorem d_Cal_make_39 : decode prog_2_method_2_code 39 = .ok (.aload_n 0, 1) := by decide +kernel
theorem d_Cal_make_40 : decode prog_2_method_2_code 40 = .ok (.dup, 1) := by decide +kernel
theorem d_Cal_make_41 : decode prog_2_method_2_code 41 = .ok (.getfield 21, 3) := by decide +kernel
theorem d_Cal_make_44 : decode prog_2_method_2_code 44 = .ok (.iconst 1, 1) := by decide +kernel
theorem d_Cal_make_45 : decode prog_2_method_2_code 45 = .ok (.iadd, 1) := by decide +kernel
theorem d_Cal_make_46 : decode prog_2_method_2_code 46 = .ok (.putfield 21, 3) := by decide +kernel
theorem d_Cal_make_49 : decode prog_2_method_2_code 49 = .ok (.aload_n 0, 1) := by decide +kernel
theorem d_Cal_make_50 : decode prog_2_method_2_code 50 = .ok (.getfield 21, 3) := by decide +kernel
theorem d_Cal_make_53 : decode prog_2_method_2_code 53 = .ok (.iconst 1, 1) := by decide +kernel
theorem d_Cal_make_54 : decode prog_2_method_2_code 54 = .ok (.isub, 1) := by decide +kernel
theorem d_Cal_make_55 : decode prog_2_method_2_code 55 = .ok (.ireturn, 1) := by decide +kernel
def md_Cal_make (N : Nat) (v_p0_made : Int32) (f_p0_rules : Nat → Int32) (f_p0_places : Nat → Int32) (a1_x : Int32) (a2_x : Int32) : Option (Int32 × Int32 × (Nat → Int32) × (Nat → Int32)) :=
  (zc (md_Cal_isRule N a1_x a2_x) (fun o1 => (if o1 = 0 then (some ((-1 : Int32), v_p0_made, f_p0_rules, f_p0_places)) else (if v_p0_made < (20 : Int32) then (if sg_in v_p0_made 20 = true then zl (upd f_p0_rules v_p0_made.toNatClampNeg a1_x) (fun f2 => (if sg_in v_p0_made 20 = true then zl (upd f_p0_places v_p0_made.toNatClampNeg a2_x) (fun f3 => (some ((v_p0_made + (1 : Int32)) - (1 : Int32), v_p0_made + (1 : Int32), f2, f3))) else none)) else none) else (some ((-1 : Int32), v_p0_made, f_p0_rules, f_p0_places))))))
abbrev sc_Cal_make (cI cL cM cZ : ClassId) (q_p0 q_p0_rules q_p0_places q_p0_holidays : Nat) (v_p0_made : Int32) (v_p0_holidayCount : Int32) (f_p0_rules : Nat → Int32) (f_p0_places : Nat → Int32) : List va_W := [[(q_p0, .inr (1, [.ref q_p0_rules, .ref q_p0_places, .ref q_p0_holidays, .int v_p0_made, .int v_p0_holidayCount]))], [(q_p0_rules, .inl (cI, 20, .inl f_p0_rules))], [(q_p0_places, .inl (cI, 20, .inl f_p0_places))]]
abbrev rm_Cal_make : Room := { frames := 1, cells := 0, slots := 0, locals := 21 }
set_option maxHeartbeats 4000000 in
set_option maxRecDepth 100000 in
theorem ct_Cal_make (l : Launch) (dC : Nat → ClassId) (dI : Nat → Nat → Nat) (cI cL cM cZ : ClassId) (q_p0 q_p0_rules q_p0_places q_p0_holidays : Nat) (v_p0_made : Int32) (v_p0_holidayCount : Int32) (f_p0_rules : Nat → Int32) (f_p0_places : Nat → Int32) (a1_x : Int32) (a2_x : Int32) (N : Nat) (o : Int32 × Int32 × (Nat → Int32) × (Nat → Int32)) (hm : md_Cal_make N v_p0_made f_p0_rules f_p0_places a1_x a2_x = some o) : ∀ sz : Nat, Met l y_Cal_make ws_Cal_make rm_Cal_make (cP (dC, dI) vwCl [(cI, .int), (cL, .long), (cM, .array .int), (cZ, .boolean)] [.ref q_p0, .int a1_x, .int a2_x] sz (sc_Cal_make cI cL cM cZ q_p0 q_p0_rules q_p0_places q_p0_holidays v_p0_made v_p0_holidayCount f_p0_rules f_p0_places)) (cQi (dC, dI) vwCl [(cI, .int), (cL, .long), (cM, .array .int), (cZ, .boolean)] sz (sc_Cal_make cI cL cM cZ q_p0 q_p0_rules q_p0_places q_p0_holidays v_p0_made v_p0_holidayCount f_p0_rules f_p0_places) o.1 (sc_Cal_make cI cL cM cZ q_p0 q_p0_rules q_p0_places q_p0_holidays o.2.1 v_p0_holidayCount o.2.2.1 o.2.2.2)) 0 0 (va_A ((sc_Cal_make cI cL cM cZ q_p0 q_p0_rules q_p0_places q_p0_holidays v_p0_made v_p0_holidayCount f_p0_rules f_p0_places)).flatten sz) := by
  refine sg_met (fun sz => cQi (dC, dI) vwCl [(cI, .int), (cL, .long), (cM, .array .int), (cZ, .boolean)] sz (sc_Cal_make cI cL cM cZ q_p0 q_p0_rules q_p0_places q_p0_holidays v_p0_made v_p0_holidayCount f_p0_rules f_p0_places) o.1 (sc_Cal_make cI cL cM cZ q_p0 q_p0_rules q_p0_places q_p0_holidays o.2.1 v_p0_holidayCount o.2.2.1 o.2.2.2)) (by decide) (Nat.le_of_ble_eq_true rfl) ?_
  intro p e s m args below meth c A Q ls hx hb hr hts hown hlocks hml hname hK hNW hA hAe hQ hw hl
  have hl : lv_has ls 3 [(0, .ref q_p0), (1, .int a1_x), (2, .int a2_x)] := hl
  have hw : wk (dC, dI) vwCl A s.heap [[(q_p0, .inr (1, [.ref q_p0_rules, .ref q_p0_places, .ref q_p0_holidays, .int v_p0_made, .int v_p0_holidayCount]))], [(q_p0_rules, .inl (cI, 20, .inl f_p0_rules))], [(q_p0_places, .inl (cI, 20, .inl f_p0_places))]] s.heap [] := hw
  unfold md_Cal_make at hm
  refine lv_iload_n hx hb d_Cal_make_0 rfl (lv_at hl 1 rfl) ?_
  refine lv_iload_n hx hb d_Cal_make_1 rfl (lv_at hl 2 rfl) ?_
  obtain ⟨o1, h1, hm⟩ := zc_x hm
  refine sg_ci0 (Sr := [[(q_p0, .inr (1, [.ref q_p0_rules, .ref q_p0_places, .ref q_p0_holidays, .int v_p0_made, .int v_p0_holidayCount]))], [(q_p0_rules, .inl (cI, 20, .inl f_p0_rules))], [(q_p0_places, .inl (cI, 20, .inl f_p0_places))]]) (va_runS (As := [.int a1_x, .int a2_x]) (rest := []) ⟨hx, hb, hml, hown, hts⟩ (ct_Cal_isRule l dC dI cI cL cM cZ a1_x a2_x N o1 h1 _) (cwS 2 hts (gd_S wd_364 wd_365 wd_2 wd_366) rfl rfl rfl (by decide +kernel) ⟨Nat.le_of_ble_eq_true rfl, Nat.le_of_ble_eq_true rfl⟩) (sg_preS hK hNW hw [] rfl rfl) rfl rfl hl.1 rfl (lv_room (Nat.le_of_ble_eq_true rfl)) d_Cal_make_2 ⟨Nat.le_of_ble_eq_true rfl, Nat.le_of_ble_eq_true rfl⟩) hw hA [] [0, 1, 2] rfl rfl rfl (by decide) (fun H locs hw => ?_)
  have hw : wk (dC, dI) vwCl A s.heap [[(q_p0, .inr (1, [.ref q_p0_rules, .ref q_p0_places, .ref q_p0_holidays, .int v_p0_made, .int v_p0_holidayCount]))], [(q_p0_rules, .inl (cI, 20, .inl f_p0_rules))], [(q_p0_places, .inl (cI, 20, .inl f_p0_places))]] H locs := hw
  refine bq_t (lv_if_eq (tgt := 17) hx hb d_Cal_make_5 (by decide)) hm (fun hm => ?_) (fun hm => ?_)
  · refine lv_iconst (v := -1) hx hb d_Cal_make_17 (by decide) ?_
    exact so_iret (rf := fun z_ => z_.1) (Sf := fun z_ => sc_Cal_make cI cL cM cZ q_p0 q_p0_rules q_p0_places q_p0_holidays z_.2.1 v_p0_holidayCount z_.2.2.1 z_.2.2.2) hm hx hb hr hlocks hAe hQ hK hw rfl d_Cal_make_18
  · refine lv_aload_n hx hb d_Cal_make_8 rfl (lv_at hl 0 rfl) ?_
    refine sg_get (D := (dC, dI)) (ci := 1) (v := .int v_p0_made) (C := "JobNets$Calendars") (T := T_1) (N := 5) hx hb hts hin_1 hown hK hw 0 rfl rfl 3 (by decide) (hts _ wd_34) rfl rfl d_Cal_make_9 ?_
    refine lv_bipush (v := 20) hx hb d_Cal_make_12 (by decide) ?_
    refine bq_t (lv_icmp_lt (tgt := 19) hx hb d_Cal_make_14 (by decide)) hm (fun hm => ?_) (fun hm => ?_)
    · refine lv_aload_n hx hb d_Cal_make_19 rfl (lv_at hl 0 rfl) ?_
      refine sg_get (D := (dC, dI)) (ci := 1) (v := .ref q_p0_rules) (C := "JobNets$Calendars") (T := T_1) (N := 5) hx hb hts hin_1 hown hK hw 0 rfl rfl 0 (by decide) (hts _ wd_31) rfl rfl d_Cal_make_20 ?_
      refine lv_aload_n hx hb d_Cal_make_23 rfl (lv_at hl 0 rfl) ?_
      refine sg_get (D := (dC, dI)) (ci := 1) (v := .int v_p0_made) (C := "JobNets$Calendars") (T := T_1) (N := 5) hx hb hts hin_1 hown hK hw 0 rfl rfl 3 (by decide) (hts _ wd_34) rfl rfl d_Cal_make_24 ?_
      refine lv_iload_n hx hb d_Cal_make_27 rfl (lv_at hl 1 rfl) ?_
      refine sg_iast (S1 := fun f2 => [[(q_p0, .inr (1, [.ref q_p0_rules, .ref q_p0_places, .ref q_p0_holidays, .int v_p0_made, .int v_p0_holidayCount]))], [(q_p0_rules, .inl (cI, 20, .inl f2))], [(q_p0_places, .inl (cI, 20, .inl f_p0_places))]]) hx hb hK hw 1 0 rfl rfl d_Cal_make_28 (fun _ => rfl) hm (fun f2 H locs hm hw => ?_)
      refine lv_aload_n hx hb d_Cal_make_29 rfl (lv_at hl 0 rfl) ?_
      refine sg_get (D := (dC, dI)) (ci := 1) (v := .ref q_p0_places) (C := "JobNets$Calendars") (T := T_1) (N := 5) hx hb hts hin_1 hown hK hw 0 rfl rfl 1 (by decide) (hts _ wd_32) rfl rfl d_Cal_make_30 ?_
      refine lv_aload_n hx hb d_Cal_make_33 rfl (lv_at hl 0 rfl) ?_
      refine sg_get (D := (dC, dI)) (ci := 1) (v := .int v_p0_made) (C := "JobNets$Calendars") (T := T_1) (N := 5) hx hb hts hin_1 hown hK hw 0 rfl rfl 3 (by decide) (hts _ wd_34) rfl rfl d_Cal_make_34 ?_
      refine lv_iload_n hx hb d_Cal_make_37 rfl (lv_at hl 2 rfl) ?_
      refine sg_iast (S1 := fun f3 => [[(q_p0, .inr (1, [.ref q_p0_rules, .ref q_p0_places, .ref q_p0_holidays, .int v_p0_made, .int v_p0_holidayCount]))], [(q_p0_rules, .inl (cI, 20, .inl f2))], [(q_p0_places, .inl (cI, 20, .inl f3))]]) hx hb hK hw 2 0 rfl rfl d_Cal_make_38 (fun _ => rfl) hm (fun f3 H locs hm hw => ?_)
      refine lv_aload_n hx hb d_Cal_make_39 rfl (lv_at hl 0 rfl) ?_
      refine lv_dup hx hb d_Cal_make_40 rfl ?_
      refine sg_get (D := (dC, dI)) (ci := 1) (v := .int v_p0_made) (C := "JobNets$Calendars") (T := T_1) (N := 5) hx hb hts hin_1 hown hK hw 0 rfl rfl 3 (by decide) (hts _ wd_34) rfl rfl d_Cal_make_41 ?_
      refine lv_iconst (v := 1) hx hb d_Cal_make_44 (by decide) ?_
      refine lv_iadd hx hb d_Cal_make_45 ?_
      refine sg_put (D := (dC, dI)) (ci := 1) (v := .int (v_p0_made + (1 : Int32))) (ty := .int) (C := "JobNets$Calendars") (T := T_1) (N := 5) (S1 := [[(q_p0, .inr (1, [.ref q_p0_rules, .ref q_p0_places, .ref q_p0_holidays, .int (v_p0_made + (1 : Int32)), .int v_p0_holidayCount]))], [(q_p0_rules, .inl (cI, 20, .inl f2))], [(q_p0_places, .inl (cI, 20, .inl f3))]]) hx hb hts hin_1 ty_1 tok_1 nd_1 hown hK hw 0 rfl rfl 3 (by decide) (hts _ wd_34) rfl rfl (by decide +kernel) rfl rfl (Nat.le_of_ble_eq_true rfl) rfl d_Cal_make_46 (fun H locs hw => ?_)
      refine lv_aload_n hx hb d_Cal_make_49 rfl (lv_at hl 0 rfl) ?_
      refine sg_get (D := (dC, dI)) (ci := 1) (v := .int (v_p0_made + (1 : Int32))) (C := "JobNets$Calendars") (T := T_1) (N := 5) hx hb hts hin_1 hown hK hw 0 rfl rfl 3 (by decide) (hts _ wd_34) rfl rfl d_Cal_make_50 ?_
      refine lv_iconst (v := 1) hx hb d_Cal_make_53 (by decide) ?_
      refine lv_isub hx hb d_Cal_make_54 ?_
      exact so_iret (rf := fun z_ => z_.1) (Sf := fun z_ => sc_Cal_make cI cL cM cZ q_p0 q_p0_rules q_p0_places q_p0_holidays z_.2.1 v_p0_holidayCount z_.2.2.1 z_.2.2.2) hm hx hb hr hlocks hAe hQ hK hw rfl d_Cal_make_55
    · refine lv_iconst (v := -1) hx hb d_Cal_make_17 (by decide) ?_
      exact so_iret (rf := fun z_ => z_.1) (Sf := fun z_ => sc_Cal_make cI cL cM cZ q_p0 q_p0_rules q_p0_places q_p0_holidays z_.2.1 v_p0_holidayCount z_.2.2.1 z_.2.2.2) hm hx hb hr hlocks hAe hQ hK hw rfl d_Cal_make_18
theorem d_Cal_turnHoliday_0 : decode prog_2_method_4_code 0 = .ok (.aload_n 0, 1) := by decide +kernel
theorem d_Cal_turnHoliday_1 : decode prog_2_method_4_code 1 = .ok (.getfield 25, 3) := by decide +kernel
theorem d_Cal_turnHoliday_4 : decode prog_2_method_4_code 4 = .ok (.bipush 100, 2) := by decide +kernel
theorem d_Cal_turnHoliday_6 : decode prog_2_method_4_code 6 = .ok (.if_icmp .lt 5, 3) := by decide +kernel
theorem d_Cal_turnHoliday_9 : decode prog_2_method_4_code 9 = .ok (.iconst (-1), 1) := by decide +kernel
theorem d_Cal_turnHoliday_10 : decode prog_2_method_4_code 10 = .ok (.ireturn, 1) := by decide +kernel
theorem d_Cal_turnHoliday_11 : decode prog_2_method_4_code 11 = .ok (.aload_n 0, 1) := by decide +kernel
theorem d_Cal_turnHoliday_12 : decode prog_2_method_4_code 12 = .ok (.iload_n 1, 1) := by decide +kernel
theorem d_Cal_turnHoliday_13 : decode prog_2_method_4_code 13 = .ok (.invokevirtual 32, 3) := by decide +kernel
theorem d_Cal_turnHoliday_16 : decode prog_2_method_4_code 16 = .ok (.istore_n 2, 1) := by decide +kernel
theorem d_Cal_turnHoliday_17 : decode prog_2_method_4_code 17 = .ok (.iload_n 2, 1) := by decide +kernel
theorem d_Cal_turnHoliday_18 : decode prog_2_method_4_code 18 = .ok (.iconst (-1), 1) := by decide +kernel
theorem d_Cal_turnHoliday_19 : decode prog_2_method_4_code 19 = .ok (.if_icmp .ne 26, 3) := by decide +kernel
theorem d_Cal_turnHoliday_22 : decode prog_2_method_4_code 22 = .ok (.aload_n 0, 1) := by decide +kernel
theorem d_Cal_turnHoliday_23 : decode prog_2_method_4_code 23 = .ok (.getfield 18, 3) := by decide +kernel
theorem d_Cal_turnHoliday_26 : decode prog_2_method_4_code 26 = .ok (.aload_n 0, 1) := by decide +kernel
theorem d_Cal_turnHoliday_27 : decode prog_2_method_4_code 27 = .ok (.getfield 25, 3) := by decide +kernel
theorem d_Cal_turnHoliday_30 : decode prog_2_method_4_code 30 = .ok (.iload_n 1, 1) := by decide +kernel
theorem d_Cal_turnHoliday_31 : decode prog_2_method_4_code 31 = .ok (.iastore, 1) := by decide +kernel
theorem d_Cal_turnHoliday_32 : decode prog_2_method_4_code 32 = .ok (.aload_n 0, 1) := by decide +kernel
theorem d_Cal_turnHoliday_33 : decode prog_2_method_4_code 33 = .ok (.dup, 1) := by decide +kernel
theorem d_Cal_turnHoliday_34 : decode prog_2_method_4_code 34 = .ok (.getfield 25, 3) := by decide +kernel
theorem d_Cal_turnHoliday_37 : decode prog_2_method_4_code 37 = .ok (.iconst 1, 1) := by decide +kernel
theorem d_Cal_turnHoliday_38 : decode prog_2_method_4_code 38 = .ok (.iadd, 1) := by decide +kernel
theorem d_Cal_turnHoliday_39 : decode prog_2_method_4_code 39 = .ok (.putfield 25, 3) := by decide +kernel
theorem d_Cal_turnHoliday_42 : decode prog_2_method_4_code 42 = .ok (.goto 28, 3) := by decide +kernel
theorem d_Cal_turnHoliday_45 : decode prog_2_method_4_code 45 = .ok (.aload_n 0, 1) := by decide +kernel
theorem d_Cal_turnHoliday_46 : decode prog_2_method_4_code 46 = .ok (.dup, 1) := by decide +kernel
theorem d_Cal_turnHoliday_47 : decode prog_2_method_4_code 47 = .ok (.getfield 25, 3) := by decide +kernel
theorem d_Cal_turnHoliday_50 : decode prog_2_method_4_code 50 = .ok (.iconst 1, 1) := by decide +kernel
theorem d_Cal_turnHoliday_51 : decode prog_2_method_4_code 51 = .ok (.isub, 1) := by decide +kernel
theorem d_Cal_turnHoliday_52 : decode prog_2_method_4_code 52 = .ok (.putfield 25, 3) := by decide +kernel
theorem d_Cal_turnHoliday_55 : decode prog_2_method_4_code 55 = .ok (.aload_n 0, 1) := by decide +kernel
theorem d_Cal_turnHoliday_56 : decode prog_2_method_4_code 56 = .ok (.getfield 18, 3) := by decide +kernel
theorem d_Cal_turnHoliday_59 : decode prog_2_method_4_code 59 = .ok (.iload_n 2, 1) := by decide +kernel
theorem d_Cal_turnHoliday_60 : decode prog_2_method_4_code 60 = .ok (.aload_n 0, 1) := by decide +kernel
theorem d_Cal_turnHoliday_61 : decode prog_2_method_4_code 61 = .ok (.getfield 18, 3) := by decide +kernel
theorem d_Cal_turnHoliday_64 : decode prog_2_method_4_code 64 = .ok (.aload_n 0, 1) := by decide +kernel
theorem d_Cal_turnHoliday_65 : decode prog_2_method_4_code 65 = .ok (.getfield 25, 3) := by decide +kernel
theorem d_Cal_turnHoliday_68 : decode prog_2_method_4_code 68 = .ok (.iaload, 1) := by decide +kernel
theorem d_Cal_turnHoliday_69 : decode prog_2_method_4_code 69 = .ok (.iastore, 1) := by decide +kernel
theorem d_Cal_turnHoliday_70 : decode prog_2_method_4_code 70 = .ok (.aload_n 0, 1) := by decide +kernel
theorem d_Cal_turnHoliday_71 : decode prog_2_method_4_code 71 = .ok (.getfield 25, 3) := by decide +kernel
theorem d_Cal_turnHoliday_74 : decode prog_2_method_4_code 74 = .ok (.ireturn, 1) := by decide +kernel
def md_Cal_turnHoliday (N : Nat) (v_p0_holidayCount : Int32) (f_p0_holidays : Nat → Int32) (a1_x : Int32) : Option (Int32 × Int32 × (Nat → Int32)) :=
  (if v_p0_holidayCount < (100 : Int32) then (zc (md_Cal_holidayPlace N v_p0_holidayCount f_p0_holidays a1_x) (fun o1 => (if o1 = (-1 : Int32) then (if sg_in v_p0_holidayCount 100 = true then zl (upd f_p0_holidays v_p0_holidayCount.toNatClampNeg a1_x) (fun f3 => (some (v_p0_holidayCount + (1 : Int32), v_p0_holidayCount + (1 : Int32), f3))) else none) else (if sg_in (v_p0_holidayCount - (1 : Int32)) 100 = true then (if sg_in o1 100 = true then zl (upd f_p0_holidays o1.toNatClampNeg (f_p0_holidays (v_p0_holidayCount - (1 : Int32)).toNatClampNeg)) (fun f2 => (some (v_p0_holidayCount - (1 : Int32), v_p0_holidayCount - (1 : Int32), f2))) else none) else none)))) else (some ((-1 : Int32), v_p0_holidayCount, f_p0_holidays)))
abbrev sc_Cal_turnHoliday (cI cL cM cZ : ClassId) (q_p0 q_p0_rules q_p0_places q_p0_holidays : Nat) (v_p0_made : Int32) (v_p0_holidayCount : Int32) (f_p0_holidays : Nat → Int32) : List va_W := [[(q_p0, .inr (1, [.ref q_p0_rules, .ref q_p0_places, .ref q_p0_holidays, .int v_p0_made, .int v_p0_holidayCount]))], [(q_p0_holidays, .inl (cI, 100, .inl f_p0_holidays))]]
abbrev rm_Cal_turnHoliday : Room := { frames := 1, cells := 0, slots := 0, locals := 22 }
set_option maxHeartbeats 4000000 in
set_option maxRecDepth 100000 in
theorem ct_Cal_turnHoliday (l : Launch) (dC : Nat → ClassId) (dI : Nat → Nat → Nat) (cI cL cM cZ : ClassId) (q_p0 q_p0_rules q_p0_places q_p0_holidays : Nat) (v_p0_made : Int32) (v_p0_holidayCount : Int32) (f_p0_holidays : Nat → Int32) (a1_x : Int32) (N : Nat) (o : Int32 × Int32 × (Nat → Int32)) (hm : md_Cal_turnHoliday N v_p0_holidayCount f_p0_holidays a1_x = some o) : ∀ sz : Nat, Met l y_Cal_turnHoliday ws_Cal_turnHoliday rm_Cal_turnHoliday (cP (dC, dI) vwCl [(cI, .int), (cL, .long), (cM, .array .int), (cZ, .boolean)] [.ref q_p0, .int a1_x] sz (sc_Cal_turnHoliday cI cL cM cZ q_p0 q_p0_rules q_p0_places q_p0_holidays v_p0_made v_p0_holidayCount f_p0_holidays)) (cQi (dC, dI) vwCl [(cI, .int), (cL, .long), (cM, .array .int), (cZ, .boolean)] sz (sc_Cal_turnHoliday cI cL cM cZ q_p0 q_p0_rules q_p0_places q_p0_holidays v_p0_made v_p0_holidayCount f_p0_holidays) o.1 (sc_Cal_turnHoliday cI cL cM cZ q_p0 q_p0_rules q_p0_places q_p0_holidays v_p0_made o.2.1 o.2.2)) 0 0 (va_A ((sc_Cal_turnHoliday cI cL cM cZ q_p0 q_p0_rules q_p0_places q_p0_holidays v_p0_made v_p0_holidayCount f_p0_holidays)).flatten sz) := by
  refine sg_met (fun sz => cQi (dC, dI) vwCl [(cI, .int), (cL, .long), (cM, .array .int), (cZ, .boolean)] sz (sc_Cal_turnHoliday cI cL cM cZ q_p0 q_p0_rules q_p0_places q_p0_holidays v_p0_made v_p0_holidayCount f_p0_holidays) o.1 (sc_Cal_turnHoliday cI cL cM cZ q_p0 q_p0_rules q_p0_places q_p0_holidays v_p0_made o.2.1 o.2.2)) (by decide) (Nat.le_of_ble_eq_true rfl) ?_
  intro p e s m args below meth c A Q ls hx hb hr hts hown hlocks hml hname hK hNW hA hAe hQ hw hl
  have hl : lv_has ls 3 [(0, .ref q_p0), (1, .int a1_x)] := hl
  have hw : wk (dC, dI) vwCl A s.heap [[(q_p0, .inr (1, [.ref q_p0_rules, .ref q_p0_places, .ref q_p0_holidays, .int v_p0_made, .int v_p0_holidayCount]))], [(q_p0_holidays, .inl (cI, 100, .inl f_p0_holidays))]] s.heap [] := hw
  unfold md_Cal_turnHoliday at hm
  refine lv_aload_n hx hb d_Cal_turnHoliday_0 rfl (lv_at hl 0 rfl) ?_
  refine sg_get (D := (dC, dI)) (ci := 1) (v := .int v_p0_holidayCount) (C := "JobNets$Calendars") (T := T_1) (N := 5) hx hb hts hin_1 hown hK hw 0 rfl rfl 4 (by decide) (hts _ wd_36) rfl rfl d_Cal_turnHoliday_1 ?_
  refine lv_bipush (v := 100) hx hb d_Cal_turnHoliday_4 (by decide) ?_
  refine bq_t (lv_icmp_lt (tgt := 11) hx hb d_Cal_turnHoliday_6 (by decide)) hm (fun hm => ?_) (fun hm => ?_)
  · refine lv_aload_n hx hb d_Cal_turnHoliday_11 rfl (lv_at hl 0 rfl) ?_
    refine lv_iload_n hx hb d_Cal_turnHoliday_12 rfl (lv_at hl 1 rfl) ?_
    obtain ⟨o1, h1, hm⟩ := zc_x hm
    refine sg_ci0 (Sr := []) (va_runV (As := [.int a1_x]) (rest := []) ⟨hx, hb, hml, hown, hts⟩ (ct_Cal_holidayPlace l dC dI cI cL cM cZ q_p0 q_p0_rules q_p0_places q_p0_holidays v_p0_made v_p0_holidayCount f_p0_holidays a1_x N o1 h1 _) (cwV 1 hts (gd_V wd_379 wd_381 ws_9 wd_2 wd_382) rfl rfl rfl (by decide +kernel) ⟨Nat.le_of_ble_eq_true rfl, Nat.le_of_ble_eq_true rfl⟩) (sg_preV (ci := 1) (q0 := 0) hK hNW hw [0, 1] rfl rfl rfl rfl) rfl rfl hl.1 rfl (lv_room (Nat.le_of_ble_eq_true rfl)) d_Cal_turnHoliday_13 ⟨Nat.le_of_ble_eq_true rfl, Nat.le_of_ble_eq_true rfl⟩) hw hA [0, 1] [] rfl rfl rfl (by decide) (fun H locs hw => ?_)
    have hw : wk (dC, dI) vwCl A s.heap [[(q_p0, .inr (1, [.ref q_p0_rules, .ref q_p0_places, .ref q_p0_holidays, .int v_p0_made, .int v_p0_holidayCount]))], [(q_p0_holidays, .inl (cI, 100, .inl f_p0_holidays))]] H locs := hw
    refine lv_istore_n (lv' := [(2, .int o1), (0, .ref q_p0), (1, .int a1_x)]) hx hb d_Cal_turnHoliday_16 rfl hl (by decide) rfl (fun ls hl => ?_)
    refine lv_iload_n hx hb d_Cal_turnHoliday_17 rfl (lv_at hl 0 rfl) ?_
    refine lv_iconst (v := -1) hx hb d_Cal_turnHoliday_18 (by decide) ?_
    refine bq_n (lv_icmp_ne (tgt := 45) hx hb d_Cal_turnHoliday_19 (by decide)) hm (fun hm => ?_) (fun hm => ?_)
    · refine lv_aload_n hx hb d_Cal_turnHoliday_45 rfl (lv_at hl 1 rfl) ?_
      refine lv_dup hx hb d_Cal_turnHoliday_46 rfl ?_
      refine sg_get (D := (dC, dI)) (ci := 1) (v := .int v_p0_holidayCount) (C := "JobNets$Calendars") (T := T_1) (N := 5) hx hb hts hin_1 hown hK hw 0 rfl rfl 4 (by decide) (hts _ wd_36) rfl rfl d_Cal_turnHoliday_47 ?_
      refine lv_iconst (v := 1) hx hb d_Cal_turnHoliday_50 (by decide) ?_
      refine lv_isub hx hb d_Cal_turnHoliday_51 ?_
      refine sg_put (D := (dC, dI)) (ci := 1) (v := .int (v_p0_holidayCount - (1 : Int32))) (ty := .int) (C := "JobNets$Calendars") (T := T_1) (N := 5) (S1 := [[(q_p0, .inr (1, [.ref q_p0_rules, .ref q_p0_places, .ref q_p0_holidays, .int v_p0_made, .int (v_p0_holidayCount - (1 : Int32))]))], [(q_p0_holidays, .inl (cI, 100, .inl f_p0_holidays))]]) hx hb hts hin_1 ty_1 tok_1 nd_1 hown hK hw 0 rfl rfl 4 (by decide) (hts _ wd_36) rfl rfl (by decide +kernel) rfl rfl (Nat.le_of_ble_eq_true rfl) rfl d_Cal_turnHoliday_52 (fun H locs hw => ?_)
      refine lv_aload_n hx hb d_Cal_turnHoliday_55 rfl (lv_at hl 1 rfl) ?_
      refine sg_get (D := (dC, dI)) (ci := 1) (v := .ref q_p0_holidays) (C := "JobNets$Calendars") (T := T_1) (N := 5) hx hb hts hin_1 hown hK hw 0 rfl rfl 2 (by decide) (hts _ wd_33) rfl rfl d_Cal_turnHoliday_56 ?_
      refine lv_iload_n hx hb d_Cal_turnHoliday_59 rfl (lv_at hl 0 rfl) ?_
      refine lv_aload_n hx hb d_Cal_turnHoliday_60 rfl (lv_at hl 1 rfl) ?_
      refine sg_get (D := (dC, dI)) (ci := 1) (v := .ref q_p0_holidays) (C := "JobNets$Calendars") (T := T_1) (N := 5) hx hb hts hin_1 hown hK hw 0 rfl rfl 2 (by decide) (hts _ wd_33) rfl rfl d_Cal_turnHoliday_61 ?_
      refine lv_aload_n hx hb d_Cal_turnHoliday_64 rfl (lv_at hl 1 rfl) ?_
      refine sg_get (D := (dC, dI)) (ci := 1) (v := .int (v_p0_holidayCount - (1 : Int32))) (C := "JobNets$Calendars") (T := T_1) (N := 5) hx hb hts hin_1 hown hK hw 0 rfl rfl 4 (by decide) (hts _ wd_36) rfl rfl d_Cal_turnHoliday_65 ?_
      refine sg_iald hx hb hK hw 1 0 rfl rfl d_Cal_turnHoliday_68 hm (fun hm => ?_)
      refine sg_iast (S1 := fun f2 => [[(q_p0, .inr (1, [.ref q_p0_rules, .ref q_p0_places, .ref q_p0_holidays, .int v_p0_made, .int (v_p0_holidayCount - (1 : Int32))]))], [(q_p0_holidays, .inl (cI, 100, .inl f2))]]) hx hb hK hw 1 0 rfl rfl d_Cal_turnHoliday_69 (fun _ => rfl) hm (fun f2 H locs hm hw => ?_)
      refine lv_aload_n hx hb d_Cal_turnHoliday_70 rfl (lv_at hl 1 rfl) ?_
      refine sg_get (D := (dC, dI)) (ci := 1) (v := .int (v_p0_holidayCount - (1 : Int32))) (C := "JobNets$Calendars") (T := T_1) (N := 5) hx hb hts hin_1 hown hK hw 0 rfl rfl 4 (by decide) (hts _ wd_36) rfl rfl d_Cal_turnHoliday_71 ?_
      exact so_iret (rf := fun z_ => z_.1) (Sf := fun z_ => sc_Cal_turnHoliday cI cL cM cZ q_p0 q_p0_rules q_p0_places q_p0_holidays v_p0_made z_.2.1 z_.2.2) hm hx hb hr hlocks hAe hQ hK hw rfl d_Cal_turnHoliday_74
    · refine lv_aload_n hx hb d_Cal_turnHoliday_22 rfl (lv_at hl 1 rfl) ?_
      refine sg_get (D := (dC, dI)) (ci := 1) (v := .ref q_p0_holidays) (C := "JobNets$Calendars") (T := T_1) (N := 5) hx hb hts hin_1 hown hK hw 0 rfl rfl 2 (by decide) (hts _ wd_33) rfl rfl d_Cal_turnHoliday_23 ?_
      refine lv_aload_n hx hb d_Cal_turnHoliday_26 rfl (lv_at hl 1 rfl) ?_
      refine sg_get (D := (dC, dI)) (ci := 1) (v := .int v_p0_holidayCount) (C := "JobNets$Calendars") (T := T_1) (N := 5) hx hb hts hin_1 hown hK hw 0 rfl rfl 4 (by decide) (hts _ wd_36) rfl rfl d_Cal_turnHoliday_27 ?_
      refine lv_iload_n hx hb d_Cal_turnHoliday_30 rfl (lv_at hl 2 rfl) ?_
      refine sg_iast (S1 := fun f3 => [[(q_p0, .inr (1, [.ref q_p0_rules, .ref q_p0_places, .ref q_p0_holidays, .int v_p0_made, .int v_p0_holidayCount]))], [(q_p0_holidays, .inl (cI, 100, .inl f3))]]) hx hb hK hw 1 0 rfl rfl d_Cal_turnHoliday_31 (fun _ => rfl) hm (fun f3 H locs hm hw => ?_)
      refine lv_aload_n hx hb d_Cal_turnHoliday_32 rfl (lv_at hl 1 rfl) ?_
      refine lv_dup hx hb d_Cal_turnHoliday_33 rfl ?_
      refine sg_get (D := (dC, dI)) (ci := 1) (v := .int v_p0_holidayCount) (C := "JobNets$Calendars") (T := T_1) (N := 5) hx hb hts hin_1 hown hK hw 0 rfl rfl 4 (by decide) (hts _ wd_36) rfl rfl d_Cal_turnHoliday_34 ?_
      refine lv_iconst (v := 1) hx hb d_Cal_turnHoliday_37 (by decide) ?_
      refine lv_iadd hx hb d_Cal_turnHoliday_38 ?_
      refine sg_put (D := (dC, dI)) (ci := 1) (v := .int (v_p0_holidayCount + (1 : Int32))) (ty := .int) (C := "JobNets$Calendars") (T := T_1) (N := 5) (S1 := [[(q_p0, .inr (1, [.ref q_p0_rules, .ref q_p0_places, .ref q_p0_holidays, .int v_p0_made, .int (v_p0_holidayCount + (1 : Int32))]))], [(q_p0_holidays, .inl (cI, 100, .inl f3))]]) hx hb hts hin_1 ty_1 tok_1 nd_1 hown hK hw 0 rfl rfl 4 (by decide) (hts _ wd_36) rfl rfl (by decide +kernel) rfl rfl (Nat.le_of_ble_eq_true rfl) rfl d_Cal_turnHoliday_39 (fun H locs hw => ?_)
      refine lv_goto (tgt := 70) hx hb d_Cal_turnHoliday_42 (by decide) ?_
      refine lv_aload_n hx hb d_Cal_turnHoliday_70 rfl (lv_at hl 1 rfl) ?_
      refine sg_get (D := (dC, dI)) (ci := 1) (v := .int (v_p0_holidayCount + (1 : Int32))) (C := "JobNets$Calendars") (T := T_1) (N := 5) hx hb hts hin_1 hown hK hw 0 rfl rfl 4 (by decide) (hts _ wd_36) rfl rfl d_Cal_turnHoliday_71 ?_
      exact so_iret (rf := fun z_ => z_.1) (Sf := fun z_ => sc_Cal_turnHoliday cI cL cM cZ q_p0 q_p0_rules q_p0_places q_p0_holidays v_p0_made z_.2.1 z_.2.2) hm hx hb hr hlocks hAe hQ hK hw rfl d_Cal_turnHoliday_74
  · refine lv_iconst (v := -1) hx hb d_Cal_turnHoliday_9 (by decide) ?_
    exact so_iret (rf := fun z_ => z_.1) (Sf := fun z_ => sc_Cal_turnHoliday cI cL cM cZ q_p0 q_p0_rules q_p0_places q_p0_holidays v_p0_made z_.2.1 z_.2.2) hm hx hb hr hlocks hAe hQ hK hw rfl d_Cal_turnHoliday_10
theorem d_Cal_hasDay_0 : decode prog_2_method_7_code 0 = .ok (.iload_n 1, 1) := by decide +kernel
theorem d_Cal_hasDay_1 : decode prog_2_method_7_code 1 = .ok (.ifCond .lt 11, 3) := by decide +kernel
theorem d_Cal_hasDay_4 : decode prog_2_method_7_code 4 = .ok (.iload_n 1, 1) := by decide +kernel
theorem d_Cal_hasDay_5 : decode prog_2_method_7_code 5 = .ok (.aload_n 0, 1) := by decide +kernel
theorem d_Cal_hasDay_6 : decode prog_2_method_7_code 6 = .ok (.getfield 21, 3) := by decide +kernel
theorem d_Cal_hasDay_9 : decode prog_2_method_7_code 9 = .ok (.if_icmp .lt 5, 3) := by decide +kernel
theorem d_Cal_hasDay_12 : decode prog_2_method_7_code 12 = .ok (.iconst 0, 1) := by decide +kernel
theorem d_Cal_hasDay_13 : decode prog_2_method_7_code 13 = .ok (.ireturn, 1) := by decide +kernel
theorem d_Cal_hasDay_14 : decode prog_2_method_7_code 14 = .ok (.iload_n 1, 1) := by decide +kernel
theorem d_Cal_hasDay_15 : decode prog_2_method_7_code 15 = .ok (.ifCond .ne 5, 3) := by decide +kernel
theorem d_Cal_hasDay_18 : decode prog_2_method_7_code 18 = .ok (.iconst 1, 1) := by decide +kernel
theorem d_Cal_hasDay_19 : decode prog_2_method_7_code 19 = .ok (.ireturn, 1) := by decide +kernel
theorem d_Cal_hasDay_20 : decode prog_2_method_7_code 20 = .ok (.aload_n 0, 1) := by decide +kernel
theorem d_Cal_hasDay_21 : decode prog_2_method_7_code 21 = .ok (.getfield 15, 3) := by decide +kernel
theorem d_Cal_hasDay_24 : decode prog_2_method_7_code 24 = .ok (.iload_n 1, 1) := by decide +kernel
theorem d_Cal_hasDay_25 : decode prog_2_method_7_code 25 = .ok (.iaload, 1) := by decide +kernel
theorem d_Cal_hasDay_26 : decode prog_2_method_7_code 26 = .ok (.istore_n 3, 1) := by decide +kernel
theorem d_Cal_hasDay_27 : decode prog_2_method_7_code 27 = .ok (.aload_n 0, 1) := by decide +kernel
theorem d_Cal_hasDay_28 : decode prog_2_method_7_code 28 = .ok (.getfield 9, 3) := by decide +kernel
theorem d_Cal_hasDay_31 : decode prog_2_method_7_code 31 = .ok (.iload_n 1, 1) := by decide +kernel
theorem d_Cal_hasDay_32 : decode prog_2_method_7_code 32 = .ok (.iaload, 1) := by decide +kernel
theorem d_Cal_hasDay_33 : decode prog_2_method_7_code 33 = .ok (.tableswitch 90 0 2 #[27, 41, 64], 27) := by decide +kernel
theorem d_Cal_hasDay_60 : decode prog_2_method_7_code 60 = .ok (.iload_n 2, 1) := by decide +kernel
theorem d_Cal_hasDay_61 : decode prog_2_method_7_code 61 = .ok (.bipush 7, 2) := by decide +kernel
theorem d_Cal_hasDay_63 : decode prog_2_method_7_code 63 = .ok (.irem, 1) := by decide +kernel
theorem d_Cal_hasDay_64 : decode prog_2_method_7_code 64 = .ok (.iload_n 3, 1) := by decide +kernel
theorem d_Cal_hasDay_65 : decode prog_2_method_7_code 65 = .ok (.if_icmp .ne 7, 3) := by decide +kernel
theorem d_Cal_hasDay_68 : decode prog_2_method_7_code 68 = .ok (.iconst 1, 1) := by decide +kernel
theorem d_Cal_hasDay_69 : decode prog_2_method_7_code 69 = .ok (.goto 4, 3) := by decide +kernel
theorem d_Cal_hasDay_72 : decode prog_2_method_7_code 72 = .ok (.iconst 0, 1) := by decide +kernel
theorem d_Cal_hasDay_73 : decode prog_2_method_7_code 73 = .ok (.ireturn, 1) := by decide +kernel
theorem d_Cal_hasDay_74 : decode prog_2_method_7_code 74 = .ok (.aload_n 0, 1) := by decide +kernel
theorem d_Cal_hasDay_75 : decode prog_2_method_7_code 75 = .ok (.iload_n 2, 1) := by decide +kernel
theorem d_Cal_hasDay_76 : decode prog_2_method_7_code 76 = .ok (.invokevirtual 39, 3) := by decide +kernel
theorem d_Cal_hasDay_79 : decode prog_2_method_7_code 79 = .ok (.ifCond .eq 16, 3) := by decide +kernel
theorem d_Cal_hasDay_82 : decode prog_2_method_7_code 82 = .ok (.aload_n 0, 1) := by decide +kernel
theorem d_Cal_hasDay_83 : decode prog_2_method_7_code 83 = .ok (.iload_n 2, 1) := by decide +kernel
theorem d_Cal_hasDay_84 : decode prog_2_method_7_code 84 = .ok (.invokevirtual 43, 3) := by decide +kernel
theorem d_Cal_hasDay_87 : decode prog_2_method_7_code 87 = .ok (.iload_n 3, 1) := by decide +kernel
theorem d_Cal_hasDay_88 : decode prog_2_method_7_code 88 = .ok (.if_icmp .ne 7, 3) := by decide +kernel
theorem d_Cal_hasDay_91 : decode prog_2_method_7_code 91 = .ok (.iconst 1, 1) := by decide +kernel
theorem d_Cal_hasDay_92 : decode prog_2_method_7_code 92 = .ok (.goto 4, 3) := by decide +kernel
theorem d_Cal_hasDay_95 : decode prog_2_method_7_code 95 = .ok (.iconst 0, 1) := by decide +kernel
theorem d_Cal_hasDay_96 : decode prog_2_method_7_code 96 = .ok (.ireturn, 1) := by decide +kernel
theorem d_Cal_hasDay_97 : decode prog_2_method_7_code 97 = .ok (.iload_n 2, 1) := by decide +kernel
theorem d_Cal_hasDay_98 : decode prog_2_method_7_code 98 = .ok (.bipush 7, 2) := by decide +kernel
theorem d_Cal_hasDay_100 : decode prog_2_method_7_code 100 = .ok (.irem, 1) := by decide +kernel
theorem d_Cal_hasDay_101 : decode prog_2_method_7_code 101 = .ok (.iload_n 3, 1) := by decide +kernel
theorem d_Cal_hasDay_102 : decode prog_2_method_7_code 102 = .ok (.if_icmp .ne 19, 3) := by decide +kernel
theorem d_Cal_hasDay_105 : decode prog_2_method_7_code 105 = .ok (.iload_n 2, 1) := by decide +kernel
theorem d_Cal_hasDay_106 : decode prog_2_method_7_code 106 = .ok (.bipush 30, 2) := by decide +kernel
theorem d_Cal_hasDay_108 : decode prog_2_method_7_code 108 = .ok (.irem, 1) := by decide +kernel
theorem d_Cal_hasDay_109 : decode prog_2_method_7_code 109 = .ok (.bipush 7, 2) := by decide +kernel
theorem d_Cal_hasDay_111 : decode prog_2_method_7_code 111 = .ok (.iadd, 1) := by decide +kernel
theorem d_Cal_hasDay_112 : decode prog_2_method_7_code 112 = .ok (.bipush 30, 2) := by decide +kernel
theorem d_Cal_hasDay_114 : decode prog_2_method_7_code 114 = .ok (.if_icmp .lt 7, 3) := by decide +kernel
theorem d_Cal_hasDay_117 : decode prog_2_method_7_code 117 = .ok (.iconst 1, 1) := by decide +kernel
theorem d_Cal_hasDay_118 : decode prog_2_method_7_code 118 = .ok (.goto 4, 3) := by decide +kernel
theorem d_Cal_hasDay_121 : decode prog_2_method_7_code 121 = .ok (.iconst 0, 1) := by decide +kernel
theorem d_Cal_hasDay_122 : decode prog_2_method_7_code 122 = .ok (.ireturn, 1) := by decide +kernel
theorem d_Cal_hasDay_123 : decode prog_2_method_7_code 123 = .ok (.aload_n 0, 1) := by decide +kernel
theorem d_Cal_hasDay_124 : decode prog_2_method_7_code 124 = .ok (.iload_n 2, 1) := by decide +kernel
theorem d_Cal_hasDay_125 : decode prog_2_method_7_code 125 = .ok (.invokevirtual 39, 3) := by decide +kernel
theorem d_Cal_hasDay_128 : decode prog_2_method_7_code 128 = .ok (.ifCond .eq 17, 3) := by decide +kernel
theorem d_Cal_hasDay_131 : decode prog_2_method_7_code 131 = .ok (.iload_n 2, 1) := by decide +kernel
theorem d_Cal_hasDay_132 : decode prog_2_method_7_code 132 = .ok (.bipush 30, 2) := by decide +kernel
theorem d_Cal_hasDay_134 : decode prog_2_method_7_code 134 = .ok (.irem, 1) := by decide +kernel
theorem d_Cal_hasDay_135 : decode prog_2_method_7_code 135 = .ok (.iconst 1, 1) := by decide +kernel
theorem d_Cal_hasDay_136 : decode prog_2_method_7_code 136 = .ok (.iadd, 1) := by decide +kernel
theorem d_Cal_hasDay_137 : decode prog_2_method_7_code 137 = .ok (.iload_n 3, 1) := by decide +kernel
theorem d_Cal_hasDay_138 : decode prog_2_method_7_code 138 = .ok (.if_icmp .eq 7, 3) := by decide +kernel
theorem d_Cal_hasDay_141 : decode prog_2_method_7_code 141 = .ok (.iconst 1, 1) := by decide +kernel
theorem d_Cal_hasDay_142 : decode prog_2_method_7_code 142 = .ok (.goto 4, 3) := by decide +kernel
theorem d_Cal_hasDay_145 : decode prog_2_method_7_code 145 = .ok (.iconst 0, 1) := by decide +kernel
theorem d_Cal_hasDay_146 : decode prog_2_method_7_code 146 = .ok (.ireturn, 1) := by decide +kernel
def md_Cal_hasDay (N : Nat) (v_p0_made : Int32) (v_p0_holidayCount : Int32) (f_p0_rules : Nat → Int32) (f_p0_places : Nat → Int32) (f_p0_holidays : Nat → Int32) (a1_x : Int32) (a2_x : Int32) : Option (Int32) :=
  (if a1_x < 0 then (some (0 : Int32)) else (if a1_x < v_p0_made then (if a1_x = 0 then (some (1 : Int32)) else (if sg_in a1_x 20 = true then (if sg_in a1_x 20 = true then (zl (f_p0_rules a1_x.toNatClampNeg) (fun x1 => (if x1 = (0 : Int32) then (if (a2_x - a2_x / (7 : Int32) * (7 : Int32)) = (f_p0_places a1_x.toNatClampNeg) then (some (1 : Int32)) else (some (0 : Int32))) else (if x1 = (1 : Int32) then (zc (md_Cal_isWorkDay N v_p0_holidayCount f_p0_holidays a2_x) (fun o4 => (if o4 = 0 then (some (0 : Int32)) else (zc (md_Cal_workDaysOfMonthTill N v_p0_holidayCount f_p0_holidays a2_x) (fun o5 => (if o5 = (f_p0_places a1_x.toNatClampNeg) then (some (1 : Int32)) else (some (0 : Int32)))))))) else (if x1 = (2 : Int32) then (if (a2_x - a2_x / (7 : Int32) * (7 : Int32)) = (f_p0_places a1_x.toNatClampNeg) then (if ((a2_x - a2_x / (30 : Int32) * (30 : Int32)) + (7 : Int32)) < (30 : Int32) then (some (0 : Int32)) else (some (1 : Int32))) else (some (0 : Int32))) else (zc (md_Cal_isWorkDay N v_p0_holidayCount f_p0_holidays a2_x) (fun o7 => (if o7 = 0 then (some (0 : Int32)) else (if ((a2_x - a2_x / (30 : Int32) * (30 : Int32)) + (1 : Int32)) = (f_p0_places a1_x.toNatClampNeg) then (some (0 : Int32)) else (some (1 : Int32))))))))))) else none) else none)) else (some (0 : Int32))))
abbrev sc_Cal_hasDay (cI cL cM cZ : ClassId) (q_p0 q_p0_rules q_p0_places q_p0_holidays : Nat) (v_p0_made : Int32) (v_p0_holidayCount : Int32) (f_p0_rules : Nat → Int32) (f_p0_places : Nat → Int32) (f_p0_holidays : Nat → Int32) : List va_W := [[(q_p0, .inr (1, [.ref q_p0_rules, .ref q_p0_places, .ref q_p0_holidays, .int v_p0_made, .int v_p0_holidayCount]))], [(q_p0_rules, .inl (cI, 20, .inl f_p0_rules))], [(q_p0_places, .inl (cI, 20, .inl f_p0_places))], [(q_p0_holidays, .inl (cI, 100, .inl f_p0_holidays))]]
abbrev rm_Cal_hasDay : Room := { frames := 2, cells := 0, slots := 0, locals := 45 }
set_option maxHeartbeats 4000000 in
set_option maxRecDepth 100000 in
theorem ct_Cal_hasDay (l : Launch) (dC : Nat → ClassId) (dI : Nat → Nat → Nat) (cI cL cM cZ : ClassId) (q_p0 q_p0_rules q_p0_places q_p0_holidays : Nat) (v_p0_made : Int32) (v_p0_holidayCount : Int32) (f_p0_rules : Nat → Int32) (f_p0_places : Nat → Int32) (f_p0_holidays : Nat → Int32) (a1_x : Int32) (a2_x : Int32) (N : Nat) (o : Int32) (hm : md_Cal_hasDay N v_p0_made v_p0_holidayCount f_p0_rules f_p0_places f_p0_holidays a1_x a2_x = some o) : ∀ sz : Nat, Met l y_Cal_hasDay ws_Cal_hasDay rm_Cal_hasDay (cP (dC, dI) vwCl [(cI, .int), (cL, .long), (cM, .array .int), (cZ, .boolean)] [.ref q_p0, .int a1_x, .int a2_x] sz (sc_Cal_hasDay cI cL cM cZ q_p0 q_p0_rules q_p0_places q_p0_holidays v_p0_made v_p0_holidayCount f_p0_rules f_p0_places f_p0_holidays)) (cQi (dC, dI) vwCl [(cI, .int), (cL, .long), (cM, .array .int), (cZ, .boolean)] sz (sc_Cal_hasDay cI cL cM cZ q_p0 q_p0_rules q_p0_places q_p0_holidays v_p0_made v_p0_holidayCount f_p0_rules f_p0_places f_p0_holidays) o (sc_Cal_hasDay cI cL cM cZ q_p0 q_p0_rules q_p0_places q_p0_holidays v_p0_made v_p0_holidayCount f_p0_rules f_p0_places f_p0_holidays)) 0 0 (va_A ((sc_Cal_hasDay cI cL cM cZ q_p0 q_p0_rules q_p0_places q_p0_holidays v_p0_made v_p0_holidayCount f_p0_rules f_p0_places f_p0_holidays)).flatten sz) := by
  refine sg_met (fun sz => cQi (dC, dI) vwCl [(cI, .int), (cL, .long), (cM, .array .int), (cZ, .boolean)] sz (sc_Cal_hasDay cI cL cM cZ q_p0 q_p0_rules q_p0_places q_p0_holidays v_p0_made v_p0_holidayCount f_p0_rules f_p0_places f_p0_holidays) o (sc_Cal_hasDay cI cL cM cZ q_p0 q_p0_rules q_p0_places q_p0_holidays v_p0_made v_p0_holidayCount f_p0_rules f_p0_places f_p0_holidays)) (by decide) (Nat.le_of_ble_eq_true rfl) ?_
  intro p e s m args below meth c A Q ls hx hb hr hts hown hlocks hml hname hK hNW hA hAe hQ hw hl
  have hl : lv_has ls 4 [(0, .ref q_p0), (1, .int a1_x), (2, .int a2_x)] := hl
  have hw : wk (dC, dI) vwCl A s.heap [[(q_p0, .inr (1, [.ref q_p0_rules, .ref q_p0_places, .ref q_p0_holidays, .int v_p0_made, .int v_p0_holidayCount]))], [(q_p0_rules, .inl (cI, 20, .inl f_p0_rules))], [(q_p0_places, .inl (cI, 20, .inl f_p0_places))], [(q_p0_holidays, .inl (cI, 100, .inl f_p0_holidays))]] s.heap [] := hw
  unfold md_Cal_hasDay at hm
  refine lv_iload_n hx hb d_Cal_hasDay_0 rfl (lv_at hl 1 rfl) ?_
  refine bq_t (lv_if_lt (tgt := 12) hx hb d_Cal_hasDay_1 (by decide)) hm (fun hm => ?_) (fun hm => ?_)
  · refine lv_iconst (v := 0) hx hb d_Cal_hasDay_12 (by decide) ?_
    exact so_zret (rf := fun z_ => z_) (Sf := fun z_ => sc_Cal_hasDay cI cL cM cZ q_p0 q_p0_rules q_p0_places q_p0_holidays v_p0_made v_p0_holidayCount f_p0_rules f_p0_places f_p0_holidays) hm hx hb hr rfl hlocks hAe hQ hK hw rfl d_Cal_hasDay_13
  · refine lv_iload_n hx hb d_Cal_hasDay_4 rfl (lv_at hl 1 rfl) ?_
    refine lv_aload_n hx hb d_Cal_hasDay_5 rfl (lv_at hl 0 rfl) ?_
    refine sg_get (D := (dC, dI)) (ci := 1) (v := .int v_p0_made) (C := "JobNets$Calendars") (T := T_1) (N := 5) hx hb hts hin_1 hown hK hw 0 rfl rfl 3 (by decide) (hts _ wd_34) rfl rfl d_Cal_hasDay_6 ?_
    refine bq_t (lv_icmp_lt (tgt := 14) hx hb d_Cal_hasDay_9 (by decide)) hm (fun hm => ?_) (fun hm => ?_)
    · refine lv_iload_n hx hb d_Cal_hasDay_14 rfl (lv_at hl 1 rfl) ?_
      refine bq_n (lv_if_ne (tgt := 20) hx hb d_Cal_hasDay_15 (by decide)) hm (fun hm => ?_) (fun hm => ?_)
      · refine lv_aload_n hx hb d_Cal_hasDay_20 rfl (lv_at hl 0 rfl) ?_
        refine sg_get (D := (dC, dI)) (ci := 1) (v := .ref q_p0_places) (C := "JobNets$Calendars") (T := T_1) (N := 5) hx hb hts hin_1 hown hK hw 0 rfl rfl 1 (by decide) (hts _ wd_32) rfl rfl d_Cal_hasDay_21 ?_
        refine lv_iload_n hx hb d_Cal_hasDay_24 rfl (lv_at hl 1 rfl) ?_
        refine sg_iald hx hb hK hw 2 0 rfl rfl d_Cal_hasDay_25 hm (fun hm => ?_)
        refine lv_istore_n (lv' := [(3, .int (f_p0_places a1_x.toNatClampNeg)), (0, .ref q_p0), (1, .int a1_x), (2, .int a2_x)]) hx hb d_Cal_hasDay_26 rfl hl (by decide) rfl (fun ls hl => ?_)
        refine lv_aload_n hx hb d_Cal_hasDay_27 rfl (lv_at hl 1 rfl) ?_
        refine sg_get (D := (dC, dI)) (ci := 1) (v := .ref q_p0_rules) (C := "JobNets$Calendars") (T := T_1) (N := 5) hx hb hts hin_1 hown hK hw 0 rfl rfl 0 (by decide) (hts _ wd_31) rfl rfl d_Cal_hasDay_28 ?_
        refine lv_iload_n hx hb d_Cal_hasDay_31 rfl (lv_at hl 2 rfl) ?_
        refine sg_iald hx hb hK hw 1 0 rfl rfl d_Cal_hasDay_32 hm (fun hm => ?_)
        refine nm_i hm (fun x1 hm => ?_)
        refine it_c hm (fun hc2 hm => ?_) (fun hc2 hm => ?_)
        · refine lv_tableIn (tgt := 60) hx hb d_Cal_hasDay_33 (by rw [hc2]; decide) (by rw [hc2]; decide) (by rw [hc2]; rfl) (by decide) ?_
          refine lv_iload_n hx hb d_Cal_hasDay_60 rfl (lv_at hl 3 rfl) ?_
          refine lv_bipush (v := 7) hx hb d_Cal_hasDay_61 (by decide) ?_
          refine lv_irem hx hb d_Cal_hasDay_63 (by decide) ?_
          refine lv_iload_n hx hb d_Cal_hasDay_64 rfl (lv_at hl 0 rfl) ?_
          refine bq_n (lv_icmp_ne (tgt := 72) hx hb d_Cal_hasDay_65 (by decide)) hm (fun hm => ?_) (fun hm => ?_)
          · refine lv_iconst (v := 0) hx hb d_Cal_hasDay_72 (by decide) ?_
            exact so_zret (rf := fun z_ => z_) (Sf := fun z_ => sc_Cal_hasDay cI cL cM cZ q_p0 q_p0_rules q_p0_places q_p0_holidays v_p0_made v_p0_holidayCount f_p0_rules f_p0_places f_p0_holidays) hm hx hb hr rfl hlocks hAe hQ hK hw rfl d_Cal_hasDay_73
          · refine lv_iconst (v := 1) hx hb d_Cal_hasDay_68 (by decide) ?_
            refine lv_goto (tgt := 73) hx hb d_Cal_hasDay_69 (by decide) ?_
            exact so_zret (rf := fun z_ => z_) (Sf := fun z_ => sc_Cal_hasDay cI cL cM cZ q_p0 q_p0_rules q_p0_places q_p0_holidays v_p0_made v_p0_holidayCount f_p0_rules f_p0_places f_p0_holidays) hm hx hb hr rfl hlocks hAe hQ hK hw rfl d_Cal_hasDay_73
        · skip
          refine it_c hm (fun hc3 hm => ?_) (fun hc3 hm => ?_)
          · refine lv_tableIn (tgt := 74) hx hb d_Cal_hasDay_33 (by rw [hc3]; decide) (by rw [hc3]; decide) (by rw [hc3]; rfl) (by decide) ?_
            refine lv_aload_n hx hb d_Cal_hasDay_74 rfl (lv_at hl 1 rfl) ?_
            refine lv_iload_n hx hb d_Cal_hasDay_75 rfl (lv_at hl 3 rfl) ?_
            obtain ⟨o4, h4, hm⟩ := zc_x hm
            refine sg_ci0 (Sr := [[(q_p0_rules, .inl (cI, 20, .inl f_p0_rules))], [(q_p0_places, .inl (cI, 20, .inl f_p0_places))]]) (va_runV (As := [.int a2_x]) (rest := []) ⟨hx, hb, hml, hown, hts⟩ (ct_Cal_isWorkDay l dC dI cI cL cM cZ q_p0 q_p0_rules q_p0_places q_p0_holidays v_p0_made v_p0_holidayCount f_p0_holidays a2_x N o4 h4 _) (cwV 1 hts (gd_V wd_407 wd_409 ws_10 wd_2 wd_410) rfl rfl rfl (by decide +kernel) ⟨Nat.le_of_ble_eq_true rfl, Nat.le_of_ble_eq_true rfl⟩) (sg_preV (ci := 1) (q0 := 0) hK hNW hw [0, 3] rfl rfl rfl rfl) rfl rfl hl.1 rfl (lv_room (Nat.le_of_ble_eq_true rfl)) d_Cal_hasDay_76 ⟨Nat.le_of_ble_eq_true rfl, Nat.le_of_ble_eq_true rfl⟩) hw hA [0, 3] [1, 2] rfl rfl rfl (by decide) (fun H locs hw => ?_)
            have hw : wk (dC, dI) vwCl A s.heap [[(q_p0_rules, .inl (cI, 20, .inl f_p0_rules))], [(q_p0_places, .inl (cI, 20, .inl f_p0_places))], [(q_p0, .inr (1, [.ref q_p0_rules, .ref q_p0_places, .ref q_p0_holidays, .int v_p0_made, .int v_p0_holidayCount]))], [(q_p0_holidays, .inl (cI, 100, .inl f_p0_holidays))]] H locs := hw
            refine bq_t (lv_if_eq (tgt := 95) hx hb d_Cal_hasDay_79 (by decide)) hm (fun hm => ?_) (fun hm => ?_)
            · refine lv_iconst (v := 0) hx hb d_Cal_hasDay_95 (by decide) ?_
              exact so_zret (rf := fun z_ => z_) (Sf := fun z_ => sc_Cal_hasDay cI cL cM cZ q_p0 q_p0_rules q_p0_places q_p0_holidays v_p0_made v_p0_holidayCount f_p0_rules f_p0_places f_p0_holidays) hm hx hb hr rfl hlocks hAe hQ hK (hw.sub [2, 0, 1, 3] (by decide) rfl) rfl d_Cal_hasDay_96
            · refine lv_aload_n hx hb d_Cal_hasDay_82 rfl (lv_at hl 1 rfl) ?_
              refine lv_iload_n hx hb d_Cal_hasDay_83 rfl (lv_at hl 3 rfl) ?_
              obtain ⟨o5, h5, hm⟩ := zc_x hm
              refine sg_ci0 (Sr := [[(q_p0_rules, .inl (cI, 20, .inl f_p0_rules))], [(q_p0_places, .inl (cI, 20, .inl f_p0_places))]]) (va_runV (As := [.int a2_x]) (rest := []) ⟨hx, hb, hml, hown, hts⟩ (ct_Cal_workDaysOfMonthTill l dC dI cI cL cM cZ q_p0 q_p0_rules q_p0_places q_p0_holidays v_p0_made v_p0_holidayCount f_p0_holidays a2_x N o5 h5 _) (cwV 1 hts (gd_V wd_414 wd_416 ws_11 wd_2 wd_417) rfl rfl rfl (by decide +kernel) ⟨Nat.le_of_ble_eq_true rfl, Nat.le_of_ble_eq_true rfl⟩) (sg_preV (ci := 1) (q0 := 2) hK hNW hw [2, 3] rfl rfl rfl rfl) rfl rfl hl.1 rfl (lv_room (Nat.le_of_ble_eq_true rfl)) d_Cal_hasDay_84 ⟨Nat.le_of_ble_eq_true rfl, Nat.le_of_ble_eq_true rfl⟩) hw hA [2, 3] [0, 1] rfl rfl rfl (by decide) (fun H locs hw => ?_)
              have hw : wk (dC, dI) vwCl A s.heap [[(q_p0_rules, .inl (cI, 20, .inl f_p0_rules))], [(q_p0_places, .inl (cI, 20, .inl f_p0_places))], [(q_p0, .inr (1, [.ref q_p0_rules, .ref q_p0_places, .ref q_p0_holidays, .int v_p0_made, .int v_p0_holidayCount]))], [(q_p0_holidays, .inl (cI, 100, .inl f_p0_holidays))]] H locs := hw
              refine lv_iload_n hx hb d_Cal_hasDay_87 rfl (lv_at hl 0 rfl) ?_
              refine bq_n (lv_icmp_ne (tgt := 95) hx hb d_Cal_hasDay_88 (by decide)) hm (fun hm => ?_) (fun hm => ?_)
              · refine lv_iconst (v := 0) hx hb d_Cal_hasDay_95 (by decide) ?_
                exact so_zret (rf := fun z_ => z_) (Sf := fun z_ => sc_Cal_hasDay cI cL cM cZ q_p0 q_p0_rules q_p0_places q_p0_holidays v_p0_made v_p0_holidayCount f_p0_rules f_p0_places f_p0_holidays) hm hx hb hr rfl hlocks hAe hQ hK (hw.sub [2, 0, 1, 3] (by decide) rfl) rfl d_Cal_hasDay_96
              · refine lv_iconst (v := 1) hx hb d_Cal_hasDay_91 (by decide) ?_
                refine lv_goto (tgt := 96) hx hb d_Cal_hasDay_92 (by decide) ?_
                exact so_zret (rf := fun z_ => z_) (Sf := fun z_ => sc_Cal_hasDay cI cL cM cZ q_p0 q_p0_rules q_p0_places q_p0_holidays v_p0_made v_p0_holidayCount f_p0_rules f_p0_places f_p0_holidays) hm hx hb hr rfl hlocks hAe hQ hK (hw.sub [2, 0, 1, 3] (by decide) rfl) rfl d_Cal_hasDay_96
          · skip
            refine it_c hm (fun hc6 hm => ?_) (fun hc6 hm => ?_)
            · refine lv_tableIn (tgt := 97) hx hb d_Cal_hasDay_33 (by rw [hc6]; decide) (by rw [hc6]; decide) (by rw [hc6]; rfl) (by decide) ?_
              refine lv_iload_n hx hb d_Cal_hasDay_97 rfl (lv_at hl 3 rfl) ?_
              refine lv_bipush (v := 7) hx hb d_Cal_hasDay_98 (by decide) ?_
              refine lv_irem hx hb d_Cal_hasDay_100 (by decide) ?_
              refine lv_iload_n hx hb d_Cal_hasDay_101 rfl (lv_at hl 0 rfl) ?_
              refine bq_n (lv_icmp_ne (tgt := 121) hx hb d_Cal_hasDay_102 (by decide)) hm (fun hm => ?_) (fun hm => ?_)
              · refine lv_iconst (v := 0) hx hb d_Cal_hasDay_121 (by decide) ?_
                exact so_zret (rf := fun z_ => z_) (Sf := fun z_ => sc_Cal_hasDay cI cL cM cZ q_p0 q_p0_rules q_p0_places q_p0_holidays v_p0_made v_p0_holidayCount f_p0_rules f_p0_places f_p0_holidays) hm hx hb hr rfl hlocks hAe hQ hK hw rfl d_Cal_hasDay_122
              · refine lv_iload_n hx hb d_Cal_hasDay_105 rfl (lv_at hl 3 rfl) ?_
                refine lv_bipush (v := 30) hx hb d_Cal_hasDay_106 (by decide) ?_
                refine lv_irem hx hb d_Cal_hasDay_108 (by decide) ?_
                refine lv_bipush (v := 7) hx hb d_Cal_hasDay_109 (by decide) ?_
                refine lv_iadd hx hb d_Cal_hasDay_111 ?_
                refine lv_bipush (v := 30) hx hb d_Cal_hasDay_112 (by decide) ?_
                refine bq_t (lv_icmp_lt (tgt := 121) hx hb d_Cal_hasDay_114 (by decide)) hm (fun hm => ?_) (fun hm => ?_)
                · refine lv_iconst (v := 0) hx hb d_Cal_hasDay_121 (by decide) ?_
                  exact so_zret (rf := fun z_ => z_) (Sf := fun z_ => sc_Cal_hasDay cI cL cM cZ q_p0 q_p0_rules q_p0_places q_p0_holidays v_p0_made v_p0_holidayCount f_p0_rules f_p0_places f_p0_holidays) hm hx hb hr rfl hlocks hAe hQ hK hw rfl d_Cal_hasDay_122
                · refine lv_iconst (v := 1) hx hb d_Cal_hasDay_117 (by decide) ?_
                  refine lv_goto (tgt := 122) hx hb d_Cal_hasDay_118 (by decide) ?_
                  exact so_zret (rf := fun z_ => z_) (Sf := fun z_ => sc_Cal_hasDay cI cL cM cZ q_p0 q_p0_rules q_p0_places q_p0_holidays v_p0_made v_p0_holidayCount f_p0_rules f_p0_places f_p0_holidays) hm hx hb hr rfl hlocks hAe hQ hK hw rfl d_Cal_hasDay_122
            · skip
              refine lv_tableOut (tgt := 123) hx hb d_Cal_hasDay_33 (by have mhc2 := i32_nk (0) (0) (by decide) hc2; have mhc3 := i32_nk (1) (1) (by decide) hc3; have mhc6 := i32_nk (2) (2) (by decide) hc6; omega) (by decide) ?_
              refine lv_aload_n hx hb d_Cal_hasDay_123 rfl (lv_at hl 1 rfl) ?_
              refine lv_iload_n hx hb d_Cal_hasDay_124 rfl (lv_at hl 3 rfl) ?_
              obtain ⟨o7, h7, hm⟩ := zc_x hm
              refine sg_ci0 (Sr := [[(q_p0_rules, .inl (cI, 20, .inl f_p0_rules))], [(q_p0_places, .inl (cI, 20, .inl f_p0_places))]]) (va_runV (As := [.int a2_x]) (rest := []) ⟨hx, hb, hml, hown, hts⟩ (ct_Cal_isWorkDay l dC dI cI cL cM cZ q_p0 q_p0_rules q_p0_places q_p0_holidays v_p0_made v_p0_holidayCount f_p0_holidays a2_x N o7 h7 _) (cwV 1 hts (gd_V wd_407 wd_409 ws_10 wd_2 wd_410) rfl rfl rfl (by decide +kernel) ⟨Nat.le_of_ble_eq_true rfl, Nat.le_of_ble_eq_true rfl⟩) (sg_preV (ci := 1) (q0 := 0) hK hNW hw [0, 3] rfl rfl rfl rfl) rfl rfl hl.1 rfl (lv_room (Nat.le_of_ble_eq_true rfl)) d_Cal_hasDay_125 ⟨Nat.le_of_ble_eq_true rfl, Nat.le_of_ble_eq_true rfl⟩) hw hA [0, 3] [1, 2] rfl rfl rfl (by decide) (fun H locs hw => ?_)
              have hw : wk (dC, dI) vwCl A s.heap [[(q_p0_rules, .inl (cI, 20, .inl f_p0_rules))], [(q_p0_places, .inl (cI, 20, .inl f_p0_places))], [(q_p0, .inr (1, [.ref q_p0_rules, .ref q_p0_places, .ref q_p0_holidays, .int v_p0_made, .int v_p0_holidayCount]))], [(q_p0_holidays, .inl (cI, 100, .inl f_p0_holidays))]] H locs := hw
              refine bq_t (lv_if_eq (tgt := 145) hx hb d_Cal_hasDay_128 (by decide)) hm (fun hm => ?_) (fun hm => ?_)
              · refine lv_iconst (v := 0) hx hb d_Cal_hasDay_145 (by decide) ?_
                exact so_zret (rf := fun z_ => z_) (Sf := fun z_ => sc_Cal_hasDay cI cL cM cZ q_p0 q_p0_rules q_p0_places q_p0_holidays v_p0_made v_p0_holidayCount f_p0_rules f_p0_places f_p0_holidays) hm hx hb hr rfl hlocks hAe hQ hK (hw.sub [2, 0, 1, 3] (by decide) rfl) rfl d_Cal_hasDay_146
              · refine lv_iload_n hx hb d_Cal_hasDay_131 rfl (lv_at hl 3 rfl) ?_
                refine lv_bipush (v := 30) hx hb d_Cal_hasDay_132 (by decide) ?_
                refine lv_irem hx hb d_Cal_hasDay_134 (by decide) ?_
                refine lv_iconst (v := 1) hx hb d_Cal_hasDay_135 (by decide) ?_
                refine lv_iadd hx hb d_Cal_hasDay_136 ?_
                refine lv_iload_n hx hb d_Cal_hasDay_137 rfl (lv_at hl 0 rfl) ?_
                refine bq_t (lv_icmp_eq (tgt := 145) hx hb d_Cal_hasDay_138 (by decide)) hm (fun hm => ?_) (fun hm => ?_)
                · refine lv_iconst (v := 0) hx hb d_Cal_hasDay_145 (by decide) ?_
                  exact so_zret (rf := fun z_ => z_) (Sf := fun z_ => sc_Cal_hasDay cI cL cM cZ q_p0 q_p0_rules q_p0_places q_p0_holidays v_p0_made v_p0_holidayCount f_p0_rules f_p0_places f_p0_holidays) hm hx hb hr rfl hlocks hAe hQ hK (hw.sub [2, 0, 1, 3] (by decide) rfl) rfl d_Cal_hasDay_146
                · refine lv_iconst (v := 1) hx hb d_Cal_hasDay_141 (by decide) ?_
                  refine lv_goto (tgt := 146) hx hb d_Cal_hasDay_142 (by decide) ?_
                  exact so_zret (rf := fun z_ => z_) (Sf := fun z_ => sc_Cal_hasDay cI cL cM cZ q_p0 q_p0_rules q_p0_places q_p0_holidays v_p0_made v_p0_holidayCount f_p0_rules f_p0_places f_p0_holidays) hm hx hb hr rfl hlocks hAe hQ hK (hw.sub [2, 0, 1, 3] (by decide) rfl) rfl d_Cal_hasDay_146
      · refine lv_iconst (v := 1) hx hb d_Cal_hasDay_18 (by decide) ?_
        exact so_zret (rf := fun z_ => z_) (Sf := fun z_ => sc_Cal_hasDay cI cL cM cZ q_p0 q_p0_rules q_p0_places q_p0_holidays v_p0_made v_p0_holidayCount f_p0_rules f_p0_places f_p0_holidays) hm hx hb hr rfl hlocks hAe hQ hK hw rfl d_Cal_hasDay_19
    · refine lv_iconst (v := 0) hx hb d_Cal_hasDay_12 (by decide) ?_
      exact so_zret (rf := fun z_ => z_) (Sf := fun z_ => sc_Cal_hasDay cI cL cM cZ q_p0 q_p0_rules q_p0_places q_p0_holidays v_p0_made v_p0_holidayCount f_p0_rules f_p0_places f_p0_holidays) hm hx hb hr rfl hlocks hAe hQ hK hw rfl d_Cal_hasDay_13
theorem d_Kep_forget_0 : decode prog_3_method_2_code 0 = .ok (.aload_n 0, 1) := by decide +kernel
theorem d_Kep_forget_1 : decode prog_3_method_2_code 1 = .ok (.getfield 9, 3) := by decide +kernel
theorem d_Kep_forget_4 : decode prog_3_method_2_code 4 = .ok (.lconst 0, 1) := by decide +kernel
theorem d_Kep_forget_5 : decode prog_3_method_2_code 5 = .ok (.invokestatic 19, 3) := by decide +kernel
theorem d_Kep_forget_8 : decode prog_3_method_2_code 8 = .ok (.aload_n 0, 1) := by decide +kernel
theorem d_Kep_forget_9 : decode prog_3_method_2_code 9 = .ok (.getfield 15, 3) := by decide +kernel
theorem d_Kep_forget_12 : decode prog_3_method_2_code 12 = .ok (.iconst 0, 1) := by decide +kernel
theorem d_Kep_forget_13 : decode prog_3_method_2_code 13 = .ok (.invokestatic 25, 3) := by decide +kernel
theorem d_Kep_forget_16 : decode prog_3_method_2_code 16 = .ok (.return_, 1) := by decide +kernel
def md_Kep_forget (N : Nat) (f_p0_sums : Nat → Int64) (f_p0_counts : Nat → Int32) : Option ((Nat → Int64) × (Nat → Int32)) :=
  (zc (md_JA_fill N 27 f_p0_sums (0 : Int64)) (fun o1 => (zc (md_JA_fill2 N 27 f_p0_counts (0 : Int32)) (fun o2 => (some (o1, o2))))))
abbrev sc_Kep_forget (cI cL cM cZ : ClassId) (q_p0 q_p0_sums q_p0_counts : Nat) (f_p0_sums : Nat → Int64) (f_p0_counts : Nat → Int32) : List va_W := [[(q_p0, .inr (2, [.ref q_p0_sums, .ref q_p0_counts]))], [(q_p0_sums, .inl (cL, 27, .inr (.inl f_p0_sums)))], [(q_p0_counts, .inl (cI, 27, .inl f_p0_counts))]]
abbrev rm_Kep_forget : Room := { frames := 1, cells := 0, slots := 0, locals := 24 }
set_option maxHeartbeats 4000000 in
set_option maxRecDepth 100000 in
theorem ct_Kep_forget (l : Launch) (dC : Nat → ClassId) (dI : Nat → Nat → Nat) (cI cL cM cZ : ClassId) (q_p0 q_p0_sums q_p0_counts : Nat) (f_p0_sums : Nat → Int64) (f_p0_counts : Nat → Int32) (N : Nat) (o : (Nat → Int64) × (Nat → Int32)) (hm : md_Kep_forget N f_p0_sums f_p0_counts = some o) : ∀ sz : Nat, Met l y_Kep_forget ws_Kep_forget rm_Kep_forget (cP (dC, dI) vwCl [(cI, .int), (cL, .long), (cM, .array .int), (cZ, .boolean)] [.ref q_p0] sz (sc_Kep_forget cI cL cM cZ q_p0 q_p0_sums q_p0_counts f_p0_sums f_p0_counts)) (cQv (dC, dI) vwCl [(cI, .int), (cL, .long), (cM, .array .int), (cZ, .boolean)] sz (sc_Kep_forget cI cL cM cZ q_p0 q_p0_sums q_p0_counts f_p0_sums f_p0_counts) (sc_Kep_forget cI cL cM cZ q_p0 q_p0_sums q_p0_counts o.1 o.2)) 0 0 (va_A ((sc_Kep_forget cI cL cM cZ q_p0 q_p0_sums q_p0_counts f_p0_sums f_p0_counts)).flatten sz) := by
  refine sg_met (fun sz => cQv (dC, dI) vwCl [(cI, .int), (cL, .long), (cM, .array .int), (cZ, .boolean)] sz (sc_Kep_forget cI cL cM cZ q_p0 q_p0_sums q_p0_counts f_p0_sums f_p0_counts) (sc_Kep_forget cI cL cM cZ q_p0 q_p0_sums q_p0_counts o.1 o.2)) (by decide) (Nat.le_of_ble_eq_true rfl) ?_
  intro p e s m args below meth c A Q ls hx hb hr hts hown hlocks hml hname hK hNW hA hAe hQ hw hl
  have hl : lv_has ls 1 [(0, .ref q_p0)] := hl
  have hw : wk (dC, dI) vwCl A s.heap [[(q_p0, .inr (2, [.ref q_p0_sums, .ref q_p0_counts]))], [(q_p0_sums, .inl (cL, 27, .inr (.inl f_p0_sums)))], [(q_p0_counts, .inl (cI, 27, .inl f_p0_counts))]] s.heap [] := hw
  unfold md_Kep_forget at hm
  refine lv_aload_n hx hb d_Kep_forget_0 rfl (lv_at hl 0 rfl) ?_
  refine sg_get (D := (dC, dI)) (ci := 2) (v := .ref q_p0_sums) (C := "JobNets$KeptTimes") (T := T_2) (N := 2) hx hb hts hin_2 hown hK hw 0 rfl rfl 0 (by decide) (hts _ wd_121) rfl rfl d_Kep_forget_1 ?_
  refine lv_lconst (v := 0) hx hb d_Kep_forget_4 (by decide) ?_
  obtain ⟨o1, h1, hm⟩ := zc_x hm
  refine sg_cv0 (Sr := [[(q_p0, .inr (2, [.ref q_p0_sums, .ref q_p0_counts]))], [(q_p0_counts, .inl (cI, 27, .inl f_p0_counts))]]) (va_runS (As := [.ref q_p0_sums, .long (0 : Int64)]) (rest := []) ⟨hx, hb, hml, hown, hts⟩ (ct_JA_fill l dC dI cI cL cM cZ q_p0_sums 27 f_p0_sums (0 : Int64) N o1 h1 _) (va_cwS 2 hts (gd_T wd_352 wd_353 wd_11 wd_354) rfl rfl rfl (by decide +kernel) ⟨Nat.le_of_ble_eq_true rfl, Nat.le_of_ble_eq_true rfl⟩) (sg_preS hK hNW hw [1] rfl rfl) rfl rfl hl.1 rfl (lv_room (Nat.le_of_ble_eq_true rfl)) d_Kep_forget_5 ⟨Nat.le_of_ble_eq_true rfl, Nat.le_of_ble_eq_true rfl⟩) hw hA [1] [0, 2] rfl rfl rfl (by decide) (fun H locs hw => ?_)
  have hw : wk (dC, dI) vwCl A s.heap [[(q_p0, .inr (2, [.ref q_p0_sums, .ref q_p0_counts]))], [(q_p0_counts, .inl (cI, 27, .inl f_p0_counts))], [(q_p0_sums, .inl (cL, 27, .inr (.inl o1)))]] H locs := hw
  refine lv_aload_n hx hb d_Kep_forget_8 rfl (lv_at hl 0 rfl) ?_
  refine sg_get (D := (dC, dI)) (ci := 2) (v := .ref q_p0_counts) (C := "JobNets$KeptTimes") (T := T_2) (N := 2) hx hb hts hin_2 hown hK hw 0 rfl rfl 1 (by decide) (hts _ wd_123) rfl rfl d_Kep_forget_9 ?_
  refine lv_iconst (v := 0) hx hb d_Kep_forget_12 (by decide) ?_
  obtain ⟨o2, h2, hm⟩ := zc_x hm
  refine sg_cv0 (Sr := [[(q_p0, .inr (2, [.ref q_p0_sums, .ref q_p0_counts]))], [(q_p0_sums, .inl (cL, 27, .inr (.inl o1)))]]) (va_runS (As := [.ref q_p0_counts, .int (0 : Int32)]) (rest := []) ⟨hx, hb, hml, hown, hts⟩ (ct_JA_fill2 l dC dI cI cL cM cZ q_p0_counts 27 f_p0_counts (0 : Int32) N o2 h2 _) (va_cwS 2 hts (gd_T wd_355 wd_271 wd_11 wd_272) rfl rfl rfl (by decide +kernel) ⟨Nat.le_of_ble_eq_true rfl, Nat.le_of_ble_eq_true rfl⟩) (sg_preS hK hNW hw [1] rfl rfl) rfl rfl hl.1 rfl (lv_room (Nat.le_of_ble_eq_true rfl)) d_Kep_forget_13 ⟨Nat.le_of_ble_eq_true rfl, Nat.le_of_ble_eq_true rfl⟩) hw hA [1] [0, 2] rfl rfl rfl (by decide) (fun H locs hw => ?_)
  have hw : wk (dC, dI) vwCl A s.heap [[(q_p0, .inr (2, [.ref q_p0_sums, .ref q_p0_counts]))], [(q_p0_sums, .inl (cL, 27, .inr (.inl o1)))], [(q_p0_counts, .inl (cI, 27, .inl o2))]] H locs := hw
  exact so_vret (Sf := fun z_ => sc_Kep_forget cI cL cM cZ q_p0 q_p0_sums q_p0_counts z_.1 z_.2) hm hx hb hr hlocks hAe hQ hK hw d_Kep_forget_16
theorem d_Lon_init_0 : decode prog_4_method_1_code 0 = .ok (.aload_n 0, 1) := by decide +kernel
theorem d_Lon_init_1 : decode prog_4_method_1_code 1 = .ok (.invokespecial 3, 3) := by decide +kernel
theorem d_Lon_init_4 : decode prog_4_method_1_code 4 = .ok (.aload_n 0, 1) := by decide +kernel
theorem d_Lon_init_5 : decode prog_4_method_1_code 5 = .ok (.bipush 27, 2) := by decide +kernel
theorem d_Lon_init_7 : decode prog_4_method_1_code 7 = .ok (.newarray .int, 2) := by decide +kernel
theorem d_Lon_init_9 : decode prog_4_method_1_code 9 = .ok (.putfield 9, 3) := by decide +kernel
theorem d_Lon_init_12 : decode prog_4_method_1_code 12 = .ok (.aload_n 0, 1) := by decide +kernel
theorem d_Lon_init_13 : decode prog_4_method_1_code 13 = .ok (.bipush 27, 2) := by decide +kernel
theorem d_Lon_init_15 : decode prog_4_method_1_code 15 = .ok (.newarray .int, 2) := by decide +kernel
theorem d_Lon_init_17 : decode prog_4_method_1_code 17 = .ok (.putfield 15, 3) := by decide +kernel
theorem d_Lon_init_20 : decode prog_4_method_1_code 20 = .ok (.aload_n 0, 1) := by decide +kernel
theorem d_Lon_init_21 : decode prog_4_method_1_code 21 = .ok (.new 18, 3) := by decide +kernel
theorem d_Lon_init_24 : decode prog_4_method_1_code 24 = .ok (.dup, 1) := by decide +kernel
theorem d_Lon_init_25 : decode prog_4_method_1_code 25 = .ok (.invokespecial 20, 3) := by decide +kernel
theorem d_Lon_init_28 : decode prog_4_method_1_code 28 = .ok (.putfield 21, 3) := by decide +kernel
theorem d_Lon_init_31 : decode prog_4_method_1_code 31 = .ok (.return_, 1) := by decide +kernel
def sd_Lon_init (cI cL cM cZ : ClassId) (q_p0 : Nat) (u : ADs) : List va_W := [[(q_p0, .inr (3, [.ref (u.1.getD 0 0), .ref (u.1.getD 1 0), .ref (u.1.getD 2 0)]))], [((u.1.getD 0 0), .inl (cI, 27, .inl (fun _ => 0)))], [((u.1.getD 1 0), .inl (cI, 27, .inl (fun _ => 0)))], [((u.1.getD 2 0), .inr (8, [.ref (u.1.getD 3 0), .int 0]))], [((u.1.getD 3 0), .inl (cI, 26, .inl (fun _ => 0)))]]
abbrev rm_Lon_init : Room := { frames := 2, cells := 4, slots := 82, locals := 40 }
set_option maxHeartbeats 4000000 in
set_option maxRecDepth 100000 in
theorem ct_Lon_init (l : Launch) (dC : Nat → ClassId) (dI : Nat → Nat → Nat) (cI cL cM cZ : ClassId) (q_p0 : Nat) : ∀ sz : Nat, Met l y_Lon_init ws_Lon_init rm_Lon_init (cP (dC, dI) vwCl [(cI, .int), (cL, .long), (cM, .array .int), (cZ, .boolean)] [.ref q_p0] sz [[(q_p0, .inr (3, [.null, .null, .null]))]]) (cQc (dC, dI) vwCl [(cI, .int), (cL, .long), (cM, .array .int), (cZ, .boolean)] sz [[(q_p0, .inr (3, [.null, .null, .null]))]] (sd_Lon_init cI cL cM cZ q_p0)) 4 82 (va_A (List.flatten [[(q_p0, .inr (3, [.null, .null, .null]))]]) sz) := by
  refine sg_met (y := y_Lon_init) (cc := prog_4_method_1_code) (maxL := 1) (ret := none) (rm := rm_Lon_init) (av := [.ref q_p0]) (Sc := [[(q_p0, .inr (3, [.null, .null, .null]))]]) (mc := 4) (ms := 82) (D := (dC, dI)) (cl := vwCl) (tys := [(cI, .int), (cL, .long), (cM, .array .int), (cZ, .boolean)]) (fun sz => cQc (dC, dI) vwCl [(cI, .int), (cL, .long), (cM, .array .int), (cZ, .boolean)] sz [[(q_p0, .inr (3, [.null, .null, .null]))]] (sd_Lon_init cI cL cM cZ q_p0)) (by decide) (Nat.le_of_ble_eq_true rfl) ?_
  intro p e s m args below meth c A Q ls hx hb hr hts hown hlocks hml hname hK hNW hA hAe hQ hw hl
  have hl : lv_has ls 1 [(0, .ref q_p0)] := hl
  have hw : wk (dC, dI) vwCl A s.heap [[(q_p0, .inr (3, [.null, .null, .null]))]] s.heap [] := hw
  refine lv_aload_n hx hb d_Lon_init_0 rfl (lv_at hl 0 rfl) ?_
  refine W.objInit hx hb hown (hts _ wd_163) (hts _ wd_23) (hts _ wd_24) rfl (by rw [hml]; exact hl.1) rfl d_Lon_init_1 (Nat.le_of_ble_eq_true rfl) (Nat.le_of_ble_eq_true rfl) ?_
  refine W.eq (g2 := F0 m 4 ls []) rfl ?_
  refine lv_aload_n hx hb d_Lon_init_4 rfl (lv_at hl 0 rfl) ?_
  refine lv_bipush (v := 27) hx hb d_Lon_init_5 (by decide) ?_
  refine sg_newi hx hb (hts _ wd_49) hK hw hA 0 rfl (N' := 27) (by decide) (by decide) (by decide) (Nat.le_of_ble_eq_true rfl) (Nat.le_of_ble_eq_true rfl) d_Lon_init_7 (fun q_p0_sums H hw => ?_)
  have hw : wk (dC, dI) vwCl A s.heap [[(q_p0, .inr (3, [.null, .null, .null]))], [(q_p0_sums, .inl (cI, 27, .inl (fun _ => 0)))]] H _ := hw
  refine sg_putF (D := (dC, dI)) (ci := 3) (v := .ref q_p0_sums) (ty := .array .int) (C := "JobNets$LongestWay") (T := T_3) (N := 3) (S1 := [[(q_p0, .inr (3, [.ref q_p0_sums, .null, .null]))], [(q_p0_sums, .inl (cI, 27, .inl (fun _ => 0)))]]) hx hb hts hin_3 ty_3 tok_3 nd_3 hown hK hw 0 rfl rfl 0 (by decide) (hts _ wd_166) rfl rfl hname rfl (by decide +kernel) rfl rfl (Nat.le_of_ble_eq_true rfl) rfl d_Lon_init_9 (fun H locs hw => ?_)
  refine lv_aload_n hx hb d_Lon_init_12 rfl (lv_at hl 0 rfl) ?_
  refine lv_bipush (v := 27) hx hb d_Lon_init_13 (by decide) ?_
  refine sg_newi hx hb (hts _ wd_49) hK hw hA 0 rfl (N' := 27) (by decide) (by decide) (by decide) (Nat.le_of_ble_eq_true rfl) (Nat.le_of_ble_eq_true rfl) d_Lon_init_15 (fun q_p0_before H hw => ?_)
  have hw : wk (dC, dI) vwCl A s.heap [[(q_p0, .inr (3, [.ref q_p0_sums, .null, .null]))], [(q_p0_sums, .inl (cI, 27, .inl (fun _ => 0)))], [(q_p0_before, .inl (cI, 27, .inl (fun _ => 0)))]] H _ := hw
  refine sg_putF (D := (dC, dI)) (ci := 3) (v := .ref q_p0_before) (ty := .array .int) (C := "JobNets$LongestWay") (T := T_3) (N := 3) (S1 := [[(q_p0, .inr (3, [.ref q_p0_sums, .ref q_p0_before, .null]))], [(q_p0_sums, .inl (cI, 27, .inl (fun _ => 0)))], [(q_p0_before, .inl (cI, 27, .inl (fun _ => 0)))]]) hx hb hts hin_3 ty_3 tok_3 nd_3 hown hK hw 0 rfl rfl 1 (by decide) (hts _ wd_167) rfl rfl hname rfl (by decide +kernel) rfl rfl (Nat.le_of_ble_eq_true rfl) rfl d_Lon_init_17 (fun H locs hw => ?_)
  refine lv_aload_n hx hb d_Lon_init_20 rfl (lv_at hl 0 rfl) ?_
  refine sg_new (ci := 8) (fs := [.null, .int 0]) (C := "JobNets$Way") (T := T_8) (N := 2) hx hb hts hin_8 ty_8 tok_8 hown (hts _ wd_164) (hts _ wd_132) (hts _ wd_6) hK hw hA rfl dfl_8 (Nat.le_of_ble_eq_true rfl) (Nat.le_of_ble_eq_true rfl) d_Lon_init_21 (fun q_p0_way H hw => ?_)
  have hw : wk (dC, dI) vwCl A s.heap [[(q_p0, .inr (3, [.ref q_p0_sums, .ref q_p0_before, .null]))], [(q_p0_sums, .inl (cI, 27, .inl (fun _ => 0)))], [(q_p0_before, .inl (cI, 27, .inl (fun _ => 0)))], [(q_p0_way, .inr (8, [.null, .int 0]))]] H _ := hw
  refine lv_dup hx hb d_Lon_init_24 rfl ?_
  refine sg_cvc (Sr := [[(q_p0, .inr (3, [.ref q_p0_sums, .ref q_p0_before, .null]))], [(q_p0_sums, .inl (cI, 27, .inl (fun _ => 0)))], [(q_p0_before, .inl (cI, 27, .inl (fun _ => 0)))]]) (va_runIN (As := []) (rest := [.ref q_p0_way, .ref q_p0]) ⟨hx, hb, hml, hown, hts⟩ (ct_Way_init l dC dI cI cL cM cZ q_p0_way _) ⟨va_cnB 0 hts (gd_C wd_135) rfl rfl rfl (nM_7 hNW) (hts _ wd_6) (by decide +kernel) ⟨Nat.le_of_ble_eq_true rfl, Nat.le_of_ble_eq_true rfl⟩, rfl, hts _ wd_134⟩ (sg_preS hK hNW hw [3] rfl rfl) rfl rfl hl.1 rfl (lv_room (Nat.le_of_ble_eq_true rfl)) d_Lon_init_25 ⟨Nat.le_of_ble_eq_true rfl, Nat.le_of_ble_eq_true rfl⟩) hw hA [3] [0, 1, 2] rfl rfl rfl (by decide) (fun u H locs hw => ?_)
  have hw : wk (dC, dI) vwCl A s.heap ([[(q_p0, .inr (3, [.ref q_p0_sums, .ref q_p0_before, .null]))], [(q_p0_sums, .inl (cI, 27, .inl (fun _ => 0)))], [(q_p0_before, .inl (cI, 27, .inl (fun _ => 0)))]] ++ sd_Way_init cI cL cM cZ q_p0_way u) H locs := hw
  unfold sd_Way_init at hw
  generalize u.1.getD 0 0 = q_p0_way_row at hw
  have hw : wk (dC, dI) vwCl A s.heap [[(q_p0, .inr (3, [.ref q_p0_sums, .ref q_p0_before, .null]))], [(q_p0_sums, .inl (cI, 27, .inl (fun _ => 0)))], [(q_p0_before, .inl (cI, 27, .inl (fun _ => 0)))], [(q_p0_way, .inr (8, [.ref q_p0_way_row, .int 0]))], [(q_p0_way_row, .inl (cI, 26, .inl (fun _ => 0)))]] H locs := hw
  refine sg_putF (D := (dC, dI)) (ci := 3) (v := .ref q_p0_way) (ty := .object "JobNets$Way") (C := "JobNets$LongestWay") (T := T_3) (N := 3) (S1 := [[(q_p0, .inr (3, [.ref q_p0_sums, .ref q_p0_before, .ref q_p0_way]))], [(q_p0_sums, .inl (cI, 27, .inl (fun _ => 0)))], [(q_p0_before, .inl (cI, 27, .inl (fun _ => 0)))], [(q_p0_way, .inr (8, [.ref q_p0_way_row, .int 0]))], [(q_p0_way_row, .inl (cI, 26, .inl (fun _ => 0)))]]) hx hb hts hin_3 ty_3 tok_3 nd_3 hown hK hw 0 rfl rfl 2 (by decide) (hts _ wd_168) rfl rfl hname rfl (by decide +kernel) rfl rfl (Nat.le_of_ble_eq_true rfl) rfl d_Lon_init_28 (fun H locs hw => ?_)
  exact sg_cret ([q_p0_sums, q_p0_before, q_p0_way, q_p0_way_row], []) hx hb hr hlocks hAe hQ hK (hw.sub [0, 1, 2, 3, 4] (by decide) rfl) d_Lon_init_31
theorem d_Lon_find_0 : decode prog_4_method_2_code 0 = .ok (.iconst 0, 1) := by decide +kernel
theorem d_Lon_find_1 : decode prog_4_method_2_code 1 = .ok (.istore_n 3, 1) := by decide +kernel
theorem d_Lon_find_2 : decode prog_4_method_2_code 2 = .ok (.iload_n 3, 1) := by decide +kernel
theorem d_Lon_find_3 : decode prog_4_method_2_code 3 = .ok (.bipush 26, 2) := by decide +kernel
theorem d_Lon_find_5 : decode prog_4_method_2_code 5 = .ok (.if_icmp .ge 56, 3) := by decide +kernel
theorem d_Lon_find_8 : decode prog_4_method_2_code 8 = .ok (.iconst 1, 1) := by decide +kernel
theorem d_Lon_find_9 : decode prog_4_method_2_code 9 = .ok (.istore 4, 2) := by decide +kernel
theorem d_Lon_find_11 : decode prog_4_method_2_code 11 = .ok (.iload 4, 2) := by decide +kernel
theorem d_Lon_find_13 : decode prog_4_method_2_code 13 = .ok (.aload_n 1, 1) := by decide +kernel
theorem d_Lon_find_14 : decode prog_4_method_2_code 14 = .ok (.getfield 25, 3) := by decide +kernel
theorem d_Lon_find_17 : decode prog_4_method_2_code 17 = .ok (.if_icmp .gt 38, 3) := by decide +kernel
theorem d_Lon_find_20 : decode prog_4_method_2_code 20 = .ok (.aload_n 2, 1) := by decide +kernel
theorem d_Lon_find_21 : decode prog_4_method_2_code 21 = .ok (.iload 4, 2) := by decide +kernel
theorem d_Lon_find_23 : decode prog_4_method_2_code 23 = .ok (.iaload, 1) := by decide +kernel
theorem d_Lon_find_24 : decode prog_4_method_2_code 24 = .ok (.ifCond .eq 25, 3) := by decide +kernel
theorem d_Lon_find_27 : decode prog_4_method_2_code 27 = .ok (.aload_n 1, 1) := by decide +kernel
theorem d_Lon_find_28 : decode prog_4_method_2_code 28 = .ok (.getfield 31, 3) := by decide +kernel
theorem d_Lon_find_31 : decode prog_4_method_2_code 31 = .ok (.iload 4, 2) := by decide +kernel
theorem d_Lon_find_33 : decode prog_4_method_2_code 33 = .ok (.iaload, 1) := by decide +kernel
theorem d_Lon_find_34 : decode prog_4_method_2_code 34 = .ok (.invokestatic 34, 3) := by decide +kernel
theorem d_Lon_find_37 : decode prog_4_method_2_code 37 = .ok (.iload_n 3, 1) := by decide +kernel
theorem d_Lon_find_38 : decode prog_4_method_2_code 38 = .ok (.if_icmp .ne 11, 3) := by decide +kernel
theorem d_Lon_find_41 : decode prog_4_method_2_code 41 = .ok (.aload_n 0, 1) := by decide +kernel
theorem d_Lon_find_42 : decode prog_4_method_2_code 42 = .ok (.aload_n 1, 1) := by decide +kernel
theorem d_Lon_find_43 : decode prog_4_method_2_code 43 = .ok (.aload_n 2, 1) := by decide +kernel
theorem d_Lon_find_44 : decode prog_4_method_2_code 44 = .ok (.iload 4, 2) := by decide +kernel
theorem d_Lon_find_46 : decode prog_4_method_2_code 46 = .ok (.invokevirtual 40, 3) := by decide +kernel
theorem d_Lon_find_49 : decode prog_4_method_2_code 49 = .ok (.iinc 4 1, 3) := by decide +kernel
theorem d_Lon_find_52 : decode prog_4_method_2_code 52 = .ok (.goto (-41), 3) := by decide +kernel
theorem d_Lon_find_55 : decode prog_4_method_2_code 55 = .ok (.iinc 3 1, 3) := by decide +kernel
theorem d_Lon_find_58 : decode prog_4_method_2_code 58 = .ok (.goto (-56), 3) := by decide +kernel
theorem d_Lon_find_61 : decode prog_4_method_2_code 61 = .ok (.aload_n 0, 1) := by decide +kernel
theorem d_Lon_find_62 : decode prog_4_method_2_code 62 = .ok (.getfield 21, 3) := by decide +kernel
theorem d_Lon_find_65 : decode prog_4_method_2_code 65 = .ok (.aload_n 0, 1) := by decide +kernel
theorem d_Lon_find_66 : decode prog_4_method_2_code 66 = .ok (.getfield 15, 3) := by decide +kernel
theorem d_Lon_find_69 : decode prog_4_method_2_code 69 = .ok (.aload_n 0, 1) := by decide +kernel
theorem d_Lon_find_70 : decode prog_4_method_2_code 70 = .ok (.aload_n 1, 1) := by decide +kernel
theorem d_Lon_find_71 : decode prog_4_method_2_code 71 = .ok (.aload_n 2, 1) := by decide +kernel
theorem d_Lon_find_72 : decode prog_4_method_2_code 72 = .ok (.invokevirtual 44, 3) := by decide +kernel
theorem d_Lon_find_75 : decode prog_4_method_2_code 75 = .ok (.invokevirtual 48, 3) := by decide +kernel
theorem d_Lon_find_78 : decode prog_4_method_2_code 78 = .ok (.return_, 1) := by decide +kernel
def md_Lon_find_F11 (v_p1_jobs : Int32) (g_p1_numbers : Nat → Nat → Int32) (f_p1_needCounts : Nat → Int32) (g_p1_needed : Nat → Nat → Int32) (f_p1_allNeeded : Nat → Int32) (f_p2 : Nat → Int32) (N : Nat) (x1 : Int32) (rec2 : Int32 → (Nat → Int32) → (Nat → Int32) → Option ((Nat → Int32) × (Nat → Int32) × Int32 × (Nat → Int32))) (rec11 : Int32 → (Nat → Int32) → (Nat → Int32) → Option ((Nat → Int32) × (Nat → Int32) × Int32 × (Nat → Int32))) (x6 : Int32) (f7 : Nat → Int32) (f8 : Nat → Int32) : Option ((Nat → Int32) × (Nat → Int32) × Int32 × (Nat → Int32)) :=
  (if v_p1_jobs < x6 then (rec2 (x1 + 1) f7 f8) else (if sg_in x6 27 = true then (if (f_p2 x6.toNatClampNeg) = 0 then (rec11 (x6 + 1) f7 f8) else (if sg_in x6 27 = true then (zc (md_JI_bitCount N (f_p1_allNeeded x6.toNatClampNeg)) (fun o9 => (if o9 = x1 then (zc (md_Lon_measure N f7 f8 g_p1_numbers f_p1_needCounts g_p1_needed f_p2 x6) (fun o10 => (rec11 (x6 + 1) o10.1 o10.2))) else (rec11 (x6 + 1) f7 f8)))) else none)) else none))
def md_Lon_find_F2 (v_p0_way_length : Int32) (f_p0_way_row : Nat → Int32) (v_p1_jobs : Int32) (g_p1_numbers : Nat → Nat → Int32) (f_p1_needCounts : Nat → Int32) (g_p1_needed : Nat → Nat → Int32) (f_p1_allNeeded : Nat → Int32) (f_p2 : Nat → Int32) (N : Nat) (rec2 : Int32 → (Nat → Int32) → (Nat → Int32) → Option ((Nat → Int32) × (Nat → Int32) × Int32 × (Nat → Int32))) (x1 : Int32) (f2 : Nat → Int32) (f3 : Nat → Int32) : Option ((Nat → Int32) × (Nat → Int32) × Int32 × (Nat → Int32)) :=
  (if (26 : Int32) ≤ x1 then (zc (md_Lon_longestEnd N f2 v_p1_jobs f_p2) (fun o4 => (zc (md_Way_trace N v_p0_way_length f_p0_way_row f3 o4) (fun o5 => (some (f2, f3, o5.1, o5.2)))))) else (fx3 (md_Lon_find_F11 v_p1_jobs g_p1_numbers f_p1_needCounts g_p1_needed f_p1_allNeeded f_p2 N x1 rec2) N (1 : Int32) f2 f3))
def md_Lon_find (N : Nat) (f_p0_sums : Nat → Int32) (f_p0_before : Nat → Int32) (v_p0_way_length : Int32) (f_p0_way_row : Nat → Int32) (v_p1_jobs : Int32) (g_p1_numbers : Nat → Nat → Int32) (f_p1_needCounts : Nat → Int32) (g_p1_needed : Nat → Nat → Int32) (f_p1_allNeeded : Nat → Int32) (f_p2 : Nat → Int32) : Option ((Nat → Int32) × (Nat → Int32) × Int32 × (Nat → Int32)) :=
  (fx3 (md_Lon_find_F2 v_p0_way_length f_p0_way_row v_p1_jobs g_p1_numbers f_p1_needCounts g_p1_needed f_p1_allNeeded f_p2 N) N (0 : Int32) f_p0_sums f_p0_before)
abbrev sc_Lon_find (cI cL cM cZ : ClassId) (q_p0 q_p1 q_p2 q_p0_sums q_p0_before q_p0_way q_p0_way_row q_p1_numbers q_p1_needCounts q_p1_needed q_p1_conditions q_p1_allNeeded : Nat) (d_p1_numbers d_p1_needed : Nat → Nat) (f_p0_sums : Nat → Int32) (f_p0_before : Nat → Int32) (v_p0_way_length : Int32) (f_p0_way_row : Nat → Int32) (v_p1_jobs : Int32) (g_p1_numbers : Nat → Nat → Int32) (f_p1_needCounts : Nat → Int32) (g_p1_needed : Nat → Nat → Int32) (f_p1_allNeeded : Nat → Int32) (f_p2 : Nat → Int32) : List va_W := [[(q_p0, .inr (3, [.ref q_p0_sums, .ref q_p0_before, .ref q_p0_way]))], [(q_p0_sums, .inl (cI, 27, .inl f_p0_sums))], [(q_p0_before, .inl (cI, 27, .inl f_p0_before))], [(q_p0_way, .inr (8, [.ref q_p0_way_row, .int v_p0_way_length]))], [(q_p0_way_row, .inl (cI, 26, .inl f_p0_way_row))], [(q_p1, .inr (4, [.ref q_p1_numbers, .ref q_p1_needCounts, .ref q_p1_needed, .ref q_p1_conditions, .ref q_p1_allNeeded, .int v_p1_jobs]))], [(q_p1_numbers, .inl (cM, gro 27 d_p1_numbers))], gl cI d_p1_numbers 27 4 g_p1_numbers, [(q_p1_needCounts, .inl (cI, 27, .inl f_p1_needCounts))], [(q_p1_needed, .inl (cM, gro 27 d_p1_needed))], gl cI d_p1_needed 27 20 g_p1_needed, [(q_p1_allNeeded, .inl (cI, 27, .inl f_p1_allNeeded))], [(q_p2, .inl (cI, 27, .inl f_p2))]]
abbrev rm_Lon_find : Room := { frames := 1, cells := 0, slots := 0, locals := 27 }
set_option maxHeartbeats 4000000 in
set_option maxRecDepth 100000 in
theorem ct_Lon_find (l : Launch) (dC : Nat → ClassId) (dI : Nat → Nat → Nat) (cI cL cM cZ : ClassId) (q_p0 q_p1 q_p2 q_p0_sums q_p0_before q_p0_way q_p0_way_row q_p1_numbers q_p1_needCounts q_p1_needed q_p1_conditions q_p1_allNeeded : Nat) (d_p1_numbers d_p1_needed : Nat → Nat) (f_p0_sums : Nat → Int32) (f_p0_before : Nat → Int32) (v_p0_way_length : Int32) (f_p0_way_row : Nat → Int32) (v_p1_jobs : Int32) (g_p1_numbers : Nat → Nat → Int32) (f_p1_needCounts : Nat → Int32) (g_p1_needed : Nat → Nat → Int32) (f_p1_allNeeded : Nat → Int32) (f_p2 : Nat → Int32) (N : Nat) (o : (Nat → Int32) × (Nat → Int32) × Int32 × (Nat → Int32)) (hm : md_Lon_find N f_p0_sums f_p0_before v_p0_way_length f_p0_way_row v_p1_jobs g_p1_numbers f_p1_needCounts g_p1_needed f_p1_allNeeded f_p2 = some o) : ∀ sz : Nat, Met l y_Lon_find ws_Lon_find rm_Lon_find (cP (dC, dI) vwCl [(cI, .int), (cL, .long), (cM, .array .int), (cZ, .boolean)] [.ref q_p0, .ref q_p1, .ref q_p2] sz (sc_Lon_find cI cL cM cZ q_p0 q_p1 q_p2 q_p0_sums q_p0_before q_p0_way q_p0_way_row q_p1_numbers q_p1_needCounts q_p1_needed q_p1_conditions q_p1_allNeeded d_p1_numbers d_p1_needed f_p0_sums f_p0_before v_p0_way_length f_p0_way_row v_p1_jobs g_p1_numbers f_p1_needCounts g_p1_needed f_p1_allNeeded f_p2)) (cQv (dC, dI) vwCl [(cI, .int), (cL, .long), (cM, .array .int), (cZ, .boolean)] sz (sc_Lon_find cI cL cM cZ q_p0 q_p1 q_p2 q_p0_sums q_p0_before q_p0_way q_p0_way_row q_p1_numbers q_p1_needCounts q_p1_needed q_p1_conditions q_p1_allNeeded d_p1_numbers d_p1_needed f_p0_sums f_p0_before v_p0_way_length f_p0_way_row v_p1_jobs g_p1_numbers f_p1_needCounts g_p1_needed f_p1_allNeeded f_p2) (sc_Lon_find cI cL cM cZ q_p0 q_p1 q_p2 q_p0_sums q_p0_before q_p0_way q_p0_way_row q_p1_numbers q_p1_needCounts q_p1_needed q_p1_conditions q_p1_allNeeded d_p1_numbers d_p1_needed o.1 o.2.1 o.2.2.1 o.2.2.2 v_p1_jobs g_p1_numbers f_p1_needCounts g_p1_needed f_p1_allNeeded f_p2)) 0 0 (va_A ((sc_Lon_find cI cL cM cZ q_p0 q_p1 q_p2 q_p0_sums q_p0_before q_p0_way q_p0_way_row q_p1_numbers q_p1_needCounts q_p1_needed q_p1_conditions q_p1_allNeeded d_p1_numbers d_p1_needed f_p0_sums f_p0_before v_p0_way_length f_p0_way_row v_p1_jobs g_p1_numbers f_p1_needCounts g_p1_needed f_p1_allNeeded f_p2)).flatten sz) := by
  refine sg_met (fun sz => cQv (dC, dI) vwCl [(cI, .int), (cL, .long), (cM, .array .int), (cZ, .boolean)] sz (sc_Lon_find cI cL cM cZ q_p0 q_p1 q_p2 q_p0_sums q_p0_before q_p0_way q_p0_way_row q_p1_numbers q_p1_needCounts q_p1_needed q_p1_conditions q_p1_allNeeded d_p1_numbers d_p1_needed f_p0_sums f_p0_before v_p0_way_length f_p0_way_row v_p1_jobs g_p1_numbers f_p1_needCounts g_p1_needed f_p1_allNeeded f_p2) (sc_Lon_find cI cL cM cZ q_p0 q_p1 q_p2 q_p0_sums q_p0_before q_p0_way q_p0_way_row q_p1_numbers q_p1_needCounts q_p1_needed q_p1_conditions q_p1_allNeeded d_p1_numbers d_p1_needed o.1 o.2.1 o.2.2.1 o.2.2.2 v_p1_jobs g_p1_numbers f_p1_needCounts g_p1_needed f_p1_allNeeded f_p2)) (by decide) (Nat.le_of_ble_eq_true rfl) ?_
  intro p e s m args below meth c A Q ls hx hb hr hts hown hlocks hml hname hK hNW hA hAe hQ hw hl
  have hl : lv_has ls 5 [(0, .ref q_p0), (1, .ref q_p1), (2, .ref q_p2)] := hl
  have hw : wk (dC, dI) vwCl A s.heap [[(q_p0, .inr (3, [.ref q_p0_sums, .ref q_p0_before, .ref q_p0_way]))], [(q_p0_sums, .inl (cI, 27, .inl f_p0_sums))], [(q_p0_before, .inl (cI, 27, .inl f_p0_before))], [(q_p0_way, .inr (8, [.ref q_p0_way_row, .int v_p0_way_length]))], [(q_p0_way_row, .inl (cI, 26, .inl f_p0_way_row))], [(q_p1, .inr (4, [.ref q_p1_numbers, .ref q_p1_needCounts, .ref q_p1_needed, .ref q_p1_conditions, .ref q_p1_allNeeded, .int v_p1_jobs]))], [(q_p1_numbers, .inl (cM, gro 27 d_p1_numbers))], gl cI d_p1_numbers 27 4 g_p1_numbers, [(q_p1_needCounts, .inl (cI, 27, .inl f_p1_needCounts))], [(q_p1_needed, .inl (cM, gro 27 d_p1_needed))], gl cI d_p1_needed 27 20 g_p1_needed, [(q_p1_allNeeded, .inl (cI, 27, .inl f_p1_allNeeded))], [(q_p2, .inl (cI, 27, .inl f_p2))]] s.heap [] := hw
  unfold md_Lon_find at hm
  refine lv_iconst (v := 0) hx hb d_Lon_find_0 (by decide) ?_
  refine lv_istore_n (lv' := [(3, .int (0 : Int32)), (0, .ref q_p0), (1, .ref q_p1), (2, .ref q_p2)]) hx hb d_Lon_find_1 rfl hl (by decide) rfl (fun ls hl => ?_)
  obtain ⟨Fn2, hFn2, hm⟩ := fx3_x hm
  have L2 : ∀ (n : Nat) (x1 : Int32) (f2 : Nat → Int32) (f3 : Nat → Int32), fx3 Fn2 n x1 f2 f3 = some o → ∀ (H : Heap) (locs : List Loc) (ls : Array Slot), wk (dC, dI) vwCl A s.heap [[(q_p0, .inr (3, [.ref q_p0_sums, .ref q_p0_before, .ref q_p0_way]))], [(q_p0_sums, .inl (cI, 27, .inl f2))], [(q_p0_before, .inl (cI, 27, .inl f3))], [(q_p0_way, .inr (8, [.ref q_p0_way_row, .int v_p0_way_length]))], [(q_p0_way_row, .inl (cI, 26, .inl f_p0_way_row))], [(q_p1, .inr (4, [.ref q_p1_numbers, .ref q_p1_needCounts, .ref q_p1_needed, .ref q_p1_conditions, .ref q_p1_allNeeded, .int v_p1_jobs]))], [(q_p1_numbers, .inl (cM, gro 27 d_p1_numbers))], gl cI d_p1_numbers 27 4 g_p1_numbers, [(q_p1_needCounts, .inl (cI, 27, .inl f_p1_needCounts))], [(q_p1_needed, .inl (cM, gro 27 d_p1_needed))], gl cI d_p1_needed 27 20 g_p1_needed, [(q_p1_allNeeded, .inl (cI, 27, .inl f_p1_allNeeded))], [(q_p2, .inl (cI, 27, .inl f_p2))]] H locs → lv_has ls 5 [(3, .int x1), (0, .ref q_p0), (1, .ref q_p1), (2, .ref q_p2)] → W p l e rm_Lon_find s m args below meth c H locs 0 0 Q (F0 m 2 ls []) := by
    intro n
    induction n with
    | zero => intro x1 f2 f3 hm; exact (fx3_0 hm).elim
    | succ n ih2 =>
      intro x1 f2 f3 hm H locs ls hw hl
      have hm := fx3_s hFn2 hm
      unfold md_Lon_find_F2 at hm
      refine lv_iload_n hx hb d_Lon_find_2 rfl (lv_at hl 0 rfl) ?_
      refine lv_bipush (v := 26) hx hb d_Lon_find_3 (by decide) ?_
      refine bq_t (lv_icmp_ge (tgt := 61) hx hb d_Lon_find_5 (by decide)) hm (fun hm => ?_) (fun hm => ?_)
      · refine lv_aload_n hx hb d_Lon_find_61 rfl (lv_at hl 1 rfl) ?_
        refine sg_get (D := (dC, dI)) (ci := 3) (v := .ref q_p0_way) (C := "JobNets$LongestWay") (T := T_3) (N := 3) hx hb hts hin_3 hown hK hw 0 rfl rfl 2 (by decide) (hts _ wd_168) rfl rfl d_Lon_find_62 ?_
        refine lv_aload_n hx hb d_Lon_find_65 rfl (lv_at hl 1 rfl) ?_
        refine sg_get (D := (dC, dI)) (ci := 3) (v := .ref q_p0_before) (C := "JobNets$LongestWay") (T := T_3) (N := 3) hx hb hts hin_3 hown hK hw 0 rfl rfl 1 (by decide) (hts _ wd_167) rfl rfl d_Lon_find_66 ?_
        refine lv_aload_n hx hb d_Lon_find_69 rfl (lv_at hl 1 rfl) ?_
        refine lv_aload_n hx hb d_Lon_find_70 rfl (lv_at hl 2 rfl) ?_
        refine lv_aload_n hx hb d_Lon_find_71 rfl (lv_at hl 3 rfl) ?_
        obtain ⟨o4, h4, hm⟩ := zc_x hm
        refine sg_ci0 (Sr := [[(q_p0_before, .inl (cI, 27, .inl f3))], [(q_p0_way, .inr (8, [.ref q_p0_way_row, .int v_p0_way_length]))], [(q_p0_way_row, .inl (cI, 26, .inl f_p0_way_row))], [(q_p1_numbers, .inl (cM, gro 27 d_p1_numbers))], gl cI d_p1_numbers 27 4 g_p1_numbers, [(q_p1_needCounts, .inl (cI, 27, .inl f_p1_needCounts))], [(q_p1_needed, .inl (cM, gro 27 d_p1_needed))], gl cI d_p1_needed 27 20 g_p1_needed, [(q_p1_allNeeded, .inl (cI, 27, .inl f_p1_allNeeded))]]) (va_runV (As := [.ref q_p1, .ref q_p2]) (rest := [.ref q_p0_before, .ref q_p0_way]) ⟨hx, hb, hml, hown, hts⟩ (ct_Lon_longestEnd l dC dI cI cL cM cZ q_p0 q_p1 q_p2 q_p0_sums q_p0_before q_p0_way q_p1_numbers q_p1_needCounts q_p1_needed q_p1_conditions q_p1_allNeeded f2 v_p1_jobs f_p2 N o4 h4 _) (cwV 2 hts (gd_V wd_507 wd_509 ws_17 wd_8 wd_510) rfl rfl rfl (by decide +kernel) ⟨Nat.le_of_ble_eq_true rfl, Nat.le_of_ble_eq_true rfl⟩) (sg_preV (ci := 3) (q0 := 0) hK hNW hw [0, 1, 5, 12] rfl rfl rfl rfl) rfl rfl hl.1 rfl (lv_room (Nat.le_of_ble_eq_true rfl)) d_Lon_find_72 ⟨Nat.le_of_ble_eq_true rfl, Nat.le_of_ble_eq_true rfl⟩) hw hA [0, 1, 5, 12] [2, 3, 4, 6, 7, 8, 9, 10, 11] rfl rfl rfl (by decide) (fun H locs hw => ?_)
        have hw : wk (dC, dI) vwCl A s.heap [[(q_p0_before, .inl (cI, 27, .inl f3))], [(q_p0_way, .inr (8, [.ref q_p0_way_row, .int v_p0_way_length]))], [(q_p0_way_row, .inl (cI, 26, .inl f_p0_way_row))], [(q_p1_numbers, .inl (cM, gro 27 d_p1_numbers))], gl cI d_p1_numbers 27 4 g_p1_numbers, [(q_p1_needCounts, .inl (cI, 27, .inl f_p1_needCounts))], [(q_p1_needed, .inl (cM, gro 27 d_p1_needed))], gl cI d_p1_needed 27 20 g_p1_needed, [(q_p1_allNeeded, .inl (cI, 27, .inl f_p1_allNeeded))], [(q_p0, .inr (3, [.ref q_p0_sums, .ref q_p0_before, .ref q_p0_way]))], [(q_p0_sums, .inl (cI, 27, .inl f2))], [(q_p1, .inr (4, [.ref q_p1_numbers, .ref q_p1_needCounts, .ref q_p1_needed, .ref q_p1_conditions, .ref q_p1_allNeeded, .int v_p1_jobs]))], [(q_p2, .inl (cI, 27, .inl f_p2))]] H locs := hw
        obtain ⟨o5, h5, hm⟩ := zc_x hm
        refine sg_cv0 (Sr := [[(q_p1_numbers, .inl (cM, gro 27 d_p1_numbers))], gl cI d_p1_numbers 27 4 g_p1_numbers, [(q_p1_needCounts, .inl (cI, 27, .inl f_p1_needCounts))], [(q_p1_needed, .inl (cM, gro 27 d_p1_needed))], gl cI d_p1_needed 27 20 g_p1_needed, [(q_p1_allNeeded, .inl (cI, 27, .inl f_p1_allNeeded))], [(q_p0, .inr (3, [.ref q_p0_sums, .ref q_p0_before, .ref q_p0_way]))], [(q_p0_sums, .inl (cI, 27, .inl f2))], [(q_p1, .inr (4, [.ref q_p1_numbers, .ref q_p1_needCounts, .ref q_p1_needed, .ref q_p1_conditions, .ref q_p1_allNeeded, .int v_p1_jobs]))], [(q_p2, .inl (cI, 27, .inl f_p2))]]) (va_runV (As := [.ref q_p0_before, .int o4]) (rest := []) ⟨hx, hb, hml, hown, hts⟩ (ct_Way_trace l dC dI cI cL cM cZ q_p0_way q_p0_before q_p0_way_row v_p0_way_length f_p0_way_row f3 o4 N o5 h5 _) (cwV 2 hts (gd_V wd_511 wd_340 wd_341 wd_6 wd_342) rfl rfl rfl (by decide +kernel) ⟨Nat.le_of_ble_eq_true rfl, Nat.le_of_ble_eq_true rfl⟩) (sg_preV (ci := 8) (q0 := 1) hK hNW hw [1, 2, 0] rfl rfl rfl rfl) rfl rfl hl.1 rfl (lv_room (Nat.le_of_ble_eq_true rfl)) d_Lon_find_75 ⟨Nat.le_of_ble_eq_true rfl, Nat.le_of_ble_eq_true rfl⟩) hw hA [1, 2, 0] [3, 4, 5, 6, 7, 8, 9, 10, 11, 12] rfl rfl rfl (by decide) (fun H locs hw => ?_)
        have hw : wk (dC, dI) vwCl A s.heap [[(q_p1_numbers, .inl (cM, gro 27 d_p1_numbers))], gl cI d_p1_numbers 27 4 g_p1_numbers, [(q_p1_needCounts, .inl (cI, 27, .inl f_p1_needCounts))], [(q_p1_needed, .inl (cM, gro 27 d_p1_needed))], gl cI d_p1_needed 27 20 g_p1_needed, [(q_p1_allNeeded, .inl (cI, 27, .inl f_p1_allNeeded))], [(q_p0, .inr (3, [.ref q_p0_sums, .ref q_p0_before, .ref q_p0_way]))], [(q_p0_sums, .inl (cI, 27, .inl f2))], [(q_p1, .inr (4, [.ref q_p1_numbers, .ref q_p1_needCounts, .ref q_p1_needed, .ref q_p1_conditions, .ref q_p1_allNeeded, .int v_p1_jobs]))], [(q_p2, .inl (cI, 27, .inl f_p2))], [(q_p0_way, .inr (8, [.ref q_p0_way_row, .int o5.1]))], [(q_p0_way_row, .inl (cI, 26, .inl o5.2))], [(q_p0_before, .inl (cI, 27, .inl f3))]] H locs := hw
        exact so_vret (Sf := fun z_ => sc_Lon_find cI cL cM cZ q_p0 q_p1 q_p2 q_p0_sums q_p0_before q_p0_way q_p0_way_row q_p1_numbers q_p1_needCounts q_p1_needed q_p1_conditions q_p1_allNeeded d_p1_numbers d_p1_needed z_.1 z_.2.1 z_.2.2.1 z_.2.2.2 v_p1_jobs g_p1_numbers f_p1_needCounts g_p1_needed f_p1_allNeeded f_p2) hm hx hb hr hlocks hAe hQ hK (hw.sub [6, 7, 12, 10, 11, 8, 0, 1, 2, 3, 4, 5, 9] (by decide) rfl) d_Lon_find_78
      · refine lv_iconst (v := 1) hx hb d_Lon_find_8 (by decide) ?_
        refine lv_istore (lv' := [(4, .int (1 : Int32)), (3, .int x1), (0, .ref q_p0), (1, .ref q_p1), (2, .ref q_p2)]) hx hb d_Lon_find_9 hl (by decide) rfl (fun ls hl => ?_)
        obtain ⟨Fn11, hFn11, hm⟩ := fx3_x hm
        have L11 : ∀ (n : Nat) (x6 : Int32) (f7 : Nat → Int32) (f8 : Nat → Int32), fx3 Fn11 n x6 f7 f8 = some o → ∀ (H : Heap) (locs : List Loc) (ls : Array Slot), wk (dC, dI) vwCl A s.heap [[(q_p0, .inr (3, [.ref q_p0_sums, .ref q_p0_before, .ref q_p0_way]))], [(q_p0_sums, .inl (cI, 27, .inl f7))], [(q_p0_before, .inl (cI, 27, .inl f8))], [(q_p0_way, .inr (8, [.ref q_p0_way_row, .int v_p0_way_length]))], [(q_p0_way_row, .inl (cI, 26, .inl f_p0_way_row))], [(q_p1, .inr (4, [.ref q_p1_numbers, .ref q_p1_needCounts, .ref q_p1_needed, .ref q_p1_conditions, .ref q_p1_allNeeded, .int v_p1_jobs]))], [(q_p1_numbers, .inl (cM, gro 27 d_p1_numbers))], gl cI d_p1_numbers 27 4 g_p1_numbers, [(q_p1_needCounts, .inl (cI, 27, .inl f_p1_needCounts))], [(q_p1_needed, .inl (cM, gro 27 d_p1_needed))], gl cI d_p1_needed 27 20 g_p1_needed, [(q_p1_allNeeded, .inl (cI, 27, .inl f_p1_allNeeded))], [(q_p2, .inl (cI, 27, .inl f_p2))]] H locs → lv_has ls 5 [(4, .int x6), (3, .int x1), (0, .ref q_p0), (1, .ref q_p1), (2, .ref q_p2)] → W p l e rm_Lon_find s m args below meth c H locs 0 0 Q (F0 m 11 ls []) := by
          intro n
          induction n with
          | zero => intro x6 f7 f8 hm; exact (fx3_0 hm).elim
          | succ n ih11 =>
            intro x6 f7 f8 hm H locs ls hw hl
            have hm := fx3_s hFn11 hm
            unfold md_Lon_find_F11 at hm
            refine lv_iload hx hb d_Lon_find_11 (lv_at hl 0 rfl) ?_
            refine lv_aload_n hx hb d_Lon_find_13 rfl (lv_at hl 3 rfl) ?_
            refine sg_getN (D := (dC, dI)) (ci := 4) (v := .int v_p1_jobs) (C := "JobNets$Net") (T := T_4) (N := 6) hx hb hts hin_4 hown hK hw 5 rfl rfl 5 (by decide) (nF_26 hNW) rfl rfl d_Lon_find_14 ?_
            refine bq_t (lv_icmp_gt (tgt := 55) hx hb d_Lon_find_17 (by decide)) hm (fun hm => ?_) (fun hm => ?_)
            · refine lv_iinc (v := x1 + 1) (lv' := [(3, .int (x1 + 1)), (4, .int x6), (0, .ref q_p0), (1, .ref q_p1), (2, .ref q_p2)]) hx hb d_Lon_find_55 hl (k := 1) rfl rfl (by decide) rfl (fun ls hl => ?_)
              refine lv_goto (tgt := 2) hx hb d_Lon_find_58 (by decide) ?_
              exact ih2 (x1 + 1) f7 f8 hm _ _ _ hw (lv_sub hl [0, 2, 3, 4] rfl)
            · refine lv_aload_n hx hb d_Lon_find_20 rfl (lv_at hl 4 rfl) ?_
              refine lv_iload hx hb d_Lon_find_21 (lv_at hl 0 rfl) ?_
              refine sg_iald hx hb hK hw 12 0 rfl rfl d_Lon_find_23 hm (fun hm => ?_)
              refine bq_t (lv_if_eq (tgt := 49) hx hb d_Lon_find_24 (by decide)) hm (fun hm => ?_) (fun hm => ?_)
              · refine lv_iinc (v := x6 + 1) (lv' := [(4, .int (x6 + 1)), (3, .int x1), (0, .ref q_p0), (1, .ref q_p1), (2, .ref q_p2)]) hx hb d_Lon_find_49 hl (k := 0) rfl rfl (by decide) rfl (fun ls hl => ?_)
                refine lv_goto (tgt := 11) hx hb d_Lon_find_52 (by decide) ?_
                exact ih11 (x6 + 1) f7 f8 hm _ _ _ hw hl
              · refine lv_aload_n hx hb d_Lon_find_27 rfl (lv_at hl 3 rfl) ?_
                refine sg_getN (D := (dC, dI)) (ci := 4) (v := .ref q_p1_allNeeded) (C := "JobNets$Net") (T := T_4) (N := 6) hx hb hts hin_4 hown hK hw 5 rfl rfl 4 (by decide) (nF_24 hNW) rfl rfl d_Lon_find_28 ?_
                refine lv_iload hx hb d_Lon_find_31 (lv_at hl 0 rfl) ?_
                refine sg_iald hx hb hK hw 11 0 rfl rfl d_Lon_find_33 hm (fun hm => ?_)
                obtain ⟨o9, h9, hm⟩ := zc_x hm
                refine sg_ci0 (Sr := [[(q_p0, .inr (3, [.ref q_p0_sums, .ref q_p0_before, .ref q_p0_way]))], [(q_p0_sums, .inl (cI, 27, .inl f7))], [(q_p0_before, .inl (cI, 27, .inl f8))], [(q_p0_way, .inr (8, [.ref q_p0_way_row, .int v_p0_way_length]))], [(q_p0_way_row, .inl (cI, 26, .inl f_p0_way_row))], [(q_p1, .inr (4, [.ref q_p1_numbers, .ref q_p1_needCounts, .ref q_p1_needed, .ref q_p1_conditions, .ref q_p1_allNeeded, .int v_p1_jobs]))], [(q_p1_numbers, .inl (cM, gro 27 d_p1_numbers))], gl cI d_p1_numbers 27 4 g_p1_numbers, [(q_p1_needCounts, .inl (cI, 27, .inl f_p1_needCounts))], [(q_p1_needed, .inl (cM, gro 27 d_p1_needed))], gl cI d_p1_needed 27 20 g_p1_needed, [(q_p1_allNeeded, .inl (cI, 27, .inl f_p1_allNeeded))], [(q_p2, .inl (cI, 27, .inl f_p2))]]) (va_runS (As := [.int (f_p1_allNeeded x6.toNatClampNeg)]) (rest := []) ⟨hx, hb, hml, hown, hts⟩ (ct_JI_bitCount l dC dI cI cL cM cZ (f_p1_allNeeded x6.toNatClampNeg) N o9 h9 _) (va_cwS 1 hts (gd_T wd_497 wd_498 wd_12 wd_499) rfl rfl rfl (by decide +kernel) ⟨Nat.le_of_ble_eq_true rfl, Nat.le_of_ble_eq_true rfl⟩) (sg_preS hK hNW hw [] rfl rfl) rfl rfl hl.1 rfl (lv_room (Nat.le_of_ble_eq_true rfl)) d_Lon_find_34 ⟨Nat.le_of_ble_eq_true rfl, Nat.le_of_ble_eq_true rfl⟩) hw hA [] [0, 1, 2, 3, 4, 5, 6, 7, 8, 9, 10, 11, 12] rfl rfl rfl (by decide) (fun H locs hw => ?_)
                have hw : wk (dC, dI) vwCl A s.heap [[(q_p0, .inr (3, [.ref q_p0_sums, .ref q_p0_before, .ref q_p0_way]))], [(q_p0_sums, .inl (cI, 27, .inl f7))], [(q_p0_before, .inl (cI, 27, .inl f8))], [(q_p0_way, .inr (8, [.ref q_p0_way_row, .int v_p0_way_length]))], [(q_p0_way_row, .inl (cI, 26, .inl f_p0_way_row))], [(q_p1, .inr (4, [.ref q_p1_numbers, .ref q_p1_needCounts, .ref q_p1_needed, .ref q_p1_conditions, .ref q_p1_allNeeded, .int v_p1_jobs]))], [(q_p1_numbers, .inl (cM, gro 27 d_p1_numbers))], gl cI d_p1_numbers 27 4 g_p1_numbers, [(q_p1_needCounts, .inl (cI, 27, .inl f_p1_needCounts))], [(q_p1_needed, .inl (cM, gro 27 d_p1_needed))], gl cI d_p1_needed 27 20 g_p1_needed, [(q_p1_allNeeded, .inl (cI, 27, .inl f_p1_allNeeded))], [(q_p2, .inl (cI, 27, .inl f_p2))]] H locs := hw
                refine lv_iload_n hx hb d_Lon_find_37 rfl (lv_at hl 1 rfl) ?_
                refine bq_n (lv_icmp_ne (tgt := 49) hx hb d_Lon_find_38 (by decide)) hm (fun hm => ?_) (fun hm => ?_)
                · refine lv_iinc (v := x6 + 1) (lv' := [(4, .int (x6 + 1)), (3, .int x1), (0, .ref q_p0), (1, .ref q_p1), (2, .ref q_p2)]) hx hb d_Lon_find_49 hl (k := 0) rfl rfl (by decide) rfl (fun ls hl => ?_)
                  refine lv_goto (tgt := 11) hx hb d_Lon_find_52 (by decide) ?_
                  exact ih11 (x6 + 1) f7 f8 hm _ _ _ hw hl
                · refine lv_aload_n hx hb d_Lon_find_41 rfl (lv_at hl 2 rfl) ?_
                  refine lv_aload_n hx hb d_Lon_find_42 rfl (lv_at hl 3 rfl) ?_
                  refine lv_aload_n hx hb d_Lon_find_43 rfl (lv_at hl 4 rfl) ?_
                  refine lv_iload hx hb d_Lon_find_44 (lv_at hl 0 rfl) ?_
                  obtain ⟨o10, h10, hm⟩ := zc_x hm
                  refine sg_cv0 (Sr := [[(q_p0_way, .inr (8, [.ref q_p0_way_row, .int v_p0_way_length]))], [(q_p0_way_row, .inl (cI, 26, .inl f_p0_way_row))], [(q_p1_allNeeded, .inl (cI, 27, .inl f_p1_allNeeded))]]) (va_runV (As := [.ref q_p1, .ref q_p2, .int x6]) (rest := []) ⟨hx, hb, hml, hown, hts⟩ (ct_Lon_measure l dC dI cI cL cM cZ q_p0 q_p1 q_p2 q_p0_sums q_p0_before q_p0_way q_p1_numbers q_p1_needCounts q_p1_needed q_p1_conditions q_p1_allNeeded d_p1_numbers d_p1_needed f7 f8 v_p1_jobs g_p1_numbers f_p1_needCounts g_p1_needed f_p2 x6 N o10 h10 _) (cwV 3 hts (gd_V wd_503 wd_505 ws_16 wd_8 wd_506) rfl rfl rfl (by decide +kernel) ⟨Nat.le_of_ble_eq_true rfl, Nat.le_of_ble_eq_true rfl⟩) (sg_preV (ci := 3) (q0 := 0) hK hNW hw [0, 1, 2, 5, 6, 7, 8, 9, 10, 12] rfl rfl rfl rfl) rfl rfl hl.1 rfl (lv_room (Nat.le_of_ble_eq_true rfl)) d_Lon_find_46 ⟨Nat.le_of_ble_eq_true rfl, Nat.le_of_ble_eq_true rfl⟩) hw hA [0, 1, 2, 5, 6, 7, 8, 9, 10, 12] [3, 4, 11] rfl rfl rfl (by decide) (fun H locs hw => ?_)
                  have hw : wk (dC, dI) vwCl A s.heap [[(q_p0_way, .inr (8, [.ref q_p0_way_row, .int v_p0_way_length]))], [(q_p0_way_row, .inl (cI, 26, .inl f_p0_way_row))], [(q_p1_allNeeded, .inl (cI, 27, .inl f_p1_allNeeded))], [(q_p0, .inr (3, [.ref q_p0_sums, .ref q_p0_before, .ref q_p0_way]))], [(q_p0_sums, .inl (cI, 27, .inl o10.1))], [(q_p0_before, .inl (cI, 27, .inl o10.2))], [(q_p1, .inr (4, [.ref q_p1_numbers, .ref q_p1_needCounts, .ref q_p1_needed, .ref q_p1_conditions, .ref q_p1_allNeeded, .int v_p1_jobs]))], [(q_p1_numbers, .inl (cM, gro 27 d_p1_numbers))], gl cI d_p1_numbers 27 4 g_p1_numbers, [(q_p1_needCounts, .inl (cI, 27, .inl f_p1_needCounts))], [(q_p1_needed, .inl (cM, gro 27 d_p1_needed))], gl cI d_p1_needed 27 20 g_p1_needed, [(q_p2, .inl (cI, 27, .inl f_p2))]] H locs := hw
                  refine lv_iinc (v := x6 + 1) (lv' := [(4, .int (x6 + 1)), (3, .int x1), (0, .ref q_p0), (1, .ref q_p1), (2, .ref q_p2)]) hx hb d_Lon_find_49 hl (k := 0) rfl rfl (by decide) rfl (fun ls hl => ?_)
                  refine lv_goto (tgt := 11) hx hb d_Lon_find_52 (by decide) ?_
                  exact ih11 (x6 + 1) o10.1 o10.2 hm _ _ _ (hw.sub [3, 4, 5, 0, 1, 6, 7, 8, 9, 10, 11, 2, 12] (by decide) rfl) hl
        exact L11 _ _ _ _ hm _ _ _ hw hl
  exact L2 _ _ _ _ hm _ _ _ hw hl
theorem d_Net_clear_0 : decode prog_5_method_2_code 0 = .ok (.aload_n 0, 1) := by decide +kernel
theorem d_Net_clear_1 : decode prog_5_method_2_code 1 = .ok (.iconst 0, 1) := by decide +kernel
theorem d_Net_clear_2 : decode prog_5_method_2_code 2 = .ok (.putfield 29, 3) := by decide +kernel
theorem d_Net_clear_5 : decode prog_5_method_2_code 5 = .ok (.aload_n 0, 1) := by decide +kernel
theorem d_Net_clear_6 : decode prog_5_method_2_code 6 = .ok (.getfield 16, 3) := by decide +kernel
theorem d_Net_clear_9 : decode prog_5_method_2_code 9 = .ok (.iconst 0, 1) := by decide +kernel
theorem d_Net_clear_10 : decode prog_5_method_2_code 10 = .ok (.invokestatic 33, 3) := by decide +kernel
theorem d_Net_clear_13 : decode prog_5_method_2_code 13 = .ok (.aload_n 0, 1) := by decide +kernel
theorem d_Net_clear_14 : decode prog_5_method_2_code 14 = .ok (.getfield 26, 3) := by decide +kernel
theorem d_Net_clear_17 : decode prog_5_method_2_code 17 = .ok (.iconst 0, 1) := by decide +kernel
theorem d_Net_clear_18 : decode prog_5_method_2_code 18 = .ok (.invokestatic 33, 3) := by decide +kernel
theorem d_Net_clear_21 : decode prog_5_method_2_code 21 = .ok (.return_, 1) := by decide +kernel
def md_Net_clear (N : Nat) (v_p0_jobs : Int32) (f_p0_needCounts : Nat → Int32) (f_p0_allNeeded : Nat → Int32) : Option (Int32 × (Nat → Int32) × (Nat → Int32)) :=
  (zc (md_JA_fill2 N 27 f_p0_needCounts (0 : Int32)) (fun o1 => (zc (md_JA_fill2 N 27 f_p0_allNeeded (0 : Int32)) (fun o2 => (some ((0 : Int32), o1, o2))))))
abbrev sc_Net_clear (cI cL cM cZ : ClassId) (q_p0 q_p0_numbers q_p0_needCounts q_p0_needed q_p0_conditions q_p0_allNeeded : Nat) (v_p0_jobs : Int32) (f_p0_needCounts : Nat → Int32) (f_p0_allNeeded : Nat → Int32) : List va_W := [[(q_p0, .inr (4, [.ref q_p0_numbers, .ref q_p0_needCounts, .ref q_p0_needed, .ref q_p0_conditions, .ref q_p0_allNeeded, .int v_p0_jobs]))], [(q_p0_needCounts, .inl (cI, 27, .inl f_p0_needCounts))], [(q_p0_allNeeded, .inl (cI, 27, .inl f_p0_allNeeded))]]
abbrev rm_Net_clear : Room := { frames := 1, cells := 0, slots := 0, locals := 23 }
set_option maxHeartbeats 4000000 in
set_option maxRecDepth 100000 in
theorem ct_Net_clear (l : Launch) (dC : Nat → ClassId) (dI : Nat → Nat → Nat) (cI cL cM cZ : ClassId) (q_p0 q_p0_numbers q_p0_needCounts q_p0_needed q_p0_conditions q_p0_allNeeded : Nat) (v_p0_jobs : Int32) (f_p0_needCounts : Nat → Int32) (f_p0_allNeeded : Nat → Int32) (N : Nat) (o : Int32 × (Nat → Int32) × (Nat → Int32)) (hm : md_Net_clear N v_p0_jobs f_p0_needCounts f_p0_allNeeded = some o) : ∀ sz : Nat, Met l y_Net_clear ws_Net_clear rm_Net_clear (cP (dC, dI) vwCl [(cI, .int), (cL, .long), (cM, .array .int), (cZ, .boolean)] [.ref q_p0] sz (sc_Net_clear cI cL cM cZ q_p0 q_p0_numbers q_p0_needCounts q_p0_needed q_p0_conditions q_p0_allNeeded v_p0_jobs f_p0_needCounts f_p0_allNeeded)) (cQv (dC, dI) vwCl [(cI, .int), (cL, .long), (cM, .array .int), (cZ, .boolean)] sz (sc_Net_clear cI cL cM cZ q_p0 q_p0_numbers q_p0_needCounts q_p0_needed q_p0_conditions q_p0_allNeeded v_p0_jobs f_p0_needCounts f_p0_allNeeded) (sc_Net_clear cI cL cM cZ q_p0 q_p0_numbers q_p0_needCounts q_p0_needed q_p0_conditions q_p0_allNeeded o.1 o.2.1 o.2.2)) 0 0 (va_A ((sc_Net_clear cI cL cM cZ q_p0 q_p0_numbers q_p0_needCounts q_p0_needed q_p0_conditions q_p0_allNeeded v_p0_jobs f_p0_needCounts f_p0_allNeeded)).flatten sz) := by
  refine sg_met (fun sz => cQv (dC, dI) vwCl [(cI, .int), (cL, .long), (cM, .array .int), (cZ, .boolean)] sz (sc_Net_clear cI cL cM cZ q_p0 q_p0_numbers q_p0_needCounts q_p0_needed q_p0_conditions q_p0_allNeeded v_p0_jobs f_p0_needCounts f_p0_allNeeded) (sc_Net_clear cI cL cM cZ q_p0 q_p0_numbers q_p0_needCounts q_p0_needed q_p0_conditions q_p0_allNeeded o.1 o.2.1 o.2.2)) (by decide) (Nat.le_of_ble_eq_true rfl) ?_
  intro p e s m args below meth c A Q ls hx hb hr hts hown hlocks hml hname hK hNW hA hAe hQ hw hl
  have hl : lv_has ls 1 [(0, .ref q_p0)] := hl
  have hw : wk (dC, dI) vwCl A s.heap [[(q_p0, .inr (4, [.ref q_p0_numbers, .ref q_p0_needCounts, .ref q_p0_needed, .ref q_p0_conditions, .ref q_p0_allNeeded, .int v_p0_jobs]))], [(q_p0_needCounts, .inl (cI, 27, .inl f_p0_needCounts))], [(q_p0_allNeeded, .inl (cI, 27, .inl f_p0_allNeeded))]] s.heap [] := hw
  unfold md_Net_clear at hm
  refine lv_aload_n hx hb d_Net_clear_0 rfl (lv_at hl 0 rfl) ?_
  refine lv_iconst (v := 0) hx hb d_Net_clear_1 (by decide) ?_
  refine sg_put (D := (dC, dI)) (ci := 4) (v := .int (0 : Int32)) (ty := .int) (C := "JobNets$Net") (T := T_4) (N := 6) (S1 := [[(q_p0, .inr (4, [.ref q_p0_numbers, .ref q_p0_needCounts, .ref q_p0_needed, .ref q_p0_conditions, .ref q_p0_allNeeded, .int (0 : Int32)]))], [(q_p0_needCounts, .inl (cI, 27, .inl f_p0_needCounts))], [(q_p0_allNeeded, .inl (cI, 27, .inl f_p0_allNeeded))]]) hx hb hts hin_4 ty_4 tok_4 nd_4 hown hK hw 0 rfl rfl 5 (by decide) (hts _ wd_203) rfl rfl (by decide +kernel) rfl rfl (Nat.le_of_ble_eq_true rfl) rfl d_Net_clear_2 (fun H locs hw => ?_)
  refine lv_aload_n hx hb d_Net_clear_5 rfl (lv_at hl 0 rfl) ?_
  refine sg_get (D := (dC, dI)) (ci := 4) (v := .ref q_p0_needCounts) (C := "JobNets$Net") (T := T_4) (N := 6) hx hb hts hin_4 hown hK hw 0 rfl rfl 1 (by decide) (hts _ wd_190) rfl rfl d_Net_clear_6 ?_
  refine lv_iconst (v := 0) hx hb d_Net_clear_9 (by decide) ?_
  obtain ⟨o1, h1, hm⟩ := zc_x hm
  refine sg_cv0 (Sr := [[(q_p0, .inr (4, [.ref q_p0_numbers, .ref q_p0_needCounts, .ref q_p0_needed, .ref q_p0_conditions, .ref q_p0_allNeeded, .int (0 : Int32)]))], [(q_p0_allNeeded, .inl (cI, 27, .inl f_p0_allNeeded))]]) (va_runS (As := [.ref q_p0_needCounts, .int (0 : Int32)]) (rest := []) ⟨hx, hb, hml, hown, hts⟩ (ct_JA_fill2 l dC dI cI cL cM cZ q_p0_needCounts 27 f_p0_needCounts (0 : Int32) N o1 h1 _) (va_cwS 2 hts (gd_T wd_270 wd_271 wd_11 wd_272) rfl rfl rfl (by decide +kernel) ⟨Nat.le_of_ble_eq_true rfl, Nat.le_of_ble_eq_true rfl⟩) (sg_preS hK hNW hw [1] rfl rfl) rfl rfl hl.1 rfl (lv_room (Nat.le_of_ble_eq_true rfl)) d_Net_clear_10 ⟨Nat.le_of_ble_eq_true rfl, Nat.le_of_ble_eq_true rfl⟩) hw hA [1] [0, 2] rfl rfl rfl (by decide) (fun H locs hw => ?_)
  have hw : wk (dC, dI) vwCl A s.heap [[(q_p0, .inr (4, [.ref q_p0_numbers, .ref q_p0_needCounts, .ref q_p0_needed, .ref q_p0_conditions, .ref q_p0_allNeeded, .int (0 : Int32)]))], [(q_p0_allNeeded, .inl (cI, 27, .inl f_p0_allNeeded))], [(q_p0_needCounts, .inl (cI, 27, .inl o1))]] H locs := hw
  refine lv_aload_n hx hb d_Net_clear_13 rfl (lv_at hl 0 rfl) ?_
  refine sg_get (D := (dC, dI)) (ci := 4) (v := .ref q_p0_allNeeded) (C := "JobNets$Net") (T := T_4) (N := 6) hx hb hts hin_4 hown hK hw 0 rfl rfl 4 (by decide) (hts _ wd_201) rfl rfl d_Net_clear_14 ?_
  refine lv_iconst (v := 0) hx hb d_Net_clear_17 (by decide) ?_
  obtain ⟨o2, h2, hm⟩ := zc_x hm
  refine sg_cv0 (Sr := [[(q_p0, .inr (4, [.ref q_p0_numbers, .ref q_p0_needCounts, .ref q_p0_needed, .ref q_p0_conditions, .ref q_p0_allNeeded, .int (0 : Int32)]))], [(q_p0_needCounts, .inl (cI, 27, .inl o1))]]) (va_runS (As := [.ref q_p0_allNeeded, .int (0 : Int32)]) (rest := []) ⟨hx, hb, hml, hown, hts⟩ (ct_JA_fill2 l dC dI cI cL cM cZ q_p0_allNeeded 27 f_p0_allNeeded (0 : Int32) N o2 h2 _) (va_cwS 2 hts (gd_T wd_270 wd_271 wd_11 wd_272) rfl rfl rfl (by decide +kernel) ⟨Nat.le_of_ble_eq_true rfl, Nat.le_of_ble_eq_true rfl⟩) (sg_preS hK hNW hw [1] rfl rfl) rfl rfl hl.1 rfl (lv_room (Nat.le_of_ble_eq_true rfl)) d_Net_clear_18 ⟨Nat.le_of_ble_eq_true rfl, Nat.le_of_ble_eq_true rfl⟩) hw hA [1] [0, 2] rfl rfl rfl (by decide) (fun H locs hw => ?_)
  have hw : wk (dC, dI) vwCl A s.heap [[(q_p0, .inr (4, [.ref q_p0_numbers, .ref q_p0_needCounts, .ref q_p0_needed, .ref q_p0_conditions, .ref q_p0_allNeeded, .int (0 : Int32)]))], [(q_p0_needCounts, .inl (cI, 27, .inl o1))], [(q_p0_allNeeded, .inl (cI, 27, .inl o2))]] H locs := hw
  exact so_vret (Sf := fun z_ => sc_Net_clear cI cL cM cZ q_p0 q_p0_numbers q_p0_needCounts q_p0_needed q_p0_conditions q_p0_allNeeded z_.1 z_.2.1 z_.2.2) hm hx hb hr hlocks hAe hQ hK hw d_Net_clear_21
theorem d_Pla_drop_0 : decode prog_6_method_2_code 0 = .ok (.aload_n 0, 1) := by decide +kernel
theorem d_Pla_drop_1 : decode prog_6_method_2_code 1 = .ok (.getfield 9, 3) := by decide +kernel
theorem d_Pla_drop_4 : decode prog_6_method_2_code 4 = .ok (.iconst 0, 1) := by decide +kernel
theorem d_Pla_drop_5 : decode prog_6_method_2_code 5 = .ok (.invokestatic 31, 3) := by decide +kernel
theorem d_Pla_drop_8 : decode prog_6_method_2_code 8 = .ok (.aload_n 0, 1) := by decide +kernel
theorem d_Pla_drop_9 : decode prog_6_method_2_code 9 = .ok (.iconst 0, 1) := by decide +kernel
theorem d_Pla_drop_10 : decode prog_6_method_2_code 10 = .ok (.putfield 24, 3) := by decide +kernel
theorem d_Pla_drop_13 : decode prog_6_method_2_code 13 = .ok (.return_, 1) := by decide +kernel
def md_Pla_drop (N : Nat) (v_p0_starts : Int32) (f_p0_states : Nat → Int32) : Option (Int32 × (Nat → Int32)) :=
  (zc (md_JA_fill2 N 27 f_p0_states (0 : Int32)) (fun o1 => (some ((0 : Int32), o1))))
abbrev sc_Pla_drop (cI cL cM cZ : ClassId) (q_p0 q_p0_states q_p0_startTimes q_p0_loggedJobs q_p0_loggedTimes : Nat) (v_p0_starts : Int32) (v_p0_time : Int32) (f_p0_states : Nat → Int32) : List va_W := [[(q_p0, .inr (5, [.ref q_p0_states, .ref q_p0_startTimes, .ref q_p0_loggedJobs, .ref q_p0_loggedTimes, .int v_p0_starts, .int v_p0_time]))], [(q_p0_states, .inl (cI, 27, .inl f_p0_states))]]
abbrev rm_Pla_drop : Room := { frames := 1, cells := 0, slots := 0, locals := 23 }
set_option maxHeartbeats 4000000 in
set_option maxRecDepth 100000 in
theorem ct_Pla_drop (l : Launch) (dC : Nat → ClassId) (dI : Nat → Nat → Nat) (cI cL cM cZ : ClassId) (q_p0 q_p0_states q_p0_startTimes q_p0_loggedJobs q_p0_loggedTimes : Nat) (v_p0_starts : Int32) (v_p0_time : Int32) (f_p0_states : Nat → Int32) (N : Nat) (o : Int32 × (Nat → Int32)) (hm : md_Pla_drop N v_p0_starts f_p0_states = some o) : ∀ sz : Nat, Met l y_Pla_drop ws_Pla_drop rm_Pla_drop (cP (dC, dI) vwCl [(cI, .int), (cL, .long), (cM, .array .int), (cZ, .boolean)] [.ref q_p0] sz (sc_Pla_drop cI cL cM cZ q_p0 q_p0_states q_p0_startTimes q_p0_loggedJobs q_p0_loggedTimes v_p0_starts v_p0_time f_p0_states)) (cQv (dC, dI) vwCl [(cI, .int), (cL, .long), (cM, .array .int), (cZ, .boolean)] sz (sc_Pla_drop cI cL cM cZ q_p0 q_p0_states q_p0_startTimes q_p0_loggedJobs q_p0_loggedTimes v_p0_starts v_p0_time f_p0_states) (sc_Pla_drop cI cL cM cZ q_p0 q_p0_states q_p0_startTimes q_p0_loggedJobs q_p0_loggedTimes o.1 v_p0_time o.2)) 0 0 (va_A ((sc_Pla_drop cI cL cM cZ q_p0 q_p0_states q_p0_startTimes q_p0_loggedJobs q_p0_loggedTimes v_p0_starts v_p0_time f_p0_states)).flatten sz) := by
  refine sg_met (fun sz => cQv (dC, dI) vwCl [(cI, .int), (cL, .long), (cM, .array .int), (cZ, .boolean)] sz (sc_Pla_drop cI cL cM cZ q_p0 q_p0_states q_p0_startTimes q_p0_loggedJobs q_p0_loggedTimes v_p0_starts v_p0_time f_p0_states) (sc_Pla_drop cI cL cM cZ q_p0 q_p0_states q_p0_startTimes q_p0_loggedJobs q_p0_loggedTimes o.1 v_p0_time o.2)) (by decide) (Nat.le_of_ble_eq_true rfl) ?_
  intro p e s m args below meth c A Q ls hx hb hr hts hown hlocks hml hname hK hNW hA hAe hQ hw hl
  have hl : lv_has ls 1 [(0, .ref q_p0)] := hl
  have hw : wk (dC, dI) vwCl A s.heap [[(q_p0, .inr (5, [.ref q_p0_states, .ref q_p0_startTimes, .ref q_p0_loggedJobs, .ref q_p0_loggedTimes, .int v_p0_starts, .int v_p0_time]))], [(q_p0_states, .inl (cI, 27, .inl f_p0_states))]] s.heap [] := hw
  unfold md_Pla_drop at hm
  refine lv_aload_n hx hb d_Pla_drop_0 rfl (lv_at hl 0 rfl) ?_
  refine sg_get (D := (dC, dI)) (ci := 5) (v := .ref q_p0_states) (C := "JobNets$Plan") (T := T_5) (N := 6) hx hb hts hin_5 hown hK hw 0 rfl rfl 0 (by decide) (hts _ wd_90) rfl rfl d_Pla_drop_1 ?_
  refine lv_iconst (v := 0) hx hb d_Pla_drop_4 (by decide) ?_
  obtain ⟨o1, h1, hm⟩ := zc_x hm
  refine sg_cv0 (Sr := [[(q_p0, .inr (5, [.ref q_p0_states, .ref q_p0_startTimes, .ref q_p0_loggedJobs, .ref q_p0_loggedTimes, .int v_p0_starts, .int v_p0_time]))]]) (va_runS (As := [.ref q_p0_states, .int (0 : Int32)]) (rest := []) ⟨hx, hb, hml, hown, hts⟩ (ct_JA_fill2 l dC dI cI cL cM cZ q_p0_states 27 f_p0_states (0 : Int32) N o1 h1 _) (va_cwS 2 hts (gd_T wd_347 wd_271 wd_11 wd_272) rfl rfl rfl (by decide +kernel) ⟨Nat.le_of_ble_eq_true rfl, Nat.le_of_ble_eq_true rfl⟩) (sg_preS hK hNW hw [1] rfl rfl) rfl rfl hl.1 rfl (lv_room (Nat.le_of_ble_eq_true rfl)) d_Pla_drop_5 ⟨Nat.le_of_ble_eq_true rfl, Nat.le_of_ble_eq_true rfl⟩) hw hA [1] [0] rfl rfl rfl (by decide) (fun H locs hw => ?_)
  have hw : wk (dC, dI) vwCl A s.heap [[(q_p0, .inr (5, [.ref q_p0_states, .ref q_p0_startTimes, .ref q_p0_loggedJobs, .ref q_p0_loggedTimes, .int v_p0_starts, .int v_p0_time]))], [(q_p0_states, .inl (cI, 27, .inl o1))]] H locs := hw
  refine lv_aload_n hx hb d_Pla_drop_8 rfl (lv_at hl 0 rfl) ?_
  refine lv_iconst (v := 0) hx hb d_Pla_drop_9 (by decide) ?_
  refine sg_put (D := (dC, dI)) (ci := 5) (v := .int (0 : Int32)) (ty := .int) (C := "JobNets$Plan") (T := T_5) (N := 6) (S1 := [[(q_p0, .inr (5, [.ref q_p0_states, .ref q_p0_startTimes, .ref q_p0_loggedJobs, .ref q_p0_loggedTimes, .int (0 : Int32), .int v_p0_time]))], [(q_p0_states, .inl (cI, 27, .inl o1))]]) hx hb hts hin_5 ty_5 tok_5 nd_5 hown hK hw 0 rfl rfl 4 (by decide) (hts _ wd_98) rfl rfl (by decide +kernel) rfl rfl (Nat.le_of_ble_eq_true rfl) rfl d_Pla_drop_10 (fun H locs hw => ?_)
  exact so_vret (Sf := fun z_ => sc_Pla_drop cI cL cM cZ q_p0 q_p0_states q_p0_startTimes q_p0_loggedJobs q_p0_loggedTimes z_.1 v_p0_time z_.2) hm hx hb hr hlocks hAe hQ hK hw d_Pla_drop_13
