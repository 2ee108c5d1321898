-- a grid is made
section SGM
variable {p : Program} {l : Launch} {e : Env} {R : Room} {s : State} {m : MethodId} {args : Array Value} {below : List Frame} {meth : Method} {c : Code} {H : Heap} {locs : List Loc} {cells slots : Nat} {Q : State → Prop}
variable {cc : ByteArray} {pc : Nat} {ls : Array Slot} {rest st0 : List Value} {D : va_G} {cl : List vw_C} {A : Nat → Prop} {a : Nat} {tys : List (ClassId × FieldType)} {S : List va_W} {H0 : Heap}
theorem gl_of (cI : ClassId) (r : Nat → Nat) (n k : Nat) (f : Nat → va_E) : va_pl ([] ++ (List.range n).map r) (vr_up f ((List.range n).map r) (.inl (cI, k, .inl (fun _ => 0)))) = gl cI r n k (fun _ _ => 0) := by
  unfold va_pl gl
  rw [List.nil_append, List.map_map]
  apply List.map_congr_left
  intro i hi
  show (r i, vr_up f ((List.range n).map r) _ (r i)) = _
  rw [vr_up_in (List.mem_map.mpr ⟨i, hi, rfl⟩)]
theorem sg_newm (hx : p.tables.exec = Jvm.exec) (hb : c.code = cc) {own : String} {index : Nat} (hown : s.vm.findClass own = some m.cls) (hclink : (Cond.classLink own index "[[I").before args s = true) (hNW : NWs s) (harr : (Cond.arrayClass .int).before args s = true) (hK : va_K D cl tys s) (hw : wk D cl A H0 S H locs) (hA : ∀ q, H0.size ≤ q → A q) (t0 t1 : Nat) {cI cM : ClassId} (ht0 : tys[t0]? = some (cI, .int)) (ht1 : tys[t1]? = some (cM, .array .int))
    {n k : Int32} {n' k' : Nat} (hn : ¬ n < 0) (hk : ¬ k < 0) (hN : n.toNatClampNeg = n') (hM : k.toNatClampNeg = k') (hb1 : n' * 4 ≤ 536870912) (hb2 : k' * 4 ≤ 536870912) (hcells : cells + (1 + n') ≤ R.cells) (hslots : slots + (n' + n' * k') ≤ R.slots) (hdg : decode cc pc = .ok (.multianewarray index 2, 4))
    (kk : ∀ (q : Nat) (d : Nat → Nat) (H1 : Heap), wk D cl A H0 (S ++ [[(q, .inl (cM, gro n' d))], gl cI d n' k' (fun _ _ => 0)]) H1 locs → W p l e R s m args below meth c H1 locs (cells + 1 + n') (slots + n' + n' * k') Q (F0 m (pc + 4) ls (.ref q :: rest))) : W p l e R s m args below meth c H locs cells slots Q (F0 m pc ls (.int k :: .int n :: rest)) := by
  have e0 : "[" ++ (FieldType.array .int).toString = "[[I" := by decide
  have hcl2 : (Cond.classLink own index ("[" ++ (FieldType.array .int).toString)).before args s = true := by rw [e0]; exact hclink
  have hcy : s.vm.findClass (FieldType.array .int).toString = some cI := (hK.2 t0 _ ht0).2
  have hP0 : va_P D cl (S.flatten ++ va_pl [] (fun _ => (.inl (cI, 0, .inl (fun _ => 0)) : va_E))) H := by
    rw [show va_pl [] (fun _ => (.inl (cI, 0, .inl (fun _ => 0)) : va_E)) = [] from rfl, List.append_nil]
    exact hw.1
  have hD0 : va_D A (S.flatten ++ va_pl [] (fun _ => (.inl (cI, 0, .inl (fun _ => 0)) : va_E))) := by
    rw [show va_pl [] (fun _ => (.inl (cI, 0, .inl (fun _ => 0)) : va_E)) = [] from rfl, List.append_nil]
    exact hw.2.1
  refine va_mna (X := S.flatten) (L := []) (f := fun _ => (.inl (cI, 0, .inl (fun _ => 0)) : va_E)) (ty := .int) (cy := cI) (N' := n') (K' := k') (z := (k', .inl (fun _ => 0))) hx hb hown hcl2 hNW.2.2 harr hcy hK hP0 hD0 hw.2.2 hA hn hk hN hM hb1 hb2 (by omega) rfl rfl hcells hslots (fun c0 => (arrV_new c0 k' (.int 0)).trans (vp_cell_i c0 k' (fun _ => 0)).symm) hdg (fun q r cA H1 _ _ k1 p1 p2 p3 => ?_)
  have e1 : s.vm.findClass ("[" ++ (FieldType.array .int).toString) = some cA := (k1.2 tys.length (cA, .array .int) (by simp)).2
  have e2 : s.vm.findClass ("[" ++ (FieldType.array .int).toString) = some cM := (hK.2 t1 _ ht1).2
  have e3 : cA = cM := Option.some.inj (e1.symm.trans e2)
  subst e3
  rw [gl_of] at p1 p2
  have ef : (S ++ [[((q, .inl (cA, gro n' r)) : Nat × va_E)], gl cI r n' k' (fun _ _ => 0)]).flatten = (S.flatten ++ [((q, .inl (cA, gro n' r)) : Nat × va_E)]) ++ gl cI r n' k' (fun _ _ => 0) := by
    rw [List.flatten_append, List.append_assoc]
    simp
  exact kk q r H1 ⟨by rw [ef]; exact p1, by rw [ef]; exact p2, p3⟩
end SGM
