-- 02.seg: worlds cut into segments (a cell, or the rows of a grid), and rows over them that carry a model along
-- the model's words: zl names a value, ob_ asks a condition, zc calls, fxK loops with fuel
def zl {α β : Type} (x : α) (k : α → β) : β := k x
def zc {α β : Type} (x : Option α) (k : α → Option β) : Option β := x.bind k
theorem zl_x {α β : Type} {x : α} {k : α → Option β} {o : β} (h : zl x k = some o) : ∃ y, y = x ∧ k y = some o := ⟨x, rfl, h⟩
theorem zc_x {α β : Type} {x : Option α} {k : α → Option β} {o : β} (h : zc x k = some o) : ∃ y, x = some y ∧ k y = some o := by
  unfold zc at h
  exact Option.bind_eq_some_iff.mp h
theorem it_t {c : Prop} {d : Decidable c} {β : Type} {a b : Option β} {o : β} (hc : c) (h : @ite _ c d a b = some o) : a = some o := by rw [if_pos hc] at h; exact h
theorem it_f {c : Prop} {d : Decidable c} {β : Type} {a b : Option β} {o : β} (hc : ¬ c) (h : @ite _ c d a b = some o) : b = some o := by rw [if_neg hc] at h; exact h
theorem it_n {c : Prop} {d : Decidable c} {β : Type} {a : Option β} {o : β} (h : @ite _ c d a none = some o) : c ∧ a = some o := by
  by_cases hc : c
  · rw [if_pos hc] at h; exact ⟨hc, h⟩
  · rw [if_neg hc] at h; cases h
def sg_in (i : Int32) (n : Nat) : Bool := !(decide (i < 0)) && decide (i.toNatClampNeg < n)
theorem sg_in_vp {i : Int32} {n : Nat} (h : sg_in i n = true) : vp_in i n := by
  simp only [sg_in, Bool.and_eq_true, Bool.not_eq_true', decide_eq_false_iff_not, decide_eq_true_eq] at h
  rintro (q | q)
  · exact h.1 q
  · omega
-- segments
def sg_R (p q : Nat × va_E) : Prop := p.1 ≠ q.1
theorem sg_Diff {A : Nat → Prop} {ws : va_W} : va_D A ws ↔ ws.Pairwise sg_R ∧ ∀ q ∈ ws, A q.1 := by
  constructor
  · intro h
    refine ⟨List.pairwise_iff_getElem.mpr (fun i j hi hj hij e => ?_), fun q hq => ?_⟩
    · have := h.1 i j _ _ (List.getElem?_eq_getElem hi) (List.getElem?_eq_getElem hj) e
      omega
    · obtain ⟨k, hk⟩ := List.getElem?_of_mem hq
      exact h.2 k q hk
  · intro h
    refine ⟨fun i j p q hi hj e => ?_, fun k q hk => h.2 q (List.mem_of_getElem? hk)⟩
    obtain ⟨hi1, hi2⟩ := List.getElem?_eq_some_iff.mp hi
    obtain ⟨hj1, hj2⟩ := List.getElem?_eq_some_iff.mp hj
    have hp := List.pairwise_iff_getElem.mp h.1
    rcases Nat.lt_trichotomy i j with q1 | q1 | q1
    · exact absurd (by rw [hi2, hj2]; exact e) (hp i j hi1 hj1 q1)
    · exact q1
    · exact absurd (by rw [hi2, hj2]; exact e.symm) (hp j i hj1 hi1 q1)
theorem sg_Pin {D : va_G} {cl : List vw_C} {ws : va_W} {H : Heap} : va_P D cl ws H ↔ ∀ q ∈ ws, va_at D cl q H := by
  constructor
  · intro h q hq
    obtain ⟨k, hk⟩ := List.getElem?_of_mem hq
    exact h k q hk
  · intro h k q hk
    exact h q (List.mem_of_getElem? hk)
theorem sg_at {S : List va_W} {seg : va_W} {q i a : Nat} {e : va_E} (h : S[q]? = some seg) (hi : seg[i]? = some (a, e)) : ∃ k : Nat, S.flatten[k]? = some (a, e) ∧ ∀ e' : va_E, S.flatten.set k (a, e') = (S.set q (seg.set i (a, e'))).flatten := by
  induction S generalizing q with
  | nil => simp at h
  | cons s0 S ih =>
    cases q with
    | zero =>
      rw [List.getElem?_cons_zero] at h
      cases h
      have hl := (List.getElem?_eq_some_iff.mp hi).1
      refine ⟨i, ?_, fun e' => ?_⟩
      · rw [List.flatten_cons, List.getElem?_append_left hl]
        exact hi
      · rw [List.flatten_cons, List.set_append_left _ _ hl, List.set_cons_zero, List.flatten_cons]
    | succ q =>
      rw [List.getElem?_cons_succ] at h
      obtain ⟨k, h1, h2⟩ := ih h
      refine ⟨s0.length + k, ?_, fun e' => ?_⟩
      · rw [List.flatten_cons, List.getElem?_append_right (Nat.le_add_right _ _), Nat.add_sub_cancel_left]
        exact h1
      · rw [List.flatten_cons, List.set_append_right _ _ (Nat.le_add_right _ _), Nat.add_sub_cancel_left, h2 e', List.set_cons_succ, List.flatten_cons]
theorem sg_pick {S S' : List va_W} {is : List Nat} (hs : is.map (fun i => S[i]?) = S'.map some) {k : Nat} {seg : va_W} (hk : S'[k]? = some seg) : ∃ i, is[k]? = some i ∧ S[i]? = some seg := by
  have h1 : (is.map (fun i => S[i]?))[k]? = some (some seg) := by rw [hs, List.getElem?_map, hk]; rfl
  rw [List.getElem?_map] at h1
  cases hi : is[k]? with
  | none => rw [hi] at h1; cases h1
  | some i => rw [hi] at h1; exact ⟨i, rfl, Option.some.inj h1⟩
theorem sg_mem {S S' : List va_W} {is : List Nat} (hs : is.map (fun i => S[i]?) = S'.map some) {q : Nat × va_E} (hq : q ∈ S'.flatten) : ∃ (k i : Nat) (seg : va_W), is[k]? = some i ∧ S[i]? = some seg ∧ q ∈ seg := by
  obtain ⟨seg, h1, h2⟩ := List.mem_flatten.mp hq
  obtain ⟨k, hk⟩ := List.getElem?_of_mem h1
  obtain ⟨i, h3, h4⟩ := sg_pick hs hk
  exact ⟨k, i, seg, h3, h4, h2⟩
theorem sg_apart {A : Nat → Prop} {S : List va_W} (h : va_D A S.flatten) {i j : Nat} {a b : va_W} (hi : S[i]? = some a) (hj : S[j]? = some b) (hij : i ≠ j) {x y : Nat × va_E} (hx : x ∈ a) (hy : y ∈ b) : x.1 ≠ y.1 := by
  obtain ⟨pw, -⟩ := sg_Diff.mp h
  obtain ⟨-, h2⟩ := List.pairwise_flatten.mp pw
  have hp := List.pairwise_iff_getElem.mp h2
  obtain ⟨hi1, hi2⟩ := List.getElem?_eq_some_iff.mp hi
  obtain ⟨hj1, hj2⟩ := List.getElem?_eq_some_iff.mp hj
  rcases Nat.lt_trichotomy i j with q | q | q
  · exact hp i j hi1 hj1 q x (by rw [hi2]; exact hx) y (by rw [hj2]; exact hy)
  · exact absurd q hij
  · exact fun e => hp j i hj1 hi1 q y (by rw [hj2]; exact hy) x (by rw [hi2]; exact hx) e.symm
theorem sg_Dsub {A : Nat → Prop} {S S' : List va_W} (h : va_D A S.flatten) {is : List Nat} (hn : va_nd is = true) (hs : is.map (fun i => S[i]?) = S'.map some) : va_D A S'.flatten := by
  obtain ⟨pw, ha⟩ := sg_Diff.mp h
  obtain ⟨h1, -⟩ := List.pairwise_flatten.mp pw
  refine sg_Diff.mpr ⟨List.pairwise_flatten.mpr ⟨fun l hl => ?_, List.pairwise_iff_getElem.mpr (fun i j hi hj hij x hx y hy => ?_)⟩, fun q hq => ?_⟩
  · obtain ⟨k, hk⟩ := List.getElem?_of_mem hl
    obtain ⟨i, -, h4⟩ := sg_pick hs hk
    exact h1 l (List.mem_of_getElem? h4)
  · obtain ⟨a, a1, a2⟩ := sg_pick hs (List.getElem?_eq_getElem hi)
    obtain ⟨b, b1, b2⟩ := sg_pick hs (List.getElem?_eq_getElem hj)
    refine sg_apart h a2 b2 (fun e => ?_) hx hy
    subst e
    have := va_nd_inj is hn i j a a1 b1
    omega
  · obtain ⟨k, i, seg, -, h4, h5⟩ := sg_mem hs hq
    exact ha q (List.mem_flatten.mpr ⟨seg, List.mem_of_getElem? h4, h5⟩)
theorem sg_Psub {D : va_G} {cl : List vw_C} {H : Heap} {S S' : List va_W} (h : va_P D cl S.flatten H) {is : List Nat} (hs : is.map (fun i => S[i]?) = S'.map some) : va_P D cl S'.flatten H := by
  refine sg_Pin.mpr (fun q hq => ?_)
  obtain ⟨k, i, seg, -, h4, h5⟩ := sg_mem hs hq
  exact sg_Pin.mp h q (List.mem_flatten.mpr ⟨seg, List.mem_of_getElem? h4, h5⟩)
def wk (D : va_G) (cl : List vw_C) (A : Nat → Prop) (H0 : Heap) (S : List va_W) (H : Heap) (locs : List Loc) : Prop := va_P D cl S.flatten H ∧ va_D A S.flatten ∧ va_S A H0 H locs
theorem wk.sub {D : va_G} {cl : List vw_C} {A : Nat → Prop} {H0 H : Heap} {S S' : List va_W} {locs : List Loc} (h : wk D cl A H0 S H locs) (is : List Nat) (hn : va_nd is = true) (hs : is.map (fun i => S[i]?) = S'.map some) : wk D cl A H0 S' H locs := ⟨sg_Psub h.1 hs, sg_Dsub h.2.1 hn hs, h.2.2⟩
theorem sg_free {D : va_G} {cl : List vw_C} {A : Nat → Prop} {H0 H : Heap} {S Sc : List va_W} {locs : List Loc} (h : wk D cl A H0 S H locs) (hA : ∀ q, H0.size ≤ q → A q) {isC : List Nat} (hC : isC.map (fun i => S[i]?) = Sc.map some) : ∀ q, va_A Sc.flatten H.size q → A q := by
  intro q hq
  rcases hq with ⟨k, e, hq⟩ | hq
  · obtain ⟨k, i, seg, -, h4, h5⟩ := sg_mem hC (List.mem_of_getElem? hq)
    exact (sg_Diff.mp h.2.1).2 (q, e) (List.mem_flatten.mpr ⟨seg, List.mem_of_getElem? h4, h5⟩)
  · exact hA q (Nat.le_trans h.2.2.1 hq)
theorem sg_join {D : va_G} {cl : List vw_C} {A : Nat → Prop} {H0 H H1 : Heap} {S Sc Sr S1 : List va_W} {locs locs1 : List Loc} (h : wk D cl A H0 S H locs) (hA : ∀ q, H0.size ≤ q → A q) {isC isR : List Nat} (hC : isC.map (fun i => S[i]?) = Sc.map some) (hR : isR.map (fun i => S[i]?) = Sr.map some) (hn : va_nd isR = true) (hdis : ∀ i ∈ isR, i ∉ isC)
    (hk : ∀ q : Nat, q < H.size → ¬ va_A Sc.flatten H.size q → H1[q]? = H[q]?) (hP1 : va_P D cl S1.flatten H1) (hD1 : va_D (va_A Sc.flatten H.size) S1.flatten) (hS1 : va_S A H0 H1 locs1) : wk D cl A H0 (Sr ++ S1) H1 locs1 := by
  have hF := sg_free h hA hC
  have apart : ∀ q ∈ Sr.flatten, q.1 < H.size ∧ ¬ va_A Sc.flatten H.size q.1 := by
    intro q hq
    obtain ⟨k, i, seg, h3, h4, h5⟩ := sg_mem hR hq
    have hl := (sg_Pin.mp h.1 q (List.mem_flatten.mpr ⟨seg, List.mem_of_getElem? h4, h5⟩)).lt
    refine ⟨hl, fun z => ?_⟩
    rcases z with ⟨k2, e, z⟩ | z
    · obtain ⟨k3, j, seg2, g3, g4, g5⟩ := sg_mem hC (List.mem_of_getElem? z)
      have hij : i ≠ j := fun e => hdis i (List.mem_of_getElem? h3) (by rw [e]; exact List.mem_of_getElem? g3)
      exact sg_apart h.2.1 h4 g4 hij h5 g5 rfl
    · omega
  refine ⟨?_, ?_, hS1⟩
  · rw [List.flatten_append]
    refine va_P.app (sg_Pin.mpr (fun q hq => ?_)) hP1
    obtain ⟨g1, g2⟩ := apart q hq
    exact (sg_Pin.mp (sg_Psub h.1 hR) q hq).kept (hk q.1 g1 g2)
  · rw [List.flatten_append]
    refine va_D.app (sg_Dsub h.2.1 hn hR) (hD1.weaken (fun k q _ z => hF q.1 z)) (fun i j x y hx hy hxy => ?_)
    exact (apart x (List.mem_of_getElem? hx)).2 (by rw [hxy]; exact hD1.2 j y hy)
-- the rows of a grid, as one segment
def gl (cI : ClassId) (d : Nat → Nat) (n k : Nat) (M : Nat → Nat → Int32) : va_W := (List.range n).map (fun i => (d i, .inl (cI, k, .inl (M i))))
def gro (n : Nat) (d : Nat → Nat) : vp_A := (n, .inr (.inr (.inr (.inr (fun i => if i < n then some (d i) else none)))))
def gup (M : Nat → Nat → Int32) (i j : Nat) (x : Int32) : Nat → Nat → Int32 := fun a => if a = i then upd (M i) j x else M a
theorem gl_at {cI : ClassId} {d : Nat → Nat} {n k i : Nat} {M : Nat → Nat → Int32} (h : i < n) : (gl cI d n k M)[i]? = some (d i, .inl (cI, k, .inl (M i))) := by
  unfold gl
  rw [List.getElem?_map, List.getElem?_range h]
  rfl
theorem gl_set {cI : ClassId} {d : Nat → Nat} {n k i j : Nat} {M : Nat → Nat → Int32} {x : Int32} (h : i < n) : (gl cI d n k M).set i (d i, .inl (cI, k, .inl (upd (M i) j x))) = gl cI d n k (gup M i j x) := by
  apply List.ext_getElem?
  intro a
  by_cases ha : a < n
  · rw [gl_at ha]
    by_cases e : a = i
    · subst e
      rw [List.getElem?_set_self (by unfold gl; simpa using ha)]
      simp [gup]
    · rw [List.getElem?_set_ne (fun q => e q.symm), gl_at ha]
      simp [gup, e]
  · have l1 : (gl cI d n k (gup M i j x))[a]? = none := by
      rw [List.getElem?_eq_none_iff]
      unfold gl
      simp
      omega
    have l2 : ((gl cI d n k M).set i (d i, .inl (cI, k, .inl (upd (M i) j x))))[a]? = none := by
      rw [List.getElem?_eq_none_iff]
      unfold gl
      simp
      omega
    rw [l1, l2]
-- loops with fuel
def fx1 {A1 R : Type} (F : (A1 → Option R) → A1 → Option R) : Nat → A1 → Option R
  | 0, _ => none
  | n + 1, a1 => F (fx1 F n) a1
theorem fx1_x {A1 R : Type} {F : (A1 → Option R) → A1 → Option R} {n : Nat} {a1 : A1} {o : R} (h : fx1 F n a1 = some o) : ∃ G, G = F ∧ fx1 G n a1 = some o := ⟨F, rfl, h⟩
theorem fx1_0 {A1 R : Type} {F : (A1 → Option R) → A1 → Option R} {a1 : A1} {o : R} (h : fx1 F 0 a1 = some o) : False := by cases h
theorem fx1_s {A1 R : Type} {G F : (A1 → Option R) → A1 → Option R} {n : Nat} {a1 : A1} {o : R} (hG : G = F) (h : fx1 G (n + 1) a1 = some o) : F (fx1 G n) a1 = some o := by subst hG; exact h
def fx2 {A1 A2 R : Type} (F : (A1 → A2 → Option R) → A1 → A2 → Option R) : Nat → A1 → A2 → Option R
  | 0, _, _ => none
  | n + 1, a1, a2 => F (fx2 F n) a1 a2
theorem fx2_x {A1 A2 R : Type} {F : (A1 → A2 → Option R) → A1 → A2 → Option R} {n : Nat} {a1 : A1} {a2 : A2} {o : R} (h : fx2 F n a1 a2 = some o) : ∃ G, G = F ∧ fx2 G n a1 a2 = some o := ⟨F, rfl, h⟩
theorem fx2_0 {A1 A2 R : Type} {F : (A1 → A2 → Option R) → A1 → A2 → Option R} {a1 : A1} {a2 : A2} {o : R} (h : fx2 F 0 a1 a2 = some o) : False := by cases h
theorem fx2_s {A1 A2 R : Type} {G F : (A1 → A2 → Option R) → A1 → A2 → Option R} {n : Nat} {a1 : A1} {a2 : A2} {o : R} (hG : G = F) (h : fx2 G (n + 1) a1 a2 = some o) : F (fx2 G n) a1 a2 = some o := by subst hG; exact h
def fx3 {A1 A2 A3 R : Type} (F : (A1 → A2 → A3 → Option R) → A1 → A2 → A3 → Option R) : Nat → A1 → A2 → A3 → Option R
  | 0, _, _, _ => none
  | n + 1, a1, a2, a3 => F (fx3 F n) a1 a2 a3
theorem fx3_x {A1 A2 A3 R : Type} {F : (A1 → A2 → A3 → Option R) → A1 → A2 → A3 → Option R} {n : Nat} {a1 : A1} {a2 : A2} {a3 : A3} {o : R} (h : fx3 F n a1 a2 a3 = some o) : ∃ G, G = F ∧ fx3 G n a1 a2 a3 = some o := ⟨F, rfl, h⟩
theorem fx3_0 {A1 A2 A3 R : Type} {F : (A1 → A2 → A3 → Option R) → A1 → A2 → A3 → Option R} {a1 : A1} {a2 : A2} {a3 : A3} {o : R} (h : fx3 F 0 a1 a2 a3 = some o) : False := by cases h
theorem fx3_s {A1 A2 A3 R : Type} {G F : (A1 → A2 → A3 → Option R) → A1 → A2 → A3 → Option R} {n : Nat} {a1 : A1} {a2 : A2} {a3 : A3} {o : R} (hG : G = F) (h : fx3 G (n + 1) a1 a2 a3 = some o) : F (fx3 G n) a1 a2 a3 = some o := by subst hG; exact h
def fx4 {A1 A2 A3 A4 R : Type} (F : (A1 → A2 → A3 → A4 → Option R) → A1 → A2 → A3 → A4 → Option R) : Nat → A1 → A2 → A3 → A4 → Option R
  | 0, _, _, _, _ => none
  | n + 1, a1, a2, a3, a4 => F (fx4 F n) a1 a2 a3 a4
theorem fx4_x {A1 A2 A3 A4 R : Type} {F : (A1 → A2 → A3 → A4 → Option R) → A1 → A2 → A3 → A4 → Option R} {n : Nat} {a1 : A1} {a2 : A2} {a3 : A3} {a4 : A4} {o : R} (h : fx4 F n a1 a2 a3 a4 = some o) : ∃ G, G = F ∧ fx4 G n a1 a2 a3 a4 = some o := ⟨F, rfl, h⟩
theorem fx4_0 {A1 A2 A3 A4 R : Type} {F : (A1 → A2 → A3 → A4 → Option R) → A1 → A2 → A3 → A4 → Option R} {a1 : A1} {a2 : A2} {a3 : A3} {a4 : A4} {o : R} (h : fx4 F 0 a1 a2 a3 a4 = some o) : False := by cases h
theorem fx4_s {A1 A2 A3 A4 R : Type} {G F : (A1 → A2 → A3 → A4 → Option R) → A1 → A2 → A3 → A4 → Option R} {n : Nat} {a1 : A1} {a2 : A2} {a3 : A3} {a4 : A4} {o : R} (hG : G = F) (h : fx4 G (n + 1) a1 a2 a3 a4 = some o) : F (fx4 G n) a1 a2 a3 a4 = some o := by subst hG; exact h
def fx5 {A1 A2 A3 A4 A5 R : Type} (F : (A1 → A2 → A3 → A4 → A5 → Option R) → A1 → A2 → A3 → A4 → A5 → Option R) : Nat → A1 → A2 → A3 → A4 → A5 → Option R
  | 0, _, _, _, _, _ => none
  | n + 1, a1, a2, a3, a4, a5 => F (fx5 F n) a1 a2 a3 a4 a5
theorem fx5_x {A1 A2 A3 A4 A5 R : Type} {F : (A1 → A2 → A3 → A4 → A5 → Option R) → A1 → A2 → A3 → A4 → A5 → Option R} {n : Nat} {a1 : A1} {a2 : A2} {a3 : A3} {a4 : A4} {a5 : A5} {o : R} (h : fx5 F n a1 a2 a3 a4 a5 = some o) : ∃ G, G = F ∧ fx5 G n a1 a2 a3 a4 a5 = some o := ⟨F, rfl, h⟩
theorem fx5_0 {A1 A2 A3 A4 A5 R : Type} {F : (A1 → A2 → A3 → A4 → A5 → Option R) → A1 → A2 → A3 → A4 → A5 → Option R} {a1 : A1} {a2 : A2} {a3 : A3} {a4 : A4} {a5 : A5} {o : R} (h : fx5 F 0 a1 a2 a3 a4 a5 = some o) : False := by cases h
theorem fx5_s {A1 A2 A3 A4 A5 R : Type} {G F : (A1 → A2 → A3 → A4 → A5 → Option R) → A1 → A2 → A3 → A4 → A5 → Option R} {n : Nat} {a1 : A1} {a2 : A2} {a3 : A3} {a4 : A4} {a5 : A5} {o : R} (hG : G = F) (h : fx5 G (n + 1) a1 a2 a3 a4 a5 = some o) : F (fx5 G n) a1 a2 a3 a4 a5 = some o := by subst hG; exact h
def fx6 {A1 A2 A3 A4 A5 A6 R : Type} (F : (A1 → A2 → A3 → A4 → A5 → A6 → Option R) → A1 → A2 → A3 → A4 → A5 → A6 → Option R) : Nat → A1 → A2 → A3 → A4 → A5 → A6 → Option R
  | 0, _, _, _, _, _, _ => none
  | n + 1, a1, a2, a3, a4, a5, a6 => F (fx6 F n) a1 a2 a3 a4 a5 a6
theorem fx6_x {A1 A2 A3 A4 A5 A6 R : Type} {F : (A1 → A2 → A3 → A4 → A5 → A6 → Option R) → A1 → A2 → A3 → A4 → A5 → A6 → Option R} {n : Nat} {a1 : A1} {a2 : A2} {a3 : A3} {a4 : A4} {a5 : A5} {a6 : A6} {o : R} (h : fx6 F n a1 a2 a3 a4 a5 a6 = some o) : ∃ G, G = F ∧ fx6 G n a1 a2 a3 a4 a5 a6 = some o := ⟨F, rfl, h⟩
theorem fx6_0 {A1 A2 A3 A4 A5 A6 R : Type} {F : (A1 → A2 → A3 → A4 → A5 → A6 → Option R) → A1 → A2 → A3 → A4 → A5 → A6 → Option R} {a1 : A1} {a2 : A2} {a3 : A3} {a4 : A4} {a5 : A5} {a6 : A6} {o : R} (h : fx6 F 0 a1 a2 a3 a4 a5 a6 = some o) : False := by cases h
theorem fx6_s {A1 A2 A3 A4 A5 A6 R : Type} {G F : (A1 → A2 → A3 → A4 → A5 → A6 → Option R) → A1 → A2 → A3 → A4 → A5 → A6 → Option R} {n : Nat} {a1 : A1} {a2 : A2} {a3 : A3} {a4 : A4} {a5 : A5} {a6 : A6} {o : R} (hG : G = F) (h : fx6 G (n + 1) a1 a2 a3 a4 a5 a6 = some o) : F (fx6 G n) a1 a2 a3 a4 a5 a6 = some o := by subst hG; exact h
def fx7 {A1 A2 A3 A4 A5 A6 A7 R : Type} (F : (A1 → A2 → A3 → A4 → A5 → A6 → A7 → Option R) → A1 → A2 → A3 → A4 → A5 → A6 → A7 → Option R) : Nat → A1 → A2 → A3 → A4 → A5 → A6 → A7 → Option R
  | 0, _, _, _, _, _, _, _ => none
  | n + 1, a1, a2, a3, a4, a5, a6, a7 => F (fx7 F n) a1 a2 a3 a4 a5 a6 a7
theorem fx7_x {A1 A2 A3 A4 A5 A6 A7 R : Type} {F : (A1 → A2 → A3 → A4 → A5 → A6 → A7 → Option R) → A1 → A2 → A3 → A4 → A5 → A6 → A7 → Option R} {n : Nat} {a1 : A1} {a2 : A2} {a3 : A3} {a4 : A4} {a5 : A5} {a6 : A6} {a7 : A7} {o : R} (h : fx7 F n a1 a2 a3 a4 a5 a6 a7 = some o) : ∃ G, G = F ∧ fx7 G n a1 a2 a3 a4 a5 a6 a7 = some o := ⟨F, rfl, h⟩
theorem fx7_0 {A1 A2 A3 A4 A5 A6 A7 R : Type} {F : (A1 → A2 → A3 → A4 → A5 → A6 → A7 → Option R) → A1 → A2 → A3 → A4 → A5 → A6 → A7 → Option R} {a1 : A1} {a2 : A2} {a3 : A3} {a4 : A4} {a5 : A5} {a6 : A6} {a7 : A7} {o : R} (h : fx7 F 0 a1 a2 a3 a4 a5 a6 a7 = some o) : False := by cases h
theorem fx7_s {A1 A2 A3 A4 A5 A6 A7 R : Type} {G F : (A1 → A2 → A3 → A4 → A5 → A6 → A7 → Option R) → A1 → A2 → A3 → A4 → A5 → A6 → A7 → Option R} {n : Nat} {a1 : A1} {a2 : A2} {a3 : A3} {a4 : A4} {a5 : A5} {a6 : A6} {a7 : A7} {o : R} (hG : G = F) (h : fx7 G (n + 1) a1 a2 a3 a4 a5 a6 a7 = some o) : F (fx7 G n) a1 a2 a3 a4 a5 a6 a7 = some o := by subst hG; exact h
def fx8 {A1 A2 A3 A4 A5 A6 A7 A8 R : Type} (F : (A1 → A2 → A3 → A4 → A5 → A6 → A7 → A8 → Option R) → A1 → A2 → A3 → A4 → A5 → A6 → A7 → A8 → Option R) : Nat → A1 → A2 → A3 → A4 → A5 → A6 → A7 → A8 → Option R
  | 0, _, _, _, _, _, _, _, _ => none
  | n + 1, a1, a2, a3, a4, a5, a6, a7, a8 => F (fx8 F n) a1 a2 a3 a4 a5 a6 a7 a8
theorem fx8_x {A1 A2 A3 A4 A5 A6 A7 A8 R : Type} {F : (A1 → A2 → A3 → A4 → A5 → A6 → A7 → A8 → Option R) → A1 → A2 → A3 → A4 → A5 → A6 → A7 → A8 → Option R} {n : Nat} {a1 : A1} {a2 : A2} {a3 : A3} {a4 : A4} {a5 : A5} {a6 : A6} {a7 : A7} {a8 : A8} {o : R} (h : fx8 F n a1 a2 a3 a4 a5 a6 a7 a8 = some o) : ∃ G, G = F ∧ fx8 G n a1 a2 a3 a4 a5 a6 a7 a8 = some o := ⟨F, rfl, h⟩
theorem fx8_0 {A1 A2 A3 A4 A5 A6 A7 A8 R : Type} {F : (A1 → A2 → A3 → A4 → A5 → A6 → A7 → A8 → Option R) → A1 → A2 → A3 → A4 → A5 → A6 → A7 → A8 → Option R} {a1 : A1} {a2 : A2} {a3 : A3} {a4 : A4} {a5 : A5} {a6 : A6} {a7 : A7} {a8 : A8} {o : R} (h : fx8 F 0 a1 a2 a3 a4 a5 a6 a7 a8 = some o) : False := by cases h
theorem fx8_s {A1 A2 A3 A4 A5 A6 A7 A8 R : Type} {G F : (A1 → A2 → A3 → A4 → A5 → A6 → A7 → A8 → Option R) → A1 → A2 → A3 → A4 → A5 → A6 → A7 → A8 → Option R} {n : Nat} {a1 : A1} {a2 : A2} {a3 : A3} {a4 : A4} {a5 : A5} {a6 : A6} {a7 : A7} {a8 : A8} {o : R} (hG : G = F) (h : fx8 G (n + 1) a1 a2 a3 a4 a5 a6 a7 a8 = some o) : F (fx8 G n) a1 a2 a3 a4 a5 a6 a7 a8 = some o := by subst hG; exact h
def fx9 {A1 A2 A3 A4 A5 A6 A7 A8 A9 R : Type} (F : (A1 → A2 → A3 → A4 → A5 → A6 → A7 → A8 → A9 → Option R) → A1 → A2 → A3 → A4 → A5 → A6 → A7 → A8 → A9 → Option R) : Nat → A1 → A2 → A3 → A4 → A5 → A6 → A7 → A8 → A9 → Option R
  | 0, _, _, _, _, _, _, _, _, _ => none
  | n + 1, a1, a2, a3, a4, a5, a6, a7, a8, a9 => F (fx9 F n) a1 a2 a3 a4 a5 a6 a7 a8 a9
theorem fx9_x {A1 A2 A3 A4 A5 A6 A7 A8 A9 R : Type} {F : (A1 → A2 → A3 → A4 → A5 → A6 → A7 → A8 → A9 → Option R) → A1 → A2 → A3 → A4 → A5 → A6 → A7 → A8 → A9 → Option R} {n : Nat} {a1 : A1} {a2 : A2} {a3 : A3} {a4 : A4} {a5 : A5} {a6 : A6} {a7 : A7} {a8 : A8} {a9 : A9} {o : R} (h : fx9 F n a1 a2 a3 a4 a5 a6 a7 a8 a9 = some o) : ∃ G, G = F ∧ fx9 G n a1 a2 a3 a4 a5 a6 a7 a8 a9 = some o := ⟨F, rfl, h⟩
theorem fx9_0 {A1 A2 A3 A4 A5 A6 A7 A8 A9 R : Type} {F : (A1 → A2 → A3 → A4 → A5 → A6 → A7 → A8 → A9 → Option R) → A1 → A2 → A3 → A4 → A5 → A6 → A7 → A8 → A9 → Option R} {a1 : A1} {a2 : A2} {a3 : A3} {a4 : A4} {a5 : A5} {a6 : A6} {a7 : A7} {a8 : A8} {a9 : A9} {o : R} (h : fx9 F 0 a1 a2 a3 a4 a5 a6 a7 a8 a9 = some o) : False := by cases h
theorem fx9_s {A1 A2 A3 A4 A5 A6 A7 A8 A9 R : Type} {G F : (A1 → A2 → A3 → A4 → A5 → A6 → A7 → A8 → A9 → Option R) → A1 → A2 → A3 → A4 → A5 → A6 → A7 → A8 → A9 → Option R} {n : Nat} {a1 : A1} {a2 : A2} {a3 : A3} {a4 : A4} {a5 : A5} {a6 : A6} {a7 : A7} {a8 : A8} {a9 : A9} {o : R} (hG : G = F) (h : fx9 G (n + 1) a1 a2 a3 a4 a5 a6 a7 a8 a9 = some o) : F (fx9 G n) a1 a2 a3 a4 a5 a6 a7 a8 a9 = some o := by subst hG; exact h
def fx10 {A1 A2 A3 A4 A5 A6 A7 A8 A9 A10 R : Type} (F : (A1 → A2 → A3 → A4 → A5 → A6 → A7 → A8 → A9 → A10 → Option R) → A1 → A2 → A3 → A4 → A5 → A6 → A7 → A8 → A9 → A10 → Option R) : Nat → A1 → A2 → A3 → A4 → A5 → A6 → A7 → A8 → A9 → A10 → Option R
  | 0, _, _, _, _, _, _, _, _, _, _ => none
  | n + 1, a1, a2, a3, a4, a5, a6, a7, a8, a9, a10 => F (fx10 F n) a1 a2 a3 a4 a5 a6 a7 a8 a9 a10
theorem fx10_x {A1 A2 A3 A4 A5 A6 A7 A8 A9 A10 R : Type} {F : (A1 → A2 → A3 → A4 → A5 → A6 → A7 → A8 → A9 → A10 → Option R) → A1 → A2 → A3 → A4 → A5 → A6 → A7 → A8 → A9 → A10 → Option R} {n : Nat} {a1 : A1} {a2 : A2} {a3 : A3} {a4 : A4} {a5 : A5} {a6 : A6} {a7 : A7} {a8 : A8} {a9 : A9} {a10 : A10} {o : R} (h : fx10 F n a1 a2 a3 a4 a5 a6 a7 a8 a9 a10 = some o) : ∃ G, G = F ∧ fx10 G n a1 a2 a3 a4 a5 a6 a7 a8 a9 a10 = some o := ⟨F, rfl, h⟩
theorem fx10_0 {A1 A2 A3 A4 A5 A6 A7 A8 A9 A10 R : Type} {F : (A1 → A2 → A3 → A4 → A5 → A6 → A7 → A8 → A9 → A10 → Option R) → A1 → A2 → A3 → A4 → A5 → A6 → A7 → A8 → A9 → A10 → Option R} {a1 : A1} {a2 : A2} {a3 : A3} {a4 : A4} {a5 : A5} {a6 : A6} {a7 : A7} {a8 : A8} {a9 : A9} {a10 : A10} {o : R} (h : fx10 F 0 a1 a2 a3 a4 a5 a6 a7 a8 a9 a10 = some o) : False := by cases h
theorem fx10_s {A1 A2 A3 A4 A5 A6 A7 A8 A9 A10 R : Type} {G F : (A1 → A2 → A3 → A4 → A5 → A6 → A7 → A8 → A9 → A10 → Option R) → A1 → A2 → A3 → A4 → A5 → A6 → A7 → A8 → A9 → A10 → Option R} {n : Nat} {a1 : A1} {a2 : A2} {a3 : A3} {a4 : A4} {a5 : A5} {a6 : A6} {a7 : A7} {a8 : A8} {a9 : A9} {a10 : A10} {o : R} (hG : G = F) (h : fx10 G (n + 1) a1 a2 a3 a4 a5 a6 a7 a8 a9 a10 = some o) : F (fx10 G n) a1 a2 a3 a4 a5 a6 a7 a8 a9 a10 = some o := by subst hG; exact h
def fx11 {A1 A2 A3 A4 A5 A6 A7 A8 A9 A10 A11 R : Type} (F : (A1 → A2 → A3 → A4 → A5 → A6 → A7 → A8 → A9 → A10 → A11 → Option R) → A1 → A2 → A3 → A4 → A5 → A6 → A7 → A8 → A9 → A10 → A11 → Option R) : Nat → A1 → A2 → A3 → A4 → A5 → A6 → A7 → A8 → A9 → A10 → A11 → Option R
  | 0, _, _, _, _, _, _, _, _, _, _, _ => none
  | n + 1, a1, a2, a3, a4, a5, a6, a7, a8, a9, a10, a11 => F (fx11 F n) a1 a2 a3 a4 a5 a6 a7 a8 a9 a10 a11
theorem fx11_x {A1 A2 A3 A4 A5 A6 A7 A8 A9 A10 A11 R : Type} {F : (A1 → A2 → A3 → A4 → A5 → A6 → A7 → A8 → A9 → A10 → A11 → Option R) → A1 → A2 → A3 → A4 → A5 → A6 → A7 → A8 → A9 → A10 → A11 → Option R} {n : Nat} {a1 : A1} {a2 : A2} {a3 : A3} {a4 : A4} {a5 : A5} {a6 : A6} {a7 : A7} {a8 : A8} {a9 : A9} {a10 : A10} {a11 : A11} {o : R} (h : fx11 F n a1 a2 a3 a4 a5 a6 a7 a8 a9 a10 a11 = some o) : ∃ G, G = F ∧ fx11 G n a1 a2 a3 a4 a5 a6 a7 a8 a9 a10 a11 = some o := ⟨F, rfl, h⟩
theorem fx11_0 {A1 A2 A3 A4 A5 A6 A7 A8 A9 A10 A11 R : Type} {F : (A1 → A2 → A3 → A4 → A5 → A6 → A7 → A8 → A9 → A10 → A11 → Option R) → A1 → A2 → A3 → A4 → A5 → A6 → A7 → A8 → A9 → A10 → A11 → Option R} {a1 : A1} {a2 : A2} {a3 : A3} {a4 : A4} {a5 : A5} {a6 : A6} {a7 : A7} {a8 : A8} {a9 : A9} {a10 : A10} {a11 : A11} {o : R} (h : fx11 F 0 a1 a2 a3 a4 a5 a6 a7 a8 a9 a10 a11 = some o) : False := by cases h
theorem fx11_s {A1 A2 A3 A4 A5 A6 A7 A8 A9 A10 A11 R : Type} {G F : (A1 → A2 → A3 → A4 → A5 → A6 → A7 → A8 → A9 → A10 → A11 → Option R) → A1 → A2 → A3 → A4 → A5 → A6 → A7 → A8 → A9 → A10 → A11 → Option R} {n : Nat} {a1 : A1} {a2 : A2} {a3 : A3} {a4 : A4} {a5 : A5} {a6 : A6} {a7 : A7} {a8 : A8} {a9 : A9} {a10 : A10} {a11 : A11} {o : R} (hG : G = F) (h : fx11 G (n + 1) a1 a2 a3 a4 a5 a6 a7 a8 a9 a10 a11 = some o) : F (fx11 G n) a1 a2 a3 a4 a5 a6 a7 a8 a9 a10 a11 = some o := by subst hG; exact h
def fx12 {A1 A2 A3 A4 A5 A6 A7 A8 A9 A10 A11 A12 R : Type} (F : (A1 → A2 → A3 → A4 → A5 → A6 → A7 → A8 → A9 → A10 → A11 → A12 → Option R) → A1 → A2 → A3 → A4 → A5 → A6 → A7 → A8 → A9 → A10 → A11 → A12 → Option R) : Nat → A1 → A2 → A3 → A4 → A5 → A6 → A7 → A8 → A9 → A10 → A11 → A12 → Option R
  | 0, _, _, _, _, _, _, _, _, _, _, _, _ => none
  | n + 1, a1, a2, a3, a4, a5, a6, a7, a8, a9, a10, a11, a12 => F (fx12 F n) a1 a2 a3 a4 a5 a6 a7 a8 a9 a10 a11 a12
theorem fx12_x {A1 A2 A3 A4 A5 A6 A7 A8 A9 A10 A11 A12 R : Type} {F : (A1 → A2 → A3 → A4 → A5 → A6 → A7 → A8 → A9 → A10 → A11 → A12 → Option R) → A1 → A2 → A3 → A4 → A5 → A6 → A7 → A8 → A9 → A10 → A11 → A12 → Option R} {n : Nat} {a1 : A1} {a2 : A2} {a3 : A3} {a4 : A4} {a5 : A5} {a6 : A6} {a7 : A7} {a8 : A8} {a9 : A9} {a10 : A10} {a11 : A11} {a12 : A12} {o : R} (h : fx12 F n a1 a2 a3 a4 a5 a6 a7 a8 a9 a10 a11 a12 = some o) : ∃ G, G = F ∧ fx12 G n a1 a2 a3 a4 a5 a6 a7 a8 a9 a10 a11 a12 = some o := ⟨F, rfl, h⟩
theorem fx12_0 {A1 A2 A3 A4 A5 A6 A7 A8 A9 A10 A11 A12 R : Type} {F : (A1 → A2 → A3 → A4 → A5 → A6 → A7 → A8 → A9 → A10 → A11 → A12 → Option R) → A1 → A2 → A3 → A4 → A5 → A6 → A7 → A8 → A9 → A10 → A11 → A12 → Option R} {a1 : A1} {a2 : A2} {a3 : A3} {a4 : A4} {a5 : A5} {a6 : A6} {a7 : A7} {a8 : A8} {a9 : A9} {a10 : A10} {a11 : A11} {a12 : A12} {o : R} (h : fx12 F 0 a1 a2 a3 a4 a5 a6 a7 a8 a9 a10 a11 a12 = some o) : False := by cases h
theorem fx12_s {A1 A2 A3 A4 A5 A6 A7 A8 A9 A10 A11 A12 R : Type} {G F : (A1 → A2 → A3 → A4 → A5 → A6 → A7 → A8 → A9 → A10 → A11 → A12 → Option R) → A1 → A2 → A3 → A4 → A5 → A6 → A7 → A8 → A9 → A10 → A11 → A12 → Option R} {n : Nat} {a1 : A1} {a2 : A2} {a3 : A3} {a4 : A4} {a5 : A5} {a6 : A6} {a7 : A7} {a8 : A8} {a9 : A9} {a10 : A10} {a11 : A11} {a12 : A12} {o : R} (hG : G = F) (h : fx12 G (n + 1) a1 a2 a3 a4 a5 a6 a7 a8 a9 a10 a11 a12 = some o) : F (fx12 G n) a1 a2 a3 a4 a5 a6 a7 a8 a9 a10 a11 a12 = some o := by subst hG; exact h
def fx13 {A1 A2 A3 A4 A5 A6 A7 A8 A9 A10 A11 A12 A13 R : Type} (F : (A1 → A2 → A3 → A4 → A5 → A6 → A7 → A8 → A9 → A10 → A11 → A12 → A13 → Option R) → A1 → A2 → A3 → A4 → A5 → A6 → A7 → A8 → A9 → A10 → A11 → A12 → A13 → Option R) : Nat → A1 → A2 → A3 → A4 → A5 → A6 → A7 → A8 → A9 → A10 → A11 → A12 → A13 → Option R
  | 0, _, _, _, _, _, _, _, _, _, _, _, _, _ => none
  | n + 1, a1, a2, a3, a4, a5, a6, a7, a8, a9, a10, a11, a12, a13 => F (fx13 F n) a1 a2 a3 a4 a5 a6 a7 a8 a9 a10 a11 a12 a13
theorem fx13_x {A1 A2 A3 A4 A5 A6 A7 A8 A9 A10 A11 A12 A13 R : Type} {F : (A1 → A2 → A3 → A4 → A5 → A6 → A7 → A8 → A9 → A10 → A11 → A12 → A13 → Option R) → A1 → A2 → A3 → A4 → A5 → A6 → A7 → A8 → A9 → A10 → A11 → A12 → A13 → Option R} {n : Nat} {a1 : A1} {a2 : A2} {a3 : A3} {a4 : A4} {a5 : A5} {a6 : A6} {a7 : A7} {a8 : A8} {a9 : A9} {a10 : A10} {a11 : A11} {a12 : A12} {a13 : A13} {o : R} (h : fx13 F n a1 a2 a3 a4 a5 a6 a7 a8 a9 a10 a11 a12 a13 = some o) : ∃ G, G = F ∧ fx13 G n a1 a2 a3 a4 a5 a6 a7 a8 a9 a10 a11 a12 a13 = some o := ⟨F, rfl, h⟩
theorem fx13_0 {A1 A2 A3 A4 A5 A6 A7 A8 A9 A10 A11 A12 A13 R : Type} {F : (A1 → A2 → A3 → A4 → A5 → A6 → A7 → A8 → A9 → A10 → A11 → A12 → A13 → Option R) → A1 → A2 → A3 → A4 → A5 → A6 → A7 → A8 → A9 → A10 → A11 → A12 → A13 → Option R} {a1 : A1} {a2 : A2} {a3 : A3} {a4 : A4} {a5 : A5} {a6 : A6} {a7 : A7} {a8 : A8} {a9 : A9} {a10 : A10} {a11 : A11} {a12 : A12} {a13 : A13} {o : R} (h : fx13 F 0 a1 a2 a3 a4 a5 a6 a7 a8 a9 a10 a11 a12 a13 = some o) : False := by cases h
theorem fx13_s {A1 A2 A3 A4 A5 A6 A7 A8 A9 A10 A11 A12 A13 R : Type} {G F : (A1 → A2 → A3 → A4 → A5 → A6 → A7 → A8 → A9 → A10 → A11 → A12 → A13 → Option R) → A1 → A2 → A3 → A4 → A5 → A6 → A7 → A8 → A9 → A10 → A11 → A12 → A13 → Option R} {n : Nat} {a1 : A1} {a2 : A2} {a3 : A3} {a4 : A4} {a5 : A5} {a6 : A6} {a7 : A7} {a8 : A8} {a9 : A9} {a10 : A10} {a11 : A11} {a12 : A12} {a13 : A13} {o : R} (hG : G = F) (h : fx13 G (n + 1) a1 a2 a3 a4 a5 a6 a7 a8 a9 a10 a11 a12 a13 = some o) : F (fx13 G n) a1 a2 a3 a4 a5 a6 a7 a8 a9 a10 a11 a12 a13 = some o := by subst hG; exact h
def fx14 {A1 A2 A3 A4 A5 A6 A7 A8 A9 A10 A11 A12 A13 A14 R : Type} (F : (A1 → A2 → A3 → A4 → A5 → A6 → A7 → A8 → A9 → A10 → A11 → A12 → A13 → A14 → Option R) → A1 → A2 → A3 → A4 → A5 → A6 → A7 → A8 → A9 → A10 → A11 → A12 → A13 → A14 → Option R) : Nat → A1 → A2 → A3 → A4 → A5 → A6 → A7 → A8 → A9 → A10 → A11 → A12 → A13 → A14 → Option R
  | 0, _, _, _, _, _, _, _, _, _, _, _, _, _, _ => none
  | n + 1, a1, a2, a3, a4, a5, a6, a7, a8, a9, a10, a11, a12, a13, a14 => F (fx14 F n) a1 a2 a3 a4 a5 a6 a7 a8 a9 a10 a11 a12 a13 a14
theorem fx14_x {A1 A2 A3 A4 A5 A6 A7 A8 A9 A10 A11 A12 A13 A14 R : Type} {F : (A1 → A2 → A3 → A4 → A5 → A6 → A7 → A8 → A9 → A10 → A11 → A12 → A13 → A14 → Option R) → A1 → A2 → A3 → A4 → A5 → A6 → A7 → A8 → A9 → A10 → A11 → A12 → A13 → A14 → Option R} {n : Nat} {a1 : A1} {a2 : A2} {a3 : A3} {a4 : A4} {a5 : A5} {a6 : A6} {a7 : A7} {a8 : A8} {a9 : A9} {a10 : A10} {a11 : A11} {a12 : A12} {a13 : A13} {a14 : A14} {o : R} (h : fx14 F n a1 a2 a3 a4 a5 a6 a7 a8 a9 a10 a11 a12 a13 a14 = some o) : ∃ G, G = F ∧ fx14 G n a1 a2 a3 a4 a5 a6 a7 a8 a9 a10 a11 a12 a13 a14 = some o := ⟨F, rfl, h⟩
theorem fx14_0 {A1 A2 A3 A4 A5 A6 A7 A8 A9 A10 A11 A12 A13 A14 R : Type} {F : (A1 → A2 → A3 → A4 → A5 → A6 → A7 → A8 → A9 → A10 → A11 → A12 → A13 → A14 → Option R) → A1 → A2 → A3 → A4 → A5 → A6 → A7 → A8 → A9 → A10 → A11 → A12 → A13 → A14 → Option R} {a1 : A1} {a2 : A2} {a3 : A3} {a4 : A4} {a5 : A5} {a6 : A6} {a7 : A7} {a8 : A8} {a9 : A9} {a10 : A10} {a11 : A11} {a12 : A12} {a13 : A13} {a14 : A14} {o : R} (h : fx14 F 0 a1 a2 a3 a4 a5 a6 a7 a8 a9 a10 a11 a12 a13 a14 = some o) : False := by cases h
theorem fx14_s {A1 A2 A3 A4 A5 A6 A7 A8 A9 A10 A11 A12 A13 A14 R : Type} {G F : (A1 → A2 → A3 → A4 → A5 → A6 → A7 → A8 → A9 → A10 → A11 → A12 → A13 → A14 → Option R) → A1 → A2 → A3 → A4 → A5 → A6 → A7 → A8 → A9 → A10 → A11 → A12 → A13 → A14 → Option R} {n : Nat} {a1 : A1} {a2 : A2} {a3 : A3} {a4 : A4} {a5 : A5} {a6 : A6} {a7 : A7} {a8 : A8} {a9 : A9} {a10 : A10} {a11 : A11} {a12 : A12} {a13 : A13} {a14 : A14} {o : R} (hG : G = F) (h : fx14 G (n + 1) a1 a2 a3 a4 a5 a6 a7 a8 a9 a10 a11 a12 a13 a14 = some o) : F (fx14 G n) a1 a2 a3 a4 a5 a6 a7 a8 a9 a10 a11 a12 a13 a14 = some o := by subst hG; exact h

