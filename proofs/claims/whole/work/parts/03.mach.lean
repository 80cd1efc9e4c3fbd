/-! an abstract machine over the kit's rows: values with places for addresses, heaps as lists of cells, continuations as predicates -/
abbrev am_C : Type := vp_A ⊕ (Nat × List Value)
abbrev am_H : Type := List am_C
abbrev am_L : Type := List (Option Value)
abbrev am_K : Type := am_L → List Value → am_H → Prop
abbrev am_Q : Type := Option Value → am_H → Prop
abbrev am_T : Type := List Value → am_H → am_Q → Prop
/-- (class numbers, slots), (class of int arrays, of long arrays), addresses of places, (first new address of all, first of this world) -/
abbrev am_D : Type := va_G × (ClassId × ClassId) × (Nat → Nat) × (Nat × Nat)
def am_gw : List Cond := lw_tbl.filter goodWord
theorem am_gm {w : Cond} (i : Nat) (h : tables_1[i]? = some w) (hg : goodWord w = true) : w ∈ am_gw :=
  List.mem_filter.mpr ⟨List.mem_append_right _ (List.mem_of_getElem? h), hg⟩
theorem am_gs {w : Cond} (i : Nat) (h : (k2_sels lw_privs)[i]? = some w) (hg : goodWord w = true) : w ∈ am_gw :=
  List.mem_filter.mpr ⟨List.mem_append_left _ (List.mem_of_getElem? h), hg⟩
theorem am_g1 {w : Cond} (i : Nat) (h : tables_1_1[i]? = some w) (hg : goodWord w = true) : w ∈ am_gw :=
  List.mem_filter.mpr ⟨List.mem_append_right _ (List.mem_append_left _ (List.mem_of_getElem? h)), hg⟩
theorem am_g2 {w : Cond} (i : Nat) (h : tables_1_2[i]? = some w) (hg : goodWord w = true) : w ∈ am_gw :=
  List.mem_filter.mpr ⟨List.mem_append_right _ (List.mem_append_right _ (List.mem_append_left _ (List.mem_of_getElem? h))), hg⟩
theorem am_g3 {w : Cond} (i : Nat) (h : tables_1_3[i]? = some w) (hg : goodWord w = true) : w ∈ am_gw :=
  List.mem_filter.mpr ⟨List.mem_append_right _ (List.mem_append_right _ (List.mem_append_right _ (List.mem_append_left _ (List.mem_of_getElem? h)))), hg⟩
theorem am_g4 {w : Cond} (i : Nat) (h : tables_1_4[i]? = some w) (hg : goodWord w = true) : w ∈ am_gw :=
  List.mem_filter.mpr ⟨List.mem_append_right _ (List.mem_append_right _ (List.mem_append_right _ (List.mem_append_right _ (List.mem_append_left _ (List.mem_of_getElem? h))))), hg⟩
theorem am_g5 {w : Cond} (i : Nat) (h : tables_1_5[i]? = some w) (hg : goodWord w = true) : w ∈ am_gw :=
  List.mem_filter.mpr ⟨List.mem_append_right _ (List.mem_append_right _ (List.mem_append_right _ (List.mem_append_right _ (List.mem_append_right _ (List.mem_append_left _ (List.mem_of_getElem? h)))))), hg⟩
theorem am_g6 {w : Cond} (i : Nat) (h : tables_1_6[i]? = some w) (hg : goodWord w = true) : w ∈ am_gw :=
  List.mem_filter.mpr ⟨List.mem_append_right _ (List.mem_append_right _ (List.mem_append_right _ (List.mem_append_right _ (List.mem_append_right _ (List.mem_append_right _ (List.mem_of_getElem? h)))))), hg⟩
def am_tr (D : am_D) : Value → Value
  | .ref k => .ref (D.2.2.1 k)
  | .int x => .int x
  | .long x => .long x
  | .float x => .float x
  | .double x => .double x
  | .null => .null
  | .retAddr x => .retAddr x
theorem am_tr_cat (D : am_D) (v : Value) : (am_tr D v).category = v.category := by cases v <;> rfl
def am_ca (D : am_D) (a : vp_A) : ClassId := match a.2 with
  | .inl _ => D.2.1.1
  | _ => D.2.1.2
def am_e (D : am_D) (x : am_C) : va_E := match x with
  | .inl a => .inl (am_ca D a, a)
  | .inr o => .inr (o.1, o.2.map (am_tr D))
def am_w (D : am_D) (h : am_H) : va_W := h.mapIdx (fun k x => (D.2.2.1 k, am_e D x))
def am_sz (x : am_C) : Nat := match x with
  | .inl a => a.1
  | .inr o => o.2.length
def am_szs (h : am_H) : Nat := (h.map am_sz).sum
theorem am_w_get (D : am_D) (h : am_H) (k : Nat) : (am_w D h)[k]? = (h[k]?).map (fun x => (D.2.2.1 k, am_e D x)) := by
  simp [am_w, List.getElem?_mapIdx]
theorem am_w_at {D : am_D} {h : am_H} {k : Nat} {x : am_C} (hk : h[k]? = some x) : (am_w D h)[k]? = some (D.2.2.1 k, am_e D x) := by
  rw [am_w_get, hk]; rfl
theorem am_w_set (D : am_D) (h : am_H) (k : Nat) (x : am_C) : am_w D (h.set k x) = (am_w D h).set k (D.2.2.1 k, am_e D x) := by
  refine List.ext_getElem? fun i => ?_
  have hl : (am_w D h).length = h.length := by simp [am_w]
  rw [am_w_get, List.getElem?_set, List.getElem?_set, am_w_get, hl]
  by_cases hi : k = i
  · subst hi
    by_cases hk : k < h.length
    · simp [hk]
    · simp [hk]
  · simp [hi]
theorem am_w_app (D : am_D) (h : am_H) (x : am_C) : am_w D (h ++ [x]) = am_w D h ++ [(D.2.2.1 h.length, am_e D x)] := by
  refine List.ext_getElem? fun i => ?_
  have hl : (am_w D h).length = h.length := by simp [am_w]
  rw [am_w_get, List.getElem?_append, List.getElem?_append, am_w_get, hl]
  by_cases hi : i < h.length
  · simp [hi]
  · simp only [hi, if_false]
    by_cases h2 : i - h.length = 0
    · have : i = h.length := by omega
      subst this; simp
    · obtain ⟨j, hj⟩ : ∃ j, i - h.length = j + 1 := ⟨i - h.length - 1, by omega⟩
      simp [hj]
theorem am_szs_set {h : am_H} {k : Nat} {x y : am_C} (hk : h[k]? = some x) (hs : am_sz y = am_sz x) : am_szs (h.set k y) = am_szs h := by
  induction h generalizing k with
  | nil => simp at hk
  | cons a l ih =>
    cases k with
    | zero => simp at hk; subst hk; simp [am_szs, hs]
    | succ k =>
      simp at hk
      have := ih hk
      simp [am_szs] at this ⊢
      omega
theorem am_szs_app (h : am_H) (x : am_C) : am_szs (h ++ [x]) = am_szs h + am_sz x := by simp [am_szs]
def am_ok (D : am_D) : Prop := D.2.2.2.1 ≤ D.2.2.2.2 ∧ ∀ k, k < 1000 → D.2.2.1 k = D.2.2.2.2 + k
/-- which addresses a method may write -/
def am_A (al : Bool) (b n : Nat) : Nat → Prop := fun q => b ≤ q ∧ (al = true ∨ q < b + n)
theorem am_w_D {D : am_D} {h : am_H} {A : Nat → Prop} (ok : am_ok D) (hl : h.length ≤ 1000) (hA : ∀ k, k < h.length → A (D.2.2.2.2 + k)) : va_D A (am_w D h) := by
  have key : ∀ (i : Nat) (q : Nat × va_E), (am_w D h)[i]? = some q → i < h.length ∧ q.1 = D.2.2.2.2 + i := by
    intro i q hq
    rw [am_w_get] at hq
    cases hx : h[i]? with
    | none => rw [hx] at hq; cases hq
    | some x =>
      rw [hx] at hq
      cases hq
      have hi := (List.getElem?_eq_some_iff.mp hx).1
      exact ⟨hi, ok.2 i (by omega)⟩
  refine ⟨fun i j x y hi hj hxy => ?_, fun k q hk => ?_⟩
  · obtain ⟨-, h1⟩ := key i x hi
    obtain ⟨-, h2⟩ := key j y hj
    omega
  · obtain ⟨h1, h2⟩ := key k q hk
    rw [h2]; exact hA k h1
/-! what stands outside the world: words of nest mates, statics, string constants -/
def am_nest : List (String × Nat × MethodName × String) := [("ClueParts", 9, yX7_init, "ClueParts"), ("ClueParts", 18, yX0_init, "ClueParts"), ("ClueParts", 25, yX1_init, "ClueParts"), ("ClueParts$Text", 48, yX8_sortOf, "ClueParts"), ("ClueParts$Book", 49, yX8_sortOf, "ClueParts"), ("ClueParts$Solver", 148, yX8_stretch, "ClueParts"), ("ClueParts$Line", 102, yX5_piece, "ClueParts"), ("ClueParts$Line", 118, yX5_unit, "ClueParts"), ("ClueParts$Line", 124, yX8_signOf, "ClueParts"), ("ClueParts", 186, yX5_piece, "ClueParts"), ("ClueParts", 193, yX5_unit, "ClueParts")]
def am_nw (q : String × Nat × MethodName × String) : Cond := .methodLinkNest q.1 q.2.1 q.2.2.1 q.2.2.2
def am_fw : List Int32 := [1, 3, 1, 2, 1, 1, 2, 2, 2, 2, 0]
def am_strs : List (Nat × String) := [(60, "sailor=tar;pest=rat;ship=ss;flower=aster;star=sun;"), (70, "back/R;broken/A;in/N;around/C;some/H;later/B;short/T;first/I;for/L;"), (72, "pest back sailor"), (77, "tar"), (235, "RACNHBTIL")]
def am_bytes (i : Nat) : List Int32 := ((am_strs.getD i (0, "")).2.toList.map (fun ch => Int32.ofNat ch.toNat))
def am_E (D : am_D) (U : State) : Prop := D.2.2.2.1 ≤ U.heap.size ∧
  (∀ q ∈ am_nest, va_Nw (am_nw q) U) ∧ va_Nw (.castable "[I" "java/lang/Cloneable") U ∧
  va_Z "ClueParts" "FIRST_WEIGHTS" "[I" (.ref (D.2.2.1 1011)) (fun q => D.2.2.2.1 ≤ q) U U.heap ∧ va_T .int (D.2.2.1 1011) 11 (fun j => .int (am_fw.getD j 0)) (fun q => D.2.2.2.1 ≤ q) U U.heap ∧
  va_Z "java/lang/String" "COMPACT_STRINGS" "Z" (.int 1) (fun q => D.2.2.2.1 ≤ q) U U.heap ∧ (va_Z "jdk/internal/util/Preconditions" "SIOOBE_FORMATTER" "Ljava/util/function/BiFunction;" .null (fun q => D.2.2.2.1 ≤ q) U U.heap ∨ va_Z "jdk/internal/util/Preconditions" "SIOOBE_FORMATTER" "Ljava/util/function/BiFunction;" (.ref (D.2.2.1 1012)) (fun q => D.2.2.2.1 ≤ q) U U.heap) ∧
  vk_S 5 ((List.range 5).map (fun i => (am_bytes i).length)) ((List.range 5).map am_bytes) (fun i => D.2.2.1 (1000 + i)) (fun i => D.2.2.1 (1005 + i)) (fun q => D.2.2.2.1 ≤ q) U U.heap ∧
  (∀ i, i < 5 → vk_R "ClueParts" (am_strs.getD i (0, "")).1 (am_strs.getD i (0, "")).2 (D.2.2.1 (1000 + i)) U) ∧ ∀ cell : Cell, U.heap[D.2.2.1 1011]? = some cell → cell.slots.size = 11 ∧ U.vm.findClass "[I" = some cell.cls
theorem am_E.mv {D : am_D} {U U' : State} (h : am_E D U) (hW : U.WarmedH U'.vm) (hz : U.heap.size ≤ U'.heap.size) (hq : ∀ a, a < D.2.2.2.1 → U'.heap[a]? = U.heap[a]?) : am_E D U' := by
  obtain ⟨e0, e1, e2, e5, e6, e7, e8, e9, e10, e11⟩ := h
  have hvm := hW.alike
  have hk : ∀ a : Nat, a < U.heap.size → ¬ (D.2.2.2.1 ≤ a) → U'.heap[a]? = U.heap[a]? := fun a _ h2 => hq a (by omega)
  exact ⟨Nat.le_trans e0 hz, fun q hm => va_Nw.warmM hW (e1 q hm), va_Nw.warmC hW e2, (e5.moved hvm).kept hk, (e6.moved hvm).kept hk, (e7.moved hvm).kept hk, e8.imp (fun z => (z.moved hvm).kept hk) (fun z => (z.moved hvm).kept hk), (e9.moved hvm).kept hk, fun i hi => vk_R.warm hW (e10 i hi), fun cell hc => by
    have z := e11 cell (by rw [← hc]; exact (hq _ (by have := e6.out; omega)).symm)
    exact ⟨z.1, by rw [hvm.findClass]; exact z.2⟩⟩
/-! contracts -/
def am_Pc (al : Bool) (D : am_D) (av : List Value) (h : am_H) : Array Value → State → Prop :=
  va_Pc (av.map (am_tr D)) (fun U => va_P D.1 vwCl (am_w D h) U.heap ∧ va_K D.1 vwCl [(D.2.1.1, .int), (D.2.1.2, .long)] U ∧ am_E D U ∧ (al = true → U.heap.size = D.2.2.2.2 + h.length))
def am_Qc (al : Bool) (D : am_D) (h : am_H) (mc ms : Nat) (Q : am_Q) : Array Value → State → Outcome → State → Prop := fun _ st oc t =>
  (∃ (r : Option Value) (h' : am_H), oc = .returned (r.map (am_tr D)) ∧ Q r h' ∧ va_P D.1 vwCl (am_w D h') t.heap ∧ t.heap.size = st.heap.size + mc ∧ h'.length = h.length + mc ∧ am_szs h' = am_szs h + ms) ∧ va_F (am_A al D.2.2.2.2 h.length) st t
/-- method y keeps contract C in room rm -/
def am_S (al : Bool) (y : MethodName) (ws : List Cond) (rm : Room) (C : am_T) : Prop := (al = false → rm.cells = 0 ∧ rm.slots = 0) ∧
  ∀ (l : Launch) (D : am_D), am_ok D → ∀ (av : List Value) (h : am_H) (Q : am_Q), h.length + rm.cells ≤ 1000 → C av h Q →
    (al = true → ∀ r h', Q r h' → h'.length = h.length + rm.cells ∧ am_szs h' = am_szs h + rm.slots) →
    Met l y ws rm (am_Pc al D av h) (am_Qc al D h rm.cells rm.slots Q) rm.cells rm.slots (am_A al D.2.2.2.2 h.length)
theorem am_S.mono {al : Bool} {y : MethodName} {ws : List Cond} {rm : Room} {C C' : am_T} (hS : am_S al y ws rm C) (hC : ∀ av h Q, C' av h Q → C av h Q) : am_S al y ws rm C' :=
  ⟨hS.1, fun l D ok av h Q hl hc hq => hS.2 l D ok av h Q hl (hC av h Q hc) hq⟩
/-! locals -/
def am_lo (D : am_D) (ls : Array Slot) (nL : Nat) (lo : am_L) : Prop := ls.size = nL ∧ lv_wf ls ∧ lo.length = nL ∧ ∀ (i : Nat) (v : Value), lo[i]? = some (some v) → ls[i]? = some (.val (am_tr D v))
def am_prs (D : am_D) (lo : am_L) : List (Nat × Value) := (lo.mapIdx (fun i v => (i, v))).filterMap (fun q => q.2.map (fun v => (q.1, am_tr D v)))
theorem am_prs_mem {D : am_D} {lo : am_L} {q : Nat × Value} : q ∈ am_prs D lo ↔ ∃ v, lo[q.1]? = some (some v) ∧ q.2 = am_tr D v := by
  unfold am_prs
  rw [List.mem_filterMap]
  constructor
  · rintro ⟨a, ha, hb⟩
    rw [List.mem_iff_getElem?] at ha
    obtain ⟨i, hi⟩ := ha
    rw [List.getElem?_mapIdx] at hi
    cases hx : lo[i]? with
    | none => rw [hx] at hi; cases hi
    | some x =>
      rw [hx] at hi
      cases hi
      cases x with
      | none => cases hb
      | some v => cases hb; exact ⟨v, hx, rfl⟩
  · rintro ⟨v, h1, h2⟩
    refine ⟨(q.1, some v), ?_, ?_⟩
    · rw [List.mem_iff_getElem?]
      refine ⟨q.1, ?_⟩
      rw [List.getElem?_mapIdx, h1]; rfl
    · show some (q.1, am_tr D v) = some q
      rw [← h2]
theorem am_lo.has {D : am_D} {ls : Array Slot} {nL : Nat} {lo : am_L} (h : am_lo D ls nL lo) : lv_has ls nL (am_prs D lo) := by
  refine ⟨h.1, h.2.1, fun q hq => ?_⟩
  obtain ⟨v, h1, h2⟩ := am_prs_mem.mp hq
  rw [h2]; exact h.2.2.2 _ _ h1
def am_clr (lo : am_L) (i : Nat) : am_L := match i with
  | 0 => lo
  | j + 1 => match lo[j]? with
    | some (some (.long _)) => lo.set j none
    | some (some (.double _)) => lo.set j none
    | _ => lo
def am_st1 (lo : am_L) (i : Nat) (v : Value) : am_L := (am_clr lo i).set i (some v)
def am_st2 (lo : am_L) (i : Nat) (v : Value) : am_L := ((am_clr lo i).set i (some v)).set (i + 1) none
theorem am_clr_len (lo : am_L) (i : Nat) : (am_clr lo i).length = lo.length := by
  unfold am_clr
  split
  · rfl
  · split <;> simp
theorem am_clr_get {lo : am_L} {i j : Nat} {v : Value} (h : (am_clr lo i)[j]? = some (some v)) : lo[j]? = some (some v) ∧ ¬ (j + 1 = i ∧ v.category = 2) := by
  unfold am_clr at h
  split at h
  · exact ⟨h, fun q => by omega⟩
  · next k =>
    have key : ∀ {w : Value}, lo[k]? = some (some w) → (lo.set k none)[j]? = some (some v) → lo[j]? = some (some v) ∧ ¬ (j + 1 = k + 1 ∧ v.category = 2) := by
      intro w hw h
      rw [List.getElem?_set] at h
      by_cases hkj : k = j
      · subst hkj
        simp at h
      · rw [if_neg hkj] at h
        exact ⟨h, fun q => hkj (by omega)⟩
    split at h
    · next hw => exact key hw h
    · next hw => exact key hw h
    · next h1 h2 =>
      refine ⟨h, fun q => ?_⟩
      have hjk : j = k := by omega
      subst hjk
      cases v <;> first | (exact absurd h (h1 _)) | (exact absurd h (h2 _)) | (have := q.2; simp [Value.category] at this)
theorem am_lo.st1 {D : am_D} {ls : Array Slot} {nL : Nat} {lo : am_L} {i : Nat} {v : Value} (h : am_lo D ls nL lo) {ls' : Array Slot}
    (h' : lv_has ls' nL ((i, am_tr D v) :: (am_prs D lo).filter (fun q => !(q.1 == i) && !(q.1 + 1 == i && q.2.category == 2)))) : am_lo D ls' nL (am_st1 lo i v) := by
  refine ⟨h'.1, h'.2.1, by simp [am_st1, am_clr_len, h.2.2.1], fun j w hj => ?_⟩
  unfold am_st1 at hj
  rw [List.getElem?_set] at hj
  by_cases hij : i = j
  · subst hij
    by_cases hl : i < (am_clr lo i).length
    · simp [hl] at hj
      subst hj
      exact h'.2.2 (i, _) List.mem_cons_self
    · simp [hl] at hj
  · rw [if_neg hij] at hj
    obtain ⟨h1, h2⟩ := am_clr_get hj
    refine h'.2.2 (j, am_tr D w) (List.mem_cons_of_mem _ (List.mem_filter.mpr ⟨am_prs_mem.mpr ⟨w, h1, rfl⟩, ?_⟩))
    have hji : ¬ j = i := fun e => hij e.symm
    simp only [am_tr_cat]
    by_cases hz : j + 1 = i
    · have : ¬ w.category = 2 := fun e => h2 ⟨hz, e⟩
      simp [hji, this]
    · simp [hji, hz]
theorem am_lo.st2 {D : am_D} {ls : Array Slot} {nL : Nat} {lo : am_L} {i : Nat} {v : Value} (h : am_lo D ls nL lo) {ls' : Array Slot}
    (h' : lv_has ls' nL ((i, am_tr D v) :: (am_prs D lo).filter (fun q => !(q.1 == i) && (!(q.1 == i + 1) && !(q.1 + 1 == i && q.2.category == 2))))) : am_lo D ls' nL (am_st2 lo i v) := by
  refine ⟨h'.1, h'.2.1, by simp [am_st2, am_clr_len, h.2.2.1], fun j w hj => ?_⟩
  unfold am_st2 at hj
  rw [List.getElem?_set] at hj
  by_cases hij1 : i + 1 = j
  · subst hij1
    rw [if_pos rfl] at hj
    split at hj <;> simp at hj
  rw [if_neg hij1, List.getElem?_set] at hj
  by_cases hij : i = j
  · subst hij
    by_cases hl : i < (am_clr lo i).length
    · simp [hl] at hj
      subst hj
      exact h'.2.2 (i, _) List.mem_cons_self
    · simp [hl] at hj
  · rw [if_neg hij] at hj
    obtain ⟨h1, h2⟩ := am_clr_get hj
    refine h'.2.2 (j, am_tr D w) (List.mem_cons_of_mem _ (List.mem_filter.mpr ⟨am_prs_mem.mpr ⟨w, h1, rfl⟩, ?_⟩))
    have hji : ¬ j = i := fun e => hij e.symm
    have hji1 : ¬ j = i + 1 := fun e => hij1 e.symm
    simp only [am_tr_cat]
    by_cases hz : j + 1 = i
    · have : ¬ w.category = 2 := fun e => h2 ⟨hz, e⟩
      simp [hji, hji1, this]
    · simp [hji, hji1, hz]
