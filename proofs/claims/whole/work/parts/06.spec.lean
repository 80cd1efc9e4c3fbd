/-! string constants and static arrays: places 1000 to 1004 are the texts, 1005 to 1009 their bytes, 1011 FIRST_WEIGHTS, 1012 the formatter -/
def am_bt (lo hi k : Nat) : Prop := lo ≤ k ∧ k < hi
def ak_ct (n : Nat) (C : am_T) (K : am_K) : am_K := fun lo stk h => match am_sp n stk [] with
  | some (.ref k :: av, r) => am_bt 1000 1005 k ∧ am_rs r ≤ 8 ∧ C (.ref k :: av) h (fun v h' => K lo (am_pu v r) h')
  | _ => False
def ak_sv (K : am_K) : am_K := fun lo stk h => match stk with
  | .ref k :: r => am_bt 1000 1005 k ∧ K lo (.ref (k + 5) :: r) h
  | _ => False
def ak_sc (K : am_K) : am_K := fun lo stk h => match stk with
  | .ref k :: r => am_bt 1000 1005 k ∧ K lo (.int 0 :: r) h
  | _ => False
def ak_sf (K : am_K) : am_K := fun lo stk h => K lo (.null :: stk) h ∧ K lo (.ref 1012 :: stk) h
def ak_bl (K : am_K) : am_K := fun lo stk h => match stk with
  | .ref k :: r => am_bt 1005 1010 k ∧ K lo (.int (Int32.ofNat (am_bytes (k - 1005)).length) :: r) h
  | _ => False
def ak_bld (K : am_K) : am_K := fun lo stk h => match stk with
  | .int i :: .ref k :: r => am_bt 1005 1010 k ∧ vp_in i (am_bytes (k - 1005)).length ∧ K lo (.int ((am_bytes (k - 1005)).getD i.toNatClampNeg 0) :: r) h
  | _ => False
def ak_rn (ty : FieldType) (Q : am_Q) : am_K := fun _ stk h => match stk with
  | [.int x] => narrow ty (.int x) = .int x ∧ Q (some (.int x)) h
  | _ => False
def ak_clone (h0 : am_H) (mc ms : Nat) (K : am_K) : am_K := fun lo stk h => match stk with
  | .ref k :: r => k = 1011 ∧ am_rs r ≤ 4 ∧ h.length + 1 ≤ h0.length + mc ∧ am_szs h + 11 ≤ am_szs h0 + ms ∧ K lo (.ref h.length :: r) (h ++ [.inl (11, .inl (fun j => am_fw.getD j 0))])
  | _ => False
def ak_mn (K : am_K) : am_K := fun lo stk h => match stk with
  | .long y :: .long x :: r => am_rs r ≤ 8 ∧ K lo (.long (if y < x then y else x) :: r) h
  | _ => False
section AMX
variable {p : Program} {l : Launch} {e : Env} {R : Room} {s : State} {m : MethodId} {args : Array Value} {below : List Frame} {meth : Method} {c : Code} {cc : ByteArray} {D : am_D} {al : Bool} {nL : Nat} {own : String} {h0 : am_H} {Qf : State → Prop} {pc : Nat} {K : am_K}
theorem am_AB (X : am_X p R s m args meth c cc D al nL own h0) : ∀ q, am_A al D.2.2.2.2 h0.length q → D.2.2.2.1 ≤ q := fun q hq => Nat.le_trans X.2.2.2.1.1 hq.1
theorem as_ldcs (X : am_X p R s m args meth c cc D al nL own h0) {i ix : Nat} (hd : decode cc pc = .ok (.ldc ix, 2)) (ho : own = "ClueParts") (hx : (am_strs.getD i (0, "")).1 = ix) (hi : i < 5) (hk : am_N (am_G p l e R s m args below meth c D al nL h0 Qf) (pc + 2) K) : am_N (am_G p l e R s m args below meth c D al nL h0 Qf) pc (ak_c (.ref (1000 + i)) K) := by
  intro lo stk h hK H locs cells slots ls hl hw
  subst ho
  have hR := X.2.2.1.2.2.2.2.2.2.2.2.1 i hi
  rw [hx] at hR
  exact va_ldcS X.1.1 X.1.2.1 X.1.2.2.2.1 hR hd (hk _ _ _ hK H locs cells slots ls hl hw)
theorem as_gs_FIRST_WEIGHTS (X : am_X p R s m args meth c cc D al nL own h0) {ix : Nat} (hd : decode cc pc = .ok (.getstatic ix, 3)) (hm : Cond.fieldLink own ix "ClueParts" "FIRST_WEIGHTS" "[I" ∈ am_gw) (hk : am_N (am_G p l e R s m args below meth c D al nL h0 Qf) (pc + 3) K) : am_N (am_G p l e R s m args below meth c D al nL h0 Qf) pc (ak_c (.ref 1011) K) :=
  fun lo stk h hK H locs cells slots ls hl hw => va_gets X.1.1 X.1.2.1 (X.2.2.1.2.2.2.1.narrow (am_AB X)) hw.2.1 X.1.2.2.2.1 (X.1.2.2.2.2 _ hm) (fun _ q => q) hd (hk _ _ _ hK H locs cells slots ls hl hw)
theorem as_gs_CS (X : am_X p R s m args meth c cc D al nL own h0) {ix : Nat} (hd : decode cc pc = .ok (.getstatic ix, 3)) (hm : Cond.fieldLink own ix "java/lang/String" "COMPACT_STRINGS" "Z" ∈ am_gw) (hk : am_N (am_G p l e R s m args below meth c D al nL h0 Qf) (pc + 3) K) : am_N (am_G p l e R s m args below meth c D al nL h0 Qf) pc (ak_c (.int 1) K) :=
  fun lo stk h hK H locs cells slots ls hl hw => va_gets X.1.1 X.1.2.1 (X.2.2.1.2.2.2.2.2.1.narrow (am_AB X)) hw.2.1 X.1.2.2.2.1 (X.1.2.2.2.2 _ hm) (fun _ q => q) hd (hk _ _ _ hK H locs cells slots ls hl hw)
theorem as_sf (X : am_X p R s m args meth c cc D al nL own h0) {ix : Nat} (hd : decode cc pc = .ok (.getstatic ix, 3)) (hm : Cond.fieldLink own ix "jdk/internal/util/Preconditions" "SIOOBE_FORMATTER" "Ljava/util/function/BiFunction;" ∈ am_gw) (hk : am_N (am_G p l e R s m args below meth c D al nL h0 Qf) (pc + 3) K) : am_N (am_G p l e R s m args below meth c D al nL h0 Qf) pc (ak_sf K) := by
  intro lo stk h hK H locs cells slots ls hl hw
  rcases X.2.2.1.2.2.2.2.2.2.1 with z | z
  · exact va_gets X.1.1 X.1.2.1 (z.narrow (am_AB X)) hw.2.1 X.1.2.2.2.1 (X.1.2.2.2.2 _ hm) (fun _ q => q) hd (hk _ _ _ hK.1 H locs cells slots ls hl hw)
  · exact va_gets X.1.1 X.1.2.1 (z.narrow (am_AB X)) hw.2.1 X.1.2.2.2.1 (X.1.2.2.2.2 _ hm) (fun _ q => q) hd (hk _ _ _ hK.2 H locs cells slots ls hl hw)
theorem am_str (X : am_X p R s m args meth c cc D al nL own h0) {k : Nat} (hk : am_bt 1000 1005 k) : va_OF "java/lang/String" "coder" "B" (.int 0) (D.2.2.1 k) (am_A al D.2.2.2.2 h0.length) s s.heap ∧ va_OF "java/lang/String" "value" "[B" (.ref (D.2.2.1 (k + 5))) (D.2.2.1 k) (am_A al D.2.2.2.2 h0.length) s s.heap ∧ va_T .byte (D.2.2.1 (k + 5)) (am_bytes (k - 1000)).length (fun j => .int ((am_bytes (k - 1000)).getD j 0)) (am_A al D.2.2.2.2 h0.length) s s.heap := by
  obtain ⟨i, hi, rfl⟩ : ∃ i, i < 5 ∧ k = 1000 + i := ⟨k - 1000, by unfold am_bt at hk; omega, by unfold am_bt at hk; omega⟩
  have hs := (X.2.2.1.2.2.2.2.2.2.2.1.narrow (am_AB X)).1 i hi
  have e1 : 1000 + i + 5 = 1005 + i := by omega
  have e2 : 1000 + i - 1000 = i := by omega
  rw [e1, e2]
  refine ⟨hs.2.1, hs.2.2.1, ?_⟩
  have h4 := hs.2.2.2
  rw [show ((List.range 5).map (fun i => (am_bytes i).length)).getD i 0 = (am_bytes i).length by simp [List.getD_eq_getElem?_getD, hi], show ((List.range 5).map am_bytes).getD i [] = am_bytes i by simp [List.getD_eq_getElem?_getD, hi]] at h4
  exact h4
theorem as_sv (X : am_X p R s m args meth c cc D al nL own h0) {ix : Nat} (hd : decode cc pc = .ok (.getfield ix, 3)) (hm : Cond.fieldLink own ix "java/lang/String" "value" "[B" ∈ am_gw) (hk : am_N (am_G p l e R s m args below meth c D al nL h0 Qf) (pc + 3) K) : am_N (am_G p l e R s m args below meth c D al nL h0 Qf) pc (ak_sv K) := by
  intro lo stk h hK H locs cells slots ls hl hw
  unfold ak_sv at hK
  split at hK
  · exact vk_getf X.1.1 X.1.2.1 (am_str X hK.1).2.1 hw.2.1 X.1.2.2.2.1 (X.1.2.2.2.2 _ hm) (fun _ q => q) hd (hk _ _ _ hK.2 H locs cells slots ls hl hw)
  · exact hK.elim
theorem as_sc (X : am_X p R s m args meth c cc D al nL own h0) {ix : Nat} (hd : decode cc pc = .ok (.getfield ix, 3)) (hm : Cond.fieldLink own ix "java/lang/String" "coder" "B" ∈ am_gw) (hk : am_N (am_G p l e R s m args below meth c D al nL h0 Qf) (pc + 3) K) : am_N (am_G p l e R s m args below meth c D al nL h0 Qf) pc (ak_sc K) := by
  intro lo stk h hK H locs cells slots ls hl hw
  unfold ak_sc at hK
  split at hK
  · exact vk_getf X.1.1 X.1.2.1 (am_str X hK.1).1 hw.2.1 X.1.2.2.2.1 (X.1.2.2.2.2 _ hm) (fun _ q => q) hd (hk _ _ _ hK.2 H locs cells slots ls hl hw)
  · exact hK.elim
theorem as_bl (X : am_X p R s m args meth c cc D al nL own h0) (hd : decode cc pc = .ok (.arraylength, 1)) (hk : am_N (am_G p l e R s m args below meth c D al nL h0 Qf) (pc + 1) K) : am_N (am_G p l e R s m args below meth c D al nL h0 Qf) pc (ak_bl K) := by
  intro lo stk h hK H locs cells slots ls hl hw
  unfold ak_bl at hK
  split at hK
  · next k r =>
    obtain ⟨h1, h2⟩ := hK
    obtain ⟨j, hj⟩ : ∃ j : Nat, j = k := ⟨k, rfl⟩
    subst hj
    have hT := (am_str X (k := j - 5) ⟨by have := h1.1; omega, by have := h1.2; omega⟩).2.2
    rw [show j - 5 + 5 = j by have := h1.1; omega, show j - 5 - 1000 = j - 1005 by omega] at hT
    exact va_tlen X.1.1 X.1.2.1 hT hw.2.1 rfl hd (hk _ _ _ h2 H locs cells slots ls hl hw)
  · exact hK.elim
theorem as_bld (X : am_X p R s m args meth c cc D al nL own h0) (hd : decode cc pc = .ok (.baload, 1)) (hk : am_N (am_G p l e R s m args below meth c D al nL h0 Qf) (pc + 1) K) : am_N (am_G p l e R s m args below meth c D al nL h0 Qf) pc (ak_bld K) := by
  intro lo stk h hK H locs cells slots ls hl hw
  unfold ak_bld at hK
  split at hK
  · next i k r =>
    obtain ⟨h1, h2, h3⟩ := hK
    obtain ⟨j, hj⟩ : ∃ j : Nat, j = k := ⟨k, rfl⟩
    subst hj
    have hT := (am_str X (k := j - 5) ⟨by have := h1.1; omega, by have := h1.2; omega⟩).2.2
    rw [show j - 5 + 5 = j by have := h1.1; omega, show j - 5 - 1000 = j - 1005 by omega] at hT
    exact va_tb X.1.1 X.1.2.1 hT hw.2.1 h2 rfl hd (hk _ _ _ h3 H locs cells slots ls hl hw)
  · exact hK.elim
theorem as_i2c (X : am_X p R s m args meth c cc D al nL own h0) (hd : decode cc pc = .ok (.i2c, 1)) (hk : am_N (am_G p l e R s m args below meth c D al nL h0 Qf) (pc + 1) K) : am_N (am_G p l e R s m args below meth c D al nL h0 Qf) pc (ak_iu (fun x => (x.toUInt32 % 65536).toInt32) K) := by
  intro lo stk h hK H locs cells slots ls hl hw
  unfold ak_iu at hK
  split at hK
  · exact lv_i2c X.1.1 X.1.2.1 hd rfl (hk _ _ _ hK H locs cells slots ls hl hw)
  · exact hK.elim
theorem as_rn (X : am_X p R s m args meth c cc D al nL own h0) {ty : FieldType} {Q : am_Q} (hQ : (al = true → ∀ r h', Q r h' → h'.length = h0.length + R.cells ∧ am_szs h' = am_szs h0 + R.slots) ∧ (al = false → R.cells = 0 ∧ R.slots = 0)) (hr : meth.sig.returnType = some ty) (hd : decode cc pc = .ok (.ireturn, 1)) :
    am_N (am_G p l e R s m args below meth c D al nL h0 (MQ below (am_Qc al D h0 R.cells R.slots Q) args s R.cells R.slots (am_A al D.2.2.2.2 h0.length))) pc (ak_rn ty Q) := by
  intro lo stk h hK H locs cells slots ls hl hw
  unfold ak_rn at hK
  split at hK
  · next x =>
    obtain ⟨e1, e2, hf⟩ := am_fin (args := args) hQ hK.2 hw
    rw [e1, e2]
    exact W.zret (v := x) X.1.1 X.1.2.1 hr hK.1 (fun t ht _ => hf t ht) hw.2.1.2.2 hd (hlocks := X.2.2.2.2.2.2)
  · exact hK.elim
theorem as_ct (X : am_X p R s m args meth c cc D al nL own h0) {ix n maxL : Nat} {y : MethodName} {bytes : ByteArray} {ret : Option FieldType} {rm : Room} {C : am_T} (hS : am_S false y (am_ws y bytes maxL ret) rm C) (hci : y.cls = "java/lang/String") (hd : decode cc pc = .ok (.invokevirtual ix, 3)) (hy : am_dn y n)
    (hm : Cond.methodLink own ix y ∈ am_gw) (hin : Cond.instanceMethod y ∈ am_gw) (hse : Cond.selects y.cls y y ∈ am_gw) (hini : Cond.initialized y.cls ∈ am_gw) (hc : Cond.code y bytes maxL ret ∈ am_gw) (hR : rm.frames + 1 ≤ R.frames ∧ 8 + (maxL + 11) + rm.locals ≤ R.locals)
    (hk : am_N (am_G p l e R s m args below meth c D al nL h0 Qf) (pc + 3) K) : am_N (am_G p l e R s m args below meth c D al nL h0 Qf) pc (ak_ct (n + 1) C K) := by
  intro lo stk h hK H locs cells slots ls hl hw
  unfold ak_ct at hK
  split at hK
  · next k av r hq =>
    obtain ⟨a1, a2⟩ := am_sp_map (D := D) hq
    have z := hS.1 rfl
    have hlen : h.length ≤ 1000 := by have := X.2.2.2.2.1; have := hw.2.2.2.1; have := hw.2.2.2.2.2.2; omega
    have hM := hS.2 l D X.2.2.2.1 (.ref k :: av) h _ (by omega) hK.2.2 (fun q => by cases q)
    have cw := cwV (R := R) (s := s) (args := args) (own := own) (C := y.cls) (index := ix) (rm := rm) n X.1.2.2.2.2 (ws := am_ws y bytes maxL ret) (am_wsub hc (pre := [.methodLink own ix y, .instanceMethod y, .selects y.cls y y, .initialized y.cls]) (fun w hw => by
      simp only [List.mem_cons, List.not_mem_nil, or_false] at hw
      rcases hw with rfl | rfl | rfl | rfl
      · exact hm
      · exact hin
      · exact hse
      · exact hini)) rfl rfl rfl ⟨rfl, hy⟩ hR
    have hcm : cells + rm.cells ≤ R.cells ∧ slots + rm.slots ≤ R.slots := by have := hw.2.2.2.2.2.2; omega
    have hrv : ∃ cellB : Cell, H[D.2.2.1 k]? = some cellB ∧ cellB.vm.isStatics = false ∧ s.vm.findClass y.cls = some cellB.cls := by
      rw [hci]
      have hb := hK.1
      clear hK hM hq
      obtain ⟨j, hj⟩ : ∃ j : Nat, j = k := ⟨k, rfl⟩
      subst hj
      have := vk_recv (i := j - 1000) (X.2.2.1.2.2.2.2.2.2.2.1.narrow (am_AB X)) (by have := hb.1; have := hb.2; omega) hw.2.1
      rw [show 1000 + (j - 1000) = j by have := hb.1; omega] at this
      exact this
    exact am_back X hw (al2 := false) (fun q => by cases q) (fun _ => z) hcm (va_runV (b := D.2.2.1 k) (As := av.map (am_tr D)) (rest := r.map (am_tr D)) (g := F0 m pc ls (stk.map (am_tr D))) X.1 hM cw ⟨am_blind false D _ h, hrv, am_pre X hw false (fun q => by cases q) (.ref k :: av)⟩ rfl (by simpa using a1) hl.1 (by rw [a2]; simp [am_tr]) (by show 2 * 0 + _ ≤ 8; rw [am_rs_eq]; omega) hd hcm)
      (fun r h' H1 locs1 cells1 slots1 hQ hw1 => hk _ _ _ hQ H1 locs1 cells1 slots1 ls hl hw1)
  · exact hK.elim
theorem as_clone (X : am_X p R s m args meth c cc D true nL "ClueParts" h0) (hd : decode cc pc = .ok (.invokevirtual 34, 3)) (hd2 : decode cc (pc + 3) = .ok (.checkcast 35, 3)) (hO : 1 ≤ R.frames ∧ 20 ≤ R.locals)
    (hk : am_N (am_G p l e R s m args below meth c D true nL h0 Qf) (pc + 3 + 3) K) : am_N (am_G p l e R s m args below meth c D true nL h0 Qf) pc (ak_clone h0 R.cells R.slots K) := by
  intro lo stk h hK H locs cells slots ls hl hw
  unfold ak_clone at hK
  split at hK
  · next k r =>
    obtain ⟨rfl, k2, k3, k4, k5⟩ := hK
    have h4 := hw.2.2.2.1
    have h5 := hw.2.2.2.2.1
    obtain ⟨cell, g1, g2, g3, g4, g5, g6, g7⟩ := X.2.2.1.2.2.2.2.1
    obtain ⟨hsz, hnm⟩ := X.2.2.1.2.2.2.2.2.2.2.2.2 cell g1
    have hIn := va_nm_int (X.2.1.2 0 _ rfl).2
    have hcls : cell.cls = D.2.1.1 := Option.some.inj (hnm.symm.trans hIn)
    have hHt : H[D.2.2.1 1011]? = some cell := by
      rw [hw.2.1.2.1 _ (Array.getElem?_eq_some_iff.mp g1).1 (fun z => g7 (am_AB X _ z))]; exact g1
    have hcell : ({ cls := cell.cls, slots := cell.slots } : Cell) = vp_cell D.2.1.1 (11, .inl (fun j => am_fw.getD j 0)) := by
      rw [vp_cell_i, hcls]
      show ({ cls := D.2.1.1, slots := cell.slots } : Cell) = { cls := D.2.1.1, slots := _, vm := .none }
      congr 1
      refine Array.ext_getElem? fun i => ?_
      by_cases hi : i < 11
      · rw [g6 i hi]
        simp [hi]
      · rw [Array.getElem?_eq_none (by omega)]
        simp [hi]
    obtain ⟨c0, t0', f1, f2, f3⟩ := Cond.castable_spec (va_Nw.use (A := args) rfl X.2.2.1.2.2.1)
    cases hIn.symm.trans f1
    have key : W p l e R s m args below meth c (H.push (vp_cell D.2.1.1 (11, .inl (fun j => am_fw.getD j 0)))) locs (cells + 1) (slots + 11) Qf (F0 m (pc + 3) ls (.ref H.size :: r.map (am_tr D))) := by
      generalize hH1 : H.push (vp_cell D.2.1.1 (11, .inl (fun j => am_fw.getD j 0))) = H1
      have z1 : H1.size = H.size + 1 := by rw [← hH1, Array.size_push]
      have e1 : H1[H.size]? = some (vp_cell D.2.1.1 (11, .inl (fun j => am_fw.getD j 0))) := by rw [← hH1, Array.getElem?_push_size]
      have o1 : ∀ q : Nat, q < H.size → H1[q]? = H[q]? := fun q hq => by rw [← hH1, Array.getElem?_push, if_neg (Nat.ne_of_lt hq)]
      have hq : ∀ (k : Nat) (x : Nat × va_E), (am_w D h)[k]? = some x → H1[x.1]? = H[x.1]? := fun k x hx => o1 x.1 ((hw.1 k x hx).lt)
      obtain ⟨w1, w2⟩ := am_Wd.app X hw (x := .inl (11, .inl (fun j => am_fw.getD j 0))) (n := 11) rfl k3 (by omega) z1 ((hw.1.kept hq).app (fun k x hx => by
        have hz : k < 1 := (List.getElem?_eq_some_iff.mp hx).1
        rw [show k = 0 by omega] at hx
        cases hx
        exact e1)) ⟨Nat.le_trans hw.2.1.1 (by omega), fun x h1 h2 => (o1 x (Nat.lt_of_lt_of_le h1 hw.2.1.1)).trans (hw.2.1.2.1 x h1 h2), hw.2.1.2.2⟩
      have hgo := hk _ _ _ k5 H1 locs (cells + 1) (slots + 11) ls hl w1
      rw [← w2]
      refine va_castE X.1.1 X.1.2.1 X.1.2.2.2.1 (X.1.2.2.2.2 _ (am_g1 (w := .classLink "ClueParts" 35 "[I") 103 rfl rfl)) ?_ hd2 hgo
      exact ⟨vp_cell D.2.1.1 (11, .inl (fun j => am_fw.getD j 0)), by rw [w2]; exact e1, rfl, hIn⟩
    intro T hT X0
    obtain ⟨-, kA, hkA, comp, hkind⟩ := State.isArrayOf_alike X0.warmed.alike g2
    obtain ⟨hst, kS, hkS, compS, hkindS⟩ := g2
    obtain ⟨vm', X', st⟩ := X0.cloneArray X.1.1 X.1.2.2.2.1 (X.1.2.2.2.2 _ (am_g1 (w := .methodLink "ClueParts" 34 ⟨"[I", "clone", "()Ljava/lang/Object;"⟩) 97 rfl rfl)) (X.1.2.2.2.2 _ (am_g1 98 rfl rfl)) (X.1.2.2.2.2 _ (am_g1 99 rfl rfl)) (X.1.2.2.2.2 _ (am_g1 100 rfl rfl)) (X.1.2.2.2.2 _ (am_g1 101 rfl rfl)) (a := D.2.2.1 1011) (cell := cell) (by rw [hT]; exact hHt) hst g3 (by rw [hcls]; exact hIn) f2 (by rw [hcls]; exact f3)
      (fun i v hv => by
        have hi : i < 11 := by rw [← hsz]; exact (Array.getElem?_eq_some_iff.mp hv).1
        rw [g6 i hi] at hv
        cases hv
        have hk' : T.vm.classes[cell.cls]? = some kA := hkA
        simp [State.fitsSlot, State.slotType?, hk', hkind, fits])
      (g := F0 m pc ls (.ref (D.2.2.1 1011) :: r.map (am_tr D))) rfl (by rw [X.1.2.2.1]; exact hl.1) rfl (by rw [X.1.2.1]; exact hd) hO.1 (by show 2 * 0 + _ + 14 ≤ _; rw [am_rs_eq]; omega) (by omega) (by rw [hsz]; omega) (hloader := Vm.clonesLoader_of_array hkS hkindS)
    rw [hcell, hsz] at X'
    obtain ⟨t, b1, b2⟩ := key ((T.setVm vm').pushCell (vp_cell D.2.1.1 (11, .inl (fun j => am_fw.getD j 0)))) (by rw [← hT]; rfl) X'
    refine ⟨t, st t ?_, b2⟩
    rw [hcell, hT]
    exact b1
  · exact hK.elim
theorem as_mn (X : am_X p R s m args meth c cc D al nL own h0) {ix : Nat} (hd : decode cc pc = .ok (.invokestatic ix, 3)) (hm : Cond.methodLink own ix Lib.MathLoose.min_long.x ∈ am_gw) (hst : Cond.static Lib.MathLoose.min_long.x ∈ am_gw) (hini : Cond.initialized "java/lang/Math" ∈ am_gw) (hc : Cond.code Lib.MathLoose.min_long.x Lib.MathLoose.min_long.code 4 (some .long) ∈ am_gw) (hM : 1 ≤ R.frames ∧ 23 ≤ R.locals)
    (hk : am_N (am_G p l e R s m args below meth c D al nL h0 Qf) (pc + 3) K) : am_N (am_G p l e R s m args below meth c D al nL h0 Qf) pc (ak_mn K) := by
  intro lo stk h hK H locs cells slots ls hl hw
  unfold ak_mn at hK
  split at hK
  · next y x r =>
    have h7 := hw.2.2.2.2.2.2
    exact va_mmin_long X.1.1 X.1.2.1 (by rw [X.1.2.2.1]; exact hl.1.symm) X.1.2.2.2.1 (X.1.2.2.2.2 _ hm) (X.1.2.2.2.2 _ hst) (X.1.2.2.2.2 _ hini) (X.1.2.2.2.2 _ hc) hM.1 (by rw [am_rs_eq]; omega) h7.1 h7.2 hd (hk _ _ _ hK.2 H locs cells slots ls hl hw)
  · exact hK.elim
end AMX
