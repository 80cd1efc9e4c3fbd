/-! what stands outside the world at the law's entry -/
def lw_fl : List Cond := flatC (Jvm.Cond.and given_1 narrow_1)
theorem lw_at {args : Array Value} {s : State} (h : (Jvm.Cond.and given_1 narrow_1).before args s = true) {w : Cond} (i : Nat) (hi : lw_fl[i]? = some w) : w.before args s = true := flat_of_before _ h _ (List.mem_of_getElem? hi)
theorem lw_g1 {w : Cond} (i : Nat) (h : tables_1_1[i]? = some w) : w ∈ lw_tbl := List.mem_append_right _ (List.mem_append_left _ (List.mem_of_getElem? h))
theorem lw_g2 {w : Cond} (i : Nat) (h : tables_1_2[i]? = some w) : w ∈ lw_tbl := List.mem_append_right _ (List.mem_append_right _ (List.mem_append_left _ (List.mem_of_getElem? h)))
theorem lw_g3 {w : Cond} (i : Nat) (h : tables_1_3[i]? = some w) : w ∈ lw_tbl := List.mem_append_right _ (List.mem_append_right _ (List.mem_append_right _ (List.mem_append_left _ (List.mem_of_getElem? h))))
theorem lw_g4 {w : Cond} (i : Nat) (h : tables_1_4[i]? = some w) : w ∈ lw_tbl := List.mem_append_right _ (List.mem_append_right _ (List.mem_append_right _ (List.mem_append_right _ (List.mem_append_left _ (List.mem_of_getElem? h)))))
abbrev lw_tF : Term := .static "ClueParts" "FIRST_WEIGHTS" "[I"
abbrev lw_tS (i : Nat) : Term := .string "ClueParts" (am_strs.getD i (0, "")).1
abbrev lw_tV (i : Nat) : Term := .field (lw_tS i) "java/lang/String" "value" "[B"
abbrev lw_b (i : Nat) : Nat := [27, 95, 168, 191, 81].getD i 0
theorem lw_eF : ∀ j, j < 11 → lw_fl[7 + j]? = some (Cond.eq (.elem lw_tF (.int (Int32.ofNat j))) (.int (am_fw.getD j 0))) := by decide +kernel
theorem lw_s1 : ∀ i, i < 5 → lw_fl[lw_b i - 4]? = some (Cond.exactly (lw_tS i) "java/lang/String") := by decide +kernel
theorem lw_s2 : ∀ i, i < 5 → lw_fl[lw_b i - 3]? = some (Cond.eq (.field (lw_tS i) "java/lang/String" "coder" "B") (.int 0)) := by decide +kernel
theorem lw_s3 : ∀ i, i < 5 → lw_fl[lw_b i - 2]? = some (Cond.arrayOf (lw_tV i) .byte) := by decide +kernel
theorem lw_s4 : ∀ i, i < 5 → lw_fl[lw_b i - 1]? = some (Cond.eq (.length (lw_tV i)) (.int (Int32.ofNat (((List.range 5).map (fun i => (am_bytes i).length)).getD i 0)))) := by decide +kernel
theorem lw_s5 : ∀ i, i < 5 → ∀ j, j < ((List.range 5).map (fun i => (am_bytes i).length)).getD i 0 → lw_fl[lw_b i + j]? = some (Cond.eq (.elem (lw_tV i) (.int (Int32.ofNat j))) (.int ((((List.range 5).map am_bytes).getD i []).getD j 0))) := by decide +kernel
theorem lw_s6 : ∀ i, i < 5 → ∀ j, j < 5 → i ≠ j → Cond.not (Cond.eq (lw_tS i) (lw_tS j)) ∈ lw_fl ∨ Cond.not (Cond.eq (lw_tS j) (lw_tS i)) ∈ lw_fl := by decide +kernel
theorem lw_s7 : ∀ i, i < 5 → ((List.range 5).map (fun i => (am_bytes i).length)).getD i 0 < 2 ^ 31 := by decide +kernel
theorem lw_size {args : Array Value} {s : State} {tm : Term} {N t : Nat} {cell : Cell} (hN : N < 2 ^ 31) (hlen : (Term.length tm).eval args s none [] s = some (.int (Int32.ofNat N))) (ht : tm.eval args s none [] s = some (.ref t)) (hc : s.heap[t]? = some cell) : cell.slots.size = N := by
  obtain ⟨b, cell2, hb, harr, hv⟩ := Term.length_spec hlen
  cases ht.symm.trans hb
  obtain ⟨hcell, -, -, -⟩ := State.arrayAt?_spec harr
  cases hc.symm.trans hcell
  have hsz : cell.slots.size < 2 ^ 31 := by
    simp only [Term.eval, ht, harr, Option.bind_eq_bind, Option.bind_some] at hlen
    by_cases hlt : cell.slots.size < 2147483648
    · exact hlt
    · simp [hlt] at hlen
  have e : Int32.ofNat N = Int32.ofNat cell.slots.size := Value.int.inj hv
  have e2 := congrArg Int32.toNatClampNeg e
  rw [Int32.toNatClampNeg_ofNat_of_lt hN, Int32.toNatClampNeg_ofNat_of_lt hsz] at e2
  exact e2.symm
theorem lw_nest {b : Nat} {s : State} (hts : ∀ w ∈ lw_tbl, w.before #[Value.ref b] s = true) : ∀ q ∈ am_nest, va_Nw (am_nw q) s := by
  intro q hq
  simp only [am_nest, List.mem_cons, List.not_mem_nil, or_false] at hq
  rcases hq with rfl | rfl | rfl | rfl | rfl | rfl | rfl | rfl | rfl | rfl | rfl
  · exact va_Nw.of rfl (hts _ (lw_g1 27 rfl))
  · exact va_Nw.of rfl (hts _ (lw_g1 44 rfl))
  · exact va_Nw.of rfl (hts _ (lw_g1 73 rfl))
  · exact va_Nw.of rfl (hts _ (lw_g2 31 rfl))
  · exact va_Nw.of rfl (hts _ (lw_g2 50 rfl))
  · exact va_Nw.of rfl (hts _ (lw_g3 13 rfl))
  · exact va_Nw.of rfl (hts _ (lw_g3 209 rfl))
  · exact va_Nw.of rfl (hts _ (lw_g3 214 rfl))
  · exact va_Nw.of rfl (hts _ (lw_g3 216 rfl))
  · exact va_Nw.of rfl (hts _ (lw_g4 1 rfl))
  · exact va_Nw.of rfl (hts _ (lw_g4 10 rfl))
theorem lw_strs {b : Nat} {s : State} (hts : ∀ w ∈ lw_tbl, w.before #[Value.ref b] s = true) : ∀ i, i < 5 → (Cond.stringRef "ClueParts" (am_strs.getD i (0, "")).1 (am_strs.getD i (0, "")).2).before #[Value.ref b] s = true := by
  intro i hi
  match i, hi with
  | 0, _ => exact hts _ (lw_g1 198 rfl)
  | 1, _ => exact hts _ (lw_g2 55 rfl)
  | 2, _ => exact hts _ (lw_g2 56 rfl)
  | 3, _ => exact hts _ (lw_g2 67 rfl)
  | 4, _ => exact hts _ (lw_g2 34 rfl)
  | i + 5, h => exact absurd h (by omega)
theorem lw_env {b : Nat} {s : State} (hts : ∀ w ∈ lw_tbl, w.before #[Value.ref b] s = true) (hgv : (Jvm.Cond.and given_1 narrow_1).before #[Value.ref b] s = true) :
    ∃ f : Nat → Nat, (∀ k, k < 1000 → f k = s.heap.size + k) ∧ f 1013 = b ∧ ∀ (g : va_G) (q : ClassId × ClassId), am_E (g, q, f, (s.heap.size, s.heap.size)) s := by
  have hA : ∀ a : Nat, a < s.heap.size → ¬ (s.heap.size ≤ a) := fun a h => Nat.not_le.mpr h
  have htg : ∀ w ∈ am_gw, w.before #[Value.ref b] s = true := fun w hw => hts w (List.mem_filter.mp hw).1
  obtain ⟨adK, adV, hS, hSe⟩ := vk_Sof (args := #[Value.ref b]) (s := s) (N := 5) (tm := lw_tS) (len := (List.range 5).map (fun i => (am_bytes i).length)) (byt := (List.range 5).map am_bytes) (A := fun q => s.heap.size ≤ q) lw_s7
    (fun i hi => lw_at hgv _ (lw_s1 i hi)) (fun i hi => lw_at hgv _ (lw_s2 i hi)) (fun i hi => lw_at hgv _ (lw_s3 i hi)) (fun i hi => lw_at hgv _ (lw_s4 i hi)) (fun i hi j hj => lw_at hgv _ (lw_s5 i hi j hj))
    (fun i j hi hj hij => (lw_s6 i hi j hj hij).imp (fun h => flat_of_before _ hgv _ h) (fun h => flat_of_before _ hgv _ h)) hA
  have hlF : (Term.length lw_tF).eval #[Value.ref b] s none [] s = some (.int (Int32.ofNat 11)) := va_eqt (z := 11) (lw_at hgv 6 (by decide +kernel))
  obtain ⟨tF, hF, hTF⟩ := va_Tof (args := #[Value.ref b]) (s := s) (tm := lw_tF) (ty := .int) (N := 11) (f := fun j => .int (am_fw.getD j 0)) (A := fun q => s.heap.size ≤ q) (by decide) (lw_at hgv 5 (by decide +kernel)) hlF (fun j hj => va_eqt (lw_at hgv _ (lw_eF j hj))) hA
  have hZF : va_Z "ClueParts" "FIRST_WEIGHTS" "[I" (.ref tF) (fun q => s.heap.size ≤ q) s s.heap := va_Zof (args := #[Value.ref b]) (hts _ (lw_g1 96 rfl)) (htg _ ini_X8) hF hA
  have hZC : va_Z "java/lang/String" "COMPACT_STRINGS" "Z" (.int 1) (fun q => s.heap.size ≤ q) s s.heap := va_Zof (args := #[Value.ref b]) (hts _ (lw_g1 212 rfl)) (htg _ ini_J0) (va_eqt (lw_at hgv 18 (by decide +kernel))) hA
  have hZq : va_Zq "jdk/internal/util/Preconditions" "SIOOBE_FORMATTER" "Ljava/util/function/BiFunction;" (fun q => s.heap.size ≤ q) s s.heap := va_Zqof (args := #[Value.ref b]) (hts _ (lw_g1 228 rfl)) (htg _ ini_J3) (lw_at hgv 19 (by decide +kernel)) hA
  obtain ⟨tS, hZS⟩ : ∃ tS : Nat, va_Z "jdk/internal/util/Preconditions" "SIOOBE_FORMATTER" "Ljava/util/function/BiFunction;" .null (fun q => s.heap.size ≤ q) s s.heap ∨ va_Z "jdk/internal/util/Preconditions" "SIOOBE_FORMATTER" "Ljava/util/function/BiFunction;" (.ref tS) (fun q => s.heap.size ≤ q) s s.heap := by
    rcases hZq with h | ⟨t, h⟩
    · exact ⟨0, Or.inl h⟩
    · exact ⟨t, Or.inr h⟩
  obtain ⟨f, f0, fK, fV, fF, fS, fb⟩ : ∃ f : Nat → Nat, (∀ k, k < 1000 → f k = s.heap.size + k) ∧ (∀ i, i < 5 → f (1000 + i) = adK i) ∧ (∀ i, i < 5 → f (1005 + i) = adV i) ∧ f 1011 = tF ∧ f 1012 = tS ∧ f 1013 = b := by
    refine ⟨fun k => if k < 1000 then s.heap.size + k else if k < 1005 then adK (k - 1000) else if k < 1010 then adV (k - 1005) else if k = 1011 then tF else if k = 1012 then tS else b, ?_, ?_, ?_, ?_, ?_, ?_⟩
    · intro k hk
      simp only [hk, if_true]
    · intro i hi
      have h1 : ¬ 1000 + i < 1000 := by omega
      have h2 : 1000 + i < 1005 := by omega
      have h3 : 1000 + i - 1000 = i := by omega
      simp only [h1, h2, h3, if_true, if_false]
    · intro i hi
      have h1 : ¬ 1005 + i < 1000 := by omega
      have h2 : ¬ 1005 + i < 1005 := by omega
      have h3 : 1005 + i < 1010 := by omega
      have h4 : 1005 + i - 1005 = i := by omega
      simp only [h1, h2, h3, h4, if_true, if_false]
    all_goals rfl
  refine ⟨f, f0, fb, fun g q => ?_⟩
  subst fF fS
  refine ⟨Nat.le_refl _, lw_nest hts, va_Nw.of rfl (hts _ (lw_g1 102 rfl)), hZF, hTF, hZC, hZS, ?_, ?_, ?_⟩
  · refine ⟨fun i hi => ?_, fun i j hi hj e => hS.2 i j hi hj (by rw [← fK i hi, ← fK j hj]; exact e)⟩
    have h := hS.1 i hi
    rw [← fK i hi, ← fV i hi] at h
    exact h
  · intro i hi
    refine vk_R.of (A := #[Value.ref b]) (lw_strs hts i hi) ?_
    have h := hSe i hi
    rw [← fK i hi] at h
    exact h
  · intro cell hc
    refine ⟨lw_size (by decide) hlF hF hc, ?_⟩
    obtain ⟨a, c, cA, kA, q1, q2, q3, q4, q5, q6, -⟩ := Cond.exactly_spec (args := #[Value.ref b]) (first := s) (o := none) (s := s) (idx := []) (t := lw_tF) (cls := "[I") (lw_at hgv 199 (by decide +kernel))
    cases hF.symm.trans q1
    cases hc.symm.trans q3
    rw [q6]
    exact q2
theorem lw_cls {b : Nat} {s : State} (hts : ∀ w ∈ lw_tbl, w.before #[Value.ref b] s = true) (c : Nat) : ∃ q : ClassId × (Nat → Nat), ∀ x : vw_C, vwCl[c]? = some x → u_Kn s x.1 x.2.1 x.2.2 q.1 q.2 := by
  have htg : ∀ w ∈ am_gw, w.before #[Value.ref b] s = true := fun w hw => hts w (List.mem_filter.mp hw).1
  have mk : ∀ {ci N : Nat} {C : String} {T : u_T} {ty : Nat → FieldType}, am_fc ci C T N ty → Cond.instantiable C N ∈ am_gw → ∃ q : ClassId × (Nat → Nat), ∀ x : vw_C, some (C, T, N) = some x → u_Kn s x.1 x.2.1 x.2.2 q.1 q.2 := by
    intro ci N C T ty F hi
    obtain ⟨cC, iS, h⟩ := u_known htg F.2.1 (htg _ hi)
    refine ⟨(cC, iS), fun x hx => ?_⟩
    cases hx
    exact h
  match c with
  | 0 => exact mk fc_X0 is_X0
  | 1 => exact mk fc_X1 is_X1
  | 2 => exact mk fc_X3 is_X3
  | 3 => exact mk fc_X5 is_X5
  | 4 => exact mk fc_X6 is_X6
  | 5 => exact mk fc_X7 is_X7
  | 6 => exact mk fc_X8 is_X8
  | 7 => exact mk fc_X9 is_X9
  | c + 8 =>
    obtain ⟨q, -⟩ := mk fc_X0 is_X0
    exact ⟨q, fun x hx => absurd hx (by simp [vwCl])⟩
theorem lw_arr {b : Nat} {s : State} {ty : FieldType} (h : (Cond.arrayClass ty).before #[Value.ref b] s = true) : ∃ c : ClassId, ArrOfT s c ty ∧ s.vm.findClass ("[" ++ ty.toString) = some c := by
  obtain ⟨c, k, comp, h1, h2, h3⟩ := Cond.arrayClass_spec h
  exact ⟨c, fun n z => ⟨fun k h => (by cases h), k, h2, comp, h3⟩, h1⟩
theorem lw_know {b : Nat} {s : State} (hts : ∀ w ∈ lw_tbl, w.before #[Value.ref b] s = true) : ∃ (g : va_G) (cI cL : ClassId), va_K g vwCl [(cI, .int), (cL, .long)] s := by
  have htg : ∀ w ∈ am_gw, w.before #[Value.ref b] s = true := fun w hw => hts w (List.mem_filter.mp hw).1
  obtain ⟨d, hd⟩ := Classical.axiomOfChoice (lw_cls hts)
  obtain ⟨cI, i1, i2⟩ := lw_arr (htg _ ac_int)
  obtain ⟨cL, l1, l2⟩ := lw_arr (htg _ ac_long)
  refine ⟨(fun c => (d c).1, fun c => (d c).2), cI, cL, fun c q hq => hd c q hq, fun k q hq => ?_⟩
  match k, hq with
  | 0, hq => cases hq; exact ⟨i1, i2⟩
  | 1, hq => cases hq; exact ⟨l1, l2⟩
  | k + 2, hq => simp at hq
