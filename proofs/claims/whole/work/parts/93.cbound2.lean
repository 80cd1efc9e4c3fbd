/-! no clue has more than a million parses: the numbers -/
def bz (K : Nat × Nat × Nat × Nat) (N n : Nat) : Bool := Nat.ble (2 * bP K 7 (N - 1) n + 2 * bP K 7 (N - 2) n) 1000000
theorem bz_a : (List.range 9).all (fun n => (List.range 7).all (fun N => bz (22, 1, 1, 1) N n)) = true := by decide +kernel
theorem bz_b : (List.range 9).all (fun n => (List.range 7).all (fun N => bz (25, 0, 1, 1) N n)) = true := by decide +kernel
theorem bz_c : (List.range 9).all (fun n => (List.range 7).all (fun N => bz (25, 1, 0, 1) N n)) = true := by decide +kernel
theorem bz_d : (List.range 9).all (fun n => (List.range 7).all (fun N => bz (25, 1, 1, 0) N n)) = true := by decide +kernel
theorem bz_le {K : Nat × Nat × Nat × Nat} (h : (List.range 9).all (fun n => (List.range 7).all (fun N => bz K N n)) = true) {N n : Nat} (hN : N ≤ 6) (hn : n ≤ 8) : 2 * bP K 7 (N - 1) n + 2 * bP K 7 (N - 2) n ≤ 1000000 := by
  have h := List.all_eq_true.mp h n (List.mem_range.mpr (by omega))
  have h := List.all_eq_true.mp h N (List.mem_range.mpr (by omega))
  exact Nat.le_of_ble_eq_true h
theorem MZ_K {X : MX} {K : Nat × Nat × Nat × Nat} (hK : bK X K) (hC : mc_C X.2.1) (hg : mg_W X.2.2.1) : (MZ X).1 ≤ 2 * bP K 7 (X.2.1.length - 1) X.2.2.1.length + 2 * bP K 7 (X.2.1.length - 2) X.2.2.1.length := by
  have hX : ∀ w, (X.2.1.getD w []).length ≤ 7 := by
    intro w
    rw [List.getD_eq_getElem?_getD]
    cases hc : X.2.1[w]? with
    | none => exact Nat.zero_le _
    | some y => exact (hC.2.2 y (List.mem_of_getElem? hc)).2.2
  have h8 := hg.2.2
  have h2 := hg.2.1
  have h3 := hC.1
  obtain ⟨f1, f2⟩ := pt_st X.2.2.1.length (by omega) 0 (by omega)
  have hsz : pt_sz (mz_f X) = X.2.2.1.length := by
    unfold pt_sz mz_f
    rw [f1, List.length_map, List.length_range, Nat.sub_zero]
  have hq : ∀ c w, mz_b X c - mz_a c = w → mz_b X c ≤ X.2.1.length → (mz_q X c).1 ≤ bP K 7 w X.2.2.1.length := by
    intro c w hw hb
    unfold mz_q
    split
    · rename_i hc
      have := bP_ok hK hX 7 (mz_a c) (mz_b X c) (mz_f X) hc hb (by rw [hsz]; omega) f2
      rw [hsz, hw] at this
      exact this
    · exact Nat.zero_le _
  have q0 := hq 0 (X.2.1.length - 1) rfl (Nat.le_refl _)
  have q1 := hq 1 (X.2.1.length - 2) rfl (Nat.le_refl _)
  have q2 := hq 2 (X.2.1.length - 1) rfl (Nat.sub_le _ _)
  have q3 := hq 3 (X.2.1.length - 2) rfl (Nat.sub_le _ _)
  have it : ∀ c, ac_t (if mz_po X c then [mz_it X c] else []) ≤ (mz_q X c).1 := fun c => ac_if (by simp [ac_t, mz_it])
  have i0 := it 0
  have i1 := it 1
  have i2 := it 2
  have i3 := it 3
  unfold MZ
  rw [ac_fold_1]
  show 0 + ac_t ((if mz_po X 0 then [mz_it X 0] else []) ++ ((if mz_po X 1 then [mz_it X 1] else []) ++ ((if mz_po X 2 then [mz_it X 2] else []) ++ ((if mz_po X 3 then [mz_it X 3] else []) ++ [])))) ≤ _
  rw [ac_t_app, ac_t_app, ac_t_app, ac_t_app, ac_t_nil]
  omega
theorem MZ_million {X : MX} (hB : mb_B X.1) (hC : mc_C X.2.1) (hg : mg_W X.2.2.1) : (MZ X).1 ≤ 1000000 := by
  have h6 := hC.2.1
  have h8 := hg.2.2
  by_cases a2 : any_s X 2 = true
  · by_cases a4 : any_s X 4 = true
    · by_cases a5 : any_s X 5 = true
      · exact Nat.le_trans (MZ_K (K := (22, 1, 1, 1)) ⟨fun _ => Nat.le_refl _, fun _ => Nat.le_refl _, fun _ => Nat.le_refl _, fun i j p hs => (mu_T_bd hB hs).2 a2 a4 a5⟩ hC hg) (bz_le bz_a h6 h8)
      · exact Nat.le_trans (MZ_K (K := (25, 1, 1, 0)) ⟨fun _ => Nat.le_refl _, fun _ => Nat.le_refl _, fun z => absurd z a5, fun i j p hs => (mu_T_bd hB hs).1⟩ hC hg) (bz_le bz_d h6 h8)
    · exact Nat.le_trans (MZ_K (K := (25, 1, 0, 1)) ⟨fun _ => Nat.le_refl _, fun z => absurd z a4, fun _ => Nat.le_refl _, fun i j p hs => (mu_T_bd hB hs).1⟩ hC hg) (bz_le bz_c h6 h8)
  · exact Nat.le_trans (MZ_K (K := (25, 0, 1, 1)) ⟨fun z => absurd z a2, fun _ => Nat.le_refl _, fun _ => Nat.le_refl _, fun i j p hs => (mu_T_bd hB hs).1⟩ hC hg) (bz_le bz_b h6 h8)
