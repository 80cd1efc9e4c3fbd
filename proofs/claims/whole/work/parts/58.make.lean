/-! the line is made; first -/
def sv_first (s : MS) (i : Int32) : Int32 := if i < -1 then -1 else if (MZ (sX s none)).1 = 0 then -4 else if i = -1 then nI (ML (sX s none)).length else match sp_ix i (ML (sX s none)).length with
  | none => -4
  | some k => nI ((ML (sX s none)).getD k 0)
theorem MZ_pick {X : MX} (hw : ∀ s, s < 11 → X.2.2.2.1 s ≤ 9) (h6 : X.2.1.length ≤ 6) (h : ¬ (MZ X).1 = 0) : (MZ X).2.2.2 < 4 ∧ mz_po X (MZ X).2.2.2 = true ∧ mz_a (MZ X).2.2.2 < mz_b X (MZ X).2.2.2 ∧ ¬ (MP X (mz_a (MZ X).2.2.2) (mz_b X (MZ X).2.2.2) (mz_f X)).1 = 0 := by
  have key : ∀ q ∈ (List.range 4).flatMap (fun c => if mz_po X c then [mz_it X c] else []), ¬ q.1 = 0 → ∃ c, c < 4 ∧ mz_po X c = true ∧ q = mz_it X c ∧ mz_a c < mz_b X c ∧ ¬ (MP X (mz_a c) (mz_b X c) (mz_f X)).1 = 0 := by
    intro q hq q0
    obtain ⟨c, hc, hq⟩ := List.mem_flatMap.mp hq
    obtain ⟨hp, hq⟩ := mem_if hq
    have e := List.mem_singleton.mp hq
    have hab : mz_a c < mz_b X c := by
      by_cases hab : mz_a c < mz_b X c
      · exact hab
      · exfalso
        apply q0
        rw [e]
        show (mz_q X c).1 = 0
        unfold mz_q
        rw [if_neg hab]
        rfl
    refine ⟨c, List.mem_range.mp hc, hp, e, hab, ?_⟩
    rw [e] at q0
    have q1 : ¬ (mz_q X c).1 = 0 := q0
    unfold mz_q at q1
    rw [if_pos hab] at q1
    exact q1
  have cost : ∀ q ∈ (List.range 4).flatMap (fun c => if mz_po X c then [mz_it X c] else []), ¬ q.1 = 0 → q.2.1 < 1000000 := by
    intro q hq q0
    obtain ⟨c, -, -, rfl, hab, hn⟩ := key q hq q0
    have hb : mz_b X c ≤ X.2.1.length := by unfold mz_b; split <;> (try split) <;> omega
    have h1 := MP_cost hw hab (by omega) hn
    have h10 := hw 10 (by decide)
    show (mz_q X c).2.1 + (if c % 2 = 1 then X.2.2.2.1 10 else 0) < 1000000
    unfold mz_q
    rw [if_pos hab]
    split <;> omega
  obtain ⟨q, hq, q0, -, q2⟩ := ac_pick0 cost h
  obtain ⟨c, h1, h2, h3, h4, h5⟩ := key q hq q0
  have e : (MZ X).2.2.2 = c := by
    have : (MZ X).2.2.2 = q.2.2.2 := q2
    rw [this, h3]
    rfl
  rw [e]
  exact ⟨h1, h2, h4, h5⟩
section MKL
variable {I I1 I' : Nat → Int32} {J J' : Nat → Int64} {X : MX} {tl : am_H} {Q : am_Q} {h : am_H} {A A1 A' : Nat → Nat → Int32} {B B1 B' : Nat → Nat → Int64} {l o : List Nat} {n : Int32} {s : MS} {L : Nat}
theorem SV.l8 (h : SV I J X A B) (hI : ∀ k, k < 7 → I' k = I k) : SV I' J X A B := by
  obtain ⟨⟨⟨b1, b2, b3⟩, ⟨c1, c2, c3, c4, c5⟩, x3, x4, x5, x6, x7, x8⟩, v2, v3⟩ := h
  exact ⟨⟨⟨b1, (hI 1 (by decide)).trans b2, b3⟩, ⟨c1, (hI 2 (by decide)).trans c2, c3, c4, c5⟩, x3, x4, (hI 3 (by decide)).trans x5, x6, x7, x8⟩, by rw [hI 6 (by decide)]; exact v2, by rw [hI 6 (by decide)]; exact v3⟩
theorem CI.ln (hC : CI L I J A B s) (hI : ∀ k, k < 7 → I1 k = I k) (h8 : I1 8 = I 6) (hm : ml (I1 6) I1 A B I' A' B') (hV : LV I' J (sX s none) A' B' (ML (sX s none))) (hz : ¬ (MZ (sX s none)).1 = 0) : CI L I' J A' B' s := by
  obtain ⟨⟨⟨t1, t2, t3⟩, ⟨b1, b2, b3⟩, ⟨c1, c2, c3, c4, c5⟩, h4, h5, h6⟩, ht, hL, -, O, o1, o2, o3, o4⟩ := hC
  have e : ∀ k, k < 7 → I' k = I k := fun k hk => (hm.1 k (by omega)).trans (hI k hk)
  have e6 : I1 6 = nI O := (hI 6 (by decide)).trans o3
  have e8 : I' 8 = nI O := (hm.1 8 (by decide)).trans (h8.trans o3)
  rw [e6] at hm
  refine ⟨⟨⟨t1, (e 0 (by decide)).trans t2, ?_⟩, ⟨b1, (e 1 (by decide)).trans b2, ?_⟩, ⟨c1, (e 2 (by decide)).trans c2, ?_, ?_, ?_⟩, h4, h5, ?_⟩, ⟨(e 4 (by decide)).trans ht.1, fun t => ?_, fun t => ?_, ?_, ⟨O, o1, e8⟩⟩, hL, hV.1, O, o1, (e 5 (by decide)).trans o2, (e 6 (by decide)).trans o3, fun _ => ⟨hV.2, hz⟩⟩
  · rw [hm.2.1 0 (by omega)]; exact t3
  · rw [hm.2.2.1 0 (by omega), hm.2.2.1 1 (by omega), hm.2.1 1 (by omega)]; exact b3
  · rw [hm.2.2.1 2 (by omega)]; exact c3
  · rw [hm.2.1 2 (by omega)]; exact c4
  · rw [hm.2.1 3 (by omega)]; exact c5
  · rw [hm.2.1 4 (by omega)]; exact h6
  · rcases hm.2.2.2.1 t with g | g
    · exact ⟨O, o1, g⟩
    · rw [g.1]; exact ht.2.1 t
  · rcases hm.2.2.2.2.1 t with g | g
    · exact ⟨O, o1, g⟩
    · rw [g.1]; exact ht.2.2.1 t
  · rcases hm.2.2.2.2.2 with g | g
    · exact ⟨O, o1, g⟩
    · rw [g.1]; exact ht.2.2.2.1
theorem ML_len (hy : ly X) (hS : rc_S I J A B X) (hz : ¬ (MZ X).1 = 0) : (ML X).length ≤ 200 := by
  obtain ⟨m1, m2, m3, m4⟩ := MZ_pick hy.1.1 hy.1.2.1 hz
  have l6 := hy.1.2.1
  have hb : mz_b X (MZ X).2.2.2 ≤ X.2.1.length := by unfold mz_b; split <;> (try split) <;> omega
  have hr : rg X (mz_a (MZ X).2.2.2) (mz_b X (MZ X).2.2.2) (mz_f X) := rg.st hS.2.2.1 m3 hb (by have := hS.2.2.1.2.1; omega) (Nat.le_refl _)
  have h1 := LLn_len hy 6 _ _ _ (by omega) hr m4
  have h2 : (mz_d X (MZ X).2.2.2).length ≤ 7 := hy.2.1 _
  unfold ML
  rw [if_neg hz]
  have e : ln_P X 7 = LLn X := rfl
  rw [e]
  simp only [List.length_cons, List.length_append, lq_s_len]
  split <;> simp only [List.length_cons, List.length_nil] <;> omega
end MKL
