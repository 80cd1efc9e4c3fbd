/-! heap instructions, ends, calls -/
def am_fc (ci : Nat) (C : String) (T : u_T) (N : Nat) (ty : Nat → FieldType) : Prop := vwCl[ci]? = some (C, T, N) ∧ (∀ w ∈ u_ws C T N, w ∈ am_gw) ∧ (∀ k, k < N → parseFieldDescriptor (T k).2.2.1 = some (ty k)) ∧ (∀ a, a < N → ∀ b, b < N → a ≠ b → (T a).2.1 ≠ (T b).2.1)
theorem am_gi {ws : List Cond} (h : ∀ w ∈ ws, w ∈ am_gw) : GoodIn am_gw ws := fun w hw => ⟨h w hw, good_of_word (List.mem_filter.mp (h w hw)).2⟩
abbrev am_ws (y : MethodName) (bytes : ByteArray) (maxL : Nat) (ret : Option FieldType) : List Cond := Cond.code y bytes maxL ret :: am_gw
theorem am_fld_spec {h : am_H} {k ci j : Nat} {v : Value} (hf : am_fld h k ci j = some v) : ∃ fs, h[k]? = some (.inr (ci, fs)) ∧ fs[j]? = some v := by
  unfold am_fld at hf
  split at hf
  · next o ho =>
    split at hf
    · next hc => exact ⟨o.2, by rw [ho, ← hc], hf⟩
    · cases hf
  · cases hf
theorem am_put_spec {h h' : am_H} {k ci j : Nat} {v : Value} (hf : am_put h k ci j v = some h') : ∃ fs, h[k]? = some (.inr (ci, fs)) ∧ j < fs.length ∧ h' = h.set k (.inr (ci, fs.set j v)) := by
  unfold am_put at hf
  split at hf
  · next o ho =>
    split at hf
    · next hc => cases hf; exact ⟨o.2, by rw [ho, ← hc.1], hc.2, rfl⟩
    · cases hf
  · cases hf
theorem am_ia_spec {h : am_H} {k : Nat} {a : Nat × (Nat → Int32)} (hf : am_ia h k = some a) : h[k]? = some (.inl (a.1, .inl a.2)) := by
  unfold am_ia at hf
  split at hf
  · next n f ho => cases hf; exact ho
  · cases hf
theorem am_la_spec {h : am_H} {k : Nat} {a : Nat × (Nat → Int64)} (hf : am_la h k = some a) : h[k]? = some (.inl (a.1, .inr (.inl a.2))) := by
  unfold am_la at hf
  split at hf
  · next n f ho => cases hf; exact ho
  · cases hf
theorem am_is_spec {h : am_H} {k ci : Nat} (hf : am_is h k ci) : ∃ fs, h[k]? = some (.inr (ci, fs)) := by
  unfold am_is at hf
  split at hf
  · next o ho => exact ⟨o.2, by rw [ho, ← hf]⟩
  · exact hf.elim
section AMH
variable {p : Program} {l : Launch} {e : Env} {R : Room} {s : State} {m : MethodId} {args : Array Value} {below : List Frame} {meth : Method} {c : Code} {cc : ByteArray} {D : am_D} {al : Bool} {nL : Nat} {own : String} {h0 : am_H} {Qf : State → Prop} {pc : Nat} {K : am_K}
theorem am_hD (X : am_X p R s m args meth c cc D al nL own h0) {h : am_H} {H : Heap} {locs : List Loc} {cells slots : Nat} (hw : am_Wd R D al h0 s h H locs cells slots) : va_D (am_A al D.2.2.2.2 h0.length) (am_w D h) := by
  obtain ⟨h1, h2, h3, h4, h5, h6, h7⟩ := hw
  refine am_w_D X.2.2.2.1 (by have := X.2.2.2.2.1; omega) (fun k hk => ⟨by omega, ?_⟩)
  cases al with
  | true => exact Or.inl rfl
  | false => exact Or.inr (by have := (h6 rfl).1; omega)
theorem am_Wd.set (X : am_X p R s m args meth c cc D al nL own h0) {h : am_H} {H H1 : Heap} {locs locs1 : List Loc} {cells slots k : Nat} {x y : am_C} (hw : am_Wd R D al h0 s h H locs cells slots) (hk : h[k]? = some x) (hs : am_sz y = am_sz x) (hz : H1.size = H.size)
    (hP : va_P D.1 vwCl ((am_w D h).set k (D.2.2.1 k, am_e D y)) H1) (hS : va_S (am_A al D.2.2.2.2 h0.length) s.heap H1 locs1) : am_Wd R D al h0 s (h.set k y) H1 locs1 cells slots := by
  obtain ⟨h1, h2, h3, h4, h5, h6, h7⟩ := hw
  exact ⟨by rw [am_w_set]; exact hP, hS, by rw [hz]; exact h3, by rw [List.length_set]; exact h4, by rw [am_szs_set hk hs]; exact h5, h6, h7⟩
theorem as_get (X : am_X p R s m args meth c cc D al nL own h0) {ix ci j N : Nat} {C : String} {T : u_T} {ty : Nat → FieldType} (F : am_fc ci C T N ty) (hd : decode cc pc = .ok (.getfield ix, 3)) (hj : j < N) (hm : Cond.fieldLink own ix (T j).1 (T j).2.1 (T j).2.2.1 ∈ am_gw) (hk : am_N (am_G p l e R s m args below meth c D al nL h0 Qf) (pc + 3) K) : am_N (am_G p l e R s m args below meth c D al nL h0 Qf) pc (ak_get ci j K) := by
  intro lo stk h hK H locs cells slots ls hl hw
  unfold ak_get at hK
  split at hK
  · next k r =>
    split at hK
    · next v hv =>
      obtain ⟨fs, f1, f2⟩ := am_fld_spec hv
      exact va_get X.1.1 X.1.2.1 X.1.2.2.2.2 F.2.1 X.1.2.2.2.1 X.2.1 hw.1 k (am_w_at f1) F.1 j hj (X.1.2.2.2.2 _ hm) (fun _ q => q) (v := am_tr D v) (by rw [List.getElem?_map, f2]; rfl) hd (hk _ _ _ hK H locs cells slots ls hl hw)
    · exact hK.elim
  · exact hK.elim
theorem as_putw (X : am_X p R s m args meth c cc D al nL own h0) {ix ci j N : Nat} {C : String} {T : u_T} {ty : Nat → FieldType} (F : am_fc ci C T N ty) (hd : decode cc pc = .ok (.putfield ix, 3)) (hj : j < N) (hm : Cond.fieldLink own ix (T j).1 (T j).2.1 (T j).2.2.1 ∈ am_gw) (hfin : (T j).2.2.2 = false ∨ ((T j).2.2.2 = true ∧ meth.name = "<init>" ∧ (T j).1 = own))
    {lo : am_L} {r : List Value} {h h' : am_H} {H : Heap} {locs : List Loc} {cells slots : Nat} {ls : Array Slot} {k : Nat} {v : Value} (hn : narrow (ty j) (am_tr D v) = am_tr D v) (hfit : fits (ty j) (am_tr D v) = true) (hp : am_put h k ci j v = some h') (hw : am_Wd R D al h0 s h H locs cells slots)
    (hk : ∀ H1 locs1, am_Wd R D al h0 s h' H1 locs1 cells slots → W p l e R s m args below meth c H1 locs1 cells slots Qf (F0 m (pc + 3) ls (r.map (am_tr D)))) : W p l e R s m args below meth c H locs cells slots Qf (F0 m pc ls (am_tr D v :: .ref (D.2.2.1 k) :: r.map (am_tr D))) := by
  obtain ⟨fs, f1, f2, rfl⟩ := am_put_spec hp
  have he := am_w_at (D := D) f1
  have hset : am_e D (.inr (ci, fs.set j v)) = .inr (ci, (fs.map (am_tr D)).set j (am_tr D v)) := by simp [am_e, List.map_set]
  have hls : j < (fs.map (am_tr D)).length := by simpa using f2
  have fin : ∀ (H1 : Heap) (locs1 : List Loc), H1.size = H.size → va_P D.1 vwCl ((am_w D h).set k (D.2.2.1 k, .inr (ci, (fs.map (am_tr D)).set j (am_tr D v)))) H1 → va_S (am_A al D.2.2.2.2 h0.length) s.heap H1 locs1 → W p l e R s m args below meth c H1 locs1 cells slots Qf (F0 m (pc + 3) ls (r.map (am_tr D))) := by
    intro H1 locs1 hz hP hS
    exact hk H1 locs1 (am_Wd.set X hw f1 (by simp [am_sz]) hz (by rw [hset]; exact hP) hS)
  obtain ⟨r9, h19, cell, q1, q2, q3, q4⟩ := hw.1 k _ he
  have hr : r9 = (C, T, N) := Option.some.inj (h19.symm.trans F.1)
  subst hr
  have hap := va_apart (own := own) X.1.2.2.2.2 F.2.1 ty F.2.2.1 F.2.2.2 X.2.1 F.1
  obtain ⟨hS, hfc, kC, hkC, hkind⟩ := X.2.1.1 ci _ F.1
  obtain ⟨cf, kf, fi, f, hi, hsl⟩ := hS j hj
  have hlay := X.1.2.2.2.2 _ (F.2.1 _ (u_in_lay hj))
  unfold u_lay at hlay
  have hst := (u_facts hfc hkC (u_lays X.1.2.2.2.2 F.2.1 hj) hi).1
  rcases hfin with hfin | ⟨hfin, hin2, hdecl⟩
  · rw [if_neg (by rw [hfin]; decide)] at hlay
    have h6 := u_store hfc hkC hkind hlay hi (F.2.2.1 j hj) hn hfit
    refine W.putK X.1.1 X.1.2.1 (f := f) ⟨X.1.2.2.2.1, X.1.2.2.2.2 _ hm, ⟨_, _, _, hi⟩, hst⟩ (by rw [q2]; exact h6) q1 q3 (by rw [hsl]; exact k2_hasslot (q4 j hj)) rfl rfl hd fun H' e1 e2 e3 => ?_
    rw [hsl] at e1 ⊢
    exact fin H' _ e2 (hw.1.set (am_hD X hw) he ⟨_, F.1, t_OB.to (V := updV (vp_V (fs.map (am_tr D))) j (am_tr D v)) ⟨_, e1, q2, q3, t_set q4 hap hj (am_tr D v)⟩ (fun i _ => vp_updV_set hls (am_tr D v) i)⟩ e3) (hw.2.1.put e2 e3 ((am_hD X hw).2 k _ he))
  · rw [if_pos hfin] at hlay
    have hcf : m.cls = cf := by
      obtain ⟨_, _, c', _, _, _, -, -, hf', -, -, -, hown2, -⟩ := Cond.laysFinal_spec hlay
      have e1 : c' = cf := by have := hi.symm.trans hf'; simp at this; exact this.1.symm
      rw [hdecl] at hown2
      rw [← e1]; exact Option.some.inj (X.1.2.2.2.1.symm.trans hown2)
    have h6 := u_fits hfc hkC hkind (Or.inr hlay) hi (F.2.2.1 j hj) hn hfit
    refine W.putFinK X.1.1 X.1.2.1 X.1.2.2.2.1 (X.1.2.2.2.2 _ hm) hi hst hcf hin2 (by rw [q2]; exact h6) q1 q3 (by rw [hsl]; exact k2_hasslot (q4 j hj)) rfl rfl hd fun H' e1 e2 e3 => ?_
    rw [hsl] at e1 ⊢
    exact fin H' _ e2 (hw.1.set (am_hD X hw) he ⟨_, F.1, t_OB.to (V := updV (vp_V (fs.map (am_tr D))) j (am_tr D v)) ⟨_, e1, q2, q3, t_set q4 hap hj (am_tr D v)⟩ (fun i _ => vp_updV_set hls (am_tr D v) i)⟩ e3) (hw.2.1.put e2 e3 ((am_hD X hw).2 k _ he))
theorem as_puti (X : am_X p R s m args meth c cc D al nL own h0) {ix ci j N : Nat} {C : String} {T : u_T} {ty : Nat → FieldType} (F : am_fc ci C T N ty) (hd : decode cc pc = .ok (.putfield ix, 3)) (hj : j < N) (hm : Cond.fieldLink own ix (T j).1 (T j).2.1 (T j).2.2.1 ∈ am_gw) (hfin : (T j).2.2.2 = false ∨ ((T j).2.2.2 = true ∧ meth.name = "<init>" ∧ (T j).1 = own)) (ht : ty j = .int) (hk : am_N (am_G p l e R s m args below meth c D al nL h0 Qf) (pc + 3) K) : am_N (am_G p l e R s m args below meth c D al nL h0 Qf) pc (ak_puti ci j K) := by
  intro lo stk h hK H locs cells slots ls hl hw
  unfold ak_puti at hK
  split at hK
  · next x k r =>
    split at hK
    · next h' hp => exact as_putw (lo := lo) X F hd hj hm hfin (v := .int x) (by rw [ht]; rfl) (by rw [ht]; rfl) hp hw (fun H1 locs1 hw1 => hk _ _ _ hK H1 locs1 cells slots ls hl hw1)
    · exact hK.elim
  · exact hK.elim
theorem as_putz (X : am_X p R s m args meth c cc D al nL own h0) {ix ci j N : Nat} {C : String} {T : u_T} {ty : Nat → FieldType} (F : am_fc ci C T N ty) (hd : decode cc pc = .ok (.putfield ix, 3)) (hj : j < N) (hm : Cond.fieldLink own ix (T j).1 (T j).2.1 (T j).2.2.1 ∈ am_gw) (hfin : (T j).2.2.2 = false ∨ ((T j).2.2.2 = true ∧ meth.name = "<init>" ∧ (T j).1 = own)) (ht : ty j = .boolean) (hk : am_N (am_G p l e R s m args below meth c D al nL h0 Qf) (pc + 3) K) : am_N (am_G p l e R s m args below meth c D al nL h0 Qf) pc (ak_putz ci j K) := by
  intro lo stk h hK H locs cells slots ls hl hw
  unfold ak_putz at hK
  split at hK
  · next x k r =>
    obtain ⟨hx, hK⟩ := hK
    split at hK
    · next h' hp => exact as_putw (lo := lo) X F hd hj hm hfin (v := .int x) (by rw [ht]; rcases hx with rfl | rfl <;> rfl) (by rw [ht]; rcases hx with rfl | rfl <;> rfl) hp hw (fun H1 locs1 hw1 => hk _ _ _ hK H1 locs1 cells slots ls hl hw1)
    · exact hK.elim
  · exact hK.elim
theorem as_putl (X : am_X p R s m args meth c cc D al nL own h0) {ix ci j N : Nat} {C : String} {T : u_T} {ty : Nat → FieldType} (F : am_fc ci C T N ty) (hd : decode cc pc = .ok (.putfield ix, 3)) (hj : j < N) (hm : Cond.fieldLink own ix (T j).1 (T j).2.1 (T j).2.2.1 ∈ am_gw) (hfin : (T j).2.2.2 = false ∨ ((T j).2.2.2 = true ∧ meth.name = "<init>" ∧ (T j).1 = own)) (ht : ty j = .long) (hk : am_N (am_G p l e R s m args below meth c D al nL h0 Qf) (pc + 3) K) : am_N (am_G p l e R s m args below meth c D al nL h0 Qf) pc (ak_putl ci j K) := by
  intro lo stk h hK H locs cells slots ls hl hw
  unfold ak_putl at hK
  split at hK
  · next x k r =>
    split at hK
    · next h' hp => exact as_putw (lo := lo) X F hd hj hm hfin (v := .long x) (by rw [ht]; rfl) (by rw [ht]; rfl) hp hw (fun H1 locs1 hw1 => hk _ _ _ hK H1 locs1 cells slots ls hl hw1)
    · exact hK.elim
  · exact hK.elim
theorem as_puta (X : am_X p R s m args meth c cc D al nL own h0) {ix ci j N : Nat} {C : String} {T : u_T} {ty : Nat → FieldType} (F : am_fc ci C T N ty) (hd : decode cc pc = .ok (.putfield ix, 3)) (hj : j < N) (hm : Cond.fieldLink own ix (T j).1 (T j).2.1 (T j).2.2.1 ∈ am_gw) (hfin : (T j).2.2.2 = false ∨ ((T j).2.2.2 = true ∧ meth.name = "<init>" ∧ (T j).1 = own)) (ht : (∃ t, ty j = .array t) ∨ ∃ t, ty j = .object t) (hk : am_N (am_G p l e R s m args below meth c D al nL h0 Qf) (pc + 3) K) : am_N (am_G p l e R s m args below meth c D al nL h0 Qf) pc (ak_puta ci j K) := by
  intro lo stk h hK H locs cells slots ls hl hw
  unfold ak_puta at hK
  split at hK
  · next x k r =>
    split at hK
    · next h' hp => exact as_putw (lo := lo) X F hd hj hm hfin (v := .ref x) (by rcases ht with ⟨t, ht⟩ | ⟨t, ht⟩ <;> rw [ht] <;> rfl) (by rcases ht with ⟨t, ht⟩ | ⟨t, ht⟩ <;> rw [ht] <;> rfl) hp hw (fun H1 locs1 hw1 => hk _ _ _ hK H1 locs1 cells slots ls hl hw1)
    · exact hK.elim
  · exact hK.elim
theorem as_iaload (X : am_X p R s m args meth c cc D al nL own h0) (hd : decode cc pc = .ok (.iaload, 1)) (hk : am_N (am_G p l e R s m args below meth c D al nL h0 Qf) (pc + 1) K) : am_N (am_G p l e R s m args below meth c D al nL h0 Qf) pc (ak_iald K) := by
  intro lo stk h hK H locs cells slots ls hl hw
  unfold ak_iald at hK
  split at hK
  · next i k r =>
    split at hK
    · next a ha => exact va_iald X.1.1 X.1.2.1 X.2.1 hw.1 k 0 (am_w_at (am_ia_spec ha)) rfl hK.1 hd (hk _ _ _ hK.2 H locs cells slots ls hl hw)
    · exact hK.elim
  · exact hK.elim
theorem as_laload (X : am_X p R s m args meth c cc D al nL own h0) (hd : decode cc pc = .ok (.laload, 1)) (hk : am_N (am_G p l e R s m args below meth c D al nL h0 Qf) (pc + 1) K) : am_N (am_G p l e R s m args below meth c D al nL h0 Qf) pc (ak_lald K) := by
  intro lo stk h hK H locs cells slots ls hl hw
  unfold ak_lald at hK
  split at hK
  · next i k r =>
    split at hK
    · next a ha => exact va_lald X.1.1 X.1.2.1 X.2.1 hw.1 k 1 (am_w_at (am_la_spec ha)) rfl hK.1 hd (hk _ _ _ hK.2 H locs cells slots ls hl hw)
    · exact hK.elim
  · exact hK.elim
theorem as_arraylength (X : am_X p R s m args meth c cc D al nL own h0) (hd : decode cc pc = .ok (.arraylength, 1)) (hk : am_N (am_G p l e R s m args below meth c D al nL h0 Qf) (pc + 1) K) : am_N (am_G p l e R s m args below meth c D al nL h0 Qf) pc (ak_alen K) := by
  intro lo stk h hK H locs cells slots ls hl hw
  unfold ak_alen at hK
  split at hK
  · next k r =>
    split at hK
    · next n hn =>
      unfold am_len at hn
      split at hn
      · next n' f ho =>
        cases hn
        exact va_alen X.1.1 X.1.2.1 X.2.1 hw.1 k 0 (am_w_at ho) rfl rfl hd (hk _ _ _ hK H locs cells slots ls hl hw)
      · next n' f ho =>
        cases hn
        exact va_alen X.1.1 X.1.2.1 X.2.1 hw.1 k 1 (am_w_at ho) rfl rfl hd (hk _ _ _ hK H locs cells slots ls hl hw)
      · cases hn
    · exact hK.elim
  · exact hK.elim
theorem as_iastore (X : am_X p R s m args meth c cc D al nL own h0) (hd : decode cc pc = .ok (.iastore, 1)) (hk : am_N (am_G p l e R s m args below meth c D al nL h0 Qf) (pc + 1) K) : am_N (am_G p l e R s m args below meth c D al nL h0 Qf) pc (ak_iast K) := by
  intro lo stk h hK H locs cells slots ls hl hw
  unfold ak_iast at hK
  split at hK
  · next x i k r =>
    split at hK
    · next a ha =>
      have ho := am_ia_spec ha
      have he := am_w_at (D := D) ho
      refine W.iast X.1.1 X.1.2.1 (hw.1 k _ he) ((X.2.1.2 0 _ rfl).1 a.1 (fun j => .int (a.2 j))) (fun q => by cases q) (by show ¬ (i < 0 ∨ (arrV _ _ _).slots.size ≤ _); rw [arrV_size]; exact hK.1) rfl rfl hd fun H1 e9 z oq => ?_
      refine hk _ _ _ hK.2 H1 _ cells slots ls hl (am_Wd.set X hw ho rfl z (hw.1.set (am_hD X hw) he ?_ oq) (hw.2.1.put z oq ((am_hD X hw).2 k _ he)))
      show H1[D.2.2.1 k]? = some (vp_cell _ _)
      rw [e9]
      rw [vp_cell_i, vp_cell_i, arrV_store]
      congr 2
      funext q
      by_cases hq : q = i.toNatClampNeg
      · subst hq; simp [updV, upd]
      · simp [updV, upd, hq]
    · exact hK.elim
  · exact hK.elim
theorem as_lastore (X : am_X p R s m args meth c cc D al nL own h0) (hd : decode cc pc = .ok (.lastore, 1)) (hk : am_N (am_G p l e R s m args below meth c D al nL h0 Qf) (pc + 1) K) : am_N (am_G p l e R s m args below meth c D al nL h0 Qf) pc (ak_last K) := by
  intro lo stk h hK H locs cells slots ls hl hw
  unfold ak_last at hK
  split at hK
  · next x i k r =>
    split at hK
    · next a ha =>
      have ho := am_la_spec ha
      have he := am_w_at (D := D) ho
      refine W.last X.1.1 X.1.2.1 (hw.1 k _ he) ((X.2.1.2 1 _ rfl).1 a.1 (fun j => .long (a.2 j))) (fun q => by cases q) (by show ¬ (i < 0 ∨ (arrV _ _ _).slots.size ≤ _); rw [arrV_size]; exact hK.1) rfl rfl hd fun H1 e9 z oq => ?_
      refine hk _ _ _ hK.2 H1 _ cells slots ls hl (am_Wd.set X hw ho rfl z (hw.1.set (am_hD X hw) he ?_ oq) (hw.2.1.put z oq ((am_hD X hw).2 k _ he)))
      show H1[D.2.2.1 k]? = some (vp_cell _ _)
      rw [e9]
      rw [vp_cell_l, vp_cell_l, arrV_store]
      congr 2
      funext q
      by_cases hq : q = i.toNatClampNeg
      · subst hq; simp [updV, vp_updL]
      · simp [updV, vp_updL, hq]
    · exact hK.elim
  · exact hK.elim
/-! ends -/
theorem am_fin {Q : am_Q} (hQ : (al = true → ∀ r h', Q r h' → h'.length = h0.length + R.cells ∧ am_szs h' = am_szs h0 + R.slots) ∧ (al = false → R.cells = 0 ∧ R.slots = 0)) {r : Option Value} {h : am_H} (hq : Q r h) {H : Heap} {locs : List Loc} {cells slots : Nat} (hw : am_Wd R D al h0 s h H locs cells slots) :
    cells = R.cells ∧ slots = R.slots ∧ ∀ t : State, t.heap = H → am_Qc al D h0 R.cells R.slots Q args s (.returned (r.map (am_tr D))) t := by
  obtain ⟨h1, h2, h3, h4, h5, h6, h7⟩ := hw
  have key : cells = R.cells ∧ slots = R.slots := by
    cases al with
    | true => have := hQ.1 rfl r h hq; omega
    | false => have := hQ.2 rfl; have := h6 rfl; omega
  refine ⟨key.1, key.2, fun t ht => ⟨⟨r, h, rfl, hq, by rw [ht]; exact h1, by rw [ht]; omega, by omega, by omega⟩, h2.F ht⟩⟩
theorem as_ri (X : am_X p R s m args meth c cc D al nL own h0) {Q : am_Q} (hQ : (al = true → ∀ r h', Q r h' → h'.length = h0.length + R.cells ∧ am_szs h' = am_szs h0 + R.slots) ∧ (al = false → R.cells = 0 ∧ R.slots = 0)) (hr : meth.sig.returnType = some .int) (hd : decode cc pc = .ok (.ireturn, 1)) :
    am_N (am_G p l e R s m args below meth c D al nL h0 (MQ below (am_Qc al D h0 R.cells R.slots Q) args s R.cells R.slots (am_A al D.2.2.2.2 h0.length))) pc (ak_ri Q) := by
  intro lo stk h hK H locs cells slots ls hl hw
  unfold ak_ri at hK
  split at hK
  · next x =>
    obtain ⟨e1, e2, hf⟩ := am_fin (args := args) hQ hK hw
    rw [e1, e2]
    exact W.iret (v := x) X.1.1 X.1.2.1 hr (fun t ht _ => hf t ht) hw.2.1.2.2 hd (hlocks := X.2.2.2.2.2.2)
  · exact hK.elim
theorem as_rz (X : am_X p R s m args meth c cc D al nL own h0) {Q : am_Q} (hQ : (al = true → ∀ r h', Q r h' → h'.length = h0.length + R.cells ∧ am_szs h' = am_szs h0 + R.slots) ∧ (al = false → R.cells = 0 ∧ R.slots = 0)) (hr : meth.sig.returnType = some .boolean) (hd : decode cc pc = .ok (.ireturn, 1)) :
    am_N (am_G p l e R s m args below meth c D al nL h0 (MQ below (am_Qc al D h0 R.cells R.slots Q) args s R.cells R.slots (am_A al D.2.2.2.2 h0.length))) pc (ak_rz Q) := by
  intro lo stk h hK H locs cells slots ls hl hw
  unfold ak_rz at hK
  split at hK
  · next x =>
    obtain ⟨e1, e2, hf⟩ := am_fin (args := args) hQ hK.2 hw
    rw [e1, e2]
    exact W.zret (v := x) X.1.1 X.1.2.1 hr (by rcases hK.1 with rfl | rfl <;> rfl) (fun t ht _ => hf t ht) hw.2.1.2.2 hd (hlocks := X.2.2.2.2.2.2)
  · exact hK.elim
theorem as_rl (X : am_X p R s m args meth c cc D al nL own h0) {Q : am_Q} (hQ : (al = true → ∀ r h', Q r h' → h'.length = h0.length + R.cells ∧ am_szs h' = am_szs h0 + R.slots) ∧ (al = false → R.cells = 0 ∧ R.slots = 0)) (hr : meth.sig.returnType = some .long) (hd : decode cc pc = .ok (.lreturn, 1)) :
    am_N (am_G p l e R s m args below meth c D al nL h0 (MQ below (am_Qc al D h0 R.cells R.slots Q) args s R.cells R.slots (am_A al D.2.2.2.2 h0.length))) pc (ak_rl Q) := by
  intro lo stk h hK H locs cells slots ls hl hw
  unfold ak_rl at hK
  split at hK
  · next x =>
    obtain ⟨e1, e2, hf⟩ := am_fin (args := args) hQ hK hw
    rw [e1, e2]
    exact W.lret (v := x) X.1.1 X.1.2.1 hr (fun t ht _ => hf t ht) hw.2.1.2.2 hd (hlocks := X.2.2.2.2.2.2)
  · exact hK.elim
theorem as_rv (X : am_X p R s m args meth c cc D al nL own h0) {Q : am_Q} (hQ : (al = true → ∀ r h', Q r h' → h'.length = h0.length + R.cells ∧ am_szs h' = am_szs h0 + R.slots) ∧ (al = false → R.cells = 0 ∧ R.slots = 0)) (hr : meth.sig.returnType = none) (hd : decode cc pc = .ok (.return_, 1)) :
    am_N (am_G p l e R s m args below meth c D al nL h0 (MQ below (am_Qc al D h0 R.cells R.slots Q) args s R.cells R.slots (am_A al D.2.2.2.2 h0.length))) pc (ak_rv Q) := by
  intro lo stk h hK H locs cells slots ls hl hw
  unfold ak_rv at hK
  split at hK
  · obtain ⟨e1, e2, hf⟩ := am_fin (args := args) hQ hK hw
    rw [e1, e2]
    exact W.vret X.1.1 X.1.2.1 hr (fun t ht _ => hf t ht) hw.2.1.2.2 hd (hlocks := X.2.2.2.2.2.2)
  · exact hK.elim
/-! calls -/
theorem am_blind (al : Bool) (D : am_D) (av : List Value) (h : am_H) : FrameBlind (am_Pc al D av h) := by
  intro a U g mk q
  obtain ⟨q0, qP, qK, qE, qs⟩ := q
  exact ⟨q0, qP, va_K.moved (u := U) (U := U.calling g mk a) (Vm.Alike.refl U.vm) qK, qE.mv (U' := U.calling g mk a) (State.WarmedH.refl U) (Nat.le_refl _) (fun _ _ => rfl), qs⟩
theorem am_pre (X : am_X p R s m args meth c cc D al nL own h0) {h : am_H} {H : Heap} {locs : List Loc} {cells slots : Nat} (hw : am_Wd R D al h0 s h H locs cells slots) (al2 : Bool) (hal : al2 = true → al = true) (av : List Value) : ∀ U : State, U.heap = H → s.WarmedH U.vm → am_Pc al2 D av h (av.map (am_tr D)).toArray U := by
  intro U hU hW
  obtain ⟨h1, h2, h3, h4, h5, h6, h7⟩ := hw
  refine ⟨rfl, by rw [hU]; exact h1, va_K.moved hW.alike X.2.1, X.2.2.1.mv hW (by rw [hU]; exact h2.1) (fun a ha => ?_), fun q => by rw [hU]; have := X.2.2.2.2.2.1 (hal q); omega⟩
  rw [hU]
  refine h2.2.1 a (Nat.lt_of_lt_of_le ha X.2.2.1.1) (fun hA => ?_)
  have := hA.1
  have := X.2.2.2.1.1
  omega
theorem am_pu_map (D : am_D) (r : Option Value) (rest : List Value) : (r.map (am_tr D)).toList ++ rest.map (am_tr D) = (am_pu r rest).map (am_tr D) := by cases r <;> rfl
/-- behind a call -/
theorem am_back (X : am_X p R s m args meth c cc D al nL own h0) {h : am_H} {H : Heap} {locs : List Loc} {cells slots mc ms : Nat} (hw : am_Wd R D al h0 s h H locs cells slots) {al2 : Bool} (hal : al2 = true → al = true) (hz : al2 = false → mc = 0 ∧ ms = 0) (hcm : cells + mc ≤ R.cells ∧ slots + ms ≤ R.slots) {Q : am_Q} {av : Array Value} {ls : Array Slot} {st0 rest : List Value}
    (hr : va_Run p l e R s m args below meth c H locs cells slots mc ms (F0 m pc ls st0) (rest.map (am_tr D)) (am_Qc al2 D h mc ms Q av) (am_A al2 D.2.2.2.2 h.length))
    (kk : ∀ (r : Option Value) (h' : am_H) (H1 : Heap) (locs1 : List Loc) (cells1 slots1 : Nat), Q r h' → am_Wd R D al h0 s h' H1 locs1 cells1 slots1 → W p l e R s m args below meth c H1 locs1 cells1 slots1 Qf (F0 m (pc + 3) ls ((am_pu r rest).map (am_tr D)))) :
    W p l e R s m args below meth c H locs cells slots Qf (F0 m pc ls st0) := by
  intro T hT X0
  obtain ⟨v, st₀, t, T', L, e0, X', hL, e1, e2, ⟨⟨r, h', hv, hQ, hP', hsz, hlen, hss⟩, hF1, hF2⟩, st⟩ := hr T hT X0
  cases hv
  obtain ⟨h1, h2, h3, h4, h5, h6, h7⟩ := hw
  rw [e0] at hF1 hF2
  have hAA : ∀ q, q < H.size → am_A al2 D.2.2.2.2 h.length q → am_A al D.2.2.2.2 h0.length q := by
    intro q hq hA
    refine ⟨hA.1, ?_⟩
    cases al with
    | true => exact Or.inl rfl
    | false =>
      rcases hA.2 with hz | hz
      · exact absurd (hal hz) (by decide)
      · exact Or.inr (by have := (h6 rfl).1; omega)
  have hAL : ∀ q, am_A al2 D.2.2.2.2 h.length q → am_A al D.2.2.2.2 h0.length q := by
    intro q hA
    refine ⟨hA.1, ?_⟩
    cases al with
    | true => exact Or.inl rfl
    | false =>
      rcases hA.2 with hz | hz
      · exact absurd (hal hz) (by decide)
      · exact Or.inr (by have := (h6 rfl).1; omega)
  have hw' : am_Wd R D al h0 s h' T'.heap (locs ++ L) (cells + mc) (slots + ms) := by
    refine ⟨by rw [e1]; exact hP', ⟨Nat.le_trans h2.1 (by rw [e1]; exact hF1), fun q q1 q2 => ?_, fun q hq => ?_⟩, by rw [e1]; rw [e0] at hsz; omega, by omega, by omega, fun q => ?_, hcm⟩
    · rw [e1, hF2 q (Nat.lt_of_lt_of_le q1 h2.1) (fun z => q2 (hAA q (Nat.lt_of_lt_of_le q1 h2.1) z))]
      exact h2.2.1 q q1 q2
    · rcases List.mem_append.mp hq with hq | hq
      · exact h2.2.2 q hq
      · exact hAL _ (hL q hq)
    · have := h6 q
      cases al2 with
      | true => exact absurd (hal rfl) (by rw [q]; decide)
      | false => have := hz rfl; omega
  obtain ⟨t2, a1, b1⟩ := kk r h' T'.heap (locs ++ L) (cells + mc) (slots + ms) hQ hw' T' rfl X'
  refine ⟨t2, st t2 ?_, b1⟩
  show Steps p.tables e below (T'.setTop (F0 m (pc + 3) ls ((r.map (am_tr D)).toList ++ rest.map (am_tr D)))) t2
  rw [am_pu_map]
  exact a1
/-- the words of a call, the callee's own among them -/
theorem am_wsub {y : MethodName} {bytes : ByteArray} {maxL : Nat} {ret : Option FieldType} (hc : Cond.code y bytes maxL ret ∈ am_gw) {pre : List Cond} (hp : ∀ w ∈ pre, w ∈ am_gw) : GoodIn am_gw (pre ++ am_ws y bytes maxL ret) := by
  refine am_gi fun w hw => ?_
  rcases List.mem_append.mp hw with h | h
  · exact hp w h
  · rcases List.mem_cons.mp h with h | h
    · rw [h]; exact hc
    · exact h
abbrev am_dn (y : MethodName) (n : Nat) : Prop := y.cls ≠ "java/lang/invoke/MethodHandle" ∧ y.cls ≠ "java/lang/invoke/VarHandle" ∧ (parseMethodDescriptor y.desc).map (fun d => d.parameters.length) = some n
theorem am_sp_map {D : am_D} {n : Nat} {stk : List Value} {q : List Value × List Value} (h : am_sp n stk [] = some q) : q.1.length = n ∧ stk.map (am_tr D) = (q.1.map (am_tr D)).reverse ++ q.2.map (am_tr D) := by
  obtain ⟨t, h1, h2, h3⟩ := am_sp_spec n stk [] q h
  simp at h2
  subst h2
  exact ⟨h1, by rw [h3]; simp⟩
theorem as_cs (X : am_X p R s m args meth c cc D al nL own h0) {ix n maxL : Nat} {y : MethodName} {bytes : ByteArray} {ret : Option FieldType} {rm : Room} {C : am_T} (hS : am_S false y (am_ws y bytes maxL ret) rm C) (hd : decode cc pc = .ok (.invokestatic ix, 3)) (hy : am_dn y n)
    (hm : Cond.methodLink own ix y ∈ am_gw) (hst : Cond.static y ∈ am_gw) (hini : Cond.initialized y.cls ∈ am_gw) (hc : Cond.code y bytes maxL ret ∈ am_gw) (hR : rm.frames + 1 ≤ R.frames ∧ 8 + (maxL + 11) + rm.locals ≤ R.locals)
    (hk : am_N (am_G p l e R s m args below meth c D al nL h0 Qf) (pc + 3) K) : am_N (am_G p l e R s m args below meth c D al nL h0 Qf) pc (ak_cs n C K) := by
  intro lo stk h hK H locs cells slots ls hl hw
  unfold ak_cs at hK
  split at hK
  · next q hq =>
    obtain ⟨a1, a2⟩ := am_sp_map (D := D) hq
    have z := hS.1 rfl
    have hlen : h.length ≤ 1000 := by have := X.2.2.2.2.1; have := hw.2.2.2.1; have := hw.2.2.2.2.2.2; omega
    have hM := hS.2 l D X.2.2.2.1 q.1 h _ (by omega) hK.2 (fun q => by cases q)
    have cw := va_cwS (R := R) (s := s) (args := args) (own := own) (index := ix) (rm := rm) n X.1.2.2.2.2 (ws := am_ws y bytes maxL ret) (am_wsub hc (pre := [.methodLink own ix y, .static y, .initialized y.cls]) (fun w hw => by
      simp only [List.mem_cons, List.not_mem_nil, or_false] at hw
      rcases hw with rfl | rfl | rfl
      · exact hm
      · exact hst
      · exact hini)) rfl rfl rfl hy hR
    have hcm : cells + rm.cells ≤ R.cells ∧ slots + rm.slots ≤ R.slots := by have := hw.2.2.2.2.2.2; omega
    exact am_back X hw (al2 := false) (fun q => by cases q) (fun _ => z) hcm (va_runS (As := q.1.map (am_tr D)) (rest := q.2.map (am_tr D)) (g := F0 m pc ls (stk.map (am_tr D))) X.1 hM cw ⟨am_blind false D q.1 h, am_pre X hw false (fun q => by cases q) q.1⟩ rfl (by simpa using a1) hl.1 a2 (by show 2 * 0 + _ ≤ 8; rw [am_rs_eq]; omega) hd hcm)
      (fun r h' H1 locs1 cells1 slots1 hQ hw1 => hk _ _ _ hQ H1 locs1 cells1 slots1 ls hl hw1)
  · exact hK.elim
theorem as_csN (X : am_X p R s m args meth c cc D al nL own h0) {ix n maxL : Nat} {y : MethodName} {host : String} {bytes : ByteArray} {ret : Option FieldType} {rm : Room} {C : am_T} (hS : am_S false y (am_ws y bytes maxL ret) rm C) (hd : decode cc pc = .ok (.invokestatic ix, 3)) (hy : am_dn y n)
    (hm : (own, ix, y, host) ∈ am_nest) (hst : Cond.static y ∈ am_gw) (hini : Cond.initialized y.cls ∈ am_gw) (hc : Cond.code y bytes maxL ret ∈ am_gw) (hR : rm.frames + 1 ≤ R.frames ∧ 8 + (maxL + 11) + rm.locals ≤ R.locals)
    (hk : am_N (am_G p l e R s m args below meth c D al nL h0 Qf) (pc + 3) K) : am_N (am_G p l e R s m args below meth c D al nL h0 Qf) pc (ak_cs n C K) := by
  intro lo stk h hK H locs cells slots ls hl hw
  unfold ak_cs at hK
  split at hK
  · next q hq =>
    obtain ⟨a1, a2⟩ := am_sp_map (D := D) hq
    have z := hS.1 rfl
    have hlen : h.length ≤ 1000 := by have := X.2.2.2.2.1; have := hw.2.2.2.1; have := hw.2.2.2.2.2.2; omega
    have hM := hS.2 l D X.2.2.2.1 q.1 h _ (by omega) hK.2 (fun q => by cases q)
    have cw := va_cnB (R := R) (s := s) (args := args) (own := own) (host := host) (index := ix) (rm := rm) n X.1.2.2.2.2 (ws := am_ws y bytes maxL ret) (am_wsub hc (pre := []) (fun w hw => by cases hw)) rfl rfl rfl (X.2.2.1.2.1 _ hm) (X.1.2.2.2.2 _ hini) hy hR
    have hcm : cells + rm.cells ≤ R.cells ∧ slots + rm.slots ≤ R.slots := by have := hw.2.2.2.2.2.2; omega
    exact am_back X hw (al2 := false) (fun q => by cases q) (fun _ => z) hcm (va_runSN (As := q.1.map (am_tr D)) (rest := q.2.map (am_tr D)) (g := F0 m pc ls (stk.map (am_tr D))) X.1 hM ⟨cw, X.1.2.2.2.2 _ hst, trivial⟩ ⟨am_blind false D q.1 h, am_pre X hw false (fun q => by cases q) q.1⟩ rfl (by simpa using a1) hl.1 a2 (by show 2 * 0 + _ ≤ 8; rw [am_rs_eq]; omega) hd hcm)
      (fun r h' H1 locs1 cells1 slots1 hQ hw1 => hk _ _ _ hQ H1 locs1 cells1 slots1 ls hl hw1)
  · exact hK.elim
theorem am_rcv (X : am_X p R s m args meth c cc D al nL own h0) {h : am_H} {H : Heap} {locs : List Loc} {cells slots k ci : Nat} (hw : am_Wd R D al h0 s h H locs cells slots) (hi : am_is h k ci) {Cn : String} {T : u_T} {N : Nat} (hc : vwCl[ci]? = some (Cn, T, N)) : ∃ cellB : Cell, H[D.2.2.1 k]? = some cellB ∧ cellB.vm.isStatics = false ∧ s.vm.findClass Cn = some cellB.cls := by
  obtain ⟨fs, hf⟩ := am_is_spec hi
  exact va_recv X.2.1 hw.1 hc (am_w_at (D := D) hf)
theorem as_cv (X : am_X p R s m args meth c cc D al nL own h0) {ix n ci maxL N : Nat} {y : MethodName} {T : u_T} {bytes : ByteArray} {ret : Option FieldType} {rm : Room} {C : am_T} (hS : am_S false y (am_ws y bytes maxL ret) rm C) (hci : vwCl[ci]? = some (y.cls, T, N)) (hd : decode cc pc = .ok (.invokevirtual ix, 3)) (hy : am_dn y n)
    (hm : Cond.methodLink own ix y ∈ am_gw) (hin : Cond.instanceMethod y ∈ am_gw) (hse : Cond.selects y.cls y y ∈ am_gw) (hini : Cond.initialized y.cls ∈ am_gw) (hc : Cond.code y bytes maxL ret ∈ am_gw) (hR : rm.frames + 1 ≤ R.frames ∧ 8 + (maxL + 11) + rm.locals ≤ R.locals)
    (hk : am_N (am_G p l e R s m args below meth c D al nL h0 Qf) (pc + 3) K) : am_N (am_G p l e R s m args below meth c D al nL h0 Qf) pc (ak_cv (n + 1) ci C K) := by
  intro lo stk h hK H locs cells slots ls hl hw
  unfold ak_cv at hK
  split at hK
  · next k av r hq =>
    obtain ⟨a1, a2⟩ := am_sp_map (D := D) hq
    have z := hS.1 rfl
    have hlen : h.length ≤ 1000 := by have := X.2.2.2.2.1; have := hw.2.2.2.1; have := hw.2.2.2.2.2.2; omega
    have hM := hS.2 l D X.2.2.2.1 (.ref k :: av) h _ (by omega) hK.2.2 (fun q => by cases q)
    have cw := cwV (R := R) (s := s) (args := args) (own := own) (C := y.cls) (index := ix) (rm := rm) n X.1.2.2.2.2 (ws := am_ws y bytes maxL ret) (am_wsub hc (pre := [.methodLink own ix y, .instanceMethod y, .selects y.cls y y, .initialized y.cls]) (fun w hw => by
      simp only [List.mem_cons, List.not_mem_nil, or_false] at hw
      rcases hw with rfl | rfl | rfl | rfl
      · exact hm
      · exact hin
      · exact hse
      · exact hini)) rfl rfl rfl ⟨rfl, hy⟩ hR
    have hcm : cells + rm.cells ≤ R.cells ∧ slots + rm.slots ≤ R.slots := by have := hw.2.2.2.2.2.2; omega
    exact am_back X hw (al2 := false) (fun q => by cases q) (fun _ => z) hcm (va_runV (b := D.2.2.1 k) (As := av.map (am_tr D)) (rest := r.map (am_tr D)) (g := F0 m pc ls (stk.map (am_tr D))) X.1 hM cw ⟨am_blind false D _ h, am_rcv X hw hK.1 hci, am_pre X hw false (fun q => by cases q) (.ref k :: av)⟩ rfl (by simpa using a1) hl.1 (by rw [a2]; simp [am_tr]) (by show 2 * 0 + _ ≤ 8; rw [am_rs_eq]; omega) hd hcm)
      (fun r h' H1 locs1 cells1 slots1 hQ hw1 => hk _ _ _ hQ H1 locs1 cells1 slots1 ls hl hw1)
  · exact hK.elim
theorem as_cvN (X : am_X p R s m args meth c cc D al nL own h0) {ix n ci maxL N : Nat} {y : MethodName} {host : String} {T : u_T} {bytes : ByteArray} {ret : Option FieldType} {rm : Room} {C : am_T} (hS : am_S false y (am_ws y bytes maxL ret) rm C) (hci : vwCl[ci]? = some (y.cls, T, N)) (hd : decode cc pc = .ok (.invokevirtual ix, 3)) (hy : am_dn y n)
    (hm : (own, ix, y, host) ∈ am_nest) (hin : Cond.instanceMethod y ∈ am_gw) (hse : Cond.selects y.cls y y ∈ am_gw) (hini : Cond.initialized y.cls ∈ am_gw) (hc : Cond.code y bytes maxL ret ∈ am_gw) (hR : rm.frames + 1 ≤ R.frames ∧ 8 + (maxL + 11) + rm.locals ≤ R.locals)
    (hk : am_N (am_G p l e R s m args below meth c D al nL h0 Qf) (pc + 3) K) : am_N (am_G p l e R s m args below meth c D al nL h0 Qf) pc (ak_cv (n + 1) ci C K) := by
  intro lo stk h hK H locs cells slots ls hl hw
  unfold ak_cv at hK
  split at hK
  · next k av r hq =>
    obtain ⟨a1, a2⟩ := am_sp_map (D := D) hq
    have z := hS.1 rfl
    have hlen : h.length ≤ 1000 := by have := X.2.2.2.2.1; have := hw.2.2.2.1; have := hw.2.2.2.2.2.2; omega
    have hM := hS.2 l D X.2.2.2.1 (.ref k :: av) h _ (by omega) hK.2.2 (fun q => by cases q)
    have cw := va_cnB (R := R) (s := s) (args := args) (own := own) (host := host) (index := ix) (rm := rm) n X.1.2.2.2.2 (ws := am_ws y bytes maxL ret) (am_wsub hc (pre := []) (fun w hw => by cases hw)) rfl rfl rfl (X.2.2.1.2.1 _ hm) (X.1.2.2.2.2 _ hini) hy hR
    have hcm : cells + rm.cells ≤ R.cells ∧ slots + rm.slots ≤ R.slots := by have := hw.2.2.2.2.2.2; omega
    exact am_back X hw (al2 := false) (fun q => by cases q) (fun _ => z) hcm (va_runVN (C := y.cls) (b := D.2.2.1 k) (As := av.map (am_tr D)) (rest := r.map (am_tr D)) (g := F0 m pc ls (stk.map (am_tr D))) X.1 hM ⟨cw, X.1.2.2.2.2 _ hin, X.1.2.2.2.2 _ hse⟩ ⟨am_blind false D _ h, am_rcv X hw hK.1 hci, am_pre X hw false (fun q => by cases q) (.ref k :: av)⟩ rfl (by simpa using a1) hl.1 (by rw [a2]; simp [am_tr]) (by show 2 * 0 + _ ≤ 8; rw [am_rs_eq]; omega) hd hcm)
      (fun r h' H1 locs1 cells1 slots1 hQ hw1 => hk _ _ _ hQ H1 locs1 cells1 slots1 ls hl hw1)
  · exact hK.elim
/-! constructors: al = true -/
theorem as_ci (X : am_X p R s m args meth c cc D true nL own h0) {ix n maxL : Nat} {y : MethodName} {bytes : ByteArray} {rm : Room} {C : am_T} (hS : am_S true y (am_ws y bytes maxL none) rm C) (hd : decode cc pc = .ok (.invokespecial ix, 3)) (hy : am_dn y n) (hnm : y.name = "<init>")
    (hm : Cond.methodLink own ix y ∈ am_gw) (hin : Cond.instanceMethod y ∈ am_gw) (hini : Cond.initialized y.cls ∈ am_gw) (hc : Cond.code y bytes maxL none ∈ am_gw) (hR : rm.frames + 1 ≤ R.frames ∧ 8 + (maxL + 11) + rm.locals ≤ R.locals)
    (hk : am_N (am_G p l e R s m args below meth c D true nL h0 Qf) (pc + 3) K) : am_N (am_G p l e R s m args below meth c D true nL h0 Qf) pc (ak_ci h0 R.cells R.slots (n + 1) rm.cells rm.slots C K) := by
  intro lo stk h hK H locs cells slots ls hl hw
  unfold ak_ci at hK
  split at hK
  · next k av r hq =>
    obtain ⟨a1, a2⟩ := am_sp_map (D := D) hq
    obtain ⟨k1, k2, k3, k4⟩ := hK
    have h4 := hw.2.2.2.1
    have h5 := hw.2.2.2.2.1
    have hM := hS.2 l D X.2.2.2.1 (.ref k :: av) h _ (by have := X.2.2.2.2.1; omega) k4 (fun _ r h' hq => hq.1)
    have cw := cwI (R := R) (s := s) (args := args) (own := own) (index := ix) (rm := rm) n X.1.2.2.2.2 (ws := am_ws y bytes maxL none) (am_wsub hc (pre := []) (fun w hw => by cases hw)) rfl rfl rfl (X.1.2.2.2.2 _ hini) (X.1.2.2.2.2 _ hm) (X.1.2.2.2.2 _ hin) hnm hy hR
    have hcm : cells + rm.cells ≤ R.cells ∧ slots + rm.slots ≤ R.slots := by omega
    exact am_back X hw (al2 := true) (fun _ => rfl) (fun q => by cases q) hcm (va_runI (b := D.2.2.1 k) (As := av.map (am_tr D)) (rest := r.map (am_tr D)) (g := F0 m pc ls (stk.map (am_tr D))) X.1 hM cw ⟨am_blind true D _ h, am_pre X hw true (fun _ => rfl) (.ref k :: av)⟩ rfl (by simpa using a1) hl.1 (by rw [a2]; simp [am_tr]) (by show 2 * 0 + _ ≤ 8; rw [am_rs_eq]; omega) hd hcm)
      (fun r h' H1 locs1 cells1 slots1 hQ hw1 => hk _ _ _ hQ.2 H1 locs1 cells1 slots1 ls hl hw1)
  · exact hK.elim
theorem as_ciN (X : am_X p R s m args meth c cc D true nL own h0) {ix n maxL : Nat} {y : MethodName} {host : String} {bytes : ByteArray} {rm : Room} {C : am_T} (hS : am_S true y (am_ws y bytes maxL none) rm C) (hd : decode cc pc = .ok (.invokespecial ix, 3)) (hy : am_dn y n) (hnm : y.name = "<init>")
    (hm : (own, ix, y, host) ∈ am_nest) (hin : Cond.instanceMethod y ∈ am_gw) (hini : Cond.initialized y.cls ∈ am_gw) (hc : Cond.code y bytes maxL none ∈ am_gw) (hR : rm.frames + 1 ≤ R.frames ∧ 8 + (maxL + 11) + rm.locals ≤ R.locals)
    (hk : am_N (am_G p l e R s m args below meth c D true nL h0 Qf) (pc + 3) K) : am_N (am_G p l e R s m args below meth c D true nL h0 Qf) pc (ak_ci h0 R.cells R.slots (n + 1) rm.cells rm.slots C K) := by
  intro lo stk h hK H locs cells slots ls hl hw
  unfold ak_ci at hK
  split at hK
  · next k av r hq =>
    obtain ⟨a1, a2⟩ := am_sp_map (D := D) hq
    obtain ⟨k1, k2, k3, k4⟩ := hK
    have h4 := hw.2.2.2.1
    have h5 := hw.2.2.2.2.1
    have hM := hS.2 l D X.2.2.2.1 (.ref k :: av) h _ (by have := X.2.2.2.2.1; omega) k4 (fun _ r h' hq => hq.1)
    have cw := va_cnB (R := R) (s := s) (args := args) (own := own) (host := host) (index := ix) (rm := rm) n X.1.2.2.2.2 (ws := am_ws y bytes maxL none) (am_wsub hc (pre := []) (fun w hw => by cases hw)) rfl rfl rfl (X.2.2.1.2.1 _ hm) (X.1.2.2.2.2 _ hini) hy hR
    have hcm : cells + rm.cells ≤ R.cells ∧ slots + rm.slots ≤ R.slots := by omega
    exact am_back X hw (al2 := true) (fun _ => rfl) (fun q => by cases q) hcm (va_runIN (b := D.2.2.1 k) (As := av.map (am_tr D)) (rest := r.map (am_tr D)) (g := F0 m pc ls (stk.map (am_tr D))) X.1 hM ⟨cw, hnm, X.1.2.2.2.2 _ hin⟩ ⟨am_blind true D _ h, am_pre X hw true (fun _ => rfl) (.ref k :: av)⟩ rfl (by simpa using a1) hl.1 (by rw [a2]; simp [am_tr]) (by show 2 * 0 + _ ≤ 8; rw [am_rs_eq]; omega) hd hcm)
      (fun r h' H1 locs1 cells1 slots1 hQ hw1 => hk _ _ _ hQ.2 H1 locs1 cells1 slots1 ls hl hw1)
  · exact hK.elim
theorem as_oi (X : am_X p R s m args meth c cc D al nL own h0) {ix : Nat} (hd : decode cc pc = .ok (.invokespecial ix, 3)) (hm : Cond.methodLink own ix objectInit ∈ am_gw) (hin : Cond.instanceMethod objectInit ∈ am_gw) (hc : Cond.code objectInit ⟨#[0xb1]⟩ 1 none ∈ am_gw) (hf : 1 ≤ R.frames) (hlo : 20 ≤ R.locals)
    (hk : am_N (am_G p l e R s m args below meth c D al nL h0 Qf) (pc + 3) K) : am_N (am_G p l e R s m args below meth c D al nL h0 Qf) pc (ak_oi K) := by
  intro lo stk h hK H locs cells slots ls hl hw
  unfold ak_oi at hK
  split at hK
  · next k r => exact W.objInit X.1.1 X.1.2.1 X.1.2.2.2.1 (X.1.2.2.2.2 _ hm) (X.1.2.2.2.2 _ hin) (X.1.2.2.2.2 _ hc) rfl (by rw [X.1.2.2.1]; exact hl.1) (a := D.2.2.1 k) (rest := r.map (am_tr D)) rfl hd hf (by show 2 * 0 + _ + 12 ≤ _; rw [am_rs_eq]; omega) (hk _ _ _ hK.2 H locs cells slots ls hl hw)
  · exact hK.elim
theorem am_Wd.app (X : am_X p R s m args meth c cc D true nL own h0) {h : am_H} {H H1 : Heap} {locs : List Loc} {cells slots n : Nat} {x : am_C} (hw : am_Wd R D true h0 s h H locs cells slots) (hs : am_sz x = n) (h1 : h.length + 1 ≤ h0.length + R.cells) (h2 : am_szs h + n ≤ am_szs h0 + R.slots) (hz : H1.size = H.size + 1) (hP : va_P D.1 vwCl (am_w D h ++ [(H.size, am_e D x)]) H1) (hS : va_S (am_A true D.2.2.2.2 h0.length) s.heap H1 locs) :
    am_Wd R D true h0 s (h ++ [x]) H1 locs (cells + 1) (slots + n) ∧ D.2.2.1 h.length = H.size := by
  obtain ⟨g1, g2, g3, g4, g5, g6, g7⟩ := hw
  have hb := X.2.2.2.2.2.1 rfl
  have had : D.2.2.1 h.length = H.size := by rw [X.2.2.2.1.2 _ (by have := X.2.2.2.2.1; omega)]; omega
  refine ⟨⟨by rw [am_w_app, had]; exact hP, hS, by omega, by simp; omega, by rw [am_szs_app, hs]; omega, fun q => (by cases q), by omega, by omega⟩, had⟩
theorem as_new (X : am_X p R s m args meth c cc D true nL own h0) {ix ci N : Nat} {C : String} {T : u_T} {ty : Nat → FieldType} {fs : List Value} (F : am_fc ci C T N ty) (hd : decode cc pc = .ok (.new ix, 3)) (hcl : Cond.classLink own ix C ∈ am_gw) (hinst : Cond.instantiable C N ∈ am_gw) (hini : Cond.initialized C ∈ am_gw) (hN : fs.length = N) (hfs : ∀ j, j < N → defaultValue (ty j) = vp_V (fs.map (am_tr D)) j)
    (hk : am_N (am_G p l e R s m args below meth c D true nL h0 Qf) (pc + 3) K) : am_N (am_G p l e R s m args below meth c D true nL h0 Qf) pc (ak_new h0 R.cells R.slots ci fs K) := by
  intro lo stk h hK H locs cells slots ls hl hw
  obtain ⟨k1, k2, k3⟩ := hK
  have h4 := hw.2.2.2.1
  have h5 := hw.2.2.2.2.1
  have hKn := X.2.1.1 ci _ F.1
  refine W.newcK X.1.1 X.1.2.1 X.1.2.2.2.1 (X.1.2.2.2.2 _ hcl) (X.1.2.2.2.2 _ hinst) (X.1.2.2.2.2 _ hini) rfl hd (by omega) (by omega) hKn.2.1 rfl fun H1 kC hkC e1 z1 o1 => ?_
  have hq : ∀ (k : Nat) (x : Nat × va_E), (am_w D h)[k]? = some x → H1[x.1]? = H[x.1]? := fun k x hx => o1 x.1 ((hw.1 k x hx).lt)
  obtain ⟨w1, w2⟩ := am_Wd.app X hw (x := .inr (ci, fs)) (n := N) hN k1 (by omega) z1 ((hw.1.kept hq).app (fun k x hx => by
      have hz : k < 1 := (List.getElem?_eq_some_iff.mp hx).1
      rw [show k = 0 by omega] at hx
      cases hx
      exact ⟨_, F.1, (u_born ty X.1.2.2.2.2 F.2.1 hKn hkC e1 F.2.2.1).to hfs⟩)) ⟨Nat.le_trans hw.2.1.1 (by omega), fun x h1 h2 => (o1 x (Nat.lt_of_lt_of_le h1 hw.2.1.1)).trans (hw.2.1.2.1 x h1 h2), hw.2.1.2.2⟩
  have := hk _ _ _ k3 H1 locs (cells + 1) (slots + N) ls hl w1
  rw [← w2]
  exact this
theorem as_newi (X : am_X p R s m args meth c cc D true nL own h0) (hd : decode cc pc = .ok (.newarray .int, 2)) (harr : Cond.arrayClass .int ∈ am_gw)
    (hk : am_N (am_G p l e R s m args below meth c D true nL h0 Qf) (pc + 2) K) : am_N (am_G p l e R s m args below meth c D true nL h0 Qf) pc (ak_newi h0 R.cells R.slots K) := by
  intro lo stk h hK H locs cells slots ls hl hw
  unfold ak_newi at hK
  split at hK
  · next n r =>
    obtain ⟨k1, k2, k3, k4, k5⟩ := hK
    have h4 := hw.2.2.2.1
    have h5 := hw.2.2.2.2.1
    refine va_newaK (atype := .int) X.1.1 X.1.2.1 (X.1.2.2.2.2 _ harr) rfl hd rfl k1 rfl (by show n.toNatClampNeg * 4 ≤ _; omega) (by omega) (by omega) rfl fun H1 cA e1 z1 o1 hAr hNm => ?_
    have hcA : cA = D.2.1.1 := Option.some.inj (hNm.symm.trans (X.2.1.2 0 _ rfl).2)
    have hq : ∀ (k : Nat) (x : Nat × va_E), (am_w D h)[k]? = some x → H1[x.1]? = H[x.1]? := fun k x hx => o1 x.1 ((hw.1 k x hx).lt)
    obtain ⟨w1, w2⟩ := am_Wd.app X hw (x := .inl (n.toNatClampNeg, .inl (fun _ => 0))) (n := n.toNatClampNeg) rfl k3 (by omega) z1 ((hw.1.kept hq).app (fun k x hx => by
      have hz : k < 1 := (List.getElem?_eq_some_iff.mp hx).1
      rw [show k = 0 by omega] at hx
      cases hx
      rw [hcA] at e1
      exact e1)) ⟨Nat.le_trans hw.2.1.1 (by omega), fun x h1 h2 => (o1 x (Nat.lt_of_lt_of_le h1 hw.2.1.1)).trans (hw.2.1.2.1 x h1 h2), hw.2.1.2.2⟩
    have := hk _ _ _ k5 H1 locs (cells + 1) (slots + n.toNatClampNeg) ls hl w1
    rw [← w2]
    exact this
  · exact hK.elim
theorem as_newl (X : am_X p R s m args meth c cc D true nL own h0) (hd : decode cc pc = .ok (.newarray .long, 2)) (harr : Cond.arrayClass .long ∈ am_gw)
    (hk : am_N (am_G p l e R s m args below meth c D true nL h0 Qf) (pc + 2) K) : am_N (am_G p l e R s m args below meth c D true nL h0 Qf) pc (ak_newl h0 R.cells R.slots K) := by
  intro lo stk h hK H locs cells slots ls hl hw
  unfold ak_newl at hK
  split at hK
  · next n r =>
    obtain ⟨k1, k2, k3, k4, k5⟩ := hK
    have h4 := hw.2.2.2.1
    have h5 := hw.2.2.2.2.1
    refine va_newaK (atype := .long) X.1.1 X.1.2.1 (X.1.2.2.2.2 _ harr) rfl hd rfl k1 rfl (by show n.toNatClampNeg * 8 ≤ _; omega) (by omega) (by omega) rfl fun H1 cA e1 z1 o1 hAr hNm => ?_
    have hcA : cA = D.2.1.2 := Option.some.inj (hNm.symm.trans (X.2.1.2 1 _ rfl).2)
    have hq : ∀ (k : Nat) (x : Nat × va_E), (am_w D h)[k]? = some x → H1[x.1]? = H[x.1]? := fun k x hx => o1 x.1 ((hw.1 k x hx).lt)
    obtain ⟨w1, w2⟩ := am_Wd.app X hw (x := .inl (n.toNatClampNeg, .inr (.inl (fun _ => 0)))) (n := n.toNatClampNeg) rfl k3 (by omega) z1 ((hw.1.kept hq).app (fun k x hx => by
      have hz : k < 1 := (List.getElem?_eq_some_iff.mp hx).1
      rw [show k = 0 by omega] at hx
      cases hx
      rw [hcA] at e1
      exact e1)) ⟨Nat.le_trans hw.2.1.1 (by omega), fun x h1 h2 => (o1 x (Nat.lt_of_lt_of_le h1 hw.2.1.1)).trans (hw.2.1.2.1 x h1 h2), hw.2.1.2.2⟩
    have := hk _ _ _ k5 H1 locs (cells + 1) (slots + n.toNatClampNeg) ls hl w1
    rw [← w2]
    exact this
  · exact hK.elim
end AMH
/-! a method's contract out of its points -/
theorem am_ent_len : ∀ (n : Nat) (av : List Value), (am_ent n av).length = n
  | 0, _ => rfl
  | n + 1, [] => by simp [am_ent, am_ent_len n]
  | n + 1, .long x :: r => by
    cases n with
    | zero => rfl
    | succ k => simp [am_ent, am_ent_len k]
  | n + 1, .double x :: r => by
    cases n with
    | zero => rfl
    | succ k => simp [am_ent, am_ent_len k]
  | n + 1, .int x :: r => by simp [am_ent, am_ent_len n]
  | n + 1, .float x :: r => by simp [am_ent, am_ent_len n]
  | n + 1, .null :: r => by simp [am_ent, am_ent_len n]
  | n + 1, .ref x :: r => by simp [am_ent, am_ent_len n]
  | n + 1, .retAddr x :: r => by simp [am_ent, am_ent_len n]
theorem am_ent_get (D : am_D) : ∀ (n : Nat) (av : List Value) (i j : Nat) (v : Value), (am_ent n av)[i]? = some (some v) → (j + i, am_tr D v) ∈ lv_args j (av.map (am_tr D))
  | 0, av, i, j, v, h => by simp [am_ent] at h
  | n + 1, [], i, j, v, h => by
    exfalso
    have : ∀ (n i : Nat), (am_ent n [])[i]? ≠ some (some v) := by
      intro n
      induction n with
      | zero => intro i; simp [am_ent]
      | succ n ih =>
        intro i
        cases i with
        | zero => simp [am_ent]
        | succ i => simp only [am_ent, List.getElem?_cons_succ]; exact ih i
    exact this _ _ h
  | n + 1, w :: r, i, j, v, h => by
    have c1 : ∀ (w : Value), w.category = 1 → am_ent (n + 1) (w :: r) = some w :: am_ent n r → (am_ent (n + 1) (w :: r))[i]? = some (some v) → (j + i, am_tr D v) ∈ lv_args j ((w :: r).map (am_tr D)) := by
      intro w hc he h
      rw [he] at h
      simp only [List.map_cons, lv_args, am_tr_cat, hc]
      cases i with
      | zero =>
        simp at h; subst h
        exact List.mem_cons_self
      | succ i =>
        simp at h
        have := am_ent_get D n r i (j + 1) v h
        refine List.mem_cons_of_mem _ ?_
        rw [show j + (i + 1) = j + 1 + i by omega]
        exact this
    have c2 : ∀ (w : Value), w.category = 2 → (∀ k, n = k + 1 → am_ent (n + 1) (w :: r) = some w :: none :: am_ent k r) → (n = 0 → am_ent (n + 1) (w :: r) = [some w]) → (am_ent (n + 1) (w :: r))[i]? = some (some v) → (j + i, am_tr D v) ∈ lv_args j ((w :: r).map (am_tr D)) := by
      intro w hc he he0 h
      simp only [List.map_cons, lv_args, am_tr_cat, hc]
      match n, he, he0, h with
      | 0, _, he0, h =>
        rw [he0 rfl] at h
        cases i with
        | zero => simp at h; subst h; exact List.mem_cons_self
        | succ i => simp at h
      | k + 1, he, _, h =>
        rw [he k rfl] at h
        cases i with
        | zero => simp at h; subst h; exact List.mem_cons_self
        | succ i =>
          cases i with
          | zero => simp at h
          | succ i =>
            simp at h
            have := am_ent_get D k r i (j + 2) v h
            refine List.mem_cons_of_mem _ ?_
            rw [show j + (i + 1 + 1) = j + 2 + i by omega]
            exact this
    cases w with
    | long x => exact c2 (.long x) rfl (fun k hk => by subst hk; rfl) (fun hk => by subst hk; rfl) h
    | double x => exact c2 (.double x) rfl (fun k hk => by subst hk; rfl) (fun hk => by subst hk; rfl) h
    | int x => exact c1 (.int x) rfl rfl h
    | float x => exact c1 (.float x) rfl rfl h
    | null => exact c1 .null rfl rfl h
    | ref x => exact c1 (.ref x) rfl rfl h
    | retAddr x => exact c1 (.retAddr x) rfl rfl h
/-- the contract of a method whose points are closed: cl says which G are -/
theorem am_S.of {al : Bool} {y : MethodName} {bytes : ByteArray} {maxL : Nat} {ret : Option FieldType} {rm : Room} (hz : al = false → rm.cells = 0 ∧ rm.slots = 0) (hy : plainName y.cls = true) (cl : am_H → am_Q → (Nat → am_K) → Prop)
    (body : ∀ (p : Program) (l : Launch) (e : Env) (s : State) (m : MethodId) (args : Array Value) (below : List Frame) (meth : Method) (c : Code) (D : am_D) (h0 : am_H) (Q : am_Q), am_X p rm s m args meth c bytes D al maxL y.cls h0 → meth.sig.returnType = ret → meth.name = y.name → ((al = true → ∀ r h', Q r h' → h'.length = h0.length + rm.cells ∧ am_szs h' = am_szs h0 + rm.slots) ∧ (al = false → rm.cells = 0 ∧ rm.slots = 0)) →
      cl h0 Q (am_G p l e rm s m args below meth c D al maxL h0 (MQ below (am_Qc al D h0 rm.cells rm.slots Q) args s rm.cells rm.slots (am_A al D.2.2.2.2 h0.length)))) :
    am_S al y (am_ws y bytes maxL ret) rm (fun av h Q => (lg_sl av).length ≤ maxL ∧ ∀ G, cl h Q G → G 0 (am_ent maxL av) [] h) := by
  refine ⟨hz, fun l D ok av h Q hl hc hQ => ?_⟩
  refine Met.ofW (cc := bytes) (maxL := maxL) (ret := ret) hy rfl ?_
  intro p e s m args below meth c s₁ B hml hv
  obtain ⟨rfl, hP, hK, hE, hs⟩ := hv
  have hts := atoms_spec (ws := am_ws y bytes maxL ret) B.pre
  have hnm := (name_of_methodNamed B.named B.method).1
  have X : am_X p rm s m (av.map (am_tr D)).toArray meth c bytes D al maxL y.cls h := ⟨⟨B.exec, B.bytes, hml, findClass_of_methodNamed B.named, fun w hw => hts w (List.mem_cons_of_mem _ hw)⟩, hK, hE, ok, hl, hs, B.notSynchronized⟩
  have hb := body p l e s m _ below meth c D h Q X B.returns hnm ⟨hQ, hz⟩
  have key := hc.2 _ hb s.heap [] 0 0
  have hsl : (lg_sl (av.map (am_tr D))).length = (lg_sl av).length := by
    clear hc hQ hb key X hts hP hK hE hs B hnm hl
    induction av with
    | nil => rfl
    | cons v r ih =>
      simp only [lg_sl, List.map_cons, List.flatMap_cons, List.length_append, am_tr_cat] at ih ⊢
      rw [ih]
      congr 1
      split <;> rfl
  have hl9 := lv_entry (av.map (am_tr D)) (n := maxL) (by rw [hsl]; exact hc.1)
  rw [lg_entry_eq]
  refine key _ ⟨hl9.1, hl9.2.1, am_ent_len _ _, fun i v hi => ?_⟩ ⟨hP, va_S.rf, by simp, by simp, by simp, fun _ => ⟨rfl, rfl⟩, Nat.zero_le _, Nat.zero_le _⟩
  have := hl9.2.2 (i, am_tr D v) (by have := am_ent_get D maxL av i 0 v hi; rwa [Nat.zero_add] at this)
  exact this
