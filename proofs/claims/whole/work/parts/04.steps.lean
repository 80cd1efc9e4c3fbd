/-! combinators: what an instruction does to locals, stack and heap, then K -/
def am_fld (h : am_H) (k ci j : Nat) : Option Value := match h[k]? with
  | some (.inr o) => if o.1 = ci then o.2[j]? else none
  | _ => none
def am_put (h : am_H) (k ci j : Nat) (v : Value) : Option am_H := match h[k]? with
  | some (.inr o) => if o.1 = ci ∧ j < o.2.length then some (h.set k (.inr (ci, o.2.set j v))) else none
  | _ => none
def am_ia (h : am_H) (k : Nat) : Option (Nat × (Nat → Int32)) := match h[k]? with
  | some (.inl (n, .inl f)) => some (n, f)
  | _ => none
def am_la (h : am_H) (k : Nat) : Option (Nat × (Nat → Int64)) := match h[k]? with
  | some (.inl (n, .inr (.inl f))) => some (n, f)
  | _ => none
def am_is (h : am_H) (k ci : Nat) : Prop := match h[k]? with
  | some (.inr o) => o.1 = ci
  | _ => False
def am_len (h : am_H) (k : Nat) : Option Nat := match h[k]? with
  | some (.inl (n, .inl _)) => some n
  | some (.inl (n, .inr (.inl _))) => some n
  | _ => none
def am_rs : List Value → Nat
  | [] => 0
  | v :: r => v.category + am_rs r
theorem am_rs_eq (D : am_D) (r : List Value) : ((r.map (am_tr D)).map fun v => v.category).sum = am_rs r := by
  induction r with
  | nil => rfl
  | cons v r ih => simp only [List.map_cons, List.sum_cons, am_tr_cat, am_rs, ih]
def am_pu : Option Value → List Value → List Value
  | some v, r => v :: r
  | none, r => r
def am_sp : Nat → List Value → List Value → Option (List Value × List Value)
  | 0, st, acc => some (acc, st)
  | n + 1, v :: st, acc => am_sp n st (v :: acc)
  | _ + 1, [], _ => none
theorem am_sp_spec : ∀ (n : Nat) (st acc : List Value) (q : List Value × List Value), am_sp n st acc = some q → ∃ t, t.length = n ∧ q.1 = t ++ acc ∧ st = t.reverse ++ q.2
  | 0, st, acc, q, h => by cases h; exact ⟨[], rfl, rfl, rfl⟩
  | n + 1, [], acc, q, h => by cases h
  | n + 1, v :: st, acc, q, h => by
    obtain ⟨t, h1, h2, h3⟩ := am_sp_spec n st (v :: acc) q h
    refine ⟨t ++ [v], by simp [h1], by rw [h2]; simp, ?_⟩
    rw [h3]; simp
def ak_c (v : Value) (K : am_K) : am_K := fun lo stk h => K lo (v :: stk) h
def ak_il (i : Nat) (K : am_K) : am_K := fun lo stk h => match lo[i]? with
  | some (some (.int x)) => K lo (.int x :: stk) h
  | _ => False
def ak_ll (i : Nat) (K : am_K) : am_K := fun lo stk h => match lo[i]? with
  | some (some (.long x)) => K lo (.long x :: stk) h
  | _ => False
def ak_al (i : Nat) (K : am_K) : am_K := fun lo stk h => match lo[i]? with
  | some (some (.ref x)) => K lo (.ref x :: stk) h
  | _ => False
def ak_is (i : Nat) (K : am_K) : am_K := fun lo stk h => match stk with
  | .int x :: r => i < lo.length ∧ K (am_st1 lo i (.int x)) r h
  | _ => False
def ak_as (i : Nat) (K : am_K) : am_K := fun lo stk h => match stk with
  | .ref x :: r => i < lo.length ∧ K (am_st1 lo i (.ref x)) r h
  | _ => False
def ak_ls (i : Nat) (K : am_K) : am_K := fun lo stk h => match stk with
  | .long x :: r => i + 1 < lo.length ∧ K (am_st2 lo i (.long x)) r h
  | _ => False
def ak_ii (i : Nat) (d : Int32) (K : am_K) : am_K := fun lo stk h => match lo[i]? with
  | some (some (.int x)) => K (am_st1 lo i (.int (x + d))) stk h
  | _ => False
def ak_ib (f : Int32 → Int32 → Int32) (K : am_K) : am_K := fun lo stk h => match stk with
  | .int y :: .int x :: r => K lo (.int (f x y) :: r) h
  | _ => False
def ak_id (f : Int32 → Int32 → Int32) (K : am_K) : am_K := fun lo stk h => match stk with
  | .int y :: .int x :: r => ¬ y = 0 ∧ K lo (.int (f x y) :: r) h
  | _ => False
def ak_lb (f : Int64 → Int64 → Int64) (K : am_K) : am_K := fun lo stk h => match stk with
  | .long y :: .long x :: r => K lo (.long (f x y) :: r) h
  | _ => False
def ak_lx (f : Int64 → Int32 → Int64) (K : am_K) : am_K := fun lo stk h => match stk with
  | .int y :: .long x :: r => K lo (.long (f x y) :: r) h
  | _ => False
def ak_lc (K : am_K) : am_K := fun lo stk h => match stk with
  | .long y :: .long x :: r => K lo (.int (lg_cmp x y) :: r) h
  | _ => False
def ak_iu (f : Int32 → Int32) (K : am_K) : am_K := fun lo stk h => match stk with
  | .int x :: r => K lo (.int (f x) :: r) h
  | _ => False
def ak_i2l (K : am_K) : am_K := fun lo stk h => match stk with
  | .int x :: r => K lo (.long x.toInt64 :: r) h
  | _ => False
def ak_l2i (K : am_K) : am_K := fun lo stk h => match stk with
  | .long x :: r => K lo (.int x.toInt32 :: r) h
  | _ => False
def ak_dup (K : am_K) : am_K := fun lo stk h => match stk with
  | v :: r => v.category = 1 ∧ K lo (v :: v :: r) h
  | _ => False
def ak_dup2 (K : am_K) : am_K := fun lo stk h => match stk with
  | v :: w :: r => v.category = 1 ∧ w.category = 1 ∧ K lo (v :: w :: v :: w :: r) h
  | _ => False
def ak_pop (K : am_K) : am_K := fun lo stk h => match stk with
  | v :: r => v.category = 1 ∧ K lo r h
  | _ => False
/-- one int is tested: where it goes if c, where if not -/
def ak_if (c : Int32 → Prop) (T F : am_K) : am_K := fun lo stk h => match stk with
  | .int x :: r => (c x → T lo r h) ∧ (¬ c x → F lo r h)
  | _ => False
def ak_ic (c : Int32 → Int32 → Prop) (T F : am_K) : am_K := fun lo stk h => match stk with
  | .int y :: .int x :: r => (c x y → T lo r h) ∧ (¬ c x y → F lo r h)
  | _ => False
def am_sws (x : Int32) : Int → List am_K → am_K
  | _, [] => fun _ _ _ => True
  | v, K :: Ks => fun lo r h => (x.toInt = v → K lo r h) ∧ am_sws x (v + 1) Ks lo r h
def ak_sw (lw hi : Int) (Ks : List am_K) (F : am_K) : am_K := fun lo stk h => match stk with
  | .int x :: r => am_sws x lw Ks lo r h ∧ ((x.toInt < lw ∨ hi < x.toInt) → F lo r h)
  | _ => False
def ak_get (ci j : Nat) (K : am_K) : am_K := fun lo stk h => match stk with
  | .ref k :: r => match am_fld h k ci j with
    | some v => K lo (v :: r) h
    | none => False
  | _ => False
def ak_puti (ci j : Nat) (K : am_K) : am_K := fun lo stk h => match stk with
  | .int x :: .ref k :: r => match am_put h k ci j (.int x) with
    | some h' => K lo r h'
    | none => False
  | _ => False
def ak_putz (ci j : Nat) (K : am_K) : am_K := fun lo stk h => match stk with
  | .int x :: .ref k :: r => (x = 0 ∨ x = 1) ∧ match am_put h k ci j (.int x) with
    | some h' => K lo r h'
    | none => False
  | _ => False
def ak_putl (ci j : Nat) (K : am_K) : am_K := fun lo stk h => match stk with
  | .long x :: .ref k :: r => match am_put h k ci j (.long x) with
    | some h' => K lo r h'
    | none => False
  | _ => False
def ak_puta (ci j : Nat) (K : am_K) : am_K := fun lo stk h => match stk with
  | .ref x :: .ref k :: r => match am_put h k ci j (.ref x) with
    | some h' => K lo r h'
    | none => False
  | _ => False
def ak_iald (K : am_K) : am_K := fun lo stk h => match stk with
  | .int i :: .ref k :: r => match am_ia h k with
    | some a => vp_in i a.1 ∧ K lo (.int (a.2 i.toNatClampNeg) :: r) h
    | none => False
  | _ => False
def ak_lald (K : am_K) : am_K := fun lo stk h => match stk with
  | .int i :: .ref k :: r => match am_la h k with
    | some a => vp_in i a.1 ∧ K lo (.long (a.2 i.toNatClampNeg) :: r) h
    | none => False
  | _ => False
def ak_iast (K : am_K) : am_K := fun lo stk h => match stk with
  | .int x :: .int i :: .ref k :: r => match am_ia h k with
    | some a => vp_in i a.1 ∧ K lo r (h.set k (.inl (a.1, .inl (upd a.2 i.toNatClampNeg x))))
    | none => False
  | _ => False
def ak_last (K : am_K) : am_K := fun lo stk h => match stk with
  | .long x :: .int i :: .ref k :: r => match am_la h k with
    | some a => vp_in i a.1 ∧ K lo r (h.set k (.inl (a.1, .inr (.inl (vp_updL a.2 i.toNatClampNeg x)))))
    | none => False
  | _ => False
def ak_alen (K : am_K) : am_K := fun lo stk h => match stk with
  | .ref k :: r => match am_len h k with
    | some n => K lo (.int (Int32.ofNat n) :: r) h
    | none => False
  | _ => False
/-- calls: static; virtual; of a constructor that makes mc cells of ms slots; of Object's constructor -/
def ak_cs (n : Nat) (C : am_T) (K : am_K) : am_K := fun lo stk h => match am_sp n stk [] with
  | some q => am_rs q.2 ≤ 8 ∧ C q.1 h (fun v h' => K lo (am_pu v q.2) h')
  | none => False
def ak_cv (n ci : Nat) (C : am_T) (K : am_K) : am_K := fun lo stk h => match am_sp n stk [] with
  | some (.ref k :: av, r) => am_is h k ci ∧ am_rs r ≤ 8 ∧ C (.ref k :: av) h (fun v h' => K lo (am_pu v r) h')
  | _ => False
def ak_ci (h0 : am_H) (rc rs n mc ms : Nat) (C : am_T) (K : am_K) : am_K := fun lo stk h => match am_sp n stk [] with
  | some (.ref k :: av, r) => am_rs r ≤ 8 ∧ h.length + mc ≤ h0.length + rc ∧ am_szs h + ms ≤ am_szs h0 + rs ∧ C (.ref k :: av) h (fun v h' => (h'.length = h.length + mc ∧ am_szs h' = am_szs h + ms) ∧ K lo (am_pu v r) h')
  | _ => False
def ak_oi (K : am_K) : am_K := fun lo stk h => match stk with
  | .ref _ :: r => am_rs r ≤ 8 ∧ K lo r h
  | _ => False
def ak_new (h0 : am_H) (mc ms ci : Nat) (fs : List Value) (K : am_K) : am_K := fun lo stk h => h.length + 1 ≤ h0.length + mc ∧ am_szs h + fs.length ≤ am_szs h0 + ms ∧ K lo (.ref h.length :: stk) (h ++ [.inr (ci, fs)])
def ak_newi (h0 : am_H) (mc ms : Nat) (K : am_K) : am_K := fun lo stk h => match stk with
  | .int n :: r => ¬ n < 0 ∧ n.toNatClampNeg ≤ 100000 ∧ h.length + 1 ≤ h0.length + mc ∧ am_szs h + n.toNatClampNeg ≤ am_szs h0 + ms ∧ K lo (.ref h.length :: r) (h ++ [.inl (n.toNatClampNeg, .inl (fun _ => 0))])
  | _ => False
def ak_newl (h0 : am_H) (mc ms : Nat) (K : am_K) : am_K := fun lo stk h => match stk with
  | .int n :: r => ¬ n < 0 ∧ n.toNatClampNeg ≤ 100000 ∧ h.length + 1 ≤ h0.length + mc ∧ am_szs h + n.toNatClampNeg ≤ am_szs h0 + ms ∧ K lo (.ref h.length :: r) (h ++ [.inl (n.toNatClampNeg, .inr (.inl (fun _ => 0)))])
  | _ => False
/-- ends -/
def ak_ri (Q : am_Q) : am_K := fun _ stk h => match stk with
  | [.int x] => Q (some (.int x)) h
  | _ => False
def ak_rz (Q : am_Q) : am_K := fun _ stk h => match stk with
  | [.int x] => (x = 0 ∨ x = 1) ∧ Q (some (.int x)) h
  | _ => False
def ak_rl (Q : am_Q) : am_K := fun _ stk h => match stk with
  | [.long x] => Q (some (.long x)) h
  | _ => False
def ak_rv (Q : am_Q) : am_K := fun _ stk h => match stk with
  | [] => Q none h
  | _ => False
def am_ent : Nat → List Value → am_L
  | 0, _ => []
  | n + 1, [] => none :: am_ent n []
  | n + 1, .long x :: r => match n with
    | 0 => [some (.long x)]
    | k + 1 => some (.long x) :: none :: am_ent k r
  | n + 1, .double x :: r => match n with
    | 0 => [some (.double x)]
    | k + 1 => some (.double x) :: none :: am_ent k r
  | n + 1, v :: r => some v :: am_ent n r
/-! the machine's meaning of a point -/
def am_Wd (R : Room) (D : am_D) (al : Bool) (h0 : am_H) (s : State) (h : am_H) (H : Heap) (locs : List Loc) (cells slots : Nat) : Prop :=
  va_P D.1 vwCl (am_w D h) H ∧ va_S (am_A al D.2.2.2.2 h0.length) s.heap H locs ∧ H.size = s.heap.size + cells ∧ h.length = h0.length + cells ∧ am_szs h = am_szs h0 + slots ∧ (al = false → cells = 0 ∧ slots = 0) ∧ cells ≤ R.cells ∧ slots ≤ R.slots
def am_G (p : Program) (l : Launch) (e : Env) (R : Room) (s : State) (m : MethodId) (args : Array Value) (below : List Frame) (meth : Method) (c : Code) (D : am_D) (al : Bool) (nL : Nat) (h0 : am_H) (Qf : State → Prop) : Nat → am_K := fun pc lo stk h =>
  ∀ (H : Heap) (locs : List Loc) (cells slots : Nat) (ls : Array Slot), am_lo D ls nL lo → am_Wd R D al h0 s h H locs cells slots → W p l e R s m args below meth c H locs cells slots Qf (F0 m pc ls (stk.map (am_tr D)))
def am_X (p : Program) (R : Room) (s : State) (m : MethodId) (args : Array Value) (meth : Method) (c : Code) (cc : ByteArray) (D : am_D) (al : Bool) (nL : Nat) (own : String) (h0 : am_H) : Prop :=
  CallFix p m c cc nL s args am_gw own ∧ va_K D.1 vwCl [(D.2.1.1, .int), (D.2.1.2, .long)] s ∧ am_E D s ∧ am_ok D ∧ h0.length + R.cells ≤ 1000 ∧ (al = true → s.heap.size = D.2.2.2.2 + h0.length) ∧ meth.locks = false
def am_N (G : Nat → am_K) (pc : Nat) (K : am_K) : Prop := ∀ lo stk h, K lo stk h → G pc lo stk h
section AMS
variable {p : Program} {l : Launch} {e : Env} {R : Room} {s : State} {m : MethodId} {args : Array Value} {below : List Frame} {meth : Method} {c : Code} {cc : ByteArray} {D : am_D} {al : Bool} {nL : Nat} {own : String} {h0 : am_H} {Qf : State → Prop} {pc : Nat} {K K1 K2 : am_K}
theorem as_iconst (X : am_X p R s m args meth c cc D al nL own h0) {n : Int} {v : Int32} (hd : decode cc pc = .ok (.iconst n, 1)) (hv : Int32.ofInt n = v) (hk : am_N (am_G p l e R s m args below meth c D al nL h0 Qf) (pc + 1) K) : am_N (am_G p l e R s m args below meth c D al nL h0 Qf) pc (ak_c (.int v) K) :=
  fun lo stk h hK H locs cells slots ls hl hw => lv_iconst X.1.1 X.1.2.1 hd hv (hk _ _ _ hK H locs cells slots ls hl hw)
theorem as_bipush (X : am_X p R s m args meth c cc D al nL own h0) {n : Int} {v : Int32} (hd : decode cc pc = .ok (.bipush n, 2)) (hv : (Int8.ofInt n).toInt32 = v) (hk : am_N (am_G p l e R s m args below meth c D al nL h0 Qf) (pc + 2) K) : am_N (am_G p l e R s m args below meth c D al nL h0 Qf) pc (ak_c (.int v) K) :=
  fun lo stk h hK H locs cells slots ls hl hw => lv_bipush X.1.1 X.1.2.1 hd hv (hk _ _ _ hK H locs cells slots ls hl hw)
theorem as_sipush (X : am_X p R s m args meth c cc D al nL own h0) {n : Int} {v : Int32} (hd : decode cc pc = .ok (.sipush n, 3)) (hv : (Int16.ofInt n).toInt32 = v) (hk : am_N (am_G p l e R s m args below meth c D al nL h0 Qf) (pc + 3) K) : am_N (am_G p l e R s m args below meth c D al nL h0 Qf) pc (ak_c (.int v) K) :=
  fun lo stk h hK H locs cells slots ls hl hw => lv_sipush X.1.1 X.1.2.1 hd hv (hk _ _ _ hK H locs cells slots ls hl hw)
theorem as_lconst (X : am_X p R s m args meth c cc D al nL own h0) {n : Fin 2} {v : Int64} (hd : decode cc pc = .ok (.lconst n, 1)) (hv : Int64.ofNat (n : Nat) = v) (hk : am_N (am_G p l e R s m args below meth c D al nL h0 Qf) (pc + 1) K) : am_N (am_G p l e R s m args below meth c D al nL h0 Qf) pc (ak_c (.long v) K) :=
  fun lo stk h hK H locs cells slots ls hl hw => lv_lconst X.1.1 X.1.2.1 hd hv (hk _ _ _ hK H locs cells slots ls hl hw)
theorem as_ldc (X : am_X p R s m args meth c cc D al nL own h0) {ix : Nat} {v : Int32} (hd : decode cc pc = .ok (.ldc ix, 2)) (hm : Cond.constant own ix v ∈ am_gw) (hk : am_N (am_G p l e R s m args below meth c D al nL h0 Qf) (pc + 2) K) : am_N (am_G p l e R s m args below meth c D al nL h0 Qf) pc (ak_c (.int v) K) :=
  fun lo stk h hK H locs cells slots ls hl hw => lv_ldc X.1.1 X.1.2.1 X.1.2.2.2.1 (X.1.2.2.2.2 _ hm) hd (hk _ _ _ hK H locs cells slots ls hl hw)
theorem as_ldcw (X : am_X p R s m args meth c cc D al nL own h0) {ix : Nat} {v : Int32} (hd : decode cc pc = .ok (.ldc_w ix, 3)) (hm : Cond.constant own ix v ∈ am_gw) (hk : am_N (am_G p l e R s m args below meth c D al nL h0 Qf) (pc + 3) K) : am_N (am_G p l e R s m args below meth c D al nL h0 Qf) pc (ak_c (.int v) K) :=
  fun lo stk h hK H locs cells slots ls hl hw => lv_ldcw X.1.1 X.1.2.1 X.1.2.2.2.1 (X.1.2.2.2.2 _ hm) hd (hk _ _ _ hK H locs cells slots ls hl hw)
theorem as_ldc2 (X : am_X p R s m args meth c cc D al nL own h0) {ix : Nat} {v : Int64} (hd : decode cc pc = .ok (.ldc2_w ix, 3)) (hm : Cond.constantLong own ix v ∈ am_gw) (hk : am_N (am_G p l e R s m args below meth c D al nL h0 Qf) (pc + 3) K) : am_N (am_G p l e R s m args below meth c D al nL h0 Qf) pc (ak_c (.long v) K) :=
  fun lo stk h hK H locs cells slots ls hl hw => lv_ldc2 X.1.1 X.1.2.1 X.1.2.2.2.1 (X.1.2.2.2.2 _ hm) hd (hk _ _ _ hK H locs cells slots ls hl hw)
theorem as_iload_n (X : am_X p R s m args meth c cc D al nL own h0) {k : Fin 4} {i : Nat} (hd : decode cc pc = .ok (.iload_n k, 1)) (hi : (k : Nat) = i) (hk : am_N (am_G p l e R s m args below meth c D al nL h0 Qf) (pc + 1) K) : am_N (am_G p l e R s m args below meth c D al nL h0 Qf) pc (ak_il i K) := by
  intro lo stk h hK H locs cells slots ls hl hw
  unfold ak_il at hK
  split at hK
  · next x hx => exact lv_iload_n X.1.1 X.1.2.1 hd hi (hl.2.2.2 _ _ hx) (hk _ _ _ hK H locs cells slots ls hl hw)
  · exact hK.elim
theorem as_iload (X : am_X p R s m args meth c cc D al nL own h0) {i : Nat} (hd : decode cc pc = .ok (.iload i, 2)) (hk : am_N (am_G p l e R s m args below meth c D al nL h0 Qf) (pc + 2) K) : am_N (am_G p l e R s m args below meth c D al nL h0 Qf) pc (ak_il i K) := by
  intro lo stk h hK H locs cells slots ls hl hw
  unfold ak_il at hK
  split at hK
  · next x hx => exact lv_iload X.1.1 X.1.2.1 hd (hl.2.2.2 _ _ hx) (hk _ _ _ hK H locs cells slots ls hl hw)
  · exact hK.elim
theorem as_lload_n (X : am_X p R s m args meth c cc D al nL own h0) {k : Fin 4} {i : Nat} (hd : decode cc pc = .ok (.lload_n k, 1)) (hi : (k : Nat) = i) (hk : am_N (am_G p l e R s m args below meth c D al nL h0 Qf) (pc + 1) K) : am_N (am_G p l e R s m args below meth c D al nL h0 Qf) pc (ak_ll i K) := by
  intro lo stk h hK H locs cells slots ls hl hw
  unfold ak_ll at hK
  split at hK
  · next x hx => exact lv_lload_n X.1.1 X.1.2.1 hd hi (hl.2.2.2 _ _ hx) (hk _ _ _ hK H locs cells slots ls hl hw)
  · exact hK.elim
theorem as_lload (X : am_X p R s m args meth c cc D al nL own h0) {i : Nat} (hd : decode cc pc = .ok (.lload i, 2)) (hk : am_N (am_G p l e R s m args below meth c D al nL h0 Qf) (pc + 2) K) : am_N (am_G p l e R s m args below meth c D al nL h0 Qf) pc (ak_ll i K) := by
  intro lo stk h hK H locs cells slots ls hl hw
  unfold ak_ll at hK
  split at hK
  · next x hx => exact lv_lload X.1.1 X.1.2.1 hd (hl.2.2.2 _ _ hx) (hk _ _ _ hK H locs cells slots ls hl hw)
  · exact hK.elim
theorem as_aload_n (X : am_X p R s m args meth c cc D al nL own h0) {k : Fin 4} {i : Nat} (hd : decode cc pc = .ok (.aload_n k, 1)) (hi : (k : Nat) = i) (hk : am_N (am_G p l e R s m args below meth c D al nL h0 Qf) (pc + 1) K) : am_N (am_G p l e R s m args below meth c D al nL h0 Qf) pc (ak_al i K) := by
  intro lo stk h hK H locs cells slots ls hl hw
  unfold ak_al at hK
  split at hK
  · next x hx => exact lv_aload_n X.1.1 X.1.2.1 hd hi (hl.2.2.2 _ _ hx) (hk _ _ _ hK H locs cells slots ls hl hw)
  · exact hK.elim
theorem as_aload (X : am_X p R s m args meth c cc D al nL own h0) {i : Nat} (hd : decode cc pc = .ok (.aload i, 2)) (hk : am_N (am_G p l e R s m args below meth c D al nL h0 Qf) (pc + 2) K) : am_N (am_G p l e R s m args below meth c D al nL h0 Qf) pc (ak_al i K) := by
  intro lo stk h hK H locs cells slots ls hl hw
  unfold ak_al at hK
  split at hK
  · next x hx => exact lv_aload X.1.1 X.1.2.1 hd (hl.2.2.2 _ _ hx) (hk _ _ _ hK H locs cells slots ls hl hw)
  · exact hK.elim
theorem as_istore_n (X : am_X p R s m args meth c cc D al nL own h0) {k : Fin 4} {i : Nat} (hd : decode cc pc = .ok (.istore_n k, 1)) (hi : (k : Nat) = i) (hk : am_N (am_G p l e R s m args below meth c D al nL h0 Qf) (pc + 1) K) : am_N (am_G p l e R s m args below meth c D al nL h0 Qf) pc (ak_is i K) := by
  intro lo stk h hK H locs cells slots ls hl hw
  unfold ak_is at hK
  split at hK
  · next x r => exact lv_istore_n X.1.1 X.1.2.1 hd hi hl.has (by rw [← hl.2.2.1]; exact hK.1) rfl (fun ls' h' => hk _ _ _ hK.2 H locs cells slots ls' (am_lo.st1 (v := .int x) hl h') hw)
  · exact hK.elim
theorem as_istore (X : am_X p R s m args meth c cc D al nL own h0) {i : Nat} (hd : decode cc pc = .ok (.istore i, 2)) (hk : am_N (am_G p l e R s m args below meth c D al nL h0 Qf) (pc + 2) K) : am_N (am_G p l e R s m args below meth c D al nL h0 Qf) pc (ak_is i K) := by
  intro lo stk h hK H locs cells slots ls hl hw
  unfold ak_is at hK
  split at hK
  · next x r => exact lv_istore X.1.1 X.1.2.1 hd hl.has (by rw [← hl.2.2.1]; exact hK.1) rfl (fun ls' h' => hk _ _ _ hK.2 H locs cells slots ls' (am_lo.st1 (v := .int x) hl h') hw)
  · exact hK.elim
theorem as_astore_n (X : am_X p R s m args meth c cc D al nL own h0) {k : Fin 4} {i : Nat} (hd : decode cc pc = .ok (.astore_n k, 1)) (hi : (k : Nat) = i) (hk : am_N (am_G p l e R s m args below meth c D al nL h0 Qf) (pc + 1) K) : am_N (am_G p l e R s m args below meth c D al nL h0 Qf) pc (ak_as i K) := by
  intro lo stk h hK H locs cells slots ls hl hw
  unfold ak_as at hK
  split at hK
  · next x r => exact lv_astore_n X.1.1 X.1.2.1 hd hi hl.has (by rw [← hl.2.2.1]; exact hK.1) rfl (fun ls' h' => hk _ _ _ hK.2 H locs cells slots ls' (am_lo.st1 (v := .ref x) hl h') hw)
  · exact hK.elim
theorem as_lstore_n (X : am_X p R s m args meth c cc D al nL own h0) {k : Fin 4} {i : Nat} (hd : decode cc pc = .ok (.lstore_n k, 1)) (hi : (k : Nat) = i) (hk : am_N (am_G p l e R s m args below meth c D al nL h0 Qf) (pc + 1) K) : am_N (am_G p l e R s m args below meth c D al nL h0 Qf) pc (ak_ls i K) := by
  intro lo stk h hK H locs cells slots ls hl hw
  unfold ak_ls at hK
  split at hK
  · next x r => exact lv_lstore_n X.1.1 X.1.2.1 hd hi hl.has (by rw [← hl.2.2.1]; exact hK.1) rfl (fun ls' h' => hk _ _ _ hK.2 H locs cells slots ls' (am_lo.st2 (v := .long x) hl h') hw)
  · exact hK.elim
theorem as_lstore (X : am_X p R s m args meth c cc D al nL own h0) {i : Nat} (hd : decode cc pc = .ok (.lstore i, 2)) (hk : am_N (am_G p l e R s m args below meth c D al nL h0 Qf) (pc + 2) K) : am_N (am_G p l e R s m args below meth c D al nL h0 Qf) pc (ak_ls i K) := by
  intro lo stk h hK H locs cells slots ls hl hw
  unfold ak_ls at hK
  split at hK
  · next x r => exact lv_lstore X.1.1 X.1.2.1 hd hl.has (by rw [← hl.2.2.1]; exact hK.1) rfl (fun ls' h' => hk _ _ _ hK.2 H locs cells slots ls' (am_lo.st2 (v := .long x) hl h') hw)
  · exact hK.elim
theorem as_iinc (X : am_X p R s m args meth c cc D al nL own h0) {i : Nat} {n : Int} {d : Int32} (hd : decode cc pc = .ok (.iinc i n, 3)) (hv : Int32.ofInt n = d) (hk : am_N (am_G p l e R s m args below meth c D al nL h0 Qf) (pc + 3) K) : am_N (am_G p l e R s m args below meth c D al nL h0 Qf) pc (ak_ii i d K) := by
  intro lo stk h hK H locs cells slots ls hl hw
  unfold ak_ii at hK
  split at hK
  · next x hx =>
    have hm : (i, Value.int x) ∈ am_prs D lo := am_prs_mem.mpr ⟨.int x, hx, rfl⟩
    obtain ⟨j, hj⟩ := List.mem_iff_getElem?.mp hm
    exact lv_iinc X.1.1 X.1.2.1 hd hl.has hj (v := x + d) (by rw [hv]) (by rw [← hl.2.2.1]; exact (List.getElem?_eq_some_iff.mp hx).1) rfl (fun ls' h' => hk _ _ _ hK H locs cells slots ls' (am_lo.st1 (v := .int (x + d)) hl h') hw)
  · exact hK.elim
theorem as_iadd (X : am_X p R s m args meth c cc D al nL own h0) (hd : decode cc pc = .ok (.iadd, 1)) (hk : am_N (am_G p l e R s m args below meth c D al nL h0 Qf) (pc + 1) K) : am_N (am_G p l e R s m args below meth c D al nL h0 Qf) pc (ak_ib (fun x y => x + y) K) := by
  intro lo stk h hK H locs cells slots ls hl hw
  unfold ak_ib at hK
  split at hK
  · exact lv_iadd X.1.1 X.1.2.1 hd (hk _ _ _ hK H locs cells slots ls hl hw)
  · exact hK.elim
theorem as_isub (X : am_X p R s m args meth c cc D al nL own h0) (hd : decode cc pc = .ok (.isub, 1)) (hk : am_N (am_G p l e R s m args below meth c D al nL h0 Qf) (pc + 1) K) : am_N (am_G p l e R s m args below meth c D al nL h0 Qf) pc (ak_ib (fun x y => x - y) K) := by
  intro lo stk h hK H locs cells slots ls hl hw
  unfold ak_ib at hK
  split at hK
  · exact lv_isub X.1.1 X.1.2.1 hd (hk _ _ _ hK H locs cells slots ls hl hw)
  · exact hK.elim
theorem as_imul (X : am_X p R s m args meth c cc D al nL own h0) (hd : decode cc pc = .ok (.imul, 1)) (hk : am_N (am_G p l e R s m args below meth c D al nL h0 Qf) (pc + 1) K) : am_N (am_G p l e R s m args below meth c D al nL h0 Qf) pc (ak_ib (fun x y => x * y) K) := by
  intro lo stk h hK H locs cells slots ls hl hw
  unfold ak_ib at hK
  split at hK
  · exact lv_imul X.1.1 X.1.2.1 hd (hk _ _ _ hK H locs cells slots ls hl hw)
  · exact hK.elim
theorem as_iand (X : am_X p R s m args meth c cc D al nL own h0) (hd : decode cc pc = .ok (.iand, 1)) (hk : am_N (am_G p l e R s m args below meth c D al nL h0 Qf) (pc + 1) K) : am_N (am_G p l e R s m args below meth c D al nL h0 Qf) pc (ak_ib (fun x y => x &&& y) K) := by
  intro lo stk h hK H locs cells slots ls hl hw
  unfold ak_ib at hK
  split at hK
  · exact lv_iand X.1.1 X.1.2.1 hd (hk _ _ _ hK H locs cells slots ls hl hw)
  · exact hK.elim
theorem as_ior (X : am_X p R s m args meth c cc D al nL own h0) (hd : decode cc pc = .ok (.ior, 1)) (hk : am_N (am_G p l e R s m args below meth c D al nL h0 Qf) (pc + 1) K) : am_N (am_G p l e R s m args below meth c D al nL h0 Qf) pc (ak_ib (fun x y => x ||| y) K) := by
  intro lo stk h hK H locs cells slots ls hl hw
  unfold ak_ib at hK
  split at hK
  · exact lv_ior X.1.1 X.1.2.1 hd (hk _ _ _ hK H locs cells slots ls hl hw)
  · exact hK.elim
theorem as_ixor (X : am_X p R s m args meth c cc D al nL own h0) (hd : decode cc pc = .ok (.ixor, 1)) (hk : am_N (am_G p l e R s m args below meth c D al nL h0 Qf) (pc + 1) K) : am_N (am_G p l e R s m args below meth c D al nL h0 Qf) pc (ak_ib (fun x y => x ^^^ y) K) := by
  intro lo stk h hK H locs cells slots ls hl hw
  unfold ak_ib at hK
  split at hK
  · exact lv_ixor X.1.1 X.1.2.1 hd (hk _ _ _ hK H locs cells slots ls hl hw)
  · exact hK.elim
theorem as_ishl (X : am_X p R s m args meth c cc D al nL own h0) (hd : decode cc pc = .ok (.ishl, 1)) (hk : am_N (am_G p l e R s m args below meth c D al nL h0 Qf) (pc + 1) K) : am_N (am_G p l e R s m args below meth c D al nL h0 Qf) pc (ak_ib (fun x y => x <<< (y &&& 31)) K) := by
  intro lo stk h hK H locs cells slots ls hl hw
  unfold ak_ib at hK
  split at hK
  · exact lv_ishl X.1.1 X.1.2.1 hd (hk _ _ _ hK H locs cells slots ls hl hw)
  · exact hK.elim
theorem as_ishr (X : am_X p R s m args meth c cc D al nL own h0) (hd : decode cc pc = .ok (.ishr, 1)) (hk : am_N (am_G p l e R s m args below meth c D al nL h0 Qf) (pc + 1) K) : am_N (am_G p l e R s m args below meth c D al nL h0 Qf) pc (ak_ib (fun x y => x >>> (y &&& 31)) K) := by
  intro lo stk h hK H locs cells slots ls hl hw
  unfold ak_ib at hK
  split at hK
  · exact lv_ishr X.1.1 X.1.2.1 hd (hk _ _ _ hK H locs cells slots ls hl hw)
  · exact hK.elim
theorem as_iushr (X : am_X p R s m args meth c cc D al nL own h0) (hd : decode cc pc = .ok (.iushr, 1)) (hk : am_N (am_G p l e R s m args below meth c D al nL h0 Qf) (pc + 1) K) : am_N (am_G p l e R s m args below meth c D al nL h0 Qf) pc (ak_ib (fun x y => (x.toUInt32 >>> (y.toUInt32 &&& Int32.toUInt32 31)).toInt32) K) := by
  intro lo stk h hK H locs cells slots ls hl hw
  unfold ak_ib at hK
  split at hK
  · exact lv_iushr X.1.1 X.1.2.1 hd rfl (hk _ _ _ hK H locs cells slots ls hl hw)
  · exact hK.elim
theorem as_idiv (X : am_X p R s m args meth c cc D al nL own h0) (hd : decode cc pc = .ok (.idiv, 1)) (hk : am_N (am_G p l e R s m args below meth c D al nL h0 Qf) (pc + 1) K) : am_N (am_G p l e R s m args below meth c D al nL h0 Qf) pc (ak_id (fun x y => x / y) K) := by
  intro lo stk h hK H locs cells slots ls hl hw
  unfold ak_id at hK
  split at hK
  · exact lv_idiv X.1.1 X.1.2.1 hd hK.1 (hk _ _ _ hK.2 H locs cells slots ls hl hw)
  · exact hK.elim
theorem as_irem (X : am_X p R s m args meth c cc D al nL own h0) (hd : decode cc pc = .ok (.irem, 1)) (hk : am_N (am_G p l e R s m args below meth c D al nL h0 Qf) (pc + 1) K) : am_N (am_G p l e R s m args below meth c D al nL h0 Qf) pc (ak_id (fun x y => x - x / y * y) K) := by
  intro lo stk h hK H locs cells slots ls hl hw
  unfold ak_id at hK
  split at hK
  · exact lv_irem X.1.1 X.1.2.1 hd hK.1 (hk _ _ _ hK.2 H locs cells slots ls hl hw)
  · exact hK.elim
theorem as_ladd (X : am_X p R s m args meth c cc D al nL own h0) (hd : decode cc pc = .ok (.ladd, 1)) (hk : am_N (am_G p l e R s m args below meth c D al nL h0 Qf) (pc + 1) K) : am_N (am_G p l e R s m args below meth c D al nL h0 Qf) pc (ak_lb (fun x y => x + y) K) := by
  intro lo stk h hK H locs cells slots ls hl hw
  unfold ak_lb at hK
  split at hK
  · exact lv_ladd X.1.1 X.1.2.1 hd (hk _ _ _ hK H locs cells slots ls hl hw)
  · exact hK.elim
theorem as_lsub (X : am_X p R s m args meth c cc D al nL own h0) (hd : decode cc pc = .ok (.lsub, 1)) (hk : am_N (am_G p l e R s m args below meth c D al nL h0 Qf) (pc + 1) K) : am_N (am_G p l e R s m args below meth c D al nL h0 Qf) pc (ak_lb (fun x y => x - y) K) := by
  intro lo stk h hK H locs cells slots ls hl hw
  unfold ak_lb at hK
  split at hK
  · exact lv_lsub X.1.1 X.1.2.1 hd (hk _ _ _ hK H locs cells slots ls hl hw)
  · exact hK.elim
theorem as_lmul (X : am_X p R s m args meth c cc D al nL own h0) (hd : decode cc pc = .ok (.lmul, 1)) (hk : am_N (am_G p l e R s m args below meth c D al nL h0 Qf) (pc + 1) K) : am_N (am_G p l e R s m args below meth c D al nL h0 Qf) pc (ak_lb (fun x y => x * y) K) := by
  intro lo stk h hK H locs cells slots ls hl hw
  unfold ak_lb at hK
  split at hK
  · exact lv_lmul X.1.1 X.1.2.1 hd (hk _ _ _ hK H locs cells slots ls hl hw)
  · exact hK.elim
theorem as_land (X : am_X p R s m args meth c cc D al nL own h0) (hd : decode cc pc = .ok (.land, 1)) (hk : am_N (am_G p l e R s m args below meth c D al nL h0 Qf) (pc + 1) K) : am_N (am_G p l e R s m args below meth c D al nL h0 Qf) pc (ak_lb (fun x y => x &&& y) K) := by
  intro lo stk h hK H locs cells slots ls hl hw
  unfold ak_lb at hK
  split at hK
  · exact lv_land X.1.1 X.1.2.1 hd (hk _ _ _ hK H locs cells slots ls hl hw)
  · exact hK.elim
theorem as_lor (X : am_X p R s m args meth c cc D al nL own h0) (hd : decode cc pc = .ok (.lor, 1)) (hk : am_N (am_G p l e R s m args below meth c D al nL h0 Qf) (pc + 1) K) : am_N (am_G p l e R s m args below meth c D al nL h0 Qf) pc (ak_lb (fun x y => x ||| y) K) := by
  intro lo stk h hK H locs cells slots ls hl hw
  unfold ak_lb at hK
  split at hK
  · exact lv_lor X.1.1 X.1.2.1 hd (hk _ _ _ hK H locs cells slots ls hl hw)
  · exact hK.elim
theorem as_lshl (X : am_X p R s m args meth c cc D al nL own h0) (hd : decode cc pc = .ok (.lshl, 1)) (hk : am_N (am_G p l e R s m args below meth c D al nL h0 Qf) (pc + 1) K) : am_N (am_G p l e R s m args below meth c D al nL h0 Qf) pc (ak_lx (fun x y => x <<< (y.toInt64 &&& 63)) K) := by
  intro lo stk h hK H locs cells slots ls hl hw
  unfold ak_lx at hK
  split at hK
  · exact lv_lshl X.1.1 X.1.2.1 hd rfl (hk _ _ _ hK H locs cells slots ls hl hw)
  · exact hK.elim
theorem as_lshr (X : am_X p R s m args meth c cc D al nL own h0) (hd : decode cc pc = .ok (.lshr, 1)) (hk : am_N (am_G p l e R s m args below meth c D al nL h0 Qf) (pc + 1) K) : am_N (am_G p l e R s m args below meth c D al nL h0 Qf) pc (ak_lx (fun x y => x >>> (y.toInt64 &&& 63)) K) := by
  intro lo stk h hK H locs cells slots ls hl hw
  unfold ak_lx at hK
  split at hK
  · exact lv_lshr X.1.1 X.1.2.1 hd rfl (hk _ _ _ hK H locs cells slots ls hl hw)
  · exact hK.elim
theorem as_lushr (X : am_X p R s m args meth c cc D al nL own h0) (hd : decode cc pc = .ok (.lushr, 1)) (hk : am_N (am_G p l e R s m args below meth c D al nL h0 Qf) (pc + 1) K) : am_N (am_G p l e R s m args below meth c D al nL h0 Qf) pc (ak_lx (fun x y => (x.toUInt64 >>> (y.toInt64.toUInt64 &&& Int64.toUInt64 63)).toInt64) K) := by
  intro lo stk h hK H locs cells slots ls hl hw
  unfold ak_lx at hK
  split at hK
  · exact lv_lushr X.1.1 X.1.2.1 hd rfl (hk _ _ _ hK H locs cells slots ls hl hw)
  · exact hK.elim
theorem as_lcmp (X : am_X p R s m args meth c cc D al nL own h0) (hd : decode cc pc = .ok (.lcmp, 1)) (hk : am_N (am_G p l e R s m args below meth c D al nL h0 Qf) (pc + 1) K) : am_N (am_G p l e R s m args below meth c D al nL h0 Qf) pc (ak_lc K) := by
  intro lo stk h hK H locs cells slots ls hl hw
  unfold ak_lc at hK
  split at hK
  · exact W.lcmp X.1.1 X.1.2.1 hd (hk _ _ _ hK H locs cells slots ls hl hw)
  · exact hK.elim
theorem as_ineg (X : am_X p R s m args meth c cc D al nL own h0) (hd : decode cc pc = .ok (.ineg, 1)) (hk : am_N (am_G p l e R s m args below meth c D al nL h0 Qf) (pc + 1) K) : am_N (am_G p l e R s m args below meth c D al nL h0 Qf) pc (ak_iu (fun x => -x) K) := by
  intro lo stk h hK H locs cells slots ls hl hw
  unfold ak_iu at hK
  split at hK
  · exact lv_ineg X.1.1 X.1.2.1 hd (hk _ _ _ hK H locs cells slots ls hl hw)
  · exact hK.elim
theorem as_i2l (X : am_X p R s m args meth c cc D al nL own h0) (hd : decode cc pc = .ok (.i2l, 1)) (hk : am_N (am_G p l e R s m args below meth c D al nL h0 Qf) (pc + 1) K) : am_N (am_G p l e R s m args below meth c D al nL h0 Qf) pc (ak_i2l K) := by
  intro lo stk h hK H locs cells slots ls hl hw
  unfold ak_i2l at hK
  split at hK
  · exact lv_i2l X.1.1 X.1.2.1 hd rfl (hk _ _ _ hK H locs cells slots ls hl hw)
  · exact hK.elim
theorem as_l2i (X : am_X p R s m args meth c cc D al nL own h0) (hd : decode cc pc = .ok (.l2i, 1)) (hk : am_N (am_G p l e R s m args below meth c D al nL h0 Qf) (pc + 1) K) : am_N (am_G p l e R s m args below meth c D al nL h0 Qf) pc (ak_l2i K) := by
  intro lo stk h hK H locs cells slots ls hl hw
  unfold ak_l2i at hK
  split at hK
  · exact lv_l2i X.1.1 X.1.2.1 hd rfl (hk _ _ _ hK H locs cells slots ls hl hw)
  · exact hK.elim
theorem as_dup (X : am_X p R s m args meth c cc D al nL own h0) (hd : decode cc pc = .ok (.dup, 1)) (hk : am_N (am_G p l e R s m args below meth c D al nL h0 Qf) (pc + 1) K) : am_N (am_G p l e R s m args below meth c D al nL h0 Qf) pc (ak_dup K) := by
  intro lo stk h hK H locs cells slots ls hl hw
  unfold ak_dup at hK
  split at hK
  · exact lv_dup X.1.1 X.1.2.1 hd (by rw [am_tr_cat]; exact hK.1) (hk _ _ _ hK.2 H locs cells slots ls hl hw)
  · exact hK.elim
theorem as_pop (X : am_X p R s m args meth c cc D al nL own h0) (hd : decode cc pc = .ok (.pop, 1)) (hk : am_N (am_G p l e R s m args below meth c D al nL h0 Qf) (pc + 1) K) : am_N (am_G p l e R s m args below meth c D al nL h0 Qf) pc (ak_pop K) := by
  intro lo stk h hK H locs cells slots ls hl hw
  unfold ak_pop at hK
  split at hK
  · exact lv_pop X.1.1 X.1.2.1 hd (by rw [am_tr_cat]; exact hK.1) (hk _ _ _ hK.2 H locs cells slots ls hl hw)
  · exact hK.elim
theorem as_dup2 (X : am_X p R s m args meth c cc D al nL own h0) (hd : decode cc pc = .ok (.dup2, 1)) (hk : am_N (am_G p l e R s m args below meth c D al nL h0 Qf) (pc + 1) K) : am_N (am_G p l e R s m args below meth c D al nL h0 Qf) pc (ak_dup2 K) := by
  intro lo stk h hK H locs cells slots ls hl hw
  unfold ak_dup2 at hK
  split at hK
  · exact lv_dup2_11 X.1.1 X.1.2.1 hd (by rw [am_tr_cat]; exact hK.1) (by rw [am_tr_cat]; exact hK.2.1) (hk _ _ _ hK.2.2 H locs cells slots ls hl hw)
  · exact hK.elim
theorem as_if_eq (X : am_X p R s m args meth c cc D al nL own h0) {off : Int} {tgt : Nat} (hd : decode cc pc = .ok (.ifCond .eq off, 3)) (ht : (pc : Int) + off = (tgt : Int)) (h1 : am_N (am_G p l e R s m args below meth c D al nL h0 Qf) tgt K1) (h2 : am_N (am_G p l e R s m args below meth c D al nL h0 Qf) (pc + 3) K2) : am_N (am_G p l e R s m args below meth c D al nL h0 Qf) pc (ak_if (fun x => x = 0) K1 K2) := by
  intro lo stk h hK H locs cells slots ls hl hw
  unfold ak_if at hK
  split at hK
  · exact lv_if_eq X.1.1 X.1.2.1 hd ht (fun q => h1 _ _ _ (hK.1 q) H locs cells slots ls hl hw) (fun q => h2 _ _ _ (hK.2 q) H locs cells slots ls hl hw)
  · exact hK.elim
theorem as_if_ne (X : am_X p R s m args meth c cc D al nL own h0) {off : Int} {tgt : Nat} (hd : decode cc pc = .ok (.ifCond .ne off, 3)) (ht : (pc : Int) + off = (tgt : Int)) (h1 : am_N (am_G p l e R s m args below meth c D al nL h0 Qf) (pc + 3) K1) (h2 : am_N (am_G p l e R s m args below meth c D al nL h0 Qf) tgt K2) : am_N (am_G p l e R s m args below meth c D al nL h0 Qf) pc (ak_if (fun x => x = 0) K1 K2) := by
  intro lo stk h hK H locs cells slots ls hl hw
  unfold ak_if at hK
  split at hK
  · exact lv_if_ne X.1.1 X.1.2.1 hd ht (fun q => h2 _ _ _ (hK.2 q) H locs cells slots ls hl hw) (fun q => h1 _ _ _ (hK.1 q) H locs cells slots ls hl hw)
  · exact hK.elim
theorem as_if_lt (X : am_X p R s m args meth c cc D al nL own h0) {off : Int} {tgt : Nat} (hd : decode cc pc = .ok (.ifCond .lt off, 3)) (ht : (pc : Int) + off = (tgt : Int)) (h1 : am_N (am_G p l e R s m args below meth c D al nL h0 Qf) tgt K1) (h2 : am_N (am_G p l e R s m args below meth c D al nL h0 Qf) (pc + 3) K2) : am_N (am_G p l e R s m args below meth c D al nL h0 Qf) pc (ak_if (fun x => x < 0) K1 K2) := by
  intro lo stk h hK H locs cells slots ls hl hw
  unfold ak_if at hK
  split at hK
  · exact lv_if_lt X.1.1 X.1.2.1 hd ht (fun q => h1 _ _ _ (hK.1 q) H locs cells slots ls hl hw) (fun q => h2 _ _ _ (hK.2 q) H locs cells slots ls hl hw)
  · exact hK.elim
theorem as_if_ge (X : am_X p R s m args meth c cc D al nL own h0) {off : Int} {tgt : Nat} (hd : decode cc pc = .ok (.ifCond .ge off, 3)) (ht : (pc : Int) + off = (tgt : Int)) (h1 : am_N (am_G p l e R s m args below meth c D al nL h0 Qf) tgt K1) (h2 : am_N (am_G p l e R s m args below meth c D al nL h0 Qf) (pc + 3) K2) : am_N (am_G p l e R s m args below meth c D al nL h0 Qf) pc (ak_if (fun x => 0 ≤ x) K1 K2) := by
  intro lo stk h hK H locs cells slots ls hl hw
  unfold ak_if at hK
  split at hK
  · exact lv_if_ge X.1.1 X.1.2.1 hd ht (fun q => h1 _ _ _ (hK.1 q) H locs cells slots ls hl hw) (fun q => h2 _ _ _ (hK.2 q) H locs cells slots ls hl hw)
  · exact hK.elim
theorem as_if_gt (X : am_X p R s m args meth c cc D al nL own h0) {off : Int} {tgt : Nat} (hd : decode cc pc = .ok (.ifCond .gt off, 3)) (ht : (pc : Int) + off = (tgt : Int)) (h1 : am_N (am_G p l e R s m args below meth c D al nL h0 Qf) tgt K1) (h2 : am_N (am_G p l e R s m args below meth c D al nL h0 Qf) (pc + 3) K2) : am_N (am_G p l e R s m args below meth c D al nL h0 Qf) pc (ak_if (fun x => 0 < x) K1 K2) := by
  intro lo stk h hK H locs cells slots ls hl hw
  unfold ak_if at hK
  split at hK
  · exact lv_if_gt X.1.1 X.1.2.1 hd ht (fun q => h1 _ _ _ (hK.1 q) H locs cells slots ls hl hw) (fun q => h2 _ _ _ (hK.2 q) H locs cells slots ls hl hw)
  · exact hK.elim
theorem as_if_le (X : am_X p R s m args meth c cc D al nL own h0) {off : Int} {tgt : Nat} (hd : decode cc pc = .ok (.ifCond .le off, 3)) (ht : (pc : Int) + off = (tgt : Int)) (h1 : am_N (am_G p l e R s m args below meth c D al nL h0 Qf) tgt K1) (h2 : am_N (am_G p l e R s m args below meth c D al nL h0 Qf) (pc + 3) K2) : am_N (am_G p l e R s m args below meth c D al nL h0 Qf) pc (ak_if (fun x => x ≤ 0) K1 K2) := by
  intro lo stk h hK H locs cells slots ls hl hw
  unfold ak_if at hK
  split at hK
  · exact lv_if_le X.1.1 X.1.2.1 hd ht (fun q => h1 _ _ _ (hK.1 q) H locs cells slots ls hl hw) (fun q => h2 _ _ _ (hK.2 q) H locs cells slots ls hl hw)
  · exact hK.elim
theorem as_ic_eq (X : am_X p R s m args meth c cc D al nL own h0) {off : Int} {tgt : Nat} (hd : decode cc pc = .ok (.if_icmp .eq off, 3)) (ht : (pc : Int) + off = (tgt : Int)) (h1 : am_N (am_G p l e R s m args below meth c D al nL h0 Qf) tgt K1) (h2 : am_N (am_G p l e R s m args below meth c D al nL h0 Qf) (pc + 3) K2) : am_N (am_G p l e R s m args below meth c D al nL h0 Qf) pc (ak_ic (fun x y => x = y) K1 K2) := by
  intro lo stk h hK H locs cells slots ls hl hw
  unfold ak_ic at hK
  split at hK
  · exact lv_icmp_eq X.1.1 X.1.2.1 hd ht (fun q => h1 _ _ _ (hK.1 q) H locs cells slots ls hl hw) (fun q => h2 _ _ _ (hK.2 q) H locs cells slots ls hl hw)
  · exact hK.elim
theorem as_ic_ne (X : am_X p R s m args meth c cc D al nL own h0) {off : Int} {tgt : Nat} (hd : decode cc pc = .ok (.if_icmp .ne off, 3)) (ht : (pc : Int) + off = (tgt : Int)) (h1 : am_N (am_G p l e R s m args below meth c D al nL h0 Qf) (pc + 3) K1) (h2 : am_N (am_G p l e R s m args below meth c D al nL h0 Qf) tgt K2) : am_N (am_G p l e R s m args below meth c D al nL h0 Qf) pc (ak_ic (fun x y => x = y) K1 K2) := by
  intro lo stk h hK H locs cells slots ls hl hw
  unfold ak_ic at hK
  split at hK
  · exact lv_icmp_ne X.1.1 X.1.2.1 hd ht (fun q => h2 _ _ _ (hK.2 q) H locs cells slots ls hl hw) (fun q => h1 _ _ _ (hK.1 q) H locs cells slots ls hl hw)
  · exact hK.elim
theorem as_ic_lt (X : am_X p R s m args meth c cc D al nL own h0) {off : Int} {tgt : Nat} (hd : decode cc pc = .ok (.if_icmp .lt off, 3)) (ht : (pc : Int) + off = (tgt : Int)) (h1 : am_N (am_G p l e R s m args below meth c D al nL h0 Qf) tgt K1) (h2 : am_N (am_G p l e R s m args below meth c D al nL h0 Qf) (pc + 3) K2) : am_N (am_G p l e R s m args below meth c D al nL h0 Qf) pc (ak_ic (fun x y => x < y) K1 K2) := by
  intro lo stk h hK H locs cells slots ls hl hw
  unfold ak_ic at hK
  split at hK
  · exact lv_icmp_lt X.1.1 X.1.2.1 hd ht (fun q => h1 _ _ _ (hK.1 q) H locs cells slots ls hl hw) (fun q => h2 _ _ _ (hK.2 q) H locs cells slots ls hl hw)
  · exact hK.elim
theorem as_ic_ge (X : am_X p R s m args meth c cc D al nL own h0) {off : Int} {tgt : Nat} (hd : decode cc pc = .ok (.if_icmp .ge off, 3)) (ht : (pc : Int) + off = (tgt : Int)) (h1 : am_N (am_G p l e R s m args below meth c D al nL h0 Qf) tgt K1) (h2 : am_N (am_G p l e R s m args below meth c D al nL h0 Qf) (pc + 3) K2) : am_N (am_G p l e R s m args below meth c D al nL h0 Qf) pc (ak_ic (fun x y => y ≤ x) K1 K2) := by
  intro lo stk h hK H locs cells slots ls hl hw
  unfold ak_ic at hK
  split at hK
  · exact lv_icmp_ge X.1.1 X.1.2.1 hd ht (fun q => h1 _ _ _ (hK.1 q) H locs cells slots ls hl hw) (fun q => h2 _ _ _ (hK.2 q) H locs cells slots ls hl hw)
  · exact hK.elim
theorem as_ic_gt (X : am_X p R s m args meth c cc D al nL own h0) {off : Int} {tgt : Nat} (hd : decode cc pc = .ok (.if_icmp .gt off, 3)) (ht : (pc : Int) + off = (tgt : Int)) (h1 : am_N (am_G p l e R s m args below meth c D al nL h0 Qf) tgt K1) (h2 : am_N (am_G p l e R s m args below meth c D al nL h0 Qf) (pc + 3) K2) : am_N (am_G p l e R s m args below meth c D al nL h0 Qf) pc (ak_ic (fun x y => y < x) K1 K2) := by
  intro lo stk h hK H locs cells slots ls hl hw
  unfold ak_ic at hK
  split at hK
  · exact lv_icmp_gt X.1.1 X.1.2.1 hd ht (fun q => h1 _ _ _ (hK.1 q) H locs cells slots ls hl hw) (fun q => h2 _ _ _ (hK.2 q) H locs cells slots ls hl hw)
  · exact hK.elim
theorem as_ic_le (X : am_X p R s m args meth c cc D al nL own h0) {off : Int} {tgt : Nat} (hd : decode cc pc = .ok (.if_icmp .le off, 3)) (ht : (pc : Int) + off = (tgt : Int)) (h1 : am_N (am_G p l e R s m args below meth c D al nL h0 Qf) tgt K1) (h2 : am_N (am_G p l e R s m args below meth c D al nL h0 Qf) (pc + 3) K2) : am_N (am_G p l e R s m args below meth c D al nL h0 Qf) pc (ak_ic (fun x y => x ≤ y) K1 K2) := by
  intro lo stk h hK H locs cells slots ls hl hw
  unfold ak_ic at hK
  split at hK
  · exact lv_icmp_le X.1.1 X.1.2.1 hd ht (fun q => h1 _ _ _ (hK.1 q) H locs cells slots ls hl hw) (fun q => h2 _ _ _ (hK.2 q) H locs cells slots ls hl hw)
  · exact hK.elim
theorem as_goto (X : am_X p R s m args meth c cc D al nL own h0) {off : Int} {tgt : Nat} (hd : decode cc pc = .ok (.goto off, 3)) (ht : (pc : Int) + off = (tgt : Int)) (h1 : am_N (am_G p l e R s m args below meth c D al nL h0 Qf) tgt K) : am_N (am_G p l e R s m args below meth c D al nL h0 Qf) pc K :=
  fun lo stk h hK H locs cells slots ls hl hw => lv_goto X.1.1 X.1.2.1 hd ht (h1 _ _ _ hK H locs cells slots ls hl hw)
theorem as_tab {x : Int32} (lo : am_L) (r : List Value) (h : am_H) : ∀ (Ks : List am_K) (v : Int), am_sws x v Ks lo r h → ∀ (i : Nat) (K : am_K), Ks[i]? = some K → x.toInt = v + i → K lo r h
  | [], _, _, i, K, hi, _ => by simp at hi
  | K0 :: Ks, v, hs, 0, K, hi, hx => by
    simp at hi
    subst hi
    exact hs.1 (by simpa using hx)
  | K0 :: Ks, v, hs, i + 1, K, hi, hx => as_tab lo r h Ks (v + 1) hs.2 i K (by simpa using hi) (by rw [hx]; push_cast; omega)
theorem as_sw (X : am_X p R s m args meth c cc D al nL own h0) {dflt lw hi : Int} {offs : Array Int} {len : Nat} {Ks : List am_K} {F : am_K} {td : Nat} (hd : decode cc pc = .ok (.tableswitch dflt lw hi offs, len)) (ht : (pc : Int) + dflt = (td : Int))
    (hn : offs.size = Ks.length) (hr : hi - lw + 1 = (offs.size : Int)) (hF : am_N (am_G p l e R s m args below meth c D al nL h0 Qf) td F) (hK : ∀ (i : Nat) (off : Int) (K : am_K), offs[i]? = some off → Ks[i]? = some K → ∃ t : Nat, (pc : Int) + off = (t : Int) ∧ am_N (am_G p l e R s m args below meth c D al nL h0 Qf) t K) : am_N (am_G p l e R s m args below meth c D al nL h0 Qf) pc (ak_sw lw hi Ks F) := by
  intro lo stk h hq H locs cells slots ls hl hw
  unfold ak_sw at hq
  split at hq
  · next x r =>
    by_cases ho : x.toInt < lw ∨ hi < x.toInt
    · exact lv_tableOut X.1.1 X.1.2.1 hd ho ht (hF _ _ _ (hq.2 ho) H locs cells slots ls hl hw)
    · have h1 : ¬ x.toInt < lw := fun q => ho (Or.inl q)
      have h2 : ¬ hi < x.toInt := fun q => ho (Or.inr q)
      have hlt : (x.toInt - lw).toNat < offs.size := by omega
      obtain ⟨off, hoff⟩ : ∃ off, offs[(x.toInt - lw).toNat]? = some off := ⟨_, Array.getElem?_eq_getElem hlt⟩
      obtain ⟨K, hKK⟩ : ∃ K, Ks[(x.toInt - lw).toNat]? = some K := ⟨_, List.getElem?_eq_getElem (by omega)⟩
      obtain ⟨t, e1, e2⟩ := hK _ off K hoff hKK
      exact lv_tableIn X.1.1 X.1.2.1 hd h1 h2 hoff e1 (e2 _ _ _ (as_tab lo r h Ks lw hq.1 _ K hKK (by omega)) H locs cells slots ls hl hw)
  · exact hq.elim
end AMS
