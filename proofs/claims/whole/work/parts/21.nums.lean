/-! numbers -/
theorem n_lt {a b : Nat} (ha : a < 2147483648) (hb : b < 2147483648) : nI a < nI b ↔ a < b := nI_ltI ha hb
theorem n_le {a b : Nat} (ha : a < 2147483648) (hb : b < 2147483648) : nI a ≤ nI b ↔ a ≤ b := nI_leI ha hb
theorem n_eq {a b : Nat} (ha : a < 2147483648) (hb : b < 2147483648) : nI a = nI b ↔ a = b := nI_eq ha hb
theorem n_lt0 {a : Nat} (ha : a < 2147483648) : nI a < 0 ↔ False := ⟨fun h => nI_pos ha h, False.elim⟩
theorem n_lit (n : Nat) : (OfNat.ofNat n : Int32) = nI (@OfNat.ofNat Nat n (instOfNatNat n)) := rfl
theorem n_litL (n : Nat) : (OfNat.ofNat n : Int64) = lN (@OfNat.ofNat Nat n (instOfNatNat n)) := rfl
theorem n_cl {a : Nat} (ha : a < 2147483648) : (nI a).toNatClampNeg = a := nI_clamp ha
theorem n_in {a n : Nat} (h : a < n) (hn : n < 2147483648) : vp_in (nI a) n ↔ True := ⟨fun _ => trivial, fun _ => vp_in_nI h hn⟩
theorem n_sub {a b : Nat} (h : b ≤ a) : nI a - nI b = nI (a - b) := pk_sub h
theorem n_sub1 {a : Nat} (h : 1 ≤ a) : nI a - 1 = nI (a - 1) := pk_sub h
theorem n_add1 (a : Nat) : nI a + 1 = nI (a + 1) := nI_1 a
theorem n_up {f : Nat → Int32} {k j : Nat} {x : Int32} : upd f k x j = if j = k then x else f j := rfl
theorem n_upL {f : Nat → Int64} {k j : Nat} {x : Int64} : vp_updL f k x j = if j = k then x else f j := rfl
theorem wb_tb (n : Nat) : (lN n).toBitVec = BitVec.ofNat 64 n := rfl
theorem wb_inj {a b : Int64} (h : a.toBitVec = b.toBitVec) : a = b := Int64.toBitVec_inj.mp h
theorem wb_tn {n : Nat} (h : n < 2 ^ 64) : (lN n).toBitVec.toNat = n := by rw [wb_tb, BitVec.toNat_ofNat, Nat.mod_eq_of_lt h]
theorem wb_of (x : Int64) : ∃ n, n < 2 ^ 64 ∧ x = lN n := ⟨x.toBitVec.toNat, x.toBitVec.isLt, wb_inj (by rw [wb_tb]; simp)⟩
theorem wb_of32 (x : Int32) : ∃ n, n < 2 ^ 32 ∧ x = nI n := ⟨x.toBitVec.toNat, x.toBitVec.isLt, Int32.toBitVec_inj.mp (by show _ = BitVec.ofNat 32 _; simp)⟩
theorem wb_c : ∀ k, k < 64 → ((nI k).toInt64 &&& 63) = lN k := by decide +kernel
theorem wb_cu : ∀ k, k < 64 → ((nI k).toInt64.toUInt64 &&& Int64.toUInt64 63) = UInt64.ofNat k := by decide +kernel
theorem wb_sm : ∀ k, k < 64 → (BitVec.ofNat 64 k).smod 64 = BitVec.ofNat 64 k := by decide +kernel
theorem wb_pw {a b : Nat} (h : a ≤ b) : 2 ^ b = 2 ^ a * 2 ^ (b - a) := by rw [← Nat.pow_add]; congr 1; omega
theorem wb_lt2 {a b : Nat} (h : a < b) : 2 ^ a < 2 ^ b := Nat.pow_lt_pow_right (by decide) h
theorem wb_mod (n : Nat) : lN n = lN (n % 2 ^ 64) := wb_inj (by rw [wb_tb, wb_tb]; apply BitVec.eq_of_toNat_eq; rw [BitVec.toNat_ofNat, BitVec.toNat_ofNat, Nat.mod_mod])
theorem wb_shr {n k : Nat} (hn : n < 2 ^ 64) (hk : k < 64) : ((lN n).toUInt64 >>> ((nI k).toInt64.toUInt64 &&& Int64.toUInt64 63)).toInt64 = lN (n / 2 ^ k) := by
  rw [wb_cu k hk]
  apply wb_inj
  apply BitVec.eq_of_toNat_eq
  show ((lN n).toUInt64 >>> UInt64.ofNat k).toNat = (BitVec.ofNat 64 _).toNat
  have h1 : (UInt64.ofNat k).toNat = k := by
    show (BitVec.ofNat 64 k).toNat = k
    rw [BitVec.toNat_ofNat, Nat.mod_eq_of_lt (by omega)]
  have h2 : (lN n).toUInt64.toNat = n := wb_tn hn
  rw [UInt64.toNat_shiftRight, h1, h2, Nat.mod_eq_of_lt hk, Nat.shiftRight_eq_div_pow, BitVec.toNat_ofNat, Nat.mod_eq_of_lt (Nat.lt_of_le_of_lt (Nat.div_le_self _ _) hn)]
theorem wb_shl (n : Nat) {k : Nat} (hk : k < 64) : lN n <<< ((nI k).toInt64 &&& 63) = lN (n * 2 ^ k) := by
  rw [wb_c k hk]
  apply wb_inj
  rw [Int64.toBitVec_shiftLeft, wb_tb, wb_tb, wb_tb, wb_sm k hk]
  apply BitVec.eq_of_toNat_eq
  rw [BitVec.shiftLeft_eq', BitVec.toNat_shiftLeft, BitVec.toNat_ofNat, BitVec.toNat_ofNat, BitVec.toNat_ofNat, Nat.mod_eq_of_lt (show k < 2 ^ 64 by omega), Nat.shiftLeft_eq, Nat.mul_mod, Nat.mod_mod, ← Nat.mul_mod]
theorem wb_and {a b : Nat} (ha : a < 2 ^ 64) (hb : b < 2 ^ 64) : lN a &&& lN b = lN (a &&& b) := by
  apply wb_inj
  rw [Int64.toBitVec_and, wb_tb, wb_tb, wb_tb]
  apply BitVec.eq_of_toNat_eq
  rw [BitVec.toNat_and, BitVec.toNat_ofNat, BitVec.toNat_ofNat, BitVec.toNat_ofNat, Nat.mod_eq_of_lt ha, Nat.mod_eq_of_lt hb, Nat.mod_eq_of_lt (Nat.and_lt_two_pow _ hb)]
theorem wb_or {a b : Nat} (ha : a < 2 ^ 64) (hb : b < 2 ^ 64) : lN a ||| lN b = lN (a ||| b) := by
  apply wb_inj
  rw [Int64.toBitVec_or, wb_tb, wb_tb, wb_tb]
  apply BitVec.eq_of_toNat_eq
  rw [BitVec.toNat_or, BitVec.toNat_ofNat, BitVec.toNat_ofNat, BitVec.toNat_ofNat, Nat.mod_eq_of_lt ha, Nat.mod_eq_of_lt hb, Nat.mod_eq_of_lt (Nat.or_lt_two_pow ha hb)]
theorem wb_mask {n k : Nat} (hn : n < 2 ^ 64) (hk : k < 64) : lN n &&& lN (2 ^ k - 1) = lN (n % 2 ^ k) := by
  rw [wb_and hn (by have := wb_lt2 hk; omega), Nat.and_two_pow_sub_one_eq_mod]
theorem wb_a1 {n : Nat} (hn : n < 2 ^ 64) : lN n &&& 1 = lN (n % 2) := wb_mask (k := 1) hn (by decide)
theorem wb_bit {n k : Nat} (hn : n < 2 ^ 64) (hk : k < 64) : ((lN n).toUInt64 >>> ((nI k).toInt64.toUInt64 &&& Int64.toUInt64 63)).toInt64 &&& 1 = lN (n / 2 ^ k % 2) := by
  rw [wb_shr hn hk, wb_a1 (Nat.lt_of_le_of_lt (Nat.div_le_self _ _) hn)]
theorem u_tn {n : Nat} (h : n < 2 ^ 64) : (UInt64.ofNat n).toNat = n := Nat.mod_eq_of_lt h
theorem g_or {k p a b : Nat} (hp : 2 ^ k = p) (ha : a < p) (h : b * p + a < 2 ^ 64) : lN (b * p) ||| lN a = lN (b * p + a) := by
  subst hp
  have h1 : b * 2 ^ k ||| a = b * 2 ^ k + a := by rw [← Nat.shiftLeft_eq, Nat.shiftLeft_add_eq_or_of_lt ha]
  have h3 : UInt64.ofNat (b * 2 ^ k) ||| UInt64.ofNat a = UInt64.ofNat (b * 2 ^ k + a) := UInt64.toNat_inj.mp (by rw [UInt64.toNat_or, u_tn (by omega), u_tn (by omega), u_tn h, h1])
  have h2 := congrArg UInt64.toInt64 h3
  exact h2
theorem g_or' {k p a b : Nat} (hp : 2 ^ k = p) (ha : a < p) (h : a + b * p < 2 ^ 64) : lN a ||| lN (b * p) = lN (a + b * p) := by
  rw [Int64.or_comm, g_or hp ha (by omega), Nat.add_comm]
theorem lN_ltb {a b : Nat} (ha : a < 9223372036854775808) (hb : b < 9223372036854775808) : lN a < lN b ↔ a < b := pk_lLT ha hb
theorem lN_eq0 {a b : Nat} (ha : a < 9223372036854775808) (hb : b < 9223372036854775808) : lN a = lN b ↔ a = b := pk_lEQ ha hb
theorem lg_cmp0 (x y : Int64) : lg_cmp x y = 0 ↔ x = y := by
  unfold lg_cmp
  by_cases h : x > y
  · have hne : ¬ x = y := fun e => by subst e; exact absurd h (by simp [Int64.lt_irrefl])
    simp [h, hne]
  · by_cases h2 : x = y
    · simp [h, h2]
    · simp [h, h2]
/-! words of letters: digits 1 to 26, packed five bits each -/
def mk_pk : List Nat → Nat
  | [] => 0
  | d :: r => d + 32 * mk_pk r
def mk_W (w : List Nat) : Prop := ∀ d ∈ w, 1 ≤ d ∧ d ≤ 26
theorem mk_W.tl {d : Nat} {w : List Nat} (h : mk_W (d :: w)) : mk_W w := fun x hx => h x (List.mem_cons_of_mem _ hx)
theorem mk_W.hd {d : Nat} {w : List Nat} (h : mk_W (d :: w)) : 1 ≤ d ∧ d ≤ 26 := h d List.mem_cons_self
theorem mk_W.app {v w : List Nat} (h : mk_W v) (h2 : mk_W w) : mk_W (v ++ w) := fun x hx => (List.mem_append.mp hx).elim (h x) (h2 x)
theorem mk_W.drop {w : List Nat} (h : mk_W w) (k : Nat) : mk_W (w.drop k) := fun x hx => h x (List.mem_of_mem_drop hx)
theorem mk_W.take {w : List Nat} (h : mk_W w) (k : Nat) : mk_W (w.take k) := fun x hx => h x (List.mem_of_mem_take hx)
theorem mk_lt : ∀ {w : List Nat}, mk_W w → mk_pk w < 32 ^ w.length
  | [], _ => by simp [mk_pk]
  | d :: r, h => by
    have h1 := mk_lt h.tl
    have h2 := h.hd
    simp only [mk_pk, List.length_cons, Nat.pow_succ]
    omega
theorem mk_ge {w : List Nat} (h : mk_W w) (hn : w ≠ []) : 1 ≤ mk_pk w := by
  cases w with
  | nil => exact absurd rfl hn
  | cons d r => have := h.hd; simp only [mk_pk]; omega
theorem mk_app : ∀ (w v : List Nat), mk_pk (w ++ v) = mk_pk w + mk_pk v * 32 ^ w.length
  | [], v => by simp [mk_pk]
  | d :: r, v => by
    simp only [List.cons_append, mk_pk, mk_app r v, List.length_cons, Nat.pow_succ, Nat.mul_add]
    rw [show mk_pk v * (32 ^ r.length * 32) = 32 * (mk_pk v * 32 ^ r.length) by rw [← Nat.mul_assoc, Nat.mul_comm]]
    omega
theorem mk_app1 (w : List Nat) (d : Nat) : mk_pk (w ++ [d]) = mk_pk w + d * 32 ^ w.length := by rw [mk_app]; simp [mk_pk]
theorem mk_drop : ∀ {w : List Nat} (k : Nat), mk_W w → mk_pk w / 32 ^ k = mk_pk (w.drop k)
  | [], k, _ => by simp [mk_pk]
  | d :: r, 0, _ => by simp
  | d :: r, k + 1, h => by
    have h2 := h.hd
    rw [List.drop_succ_cons, ← mk_drop k h.tl, Nat.pow_succ, Nat.mul_comm (32 ^ k) 32, ← Nat.div_div_eq_div_mul]
    congr 1
    simp only [mk_pk]
    omega
theorem mk_take : ∀ {w : List Nat} (k : Nat), mk_W w → mk_pk w % 32 ^ k = mk_pk (w.take k)
  | [], k, _ => by simp [mk_pk]
  | d :: r, 0, _ => by simp [mk_pk, Nat.mod_one]
  | d :: r, k + 1, h => by
    have h2 := h.hd
    have h3 := mk_take k h.tl
    rw [List.take_succ_cons]
    simp only [mk_pk, ← h3]
    rw [Nat.pow_succ, Nat.mul_comm (32 ^ k) 32, Nat.mod_mul]
    have e1 : (d + 32 * mk_pk r) % 32 = d := by omega
    have e2 : (d + 32 * mk_pk r) / 32 = mk_pk r := by omega
    rw [e1, e2]
theorem mk_inj : ∀ {w v : List Nat}, mk_W w → mk_W v → mk_pk w = mk_pk v → w = v
  | [], [], _, _, _ => rfl
  | [], d :: r, _, h, e => by have := h.hd; simp only [mk_pk] at e; omega
  | d :: r, [], h, _, e => by have := h.hd; simp only [mk_pk] at e; omega
  | d :: r, c :: s, h, g, e => by
    have h1 := h.hd
    have g1 := g.hd
    simp only [mk_pk] at e
    have e1 : d = c := by omega
    have e2 : mk_pk r = mk_pk s := by omega
    rw [e1, mk_inj h.tl g.tl e2]
theorem mk_lt64 {w : List Nat} (h : mk_W w) (hl : w.length ≤ 12) : mk_pk w < 1152921504606846976 :=
  Nat.lt_of_lt_of_le (mk_lt h) (Nat.le_trans (Nat.pow_le_pow_right (by decide) hl) (by decide))
theorem mk_eq {w v : List Nat} (h : mk_W w) (g : mk_W v) (hl : w.length ≤ 12) (gl : v.length ≤ 12) : lN (mk_pk w) = lN (mk_pk v) ↔ w = v := by
  have h1 := mk_lt64 h hl
  have g1 := mk_lt64 g gl
  rw [lN_eq0 (by omega) (by omega)]
  exact ⟨mk_inj h g, fun e => by rw [e]⟩
theorem mk_dig {w : List Nat} (k : Nat) (h : mk_W w) : mk_pk w / 32 ^ k % 32 = w.getD k 0 := by
  rw [mk_drop k h]
  have h2 := h.drop k
  cases e : w.drop k with
  | nil =>
    have : w.length ≤ k := by simpa using e
    simp [mk_pk, List.getD_eq_getElem?_getD, List.getElem?_eq_none this]
  | cons d r =>
    rw [e] at h2
    have := h2.hd
    have hk : w[k]? = some d := by
      have := congrArg (fun l => l[0]?) e
      simpa using this
    simp only [mk_pk, List.getD_eq_getElem?_getD, hk, Option.getD_some]
    omega
theorem n_shr {n k : Nat} (hn : n < 18446744073709551616) (hk : k < 64) : ((lN n).toUInt64 >>> ((nI k).toInt64.toUInt64 &&& (lN 63).toUInt64)).toInt64 = lN (n / 2 ^ k) := wb_shr hn hk
theorem n_shl (n : Nat) {k : Nat} (hk : k < 64) : lN n <<< ((nI k).toInt64 &&& lN 63) = lN (n * 2 ^ k) := wb_shl n hk
theorem n_and (a b : Nat) : nI a &&& nI b = nI (a &&& b) := by
  apply Int32.toBitVec_inj.mp
  rw [Int32.toBitVec_and]
  show BitVec.ofNat 32 a &&& BitVec.ofNat 32 b = BitVec.ofNat 32 (a &&& b)
  apply BitVec.eq_of_toNat_eq
  rw [BitVec.toNat_and, BitVec.toNat_ofNat, BitVec.toNat_ofNat, BitVec.toNat_ofNat, Nat.and_mod_two_pow]
theorem n_or (a b : Nat) : nI a ||| nI b = nI (a ||| b) := by
  apply Int32.toBitVec_inj.mp
  rw [Int32.toBitVec_or]
  show BitVec.ofNat 32 a ||| BitVec.ofNat 32 b = BitVec.ofNat 32 (a ||| b)
  apply BitVec.eq_of_toNat_eq
  rw [BitVec.toNat_or, BitVec.toNat_ofNat, BitVec.toNat_ofNat, BitVec.toNat_ofNat, Nat.or_mod_two_pow]
theorem n_xor (a b : Nat) : nI a ^^^ nI b = nI (a ^^^ b) := by
  apply Int32.toBitVec_inj.mp
  rw [Int32.toBitVec_xor]
  show BitVec.ofNat 32 a ^^^ BitVec.ofNat 32 b = BitVec.ofNat 32 (a ^^^ b)
  apply BitVec.eq_of_toNat_eq
  rw [BitVec.toNat_xor, BitVec.toNat_ofNat, BitVec.toNat_ofNat, BitVec.toNat_ofNat, Nat.xor_mod_two_pow]
theorem n_sc : ∀ k, k < 32 → ((nI k &&& nI 31).toBitVec.smod 32).toNat = k := by decide +kernel
theorem n_ishl {a k : Nat} (hk : k < 32) (h : a * 2 ^ k < 4294967296) : nI a <<< (nI k &&& nI 31) = nI (a * 2 ^ k) := pk_shlN _ k (n_sc k hk) h
theorem n_ishr {a k : Nat} (ha : a < 2147483648) (hk : k < 32) : nI a >>> (nI k &&& nI 31) = nI (a / 2 ^ k) := pk_shrN ha _ k (n_sc k hk)
theorem lg_cz (x y : Int64) : lg_cmp x y = nI 0 ↔ x = y := lg_cmp0 x y
theorem lg_cle (x y : Int64) : lg_cmp x y ≤ nI 0 ↔ x ≤ y := by
  have h := lg_cmp_ge y x
  unfold lg_cmp at h ⊢
  show _ ≤ (0 : Int32) ↔ _
  by_cases h1 : x > y
  · have h2 : ¬ x ≤ y := by rw [Int64.not_le]; exact h1
    simp [h1, h2]
  · have h2 : x ≤ y := by rw [← Int64.not_lt]; exact h1
    by_cases h3 : x = y
    · simp [h1, h3]
    · simp [h1, h3, h2]
