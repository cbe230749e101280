/-! Plain facts over the functions F_.. : no machine from here on. (The first rows are the kit's NUMBERS and BITS, pasted.) -/
theorem fa_lt (a b : Int32) : a < b ↔ a.toInt < b.toInt := Int32.lt_iff_toInt_lt
theorem fa_le (a b : Int32) : a ≤ b ↔ a.toInt ≤ b.toInt := Int32.le_iff_toInt_le
theorem fa_eq (a b : Int32) : a = b ↔ a.toInt = b.toInt := Int32.toInt_inj.symm
theorem fa_lit (n : Nat) : (OfNat.ofNat n : Int32) = nI n := rfl
theorem fa_or (a b : Nat) : nI a ||| nI b = nI (a ||| b) := by
  apply Int32.toBitVec_inj.1
  show BitVec.ofNat 32 a ||| BitVec.ofNat 32 b = BitVec.ofNat 32 (a ||| b)
  apply BitVec.eq_of_getLsbD_eq
  intro i hi
  simp [BitVec.getLsbD_or, BitVec.getLsbD_ofNat, Nat.testBit_or, hi]
theorem s_l : ∀ n, n < 32 → ((nI n &&& 31).toBitVec.smod 32).toNat = n := by decide +kernel
/-! arrays -/
theorem ld_n {f : Nat → Int32} {k i : Nat} (h : i < k) (hk : k < 2 ^ 31) : ld f k (nI i) = some (f i) := by
  unfold ld
  rw [if_neg (nI_in h hk), nI_clamp (by omega)]
theorem sto_n {f : Nat → Int32} {k i : Nat} {x : Int32} (h : i < k) (hk : k < 2 ^ 31) : sto f k (nI i) x = some (upd f i x) := by
  unfold sto
  rw [if_neg (nI_in h hk), nI_clamp (by omega)]
theorem bs {α β : Type} (a : α) (k : α → Option β) : Option.bind (some a) k = k a := rfl
theorem nI_inj {a b : Nat} (ha : a < 2 ^ 31) (hb : b < 2 ^ 31) (h : nI a = nI b) : a = b := (nI_eq ha hb).mp h
theorem nI_ne {a b : Nat} (ha : a < 2 ^ 31) (hb : b < 2 ^ 31) (h : a ≠ b) : ¬ nI a = nI b := fun q => h (nI_inj ha hb q)
/-! bits of a set -/
def bt (m i : Nat) : Bool := decide (m / 2 ^ i % 2 = 1)
theorem bitI {m i : Nat} (hm : m < 2 ^ 31) (hi : i < 31) : (nI m >>> (nI i &&& 31)) &&& 1 = nI (m / 2 ^ i % 2) := by
  rw [pk_shrN hm (nI i &&& 31) i (s_l i (by omega))]
  have h2 : m / 2 ^ i ≤ m := Nat.div_le_self m (2 ^ i)
  exact pk_andN (n := m / 2 ^ i) (by omega) 1 (by decide)
theorem isIn_n (n : Nat) {m i : Nat} (hm : m < 2 ^ 31) (hi : i < 31) : F_X5_isIn n (nI m) (nI i) = some (if bt m i = true then 1 else 0) := by
  unfold F_X5_isIn
  rw [bitI hm hi]
  have h2 : m / 2 ^ i % 2 < 2 := Nat.mod_lt _ (by decide)
  by_cases h : m / 2 ^ i % 2 = 1
  · rw [h, if_pos (show nI 1 = (1 : Int32) from rfl), if_pos (by simp [bt, h])]
  · have h0 : m / 2 ^ i % 2 = 0 := by omega
    rw [h0, if_neg (by decide), if_neg (by simp [bt, h0])]
theorem has_n (n : Nat) {m i : Nat} (hm : m < 2 ^ 31) (hi : i < 31) : F_X6_has n (nI m) (nI i) = some (if bt m i = true then 1 else 0) := isIn_n n hm hi
theorem shl1 {i : Nat} (hi : i < 31) : (1 : Int32) <<< (nI i &&& 31) = nI (2 ^ i) := by
  have h2 : (2 : Nat) ^ i < 2 ^ 31 := Nat.pow_lt_pow_right (by decide) hi
  have h := pk_shlN (n := 1) (nI i &&& 31) i (s_l i (by omega)) (by omega)
  rw [Nat.one_mul] at h
  exact h
theorem orb {a i : Nat} (h : a < 2 ^ i) : nI a ||| nI (2 ^ i) = nI (a + 2 ^ i) := by
  have e := Nat.two_pow_add_eq_or_of_lt h 1
  rw [Nat.mul_one] at e
  rw [fa_or, Nat.or_comm, ← e, Nat.add_comm]
/-- the set of the i below n with P i -/
def S_set (P : Nat → Bool) : Nat → Nat
  | 0 => 0
  | i + 1 => if P i = true then S_set P i + 2 ^ i else S_set P i
theorem S_set_lt (P : Nat → Bool) : ∀ i, S_set P i < 2 ^ i
  | 0 => by simp [S_set]
  | i + 1 => by
    have h := S_set_lt P i
    rw [S_set]
    split <;> omega
theorem S_set_congr {P Q : Nat → Bool} : ∀ {n : Nat}, (∀ i, i < n → P i = Q i) → S_set P n = S_set Q n
  | 0, _ => rfl
  | n + 1, h => by rw [S_set, S_set, S_set_congr (fun i hi => h i (by omega)), h n (by omega)]
theorem S_set_bt (P : Nat → Bool) : ∀ n i, i < n → bt (S_set P n) i = P i
  | 0, _, h => absurd h (Nat.not_lt_zero _)
  | n + 1, i, h => by
    have hl := S_set_lt P n
    rw [S_set]
    by_cases e : i = n
    · subst e
      cases hp : P i
      · rw [if_neg (by decide)]
        simp [bt, Nat.div_eq_of_lt hl]
      · rw [if_pos rfl]
        have : (S_set P i + 2 ^ i) / 2 ^ i = 1 := by
          rw [Nat.add_div_right _ (Nat.two_pow_pos i), Nat.div_eq_of_lt hl]
        simp [bt, this]
    · have ih := S_set_bt P n i (by omega)
      cases hp : P n
      · rw [if_neg (by decide)]
        exact ih
      · rw [if_pos rfl, ← ih]
        have e2 : 2 ^ n = 2 ^ i * (2 * 2 ^ (n - i - 1)) := by
          rw [← Nat.pow_succ', ← Nat.pow_add]
          congr 1
          omega
        have e3 : (S_set P n + 2 ^ n) / 2 ^ i = S_set P n / 2 ^ i + 2 * 2 ^ (n - i - 1) := by
          rw [e2, Nat.add_mul_div_left _ _ (Nat.two_pow_pos i)]
        simp only [bt, e3]
        congr 1
        rw [Nat.add_mul_mod_self_left]
theorem S_set_big (P : Nat → Bool) (n i : Nat) (h : n ≤ i) : bt (S_set P n) i = false := by
  have hl := S_set_lt P n
  have : 2 ^ n ≤ 2 ^ i := Nat.pow_le_pow_right (by decide) h
  simp [bt, Nat.div_eq_of_lt (show S_set P n < 2 ^ i by omega)]
def P_open (kind : Nat → Int32) (m : Nat) : Nat → Bool := fun i => bt m i && decide (kind i ≠ 2)
def P_peg (kind : Nat → Int32) : Nat → Bool := fun i => decide (kind i = 0) || decide (kind i = 3)
def P_grp (group : Nat → Int32) (g : Int32) : Nat → Bool := fun i => decide (group i = g)
/-! isFrom, hasDesk, allDesks -/
theorem isFrom_in {n : Nat} {x a b : Int32} (h1 : a ≤ x) (h2 : x ≤ b) : F_X5_isFrom n x a b = some 1 := by
  unfold F_X5_isFrom
  rw [if_neg (by rw [fa_lt]; rw [fa_le] at h1; omega), if_neg (by rw [fa_lt]; rw [fa_le] at h2; omega)]
theorem isFrom_out {n : Nat} {x a b : Int32} (h : x < a ∨ b < x) : F_X5_isFrom n x a b = some 0 := by
  unfold F_X5_isFrom
  by_cases h1 : x < a
  · rw [if_pos h1]
  · rw [if_neg h1, if_pos (h.resolve_left h1)]
theorem isFrom_val (n : Nat) (x a b : Int32) : F_X5_isFrom n x a b = some (if a ≤ x ∧ x ≤ b then 1 else 0) := by
  by_cases h : a ≤ x ∧ x ≤ b
  · rw [if_pos h, isFrom_in h.1 h.2]
  · rw [if_neg h, isFrom_out]
    rw [fa_lt, fa_lt]
    rw [fa_le, fa_le] at h
    omega
theorem hasDesk_val (n : Nat) (d x : Int32) : F_X0_hasDesk n d x = some (if 0 ≤ x ∧ x < d then 1 else 0) := by
  unfold F_X0_hasDesk
  by_cases h1 : x < 0
  · rw [if_pos h1, if_neg (by rw [fa_le]; rw [fa_lt] at h1; omega)]
  · rw [if_neg h1]
    by_cases h2 : d ≤ x
    · rw [if_pos h2, if_neg (by rw [fa_lt, fa_le]; rw [fa_le] at h2; omega)]
    · rw [if_neg h2, if_pos (by rw [fa_lt] at h1 ⊢; rw [fa_le] at h2 ⊢; omega)]
/-- an Int32 between 0 and N is one of the numbers below N -/
theorem desk_of {x : Int32} {N : Nat} (hN : N < 2 ^ 31) (h : 0 ≤ x ∧ x < nI N) : ∃ j, j < N ∧ x = nI j := by
  obtain ⟨j, hj, rfl⟩ := nI_of (x := x) (by rw [fa_lt]; rw [fa_le] at h; omega)
  exact ⟨j, (nI_ltI hj hN).mp h.2, rfl⟩
theorem desk_in {j N : Nat} (hj : j < N) (hN : N < 2 ^ 31) : (0 : Int32) ≤ nI j ∧ nI j < nI N := ⟨nI_pos' (by omega), nI_lt hj hN⟩
theorem hasDesk_n (n : Nat) {j N : Nat} (hj : j < N) (hN : N < 2 ^ 31) : F_X0_hasDesk n (nI N) (nI j) = some 1 := by
  rw [hasDesk_val, if_pos (desk_in hj hN)]
theorem allDesks_n (n : Nat) {N : Nat} (hN : N ≤ 8) : F_X0_allDesks n (nI N) = some (nI (2 ^ N - 1)) := by
  unfold F_X0_allDesks
  rw [shl1 (by omega)]
  have : 1 ≤ 2 ^ N := Nat.one_le_two_pow
  have h := pk_sub (a := 2 ^ N) (b := 1) this
  rw [← h]
  rfl
theorem two8 {N : Nat} (hN : N ≤ 8) : 2 ^ N ≤ 256 := by
  have := Nat.pow_le_pow_right (n := 2) (by decide) hN
  omega
theorem leanOf_n (n : Nat) {lean : Nat → Int32} {j N : Nat} (hj : j < N) (hN : N ≤ 8) : F_X0_leanOf n (nI N) lean (nI j) = some (lean j - 3) := by
  unfold F_X0_leanOf
  rw [hasDesk_n n hj (by omega), bs, if_neg (by decide), ld_n (by omega) (by decide), bs]
/-- how much a degree warmer changes a desk of that kind -/
def S_hpd (k : Int32) : Int32 := if k = 0 then -1 else if k = 1 then 1 else if k = 3 then -2 else 0
theorem hpd_n (n : Nat) {kind : Nat → Int32} {j N : Nat} (hj : j < N) (hN : N ≤ 8) : F_X0_hairsADegree n (nI N) kind (nI j) = some (S_hpd (kind j)) := by
  unfold F_X0_hairsADegree S_hpd
  rw [hasDesk_n n hj (by omega), bs, if_neg (by decide), ld_n (by omega) (by decide), bs]
  by_cases h0 : kind j = 0
  · rw [if_pos h0, if_pos h0]
  · rw [if_neg h0, if_neg h0]
    by_cases h1 : kind j = 1
    · rw [if_pos h1, if_pos h1]
    · rw [if_neg h1, if_neg h1]
      by_cases h3 : kind j = 3
      · rw [if_pos h3, if_pos h3]
      · rw [if_neg h3, if_neg h3]
/-- kept within 999 and 999 less than 0 -/
def S_within (x : Int32) : Int32 := if x ≤ 999 then (if -999 ≤ x then x else -999) else 999
theorem within_n (n : Nat) (x : Int32) : F_X5_within n x = some (S_within x) := by
  unfold F_X5_within S_within
  have e9 : (999 : Int32).toInt = 999 := by decide
  have e8 : (-999 : Int32).toInt = -999 := by decide
  congr 1
  by_cases h1 : x < 999
  · have h1' : x ≤ 999 := by rw [fa_le]; rw [fa_lt] at h1; omega
    rw [if_pos h1, if_pos h1']
    by_cases h2 : (-999 : Int32) < x
    · have h2' : (-999 : Int32) ≤ x := by rw [fa_le]; rw [fa_lt] at h2; omega
      rw [if_pos h2, if_pos h2']
    · rw [if_neg h2]
      by_cases h3 : (-999 : Int32) ≤ x
      · rw [if_pos h3]
        rw [fa_eq]; rw [fa_lt] at h2; rw [fa_le] at h3; omega
      · rw [if_neg h3]
  · rw [if_neg h1, if_pos (by decide)]
    by_cases h2 : x ≤ 999
    · have e : x = 999 := by rw [fa_eq]; rw [fa_lt] at h1; rw [fa_le] at h2; omega
      subst e
      rfl
    · rw [if_neg h2]
theorem within6_n (n : Nat) (x : Int32) : F_X6_within n x = some (S_within x) := by
  unfold F_X6_within S_within
  by_cases h1 : x ≤ 999
  · rw [if_pos h1, if_pos h1]
    by_cases h2 : (-999 : Int32) ≤ x
    · rw [if_pos h2, if_pos h2]
    · rw [if_neg h2, if_neg h2]
  · rw [if_neg h1, if_neg h1]
/-- within the bounds -/
def S_ok (x : Int32) : Prop := -999 ≤ x.toInt ∧ x.toInt ≤ 999
theorem within_ok (x : Int32) : S_ok (S_within x) := by
  have e9 : (999 : Int32).toInt = 999 := by decide
  have e8 : (-999 : Int32).toInt = -999 := by decide
  unfold S_ok S_within
  split
  · rename_i h1
    split
    · rename_i h2
      rw [fa_le] at h1 h2
      omega
    · omega
  · omega
theorem within_id {x : Int32} (h : S_ok x) : S_within x = x := by
  have e9 : (999 : Int32).toInt = 999 := by decide
  have e8 : (-999 : Int32).toInt = -999 := by decide
  unfold S_ok at h
  unfold S_within
  rw [if_pos (by rw [fa_le]; omega), if_pos (by rw [fa_le]; omega)]
def S_ones (m : Nat) : Nat → Nat
  | 0 => 0
  | k + 1 => S_ones m k + m / 2 ^ k % 2
theorem bitCount_n (n : Nat) {m : Nat} (h : m < 256) : F_J6_bitCount_0f7a4 n (nI m) = some (nI (S_ones m 8)) := by
  have key : ∀ m, m < 256 → F_J6_bitCount_0f7a4 0 (nI m) = some (nI (S_ones m 8)) := by decide +kernel
  exact key m h
theorem S_ones_le (m : Nat) : ∀ k, S_ones m k ≤ k
  | 0 => Nat.le_refl _
  | k + 1 => by
    have := S_ones_le m k
    have h2 : m / 2 ^ k % 2 < 2 := Nat.mod_lt _ (by decide)
    rw [S_ones]
    omega
