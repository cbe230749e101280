/-! Fractions; MEAN; FIFTHS; HIGH; WAY; what is told of a desk. -/
theorem gcd_step (a b : Nat) : Nat.gcd a b = Nat.gcd b (a % b) := by
  rw [Nat.gcd_comm a b, Nat.gcd_rec b a, Nat.gcd_comm]
theorem half_rem {b r : Nat} (h0 : 0 < r) (h : r < b) : 2 * (b % r) < b := by
  have h1 := Nat.div_add_mod b r
  have h2 := Nat.mod_lt b h0
  have h3 : 1 ≤ b / r := Nat.div_pos (Nat.le_of_lt h) h0
  have h4 : r * 1 ≤ r * (b / r) := Nat.mul_le_mul_left r h3
  omega
theorem nz_pos {b : Nat} (h0 : 0 < b) (h : b < 2 ^ 31) : nz (nI b) = some () := by
  unfold nz
  rw [if_neg (nI_ne0 h0 h)]
theorem gcdC : ∀ m a b t k, a < 2 ^ 31 → b < 2 ^ m → m ≤ 31 → t + 2 * m ≤ 99 → 2 * m < k → ∃ y z, L_X5_commonDivisor_7 k (nI a) (nI b) (nI t) = some (nI (Nat.gcd a b), y, z) := by
  intro m
  induction m with
  | zero =>
    intro a b t k ha hb hm ht hk
    obtain rfl : b = 0 := by omega
    obtain ⟨k, rfl⟩ : ∃ j, k = j + 1 := ⟨k - 1, by omega⟩
    rw [L_X5_commonDivisor_7, if_neg (show ¬ (100 : Int32) ≤ nI t from nI_ge (b := 100) (by omega) (by decide)), if_pos (show nI 0 = (0 : Int32) from rfl), Nat.gcd_zero_right]
    exact ⟨_, _, rfl⟩
  | succ m ih =>
    intro a b t k ha hb hm ht hk
    have hb31 : b < 2 ^ 31 := Nat.lt_of_lt_of_le hb (Nat.pow_le_pow_right (by decide) hm)
    obtain ⟨k, rfl⟩ : ∃ j, k = j + 1 := ⟨k - 1, by omega⟩
    rw [L_X5_commonDivisor_7, if_neg (show ¬ (100 : Int32) ≤ nI t from nI_ge (b := 100) (by omega) (by decide))]
    rcases Nat.eq_zero_or_pos b with rfl | hb0
    · rw [if_pos (show nI 0 = (0 : Int32) from rfl), Nat.gcd_zero_right]
      exact ⟨_, _, rfl⟩
    · have hr := Nat.mod_lt a hb0
      rw [if_neg (nI_ne0 hb0 hb31), nz_pos hb0 hb31, bs, pk_rem ha hb0 hb31, nI_1, gcd_step]
      obtain ⟨k, rfl⟩ : ∃ j, k = j + 1 := ⟨k - 1, by omega⟩
      rw [L_X5_commonDivisor_7, if_neg (show ¬ (100 : Int32) ≤ nI (t + 1) from nI_ge (b := 100) (by omega) (by decide))]
      rcases Nat.eq_zero_or_pos (a % b) with e | hr0
      · rw [e, if_pos (show nI 0 = (0 : Int32) from rfl), Nat.gcd_zero_right]
        exact ⟨_, _, rfl⟩
      · have hh := half_rem hr0 hr
        rw [if_neg (nI_ne0 hr0 (by omega)), nz_pos hr0 (by omega), bs, pk_rem hb31 hr0 (by omega), nI_1, gcd_step]
        rw [Nat.pow_succ] at hb
        exact ih (a % b) (b % (a % b)) (t + 1 + 1) k (by omega) (by omega) (by omega) (by omega) (by omega)
theorem gcdM : ∀ m a b k, a < 2 ^ 31 → b < 2 ^ m → m ≤ 31 → 2 * m < k → ∃ y, L_X6_common_4 k (nI a) (nI b) = some (nI (Nat.gcd a b), y) := by
  intro m
  induction m with
  | zero =>
    intro a b k ha hb hm hk
    obtain rfl : b = 0 := by omega
    obtain ⟨k, rfl⟩ : ∃ j, k = j + 1 := ⟨k - 1, by omega⟩
    rw [L_X6_common_4, if_pos (show nI 0 = (0 : Int32) from rfl), Nat.gcd_zero_right]
    exact ⟨_, rfl⟩
  | succ m ih =>
    intro a b k ha hb hm hk
    have hb31 : b < 2 ^ 31 := Nat.lt_of_lt_of_le hb (Nat.pow_le_pow_right (by decide) hm)
    obtain ⟨k, rfl⟩ : ∃ j, k = j + 1 := ⟨k - 1, by omega⟩
    rw [L_X6_common_4]
    rcases Nat.eq_zero_or_pos b with rfl | hb0
    · rw [if_pos (show nI 0 = (0 : Int32) from rfl), Nat.gcd_zero_right]
      exact ⟨_, rfl⟩
    · have hr := Nat.mod_lt a hb0
      rw [if_neg (nI_ne0 hb0 hb31), nz_pos hb0 hb31, bs, pk_rem ha hb0 hb31, gcd_step]
      obtain ⟨k, rfl⟩ : ∃ j, k = j + 1 := ⟨k - 1, by omega⟩
      rw [L_X6_common_4]
      rcases Nat.eq_zero_or_pos (a % b) with e | hr0
      · rw [e, if_pos (show nI 0 = (0 : Int32) from rfl), Nat.gcd_zero_right]
        exact ⟨_, rfl⟩
      · have hh := half_rem hr0 hr
        rw [if_neg (nI_ne0 hr0 (by omega)), nz_pos hr0 (by omega), bs, pk_rem hb31 hr0 (by omega), gcd_step]
        rw [Nat.pow_succ] at hb
        exact ih (a % b) (b % (a % b)) k (by omega) (by omega) (by omega) (by omega)
theorem frac_both {n : Nat} (hn : 300 ≤ n) {a b : Nat} (ha : a < 2 ^ 31) (hb0 : 0 < b) (hb : b < 2 ^ 31) (x : Int32) :
    F_X5_partOfFraction n (nI a) (nI b) x = some (if x = 0 then nI a / nI (Nat.gcd a b) else nI b / nI (Nat.gcd a b)) ∧ F_X6_common n (nI a) (nI b) = some (nI (Nat.gcd a b)) ∧ nz (nI (Nat.gcd a b)) = some () := by
  have g0 : 0 < Nat.gcd a b := Nat.gcd_pos_of_pos_right a hb0
  have g1 : Nat.gcd a b ≤ b := Nat.gcd_le_right a hb0
  obtain ⟨y, z, e1⟩ := gcdC 31 a b 0 n ha hb (by decide) (by decide) (by omega)
  obtain ⟨y2, e2⟩ := gcdM 31 a b n ha hb (by decide) (by omega)
  refine ⟨?_, ?_, nz_pos g0 (by omega)⟩
  · have e3 : (if (1 : Int32) < nI (Nat.gcd a b) then nI (Nat.gcd a b) else (1 : Int32)) = nI (Nat.gcd a b) := by
      by_cases c : 1 < Nat.gcd a b
      · rw [if_pos (show (1 : Int32) < nI (Nat.gcd a b) from nI_lt (a := 1) c (by omega))]
      · rw [if_neg (show ¬ (1 : Int32) < nI (Nat.gcd a b) from nI_nlt (b := Nat.gcd a b) (a := 1) (by omega) (by decide)), show Nat.gcd a b = 1 from by omega]
        rfl
    unfold F_X5_partOfFraction F_X5_commonDivisor
    rw [show L_X5_commonDivisor_7 n (nI a) (nI b) 0 = _ from e1]
    simp only [bs]
    rw [e3, nz_pos g0 (by omega)]
    simp only [bs]
    split <;> rfl
  · unfold F_X6_common
    rw [e2]
    rfl
def S_tot (p : Nat → Int32) (b : Int32) : Nat → Int32
  | 0 => b
  | i + 1 => S_tot p b i + p i
theorem tot_ag {N : Nat} {p q : Nat → Int32} (a : AG N p q) (b : Int32) : ∀ i, i ≤ N → S_tot p b i = S_tot q b i
  | 0, _ => rfl
  | i + 1, h => by rw [S_tot, S_tot, tot_ag a b i (by omega), a i (by omega)]
theorem tot_pos {N : Nat} (hN : N ≤ 8) {p : Nat → Int32} (ok : OKN N p) : ∀ i, i ≤ N → ∃ c, i ≤ c ∧ c ≤ 1999 * i ∧ S_tot p (nI (1000 * N)) i = nI (1000 * (N - i) + c)
  | 0, _ => ⟨0, by omega, by omega, rfl⟩
  | i + 1, h => by
    obtain ⟨c, h1, h2, e⟩ := tot_pos hN ok i (by omega)
    have k := ok i (by omega)
    unfold S_ok at k
    obtain ⟨z, hz, ez⟩ := nI_of (x := p i + 1000) (by
      rw [fa_lt, Int32.toInt_add, Int.bmod_eq_of_le] <;> (rw [show (1000 : Int32).toInt = 1000 from by decide]) <;> (try rw [show (0 : Int32).toInt = 0 from by decide]) <;> omega)
    have ez2 := congrArg Int32.toInt ez
    rw [Int32.toInt_add, Int.bmod_eq_of_le (by rw [show (1000 : Int32).toInt = 1000 from by decide]; omega) (by rw [show (1000 : Int32).toInt = 1000 from by decide]; omega), nI_toInt hz, show (1000 : Int32).toInt = 1000 from by decide] at ez2
    refine ⟨c + z, by omega, by omega, ?_⟩
    have hp : p i = nI z - nI 1000 := by
      rw [← ez]
      exact (Int32.add_sub_cancel (p i) 1000).symm
    rw [S_tot, e, hp, Int32.sub_eq_add_neg, ← Int32.add_assoc, nI_add, ← Int32.sub_eq_add_neg, pk_sub (by omega), show 1000 * (N - i) + c + z - 1000 = 1000 * (N - (i + 1)) + (c + z) from by omega]
theorem op_mean {n : Nat} (hn : 300 ≤ n) {N : Nat} {w d : Nat → Int32} {desks : Int32} {kind lean needs group : Nat → Int32} {slip warmth unheard : Int32} (RH : R_hall N w desks kind lean needs group slip warmth unheard) {p h : Nat → Int32} {o t : Int32} (RS : R_st N p h o t d 0) (x : Int32) :
    ∃ r, F_X5_mean n desks p x = some r ∧ F_X6_mean n w d x = some r := by
  obtain ⟨h1, hN, rfl, hw, ak, al, an, ag, es, ew, eu⟩ := RH
  obtain ⟨r1, r2, r3, r4, r5, r6, r7⟩ := RS
  have loopC : ∀ k i, i ≤ N → N - i < k → L_X5_mean_25 (nI N) p k (S_tot p (nI (1000 * N)) i) (nI i) = some (S_tot p (nI (1000 * N)) N, nI N) := by
    intro k
    induction k with
    | zero => intro i _ h; omega
    | succ k ih =>
      intro i hi hk
      rw [L_X5_mean_25]
      by_cases hq : N ≤ i
      · obtain rfl : i = N := by omega
        rw [if_pos (nI_le (Nat.le_refl _) (by omega))]
      · rw [if_neg (nI_ge (by omega) (by omega)), ld_n (by omega) (by decide), bs, nI_1]
        exact ih (i + 1) (by omega) (by omega)
  have loopM : ∀ k i, i ≤ N → N - i < k → L_X6_mean_25 w d k (S_tot p (nI (1000 * N)) i) (nI i) = some (S_tot p (nI (1000 * N)) N, nI N) := by
    intro k
    induction k with
    | zero => intro i _ h; omega
    | succ k ih =>
      intro i hi hk
      rw [L_X6_mean_25, show ld w 106 (0 : Int32) = some (w 0) from ld_n (i := 0) (by decide) (by decide), bs, hw]
      by_cases hq : N ≤ i
      · obtain rfl : i = N := by omega
        rw [if_pos (nI_le (Nat.le_refl _) (by omega))]
      · rw [if_neg (nI_ge (by omega) (by omega)), show (0 : Int32) + nI i = nI (0 + i) from nI_add 0 i, ld_n (by omega) (by decide), bs, ← r1 i (by omega), nI_1]
        exact ih (i + 1) (by omega) (by omega)
  obtain ⟨c, c1, c2, e⟩ := tot_pos hN r5 N (Nat.le_refl _)
  rw [Nat.sub_self, Nat.mul_zero, Nat.zero_add] at e
  have f1 := loopC n 0 (Nat.zero_le _) (by omega)
  have f2 := loopM n 0 (Nat.zero_le _) (by omega)
  rw [e] at f1 f2
  obtain ⟨g1, g2, g3⟩ := frac_both hn (a := c) (b := N) (by omega) (by omega) (by omega) x
  unfold F_X5_mean F_X6_mean
  rw [show (0 : Int64) = Int32.toInt64 0 from by decide, show (1 : Int64) = Int32.toInt64 1 from by decide, isFrom_in6, isFrom_val, show ld w 106 (0 : Int32) = some (w 0) from ld_n (i := 0) (by decide) (by decide), hw]
  simp only [bs]
  rw [show nI N * (1000 : Int32) = nI (1000 * N) from by rw [Nat.mul_comm]; exact pk_mul N 1000, show (1000 : Int32) * nI N = nI (1000 * N) from pk_mul 1000 N, show L_X5_mean_25 (nI N) p n (nI (1000 * N)) 0 = _ from f1, show L_X6_mean_25 w d n (nI (1000 * N)) 0 = _ from f2]
  simp only [bs]
  rw [g1, g2]
  simp only [bs]
  rw [g3]
  simp only [bs]
  by_cases c : (0 : Int32) ≤ x ∧ x ≤ 1
  · rw [if_neg (fun q => (ite01 _).mp q c), if_neg (fun q => (ite01 _).mp q c)]
    by_cases c3 : x = 0
    · rw [if_pos c3, if_pos c3]
      exact ⟨_, rfl, rfl⟩
    · rw [if_neg c3, if_neg c3]
      exact ⟨_, rfl, rfl⟩
  · rw [if_pos ((ite01 _).mpr c), if_pos ((ite01 _).mpr c)]
    exact ⟨_, rfl, rfl⟩
theorem fifths_key : ∀ a, a < 10 → ∀ b, b < 10 → ∀ x, x < 2 → F_X5_fifths 300 (nI a) (nI b) (nI x) = F_X6_fifths 300 (nI a) (nI b) (nI x) ∧ (F_X6_fifths 300 (nI a) (nI b) (nI x)).isSome = true := by decide +kernel
theorem small_of {x : Int32} {m : Nat} (hm : m < 2 ^ 31) (h : (0 : Int32) ≤ x ∧ x ≤ nI m) : ∃ j, j ≤ m ∧ x = nI j := by
  obtain ⟨j, hj, rfl⟩ := nI_of (x := x) (by rw [fa_lt]; have := h.1; rw [fa_le] at this; omega)
  exact ⟨j, (nI_leI hj hm).mp h.2, rfl⟩
theorem op_fifths (a b x : Int32) : ∃ r, F_X5_fifths 300 a b x = some r ∧ F_X6_fifths 300 a b x = some r := by
  by_cases ca : (0 : Int32) ≤ a ∧ a ≤ 9
  · by_cases cb : (0 : Int32) ≤ b ∧ b ≤ 9
    · by_cases cx : (0 : Int32) ≤ x ∧ x ≤ 1
      · obtain ⟨a, ha, rfl⟩ := small_of (m := 9) (by decide) ca
        obtain ⟨b, hb, rfl⟩ := small_of (m := 9) (by decide) cb
        obtain ⟨x, hx, rfl⟩ := small_of (m := 1) (by decide) cx
        obtain ⟨e1, e2⟩ := fifths_key a (by omega) b (by omega) x (by omega)
        obtain ⟨r, e3⟩ := Option.isSome_iff_exists.mp e2
        exact ⟨r, e1.trans e3, e3⟩
      · unfold F_X5_fifths F_X6_fifths
        rw [show (0 : Int64) = Int32.toInt64 0 from by decide, show (1 : Int64) = Int32.toInt64 1 from by decide, show (9 : Int64) = Int32.toInt64 9 from by decide, isFrom_in6, isFrom_in6, isFrom_in6, isFrom_val, isFrom_val, isFrom_val]
        simp only [bs]
        rw [if_neg (fun q => (ite01 _).mp q ca), if_neg (fun q => (ite01 _).mp q ca), if_neg (fun q => (ite01 _).mp q cb), if_neg (fun q => (ite01 _).mp q cb), if_pos ((ite01 _).mpr cx), if_pos ((ite01 _).mpr cx)]
        exact ⟨_, rfl, rfl⟩
    · unfold F_X5_fifths F_X6_fifths
      rw [show (0 : Int64) = Int32.toInt64 0 from by decide, show (1 : Int64) = Int32.toInt64 1 from by decide, show (9 : Int64) = Int32.toInt64 9 from by decide, isFrom_in6, isFrom_in6, isFrom_in6, isFrom_val, isFrom_val, isFrom_val]
      simp only [bs]
      rw [if_neg (fun q => (ite01 _).mp q ca), if_neg (fun q => (ite01 _).mp q ca), if_pos ((ite01 _).mpr cb), if_pos ((ite01 _).mpr cb)]
      exact ⟨_, rfl, rfl⟩
  · unfold F_X5_fifths F_X6_fifths
    rw [show (0 : Int64) = Int32.toInt64 0 from by decide, show (1 : Int64) = Int32.toInt64 1 from by decide, show (9 : Int64) = Int32.toInt64 9 from by decide, isFrom_in6, isFrom_in6, isFrom_in6, isFrom_val, isFrom_val, isFrom_val]
    simp only [bs]
    rw [if_pos ((ite01 _).mpr ca), if_pos ((ite01 _).mpr ca)]
    exact ⟨_, rfl, rfl⟩
