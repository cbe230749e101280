/-! ODDS. -/
def S_sum (f : Nat → Nat) : Nat → Nat
  | 0 => 0
  | k + 1 => S_sum f k + f k
theorem sum_add (f : Nat → Nat) (a : Nat) : ∀ b, S_sum f (a + b) = S_sum f a + S_sum (fun t => f (a + t)) b
  | 0 => rfl
  | b + 1 => by
    show S_sum f (a + b) + f (a + b) = S_sum f a + (S_sum (fun t => f (a + t)) b + f (a + b))
    rw [sum_add f a b]
    omega
theorem sum_mul (f : Nat → Nat) (c : Nat) : ∀ k, S_sum (fun t => f t * c) k = S_sum f k * c
  | 0 => (Nat.zero_mul c).symm
  | k + 1 => by
    show S_sum (fun t => f t * c) k + f k * c = (S_sum f k + f k) * c
    rw [sum_mul f c k, Nat.add_mul]
theorem sum_eq {f g : Nat → Nat} : ∀ k, (∀ t, t < k → f t = g t) → S_sum f k = S_sum g k
  | 0, _ => rfl
  | k + 1, h => by rw [S_sum, S_sum, sum_eq k (fun t ht => h t (by omega)), h k (by omega)]
theorem sum_le {f g : Nat → Nat} : ∀ k, (∀ t, t < k → f t ≤ g t) → S_sum f k ≤ S_sum g k
  | 0, _ => Nat.le_refl _
  | k + 1, h => by
    rw [S_sum, S_sum]
    have := sum_le k (fun t ht => h t (by omega))
    have := h k (by omega)
    omega
theorem sum_tail {f : Nat → Nat} {a : Nat} : ∀ k, (∀ t, a ≤ t → f t = 0) → S_sum f (a + k) = S_sum f a
  | 0, _ => rfl
  | k + 1, h => by
    show S_sum f (a + k) + f (a + k) = S_sum f a
    rw [h (a + k) (by omega), Nat.add_zero]
    exact sum_tail k h
/-- in how many of the ways of ten those of s slip and the others of T don't -/
def S_w (x s T : Nat) : Nat → Nat
  | 0 => 1
  | i + 1 => S_w x s T i * (if bt T i = true then (if bt s i = true then x else 10 - x) else 1)
theorem w_congr {x s s' T : Nat} : ∀ k, (∀ i, i < k → bt s i = bt s' i) → S_w x s T k = S_w x s' T k
  | 0, _ => rfl
  | k + 1, h => by rw [S_w, S_w, w_congr k (fun i hi => h i (by omega)), h k (by omega)]
theorem bt_big {m N : Nat} (h : m < 2 ^ N) {i : Nat} (hi : N ≤ i) : bt m i = false := by
  rw [bt_tb]
  exact Nat.testBit_lt_two_pow (Nat.lt_of_lt_of_le h (Nat.pow_le_pow_right (by decide) hi))
theorem w_big {x s T N : Nat} (h : T < 2 ^ N) : ∀ k, S_w x s T (N + k) = S_w x s T N
  | 0 => rfl
  | k + 1 => by
    show S_w x s T (N + k) * (if bt T (N + k) = true then (if bt s (N + k) = true then x else 10 - x) else 1) = _
    rw [bt_big h (by omega), if_neg (by decide), Nat.mul_one]
    exact w_big h k
theorem ones_bt (m k : Nat) : S_ones m (k + 1) = S_ones m k + (if bt m k = true then 1 else 0) := by
  rw [S_ones]
  have h : m / 2 ^ k % 2 < 2 := Nat.mod_lt _ (by decide)
  unfold bt
  by_cases c : m / 2 ^ k % 2 = 1
  · rw [if_pos (decide_eq_true c), c]
  · rw [if_neg (fun q => c (of_decide_eq_true q))]
    omega
theorem ones_big {m N : Nat} (h : m < 2 ^ N) : ∀ k, S_ones m (N + k) = S_ones m N
  | 0 => rfl
  | k + 1 => by
    show S_ones m (N + k + 1) = _
    rw [ones_bt, bt_big h (by omega), if_neg (by decide), Nat.add_zero]
    exact ones_big h k
theorem w_pow {x s r T : Nat} (hst : S_sub s T) (hr : ∀ i, i < 8 → bt r i = (bt T i && !bt s i)) : ∀ k, k ≤ 8 → x ^ (S_ones s k) * (10 - x) ^ (S_ones r k) = S_w x s T k
  | 0, _ => rfl
  | k + 1, h => by
    rw [ones_bt, ones_bt, S_w, ← w_pow hst hr k (by omega), hr k (by omega)]
    cases cT : bt T k
    · have cs : bt s k = false := by
        cases c : bt s k
        · rfl
        · rw [bt_tb] at c
          have := hst k c
          rw [← bt_tb, cT] at this
          cases this
      rw [cs]
      simp
    · cases cs : bt s k
      · simp [Nat.pow_succ, Nat.mul_assoc]
      · simp [Nat.pow_succ, Nat.mul_assoc, Nat.mul_comm]
theorem w_sum {x T : Nat} (hx : x ≤ 10) : ∀ N, S_sum (fun s => S_w x s T N) (2 ^ N) ≤ 10 ^ N
  | 0 => Nat.le_refl _
  | N + 1 => by
    have ih := w_sum (T := T) hx N
    rw [show 2 ^ (N + 1) = 2 ^ N + 2 ^ N from by rw [Nat.pow_succ]; omega, sum_add]
    have e1 : S_sum (fun s => S_w x s T (N + 1)) (2 ^ N) = S_sum (fun s => S_w x s T N) (2 ^ N) * (if bt T N = true then 10 - x else 1) := by
      rw [← sum_mul]
      apply sum_eq
      intro t ht
      show S_w x t T N * (if bt T N = true then (if bt t N = true then x else 10 - x) else 1) = _
      rw [bt_big ht (Nat.le_refl _), if_neg (show ¬ (false : Bool) = true from by decide)]
    have e2 : S_sum (fun t => S_w x (2 ^ N + t) T (N + 1)) (2 ^ N) = S_sum (fun s => S_w x s T N) (2 ^ N) * (if bt T N = true then x else 1) := by
      rw [← sum_mul]
      apply sum_eq
      intro t ht
      show S_w x (2 ^ N + t) T N * (if bt T N = true then (if bt (2 ^ N + t) N = true then x else 10 - x) else 1) = _
      have b1 : bt (2 ^ N + t) N = true := by
        rw [bt_tb, Nat.testBit_two_pow_add_eq, ← bt_tb, bt_big ht (Nat.le_refl _)]
        rfl
      have b2 : ∀ i, i < N → bt (2 ^ N + t) i = bt t i := fun i hi => by
        rw [bt_tb, Nat.testBit_two_pow_add_gt hi, ← bt_tb]
      rw [b1, if_pos (show (true : Bool) = true from rfl), w_congr N b2]
    rw [e1, e2, ← Nat.mul_add, Nat.pow_succ]
    refine Nat.mul_le_mul ih ?_
    by_cases c : bt T N = true
    · rw [if_pos c, if_pos c]
      omega
    · rw [if_neg c, if_neg c]
      decide
theorem power_n {n : Nat} (hn : 300 ≤ n) (b : Nat) {k : Nat} (hk : k ≤ 8) : F_X5_power n (nI b) (nI k) = some (nI (b ^ k)) := by
  have loop : ∀ m i, i ≤ k → k - i < m → L_X5_power_4 (nI b) (nI k) m (nI (b ^ i)) (nI i) = some (nI (b ^ k), nI k) := by
    intro m
    induction m with
    | zero => intro i _ h; omega
    | succ m ih =>
      intro i hi hm
      rw [L_X5_power_4]
      by_cases q : k ≤ i
      · obtain rfl : i = k := by omega
        rw [if_pos (nI_le (Nat.le_refl _) (by omega))]
      · rw [if_neg (nI_ge (by omega) (by omega)), pk_mul, nI_1, ← Nat.pow_succ]
        exact ih (i + 1) (by omega) (by omega)
  unfold F_X5_power
  rw [show L_X5_power_4 (nI b) (nI k) n 1 0 = _ from loop n 0 (by omega) (by omega)]
  rfl
theorem minus_n {T : Nat} (hT : T < 256) (s : Nat) : ∃ r, r < 256 ∧ nI T &&& (nI s ^^^ (-1 : Int32)) = nI r ∧ ∀ i, i < 8 → bt r i = (bt T i && !bt s i) := by
  have e1 : ∀ i, i < 32 → (nI T &&& (nI s ^^^ (-1 : Int32))).toBitVec.getLsbD i = (T.testBit i && !s.testBit i) := by
    intro i hi
    rw [Int32.toBitVec_and, Int32.toBitVec_xor, BitVec.getLsbD_and, BitVec.getLsbD_xor, nI_bit hi, nI_bit hi]
    have : (-1 : Int32).toBitVec.getLsbD i = true := by
      have h : ∀ i, i < 32 → (-1 : Int32).toBitVec.getLsbD i = true := by decide
      exact h i hi
    rw [this, Bool.xor_true]
  refine ⟨(nI T &&& (nI s ^^^ (-1 : Int32))).toBitVec.toNat, ?_, ?_, ?_⟩
  · apply Nat.lt_pow_two_of_testBit (n := 8)
    intro i hi
    show (nI T &&& (nI s ^^^ (-1 : Int32))).toBitVec.getLsbD i = false
    rcases Nat.lt_or_ge i 32 with q | q
    · rw [e1 i q, Nat.testBit_lt_two_pow (Nat.lt_of_lt_of_le hT (Nat.pow_le_pow_right (n := 2) (by decide) hi))]
      rfl
    · exact BitVec.getLsbD_of_ge _ _ q
  · apply Int32.toBitVec_inj.1
    show _ = BitVec.ofNat 32 _
    rw [BitVec.ofNat_toNat, BitVec.setWidth_eq]
  · intro i hi
    rw [bt_tb, bt_tb, bt_tb]
    exact e1 i (by omega)
/-- those of s have slipped -/
def SL (p : Nat → Int32) (s : Nat) : Nat → Int32 := fun k => if bt s k = true then S_within (p k - 4) else p k
theorem SL_ok {N : Nat} {p : Nat → Int32} (ok : OKN N p) (s : Nat) : OKN N (SL p s) := by
  intro i hi
  unfold SL
  split
  · exact within_ok _
  · exact ok i hi
def SLd (p : Nat → Int32) (s : Nat) (dd : Nat → Int32) (i : Nat) : Nat → Int32 := fun j => if 198 ≤ j ∧ j < 198 + i then SL p s (j - 198) else dd j
theorem SLd_step {p dd : Nat → Int32} {s i : Nat} {v : Int32} (hv : v = SL p s i) : upd (SLd p s dd i) (198 + i) v = SLd p s dd (i + 1) := by
  funext j
  show (if j = 198 + i then v else if 198 ≤ j ∧ j < 198 + i then SL p s (j - 198) else dd j) = (if 198 ≤ j ∧ j < 198 + (i + 1) then SL p s (j - 198) else dd j)
  by_cases e : j = 198 + i
  · subst e
    rw [if_pos rfl, if_pos ⟨by omega, by omega⟩, hv, show 198 + i - 198 = i from by omega]
  · rw [if_neg e]
    by_cases c : 198 ≤ j ∧ j < 198 + i
    · rw [if_pos c, if_pos ⟨c.1, by omega⟩]
    · rw [if_neg c, if_neg (fun q => c ⟨q.1, by omega⟩)]
theorem odds151 {n N : Nat} (hN : N ≤ 8) {w : Nat → Int32} (hw : w 0 = nI N) {x T s : Nat} (hx : x ≤ 10) (hT : T < 2 ^ 31) (hs : s < 2 ^ 31) {T2 : Int32 × Int32 × Int32} (hT2 : T2.1 = nI T) {p dd : Nat → Int32} (hp : ∀ i, i < N → dd (198 + i) = p i) (ok : OKN N p) : ∀ k i, i ≤ N → N - i < k → L_X6_odds_151 n w (nI x) T2 (nI s) k (nI (S_w x s T i)) (nI i) (SLd p s dd i) = some (nI (S_w x s T N), nI N, SLd p s dd N) := by
  intro k
  induction k with
  | zero => intro i _ h; omega
  | succ k ih =>
    intro i hi hk
    rw [L_X6_odds_151, show ld w 106 (0 : Int32) = some (w 0) from ld_n (i := 0) (by decide) (by decide), bs, hw]
    by_cases q : N ≤ i
    · obtain rfl : i = N := by omega
      rw [if_pos (nI_le (Nat.le_refl _) (by omega))]
    · have hv : SLd p s dd i (198 + i) = p i := by
        show (if 198 ≤ 198 + i ∧ 198 + i < 198 + i then SL p s (198 + i - 198) else dd (198 + i)) = p i
        rw [if_neg (by omega), hp i (by omega)]
      rw [if_neg (nI_ge (by omega) (by omega)), hT2, has_n n hT (by omega), has_n n hs (by omega), show (198 : Int32) + nI i = nI (198 + i) from nI_add 198 i, ld_n (by omega) (by decide), hv]
      simp only [bs]
      have e1 : (if (if bt T i = true then (1 : Int32) else 0) = 0 then some (1 : Int32) else if (if bt s i = true then (1 : Int32) else 0) = 0 then some ((10 : Int32) - nI x) else some (nI x)) = some (nI (if bt T i = true then (if bt s i = true then x else 10 - x) else 1)) := by
        by_cases b1 : bt T i = true
        · rw [if_pos b1, if_neg (by decide), if_pos b1]
          by_cases b2 : bt s i = true
          · rw [if_pos b2, if_neg (by decide), if_pos b2]
          · rw [if_neg b2, if_pos rfl, if_neg b2]
            exact congrArg some (pk_sub (a := 10) (b := x) hx)
        · rw [if_neg b1, if_pos rfl, if_neg b1]
          rfl
      have e2 : ∀ g : Int32 → Option (Int32 × Int32 × (Nat → Int32)), (Option.bind (if (if bt s i = true then (1 : Int32) else 0) = 0 then some (0 : Int32) else some 4) fun j => Option.bind (F_X6_within n (p i - j)) fun r => g r) = g (SL p s i) := by
        intro g
        unfold SL
        by_cases b2 : bt s i = true
        · rw [if_pos b2, if_neg (by decide), if_pos b2, bs, within6_n, bs]
        · rw [if_neg b2, if_pos rfl, if_neg b2, bs, within6_n, bs, Int32.sub_zero, within_id (ok i (by omega))]
      rw [e1, bs, e2, sto_n (by omega) (by decide), bs, SLd_step rfl, pk_mul, nI_1]
      exact ih (i + 1) (by omega) (by omega)
/-- the ways of s that end quiet -/
def S_f (p : Nat → Int32) (un : Int32) (x T N s : Nat) : Nat := if s &&& T = s ∧ S_twos (SL p s) un N = 0 then S_w x s T N else 0
theorem sub_and {s T : Nat} : s &&& T = s ↔ S_sub s T := by
  constructor
  · intro h i hi
    rw [← h, Nat.testBit_and, Bool.and_eq_true] at hi
    exact hi.2
  · intro h
    apply Nat.eq_of_testBit_eq
    intro i
    rw [Nat.testBit_and]
    cases c : s.testBit i
    · rfl
    · rw [h i c]
      rfl
theorem twos_lt (p : Nat → Int32) (un : Int32) {N : Nat} (hN : N ≤ 8) (ok : OKN N p) : S_twos p un N < 2 ^ 31 := by
  rw [← S_up_eq ok]
  have := S_up_le p un hN N
  omega
theorem odds5 {n : Nat} (hn : 300 ≤ n) {N : Nat} (hN : N ≤ 8) {p h : Nat → Int32} {o t un : Int32} (ok : OKN N p) {x T : Nat} (hx : x ≤ 10) (hT : T < 2 ^ N) : ∀ k s, s ≤ T + 1 → T + 1 - s < k → ∀ (a1 a2 : Int32) (q1 q2 : Nat → Int32) (s1 s2 : Int32), ∃ J, L_X5_odds_35 n (nI N) un p h o t (nI x) (nI T) k (nI (S_sum (S_f p un x T N) s)) (nI s) a1 a2 q1 q2 s1 s2 = some (nI (S_sum (S_f p un x T N) (T + 1)), nI (T + 1), J) := by
  have p2 := two8 hN
  intro k
  induction k with
  | zero => intro s _ h; omega
  | succ k ih =>
    intro s hs hk a1 a2 q1 q2 s1 s2
    rw [L_X5_odds_35]
    by_cases hq : T < s
    · obtain rfl : s = T + 1 := by omega
      rw [if_pos (nI_lt (by omega) (by omega))]
      exact ⟨_, rfl⟩
    · rw [if_neg (nI_nlt (by omega) (by omega))]
      by_cases cs : S_sub s T
      · rw [if_pos ((sub_n (by omega)).mpr cs), startTrial_n hn]
        simp only [bs]
        rw [slipPegs_n hn hN (by omega)]
        simp only [bs]
        have ag : AG N (S_fill (fun k => if bt s k = true then S_within (S_fill p q1 8 k - 4) else S_fill p q1 8 k) (S_fill p q1 8) N) (SL p s) := fun i hi => by
          rw [S_fill_in hi]
          show (if bt s i = true then S_within (S_fill p q1 8 i - 4) else S_fill p q1 8 i) = SL p s i
          rw [S_fill_in (by omega)]
          rfl
        generalize S_fill (fun k => if bt s k = true then S_within (S_fill p q1 8 k - 4) else S_fill p q1 8 k) (S_fill p q1 8) N = P at ag
        have okP : OKN N P := fun i hi => by rw [ag i hi]; exact SL_ok ok s i hi
        rw [twosHeard_n hn hN, S_up_eq okP, twos_ag ag _ N (Nat.le_refl _)]
        simp only [bs]
        have tl := twos_lt (SL p s) un hN (SL_ok ok s)
        by_cases c0 : S_twos (SL p s) un N = 0
        · obtain ⟨r, r1, r2, r3⟩ := minus_n (T := T) (by omega) s
          have ef : S_f p un x T N s = S_w x s T 8 := by
            unfold S_f
            rw [if_pos ⟨sub_and.mpr cs, c0⟩]
            have := w_big (x := x) (s := s) hT (8 - N)
            rw [show N + (8 - N) = 8 from by omega] at this
            exact this.symm
          have hk1 := S_ones_le s 8
          have hk2 := S_ones_le r 8
          rw [c0, if_pos (show nI 0 ≤ (0 : Int32) from by decide), bitCount_n n (by omega)]
          simp only [bs]
          rw [power_n hn x (by omega)]
          simp only [bs]
          rw [r2, bitCount_n n r1]
          simp only [bs]
          rw [show (10 : Int32) - nI x = nI (10 - x) from pk_sub (a := 10) (b := x) hx, power_n hn (10 - x) (by omega)]
          simp only [bs]
          rw [pk_mul, w_pow cs r3 8 (Nat.le_refl _), ← ef, nI_add, ← S_sum, nI_1]
          exact ih (s + 1) (by omega) (by omega) _ _ _ _ _ _
        · have ef : S_f p un x T N s = 0 := by
            unfold S_f
            rw [if_neg (fun q => c0 q.2)]
          rw [if_neg (show ¬ nI (S_twos (SL p s) un N) ≤ (0 : Int32) from nI_ge (a := 0) (by omega) (by omega))]
          simp only [bs]
          rw [nI_1, show S_sum (S_f p un x T N) s = S_sum (S_f p un x T N) (s + 1) from by rw [S_sum, ef, Nat.add_zero]]
          exact ih (s + 1) (by omega) (by omega) _ _ _ _ _ _
      · have ef : S_f p un x T N s = 0 := by
          unfold S_f
          rw [if_neg (fun q => cs (sub_and.mp q.1))]
        rw [if_neg (fun q => cs ((sub_n (by omega)).mp q))]
        simp only [bs]
        rw [nI_1, show S_sum (S_f p un x T N) s = S_sum (S_f p un x T N) (s + 1) from by rw [S_sum, ef, Nat.add_zero]]
        exact ih (s + 1) (by omega) (by omega) _ _ _ _ _ _
theorem odds6 {n : Nat} (hn : 300 ≤ n) {N : Nat} (hN : N ≤ 8) {w d p : Nat → Int32} (hw : w 0 = nI N) (hp : ∀ i, i < N → p i = d i) (ok : OKN N p) {x T : Nat} (hx : x ≤ 10) (hT : T < 2 ^ N) {T2 : Int32 × Int32 × Int32} (hT2 : T2.1 = nI T) : ∀ k s, s ≤ 2 ^ N → 2 ^ N - s < k → ∀ d1, LOW d d1 → ∃ d', L_X6_odds_119 n w (nI x) T2 k (nI (S_sum (S_f p (w 52) x T N) s)) (nI s) d1 = some (nI (S_sum (S_f p (w 52) x T N) (2 ^ N)), nI (2 ^ N), d') ∧ LOW d d' := by
  have p2 := two8 hN
  intro k
  induction k with
  | zero => intro s _ h; omega
  | succ k ih =>
    intro s hs hk d1 l1
    rw [L_X6_odds_119, show ld w 106 (0 : Int32) = some (w 0) from ld_n (i := 0) (by decide) (by decide), bs, hw, shl1 (by omega)]
    by_cases hq : 2 ^ N ≤ s
    · obtain rfl : s = 2 ^ N := by omega
      rw [if_pos (nI_le (Nat.le_refl _) (by omega))]
      exact ⟨_, rfl, l1⟩
    · rw [if_neg (nI_ge (by omega) (by omega)), hT2]
      by_cases cs : S_sub s T
      · rw [if_pos ((sub_n (by omega)).mpr cs), lays_dd hn]
        simp only [bs]
        have hp1 : ∀ i, i < N → S_lay d1 (198 + i) = p i := fun i hi => by
          unfold S_lay
          rw [if_pos ⟨by omega, by omega⟩, show 198 + i - 198 = i from by omega, l1 i (by omega), hp i hi]
        have f1 := odds151 (n := n) hN hw hx (show T < 2 ^ 31 by omega) (show s < 2 ^ 31 by omega) hT2 hp1 ok n 0 (by omega) (by omega)
        have z : SLd p s (S_lay d1) 0 = S_lay d1 := by
          funext j
          unfold SLd
          rw [if_neg (by omega)]
        rw [z] at f1
        rw [show L_X6_odds_151 n w (nI x) T2 (nI s) n 1 0 (S_lay d1) = _ from f1]
        simp only [bs]
        have ag : AG N (SL p s) (fun k => SLd p s (S_lay d1) N (198 + k)) := fun i hi => by
          show _ = SLd p s (S_lay d1) N (198 + i)
          unfold SLd
          rw [if_pos ⟨by omega, by omega⟩, show 198 + i - 198 = i from by omega]
        rw [(heard_both hn hN hw ag (SL_ok ok s)).2]
        simp only [bs]
        have l2 : LOW d (SLd p s (S_lay d1) N) := (l1.tr (LOW.lay d1)).tr (fun j hj => by unfold SLd; rw [if_neg (by omega)])
        have tl := twos_lt (SL p s) (w 52) hN (SL_ok ok s)
        by_cases c0 : S_twos (SL p s) (w 52) N = 0
        · have ef : S_f p (w 52) x T N s = S_w x s T N := by
            unfold S_f
            rw [if_pos ⟨sub_and.mpr cs, c0⟩]
          rw [c0, if_pos (show nI 0 = (0 : Int32) from rfl)]
          simp only [bs]
          rw [← ef, nI_add, ← S_sum, nI_1]
          exact ih (s + 1) (by omega) (by omega) _ l2
        · have ef : S_f p (w 52) x T N s = 0 := by
            unfold S_f
            rw [if_neg (fun q => c0 q.2)]
          rw [if_neg (show ¬ nI (S_twos (SL p s) (w 52) N) = (0 : Int32) from nI_ne (b := 0) (by omega) (by decide) c0)]
          simp only [bs]
          rw [Int32.add_zero, nI_1, show S_sum (S_f p (w 52) x T N) s = S_sum (S_f p (w 52) x T N) (s + 1) from by rw [S_sum, ef, Nat.add_zero]]
          exact ih (s + 1) (by omega) (by omega) _ l2
      · have ef : S_f p (w 52) x T N s = 0 := by
          unfold S_f
          rw [if_neg (fun q => cs (sub_and.mp q.1))]
        rw [if_neg (fun q => cs ((sub_n (by omega)).mp q))]
        simp only [bs]
        rw [nI_1, show S_sum (S_f p (w 52) x T N) s = S_sum (S_f p (w 52) x T N) (s + 1) from by rw [S_sum, ef, Nat.add_zero]]
        exact ih (s + 1) (by omega) (by omega) _ l1
theorem odds32 {n : Nat} (hn : 300 ≤ n) {N : Nat} (hN : N ≤ 8) {w kind : Nat → Int32} (hw : w 0 = nI N) (ak : AG N kind (W_kind w)) : L_X6_odds_32 w n 0 1 0 = some (nI (S_set (P_peg kind) N), nI (10 ^ S_ones (S_set (P_peg kind) N) 8), nI N) := by
  have loop : ∀ k i, i ≤ N → N - i < k → L_X6_odds_32 w k (nI (S_set (P_peg kind) i)) (nI (10 ^ S_ones (S_set (P_peg kind) N) i)) (nI i) = some (nI (S_set (P_peg kind) N), nI (10 ^ S_ones (S_set (P_peg kind) N) N), nI N) := by
    intro k
    induction k with
    | zero => intro i _ h; omega
    | succ k ih =>
      intro i hi hk
      rw [L_X6_odds_32, show ld w 106 (0 : Int32) = some (w 0) from ld_n (i := 0) (by decide) (by decide), bs, hw]
      by_cases q : N ≤ i
      · obtain rfl : i = N := by omega
        rw [if_pos (nI_le (Nat.le_refl _) (by omega))]
      · have hk1 : w (1 + i) = kind i := (ak i (by omega)).symm
        have hlt := S_set_lt (P_peg kind) i
        have hstep := ih (i + 1) (by omega) (by omega)
        rw [S_set, ← nI_1, ones_bt, S_set_bt _ N i (by omega)] at hstep
        rw [if_neg (nI_ge (by omega) (by omega)), show (1 : Int32) + nI i = nI (1 + i) from nI_add 1 i, ld_n (by omega) (by decide), hk1]
        simp only [bs]
        have e1 : (if kind i = 0 then some (1 : Int32) else if kind i = 3 then some 1 else some 0) = some (if P_peg kind i = true then 1 else 0) := by
          unfold P_peg
          by_cases h0 : kind i = 0
          · rw [if_pos h0, if_pos (by simp [h0])]
          · rw [if_neg h0]
            by_cases h3 : kind i = 3
            · rw [if_pos h3, if_pos (by simp [h3])]
            · rw [if_neg h3, if_neg (by simp [h0, h3])]
        rw [e1]
        simp only [bs]
        by_cases b : P_peg kind i = true
        · rw [if_pos b, if_pos b, Nat.pow_succ, ← pk_mul] at hstep
          rw [if_pos b, if_neg (show ¬ (1 : Int32) = 0 from by decide), if_neg (show ¬ (1 : Int32) = 0 from by decide), shl1 (by omega)]
          simp only [bs]
          rw [orb hlt]
          exact hstep
        · rw [if_neg b, if_neg b, Nat.add_zero] at hstep
          rw [if_neg b, if_pos (show (0 : Int32) = 0 from rfl), if_pos (show (0 : Int32) = 0 from rfl)]
          simp only [bs]
          rw [Int32.or_zero, Int32.mul_one]
          exact hstep
  have e := loop n 0 (Nat.zero_le _) (by omega)
  have h8 := ones_big (S_set_lt (P_peg kind) N) (8 - N)
  rw [show N + (8 - N) = 8 from by omega] at h8
  rw [h8]
  exact e
theorem op_odds {n : Nat} (hn : 300 ≤ n) {N : Nat} {w d : Nat → Int32} {desks : Int32} {kind lean needs group : Nat → Int32} {slip warmth unheard : Int32} (RH : R_hall N w desks kind lean needs group slip warmth unheard) {p h : Nat → Int32} {o t : Int32} (RS : R_st N p h o t d 0) (tp tq : Nat → Int32) (to' ts st0 dr0 x y : Int32) :
    ∃ r J d', F_X5_odds n desks kind unheard p h o t tp tq to' ts st0 dr0 x y = some (r, J) ∧ F_X6_odds n w d x y = some (r, d') ∧ LOW d d' := by
  obtain ⟨h1, hN, rfl, hw, ak, al, an, ag, es, ew, rfl⟩ := RH
  have hp : ∀ i, i < N → p i = d i := fun i hi => by rw [RS.1 i hi, Nat.zero_add]
  have ok := RS.2.2.2.2.1
  have p2 := two8 hN
  have hT := S_set_lt (P_peg kind) N
  unfold F_X5_odds F_X6_odds
  rw [show (0 : Int64) = Int32.toInt64 0 from by decide, show (1 : Int64) = Int32.toInt64 1 from by decide, show (10 : Int64) = Int32.toInt64 10 from by decide, isFrom_in6, isFrom_in6, isFrom_val, isFrom_val, peggedDesks_n hn hN, odds32 hn hN hw ak]
  simp only [bs]
  by_cases c : (0 : Int32) ≤ x ∧ x ≤ 10
  · rw [if_neg (fun q => (ite01 _).mp q c), if_neg (fun q => (ite01 _).mp q c)]
    by_cases c2 : (0 : Int32) ≤ y ∧ y ≤ 1
    · rw [if_neg (fun q => (ite01 _).mp q c2), if_neg (fun q => (ite01 _).mp q c2)]
      obtain ⟨x, hx, rfl⟩ := small_of (m := 10) (by decide) c
      have hon := S_ones_le (S_set (P_peg kind) N) 8
      generalize hTe : S_set (P_peg kind) N = T at hT hon
      obtain ⟨J, f5⟩ := odds5 (h := h) (o := o) (t := t) (un := w 52) hn hN ok hx hT n 0 (by omega) (by omega) to' ts tp tq st0 dr0
      obtain ⟨d', f6, l6⟩ := odds6 (T2 := (nI T, nI (10 ^ S_ones T 8), nI N)) hn hN hw hp ok hx hT rfl n 0 (by omega) (by omega) d (LOW.rf d)
      have est := sum_tail (f := S_f p (w 52) x T N) (a := T + 1) (2 ^ N - (T + 1)) (fun t ht => by
        unfold S_f
        rw [if_neg (fun q => by
          have := sub_le (sub_and.mp q.1)
          omega)])
      rw [show T + 1 + (2 ^ N - (T + 1)) = 2 ^ N from by omega] at est
      rw [est] at f6
      have bound : S_sum (S_f p (w 52) x T N) (T + 1) < 2 ^ 31 := by
        rw [← est]
        have b1 := sum_le (f := S_f p (w 52) x T N) (g := fun s => S_w x s T N) (2 ^ N) (fun t ht => by
          unfold S_f
          split
          · exact Nat.le_refl _
          · exact Nat.zero_le _)
        have b2 := w_sum (T := T) hx N
        have b3 : (10 : Nat) ^ N ≤ 10 ^ 8 := Nat.pow_le_pow_right (by decide) hN
        have b4 : (10 : Nat) ^ 8 < 2 ^ 31 := by decide
        omega
      have tens1 : 0 < 10 ^ S_ones T 8 := Nat.pow_pos (by decide)
      have tens2 : 10 ^ S_ones T 8 < 2 ^ 31 := by
        have b3 : (10 : Nat) ^ S_ones T 8 ≤ 10 ^ 8 := Nat.pow_le_pow_right (by decide) hon
        have b4 : (10 : Nat) ^ 8 < 2 ^ 31 := by decide
        omega
      obtain ⟨g1, g2, g3⟩ := frac_both hn bound tens1 tens2 y
      rw [show L_X5_odds_35 n (nI N) (w 52) p h o t (nI x) (nI T) n 0 0 to' ts tp tq st0 dr0 = _ from f5, show L_X6_odds_119 n w (nI x) (nI T, nI (10 ^ S_ones T 8), nI N) n 0 0 d = _ from f6, bitCount_n n (by omega)]
      simp only [bs]
      rw [show (10 : Int32) = nI 10 from rfl, power_n hn 10 hon]
      simp only [bs]
      rw [g1, g2]
      simp only [bs]
      rw [g3]
      simp only [bs]
      by_cases c3 : y = 0
      · rw [if_pos c3, if_pos c3]
        exact ⟨_, _, _, rfl, rfl, l6⟩
      · rw [if_neg c3, if_neg c3]
        exact ⟨_, _, _, rfl, rfl, l6⟩
    · rw [if_pos ((ite01 _).mpr c2), if_pos ((ite01 _).mpr c2)]
      exact ⟨_, _, _, rfl, rfl, LOW.rf d⟩
  · rw [if_pos ((ite01 _).mpr c), if_pos ((ite01 _).mpr c)]
    exact ⟨_, _, _, rfl, rfl, LOW.rf d⟩
