/-! TOGETHER, FORGET, HIGH; WRITE, WIPE; COUNT. -/
theorem isSomeSet_n (n : Nat) {N : Nat} (hN : N ≤ 8) (x : Int32) : F_X5_isSomeSet n (nI N) x = some (if 1 ≤ x ∧ x ≤ nI (2 ^ N - 1) then 1 else 0) := by
  unfold F_X5_isSomeSet
  rw [allDesks_n n hN, bs, isFrom_val, bs, zb_ite, bs]
/-- what was told of those heard together: the class's and the Model's -/
def R_tg (N : Nat) (c5 c6 : Int32) (s5 m5 s6 m6 : Nat → Int32) : Prop :=
  ∃ c, c ≤ 8 ∧ c5 = nI c ∧ c6 = nI c ∧ ∀ i, i < c → s5 i = s6 i ∧ m5 i = m6 i ∧ ∃ a, a < 2 ^ N ∧ s5 i = nI a
theorem set_of {x : Int32} {N : Nat} (hN : N ≤ 8) (h : (1 : Int32) ≤ x ∧ x ≤ nI (2 ^ N - 1)) : ∃ a, 1 ≤ a ∧ a < 2 ^ N ∧ x = nI a := by
  have q : (2 : Nat) ^ N ≤ 2 ^ 8 := Nat.pow_le_pow_right (by decide) hN
  have q2 : (2 : Nat) ^ 8 = 256 := by decide
  have q3 : 1 ≤ 2 ^ N := Nat.one_le_two_pow
  have h0 : (0 : Int32) ≤ x := by
    have := h.1
    rw [fa_le, show (1 : Int32).toInt = 1 from by decide] at this
    rw [fa_le, show (0 : Int32).toInt = 0 from by decide]
    omega
  obtain ⟨a, ha, rfl⟩ := small_of (m := 2 ^ N - 1) (by omega) ⟨h0, h.2⟩
  refine ⟨a, ?_, by omega, rfl⟩
  rcases Nat.eq_zero_or_pos a with e | e
  · subst e
    exact absurd h.1 (by decide)
  · exact e
theorem op_together {n : Nat} {N : Nat} {w : Nat → Int32} {desks : Int32} {kind lean needs group : Nat → Int32} {slip warmth unheard : Int32} (RH : R_hall N w desks kind lean needs group slip warmth unheard) {c5 c6 : Int32} {s5 m5 s6 m6 : Nat → Int32} (RT : R_tg N c5 c6 s5 m5 s6 m6) (x y : Int32) :
    ∃ r c5' s5' m5' c6' s6' m6', F_X5_together n desks s5 m5 c5 x y = some (r, c5', s5', m5') ∧ F_X6_together n w c6 s6 m6 x y = some (r, c6', s6', m6') ∧ R_tg N c5' c6' s5' m5' s6' m6' := by
  have RT0 := RT
  obtain ⟨h1, hN, rfl, hw, ak, al, an, ag, es, ew, eu⟩ := RH
  obtain ⟨c, hc, rfl, rfl, hs⟩ := RT
  unfold F_X5_together F_X6_together
  rw [isSomeSet_n n hN, isSet6_n n hN hw, show (0 : Int64) = Int32.toInt64 0 from by decide, show (400 : Int64) = Int32.toInt64 400 from by decide, isFrom_in6, isFrom_val]
  simp only [bs]
  by_cases cx : (1 : Int32) ≤ x ∧ x ≤ nI (2 ^ N - 1)
  · obtain ⟨a, ha, ha2, rfl⟩ := set_of hN cx
    have q : (2 : Nat) ^ N ≤ 2 ^ 8 := Nat.pow_le_pow_right (by decide) hN
    have q2 : (2 : Nat) ^ 8 = 256 := by decide
    rw [if_neg (fun q => (ite01 _).mp q cx), if_neg (show ¬ (if (0 : Int32) ≤ nI a ∧ nI a ≤ nI (2 ^ N - 1) then (1 : Int32) else 0) = 0 from fun q => (ite01 _).mp q ⟨nI_pos' (by omega), cx.2⟩), if_neg (show ¬ nI a = (0 : Int32) from nI_ne (b := 0) (by omega) (by decide) (by omega))]
    by_cases cy : (0 : Int32) ≤ y ∧ y ≤ 400
    · rw [if_neg (fun q => (ite01 _).mp q cy), if_neg (fun q => (ite01 _).mp q cy)]
      by_cases c8 : c = 8
      · subst c8
        rw [if_neg (show ¬ nI 8 < (8 : Int32) from by decide), if_pos (show nI 8 = (8 : Int32) from rfl)]
        exact ⟨_, _, _, _, _, _, _, rfl, rfl, RT0⟩
      · rw [if_pos (show nI c < (8 : Int32) from nI_lt (b := 8) (by omega) (by decide)), if_neg (show ¬ nI c = (8 : Int32) from nI_ne (b := 8) (by omega) (by decide) c8), sto_n (by omega) (by decide), sto_n (by omega) (by decide), sto_n (by omega) (by decide), sto_n (by omega) (by decide)]
        simp only [bs]
        refine ⟨_, _, _, _, _, _, _, rfl, rfl, c + 1, by omega, nI_1 _, nI_1 _, ?_⟩
        intro i hi
        by_cases e : i = c
        · subst e
          refine ⟨?_, ?_, a, ha2, ?_⟩
          · unfold upd
            rw [if_pos rfl, if_pos rfl]
          · unfold upd
            rw [if_pos rfl, if_pos rfl]
          · unfold upd
            rw [if_pos rfl]
        · obtain ⟨g1, g2, b, g3, g4⟩ := hs i (by omega)
          refine ⟨?_, ?_, b, g3, ?_⟩
          · unfold upd
            rw [if_neg e, if_neg e]
            exact g1
          · unfold upd
            rw [if_neg e, if_neg e]
            exact g2
          · unfold upd
            rw [if_neg e]
            exact g4
    · rw [if_pos ((ite01 _).mpr cy), if_pos ((ite01 _).mpr cy)]
      exact ⟨_, _, _, _, _, _, _, rfl, rfl, RT0⟩
  · rw [if_pos ((ite01 _).mpr cx)]
    by_cases c2 : (0 : Int32) ≤ x ∧ x ≤ nI (2 ^ N - 1)
    · rw [if_neg (show ¬ (if (0 : Int32) ≤ x ∧ x ≤ nI (2 ^ N - 1) then (1 : Int32) else 0) = 0 from fun q => (ite01 _).mp q c2)]
      have x0 : x = 0 := by
        rw [fa_le, fa_le, show (1 : Int32).toInt = 1 from by decide] at cx
        have k1 := c2.1
        have k2 := c2.2
        rw [fa_le] at k1 k2
        rw [show (0 : Int32).toInt = 0 from by decide] at k1
        rw [fa_eq, show (0 : Int32).toInt = 0 from by decide]
        omega
      rw [if_pos x0]
      exact ⟨_, _, _, _, _, _, _, rfl, rfl, RT0⟩
    · rw [if_pos (show (if (0 : Int32) ≤ x ∧ x ≤ nI (2 ^ N - 1) then (1 : Int32) else 0) = 0 from (ite01 _).mpr c2)]
      exact ⟨_, _, _, _, _, _, _, rfl, rfl, RT0⟩
theorem op_forget {n N : Nat} {c5 c6 : Int32} {s5 m5 s6 m6 : Nat → Int32} (RT : R_tg N c5 c6 s5 m5 s6 m6) :
    ∃ r, F_X5_forget n c5 = some (r, 0) ∧ F_X6_forget n c6 = some (r, 0) ∧ R_tg N 0 0 s5 m5 s6 m6 := by
  obtain ⟨c, hc, rfl, rfl, hs⟩ := RT
  exact ⟨_, rfl, rfl, 0, by omega, rfl, rfl, fun i hi => absurd hi (Nat.not_lt_zero _)⟩
/-- what those of a set are off, from i on, v before -/
def S_ts (a : Nat) (p : Nat → Int32) : Nat → Nat → Int32 → Int32
  | 0, _, v => v
  | j + 1, i, v => S_ts a p j (i + 1) (if bt a i = true then v + p i else v)
/-- all told agree, from i on -/
def S_al (T m : Nat → Int32) : Nat → Nat → Int32
  | 0, _ => 1
  | j + 1, i => if T i = m i then S_al T m j (i + 1) else 0
theorem al_01 (T m : Nat → Int32) : ∀ j i, S_al T m j i = 0 ∨ S_al T m j i = 1
  | 0, _ => Or.inr rfl
  | j + 1, i => by
    rw [S_al]
    split
    · exact al_01 T m j (i + 1)
    · exact Or.inl rfl
theorem ts5 {n N : Nat} (hN : N ≤ 8) {a : Nat} (ha : a < 2 ^ 31) (p : Nat → Int32) : ∀ j i k v, i + j = N → j < k → L_X5_explainsAll_37 n (nI N) p (nI a) k v (nI i) = some (S_ts a p j i v, nI N)
  | 0, i, 0, v, _, h => absurd h (Nat.not_lt_zero _)
  | 0, i, k + 1, v, e, h => by
    obtain rfl : i = N := by omega
    rw [L_X5_explainsAll_37, if_pos (nI_le (Nat.le_refl _) (by omega))]
    rfl
  | j + 1, i, 0, v, _, h => absurd h (Nat.not_lt_zero _)
  | j + 1, i, k + 1, v, e, h => by
    rw [L_X5_explainsAll_37, if_neg (nI_ge (by omega) (by omega)), isIn_n n ha (by omega), ld_n (by omega) (by decide)]
    simp only [bs]
    rw [nI_1, S_ts, ← ts5 hN ha p j (i + 1) k _ (by omega) (by omega)]
    by_cases b : bt a i = true
    · rw [if_pos b, if_neg (by decide), bs, if_pos b]
    · rw [if_neg b, if_pos rfl, bs, if_neg b]
theorem ts6 {n N : Nat} (hN : N ≤ 8) {w d s6 : Nat → Int32} (hw : w 0 = nI N) {q : Nat} (hq : q < 8) {a : Nat} (ha : a < 2 ^ 31) (hs : s6 q = nI a) {p : Nat → Int32} (hp : ∀ i, i < N → p i = d i) : ∀ j i k v, i + j = N → j < k → L_X6_isSo_38 n w d s6 (nI q) k v (nI i) = some (S_ts a p j i v, nI N)
  | 0, i, 0, v, _, h => absurd h (Nat.not_lt_zero _)
  | 0, i, k + 1, v, e, h => by
    obtain rfl : i = N := by omega
    rw [L_X6_isSo_38, show ld w 106 (0 : Int32) = some (w 0) from ld_n (i := 0) (by decide) (by decide), bs, hw, if_pos (nI_le (Nat.le_refl _) (by omega))]
    rfl
  | j + 1, i, 0, v, _, h => absurd h (Nat.not_lt_zero _)
  | j + 1, i, k + 1, v, e, h => by
    rw [L_X6_isSo_38, show ld w 106 (0 : Int32) = some (w 0) from ld_n (i := 0) (by decide) (by decide), bs, hw, if_neg (nI_ge (by omega) (by omega)), ld_n (f := s6) hq (by decide), bs, hs, has_n n ha (by omega), bs, show (0 : Int32) + nI i = nI (0 + i) from nI_add 0 i, Nat.zero_add, ld_n (f := d) (by omega) (by decide)]
    simp only [bs]
    rw [nI_1, S_ts, ← ts6 hN hw hq ha hs hp j (i + 1) k _ (by omega) (by omega)]
    by_cases b : bt a i = true
    · rw [if_pos b, if_neg (by decide), bs, if_pos b, hp i (by omega)]
    · rw [if_neg b, if_pos rfl, bs, if_neg b, Int32.add_zero]
/-- one desk, so far off, against all that was told -/
def S_tq (s5 p : Nat → Int32) (N x : Nat) (y : Int32) : Nat → Int32 := fun q => S_ts (s5 q).toNatClampNeg p N 0 (if bt (s5 q).toNatClampNeg x = true then y else 0)
theorem so5 {n : Nat} (hn : 300 ≤ n) {N c : Nat} (hN : N ≤ 8) (hc : c ≤ 8) {s5 m5 p : Nat → Int32} (hs : ∀ i, i < c → ∃ a, a < 2 ^ N ∧ s5 i = nI a) {x : Nat} (hx : x < N) (y : Int32) : ∀ j i k, i + j = c → j < k → L_X5_explainsAll_2 n (nI N) p s5 m5 (nI c) (nI x) y k (nI i) = some (S_al (S_tq s5 p N x y) m5 j i)
  | 0, i, 0, _, h => absurd h (Nat.not_lt_zero _)
  | 0, i, k + 1, e, h => by
    obtain rfl : i = c := by omega
    rw [L_X5_explainsAll_2, if_pos (nI_le (Nat.le_refl _) (by omega))]
    rfl
  | j + 1, i, 0, _, h => absurd h (Nat.not_lt_zero _)
  | j + 1, i, k + 1, e, h => by
    have q : (2 : Nat) ^ N ≤ 2 ^ 8 := Nat.pow_le_pow_right (by decide) hN
    have q2 : (2 : Nat) ^ 8 = 256 := by decide
    obtain ⟨a, ha, hsa⟩ := hs i (by omega)
    rw [L_X5_explainsAll_2, if_neg (nI_ge (by omega) (by omega)), ld_n (f := s5) (by omega) (by decide), bs, hsa, isIn_n n (by omega) (by omega), bs]
    have e1 : (if (if bt a x = true then (1 : Int32) else 0) = 0 then some (0 : Int32) else some y) = some (if bt a x = true then y else 0) := by
      by_cases b : bt a x = true
      · rw [if_pos b, if_neg (by decide), if_pos b]
      · rw [if_neg b, if_pos rfl, if_neg b]
    have e2 := ts5 (n := n) hN (show a < 2 ^ 31 by omega) p N 0 n (if bt a x = true then y else 0) (by omega) (by omega)
    rw [e1, bs, show L_X5_explainsAll_37 n (nI N) p (nI a) n (if bt a x = true then y else 0) (0 : Int32) = _ from e2, bs, ld_n (f := m5) (by omega) (by decide), bs, nI_1, so5 hn hN hc hs hx y j (i + 1) k (by omega) (by omega), S_al]
    have e3 : S_tq s5 p N x y i = S_ts a p N 0 (if bt a x = true then y else 0) := by
      show S_ts (s5 i).toNatClampNeg p N 0 (if bt (s5 i).toNatClampNeg x = true then y else 0) = _
      rw [hsa, nI_clamp (by omega)]
    rw [e3]
    generalize (if bt a x = true then y else 0) = v0
    show (if S_ts a p N 0 v0 = m5 i then some (S_al (S_tq s5 p N x y) m5 j (i + 1)) else some 0) = _
    by_cases t : S_ts a p N 0 v0 = m5 i
    · rw [if_pos t, if_pos t]
    · rw [if_neg t, if_neg t]
theorem so6 {n : Nat} (hn : 300 ≤ n) {N c : Nat} (hN : N ≤ 8) (hc : c ≤ 8) {w d s5 m5 s6 m6 p : Nat → Int32} (hw : w 0 = nI N) (hp : ∀ i, i < N → p i = d i) (hs : ∀ i, i < c → s5 i = s6 i ∧ m5 i = m6 i ∧ ∃ a, a < 2 ^ N ∧ s5 i = nI a) {x : Nat} (hx : x < N) (y : Int32) : ∀ j i k (g : Int32), i + j = c → j < k → g = 0 ∨ g = 1 → L_X6_isSo_5 n w d (nI c) s6 m6 (nI x) y k g (nI i) = some (if g = 0 then 0 else S_al (S_tq s5 p N x y) m5 j i, nI c)
  | 0, i, 0, g, _, h, _ => absurd h (Nat.not_lt_zero _)
  | 0, i, k + 1, g, e, h, h01 => by
    obtain rfl : i = c := by omega
    rw [L_X6_isSo_5, if_pos (nI_le (Nat.le_refl _) (by omega))]
    rcases h01 with rfl | rfl
    · rfl
    · rfl
  | j + 1, i, 0, g, _, h, _ => absurd h (Nat.not_lt_zero _)
  | j + 1, i, k + 1, g, e, h, h01 => by
    have q : (2 : Nat) ^ N ≤ 2 ^ 8 := Nat.pow_le_pow_right (by decide) hN
    have q2 : (2 : Nat) ^ 8 = 256 := by decide
    obtain ⟨z1, z2, a, ha, hsa⟩ := hs i (by omega)
    rw [L_X6_isSo_5, if_neg (nI_ge (by omega) (by omega)), ld_n (f := s6) (by omega) (by decide), bs, ← z1, hsa, has_n n (by omega) (by omega), bs]
    have e1 : (if (if bt a x = true then (1 : Int32) else 0) = 0 then some (0 : Int32) else some y) = some (if bt a x = true then y else 0) := by
      by_cases b : bt a x = true
      · rw [if_pos b, if_neg (by decide), if_pos b]
      · rw [if_neg b, if_pos rfl, if_neg b]
    have e2 := ts6 (n := n) hN hw (show i < 8 by omega) (show a < 2 ^ 31 by omega) (z1.symm.trans hsa) hp N 0 n (if bt a x = true then y else 0) (by omega) (by omega)
    have e3 : S_tq s5 p N x y i = S_ts a p N 0 (if bt a x = true then y else 0) := by
      show S_ts (s5 i).toNatClampNeg p N 0 (if bt (s5 i).toNatClampNeg x = true then y else 0) = _
      rw [hsa, nI_clamp (by omega)]
    rw [e1, bs, show L_X6_isSo_38 n w d s6 (nI i) n (if bt a x = true then y else 0) (0 : Int32) = _ from e2, bs, ld_n (f := m6) (by omega) (by decide), nI_1, ← z2, ← e3, S_al]
    simp only [bs]
    rcases h01 with rfl | rfl
    · rw [if_pos rfl, bs, so6 hn hN hc hw hp hs hx y j (i + 1) k 0 (by omega) (by omega) (Or.inl rfl), if_pos rfl, if_pos rfl]
    · rw [if_neg (show ¬ (1 : Int32) = 0 from by decide)]
      by_cases t : S_tq s5 p N x y i = m5 i
      · rw [if_pos t, if_pos t, bs, so6 hn hN hc hw hp hs hx y j (i + 1) k 1 (by omega) (by omega) (Or.inr rfl), if_neg (show ¬ (1 : Int32) = 0 from by decide)]
      · rw [if_neg t, if_neg t, bs, so6 hn hN hc hw hp hs hx y j (i + 1) k 0 (by omega) (by omega) (Or.inl rfl), if_pos rfl, if_neg (show ¬ (1 : Int32) = 0 from by decide)]
theorem so_both {n : Nat} (hn : 300 ≤ n) {N : Nat} (hN : N ≤ 8) {w d p : Nat → Int32} (hw : w 0 = nI N) (hp : ∀ i, i < N → p i = d i) {c5 c6 : Int32} {s5 m5 s6 m6 : Nat → Int32} (RT : R_tg N c5 c6 s5 m5 s6 m6) {x : Nat} (hx : x < N) (y : Int32) : ∃ r, (r = 0 ∨ r = 1) ∧ F_X5_explainsAll n (nI N) p s5 m5 c5 (nI x) y = some r ∧ F_X6_isSo n w d c6 s6 m6 (nI x) y = some r := by
  obtain ⟨c, hc, rfl, rfl, hs⟩ := RT
  have e5 := so5 hn hN hc (p := p) (m5 := m5) (fun i hi => (hs i hi).2.2) hx y c 0 n (by omega) (by omega)
  have e6 := so6 hn hN hc hw hp hs hx y c 0 n 1 (by omega) (by omega) (Or.inr rfl)
  unfold F_X5_explainsAll F_X6_isSo
  refine ⟨_, al_01 _ _ c 0, e5, ?_⟩
  rw [show L_X6_isSo_5 n w d (nI c) s6 m6 (nI x) y n 1 (0 : Int32) = _ from e6]
  simp only [bs]
  rw [if_neg (by decide)]
  rcases al_01 (S_tq s5 p N x y) m5 c 0 with e | e
  · rw [e]
    rfl
  · rw [e]
    rfl
theorem high_in {n : Nat} (hn : 300 ≤ n) {N : Nat} (hN : N ≤ 8) {w d p : Nat → Int32} (hw : w 0 = nI N) (hp : ∀ i, i < N → p i = d i) {c5 c6 : Int32} {s5 m5 s6 m6 : Nat → Int32} (RT : R_tg N c5 c6 s5 m5 s6 m6) {x : Nat} (hx : x < N) : ∀ (j k : Nat) (a b y : Int32), y.toInt + (j : Int) = 10 → j ≤ 19 → j < k → ∃ r, L_X5_high_35 n (nI N) p s5 m5 c5 (nI x) k a b y = some r ∧ L_X6_high_35 n w d c6 s6 m6 (nI x) k a b y = some r
  | 0, 0, _, _, _, _, _, h => absurd h (Nat.not_lt_zero _)
  | 0, k + 1, a, b, y, e, _, h => by
    rw [L_X5_high_35, L_X6_high_35, if_pos (show (9 : Int32) < y from by rw [fa_lt, show (9 : Int32).toInt = 9 from by decide]; omega), if_pos (show (9 : Int32) < y from by rw [fa_lt, show (9 : Int32).toInt = 9 from by decide]; omega)]
    exact ⟨_, rfl, rfl⟩
  | j + 1, 0, _, _, _, _, _, h => absurd h (Nat.not_lt_zero _)
  | j + 1, k + 1, a, b, y, e, e2, h => by
    have ny : ¬ (9 : Int32) < y := by rw [fa_lt, show (9 : Int32).toInt = 9 from by decide]; omega
    have y1 : (y + (1 : Int32)).toInt + j = 10 := by
      rw [Int32.toInt_add, Int.bmod_eq_of_le] <;> rw [show (1 : Int32).toInt = 1 from by decide] <;> omega
    rw [L_X5_high_35, L_X6_high_35, if_neg ny, if_neg ny]
    by_cases y0 : y = 0
    · rw [if_pos y0, if_pos y0]
      simp only [bs, if_true]
      rw [Int32.add_zero]
      exact high_in hn hN hw hp RT hx j k a b _ y1 (by omega) (by omega)
    · rw [if_neg y0, if_neg y0]
      obtain ⟨r, r01, f5, f6⟩ := so_both hn hN hw hp RT hx y
      rw [f5, f6]
      simp only [bs]
      rcases r01 with rfl | rfl
      · rw [if_pos rfl, if_pos rfl]
        simp only [bs, if_true]
        rw [Int32.add_zero]
        exact high_in hn hN hw hp RT hx j k a b _ y1 (by omega) (by omega)
      · simp only [bs, show ¬ (1 : Int32) = 0 from by decide, if_false]
        by_cases a0 : a = 0
        · rw [if_pos a0]
          simp only [bs]
          exact high_in hn hN hw hp RT hx j k _ _ _ y1 (by omega) (by omega)
        · rw [if_neg a0]
          simp only [bs]
          exact high_in hn hN hw hp RT hx j k _ _ _ y1 (by omega) (by omega)
theorem high_out {n : Nat} (hn : 300 ≤ n) {N : Nat} (hN : N ≤ 8) {w d p : Nat → Int32} (hw : w 0 = nI N) (hp : ∀ i, i < N → p i = d i) {c5 c6 : Int32} {s5 m5 s6 m6 : Nat → Int32} (RT : R_tg N c5 c6 s5 m5 s6 m6) : ∀ j i k (a b : Int32), i + j = N → j < k → ∃ r, L_X5_high_19 n (nI N) p s5 m5 c5 k a b (nI i) = some r ∧ L_X6_high_20 n w d c6 s6 m6 k a b (nI i) = some r
  | 0, _, 0, _, _, _, h => absurd h (Nat.not_lt_zero _)
  | 0, i, k + 1, a, b, e, h => by
    obtain rfl : i = N := by omega
    rw [L_X5_high_19, L_X6_high_20, show ld w 106 (0 : Int32) = some (w 0) from ld_n (i := 0) (by decide) (by decide), bs, hw, if_pos (nI_le (Nat.le_refl _) (by omega)), if_pos (nI_le (Nat.le_refl _) (by omega))]
    exact ⟨_, rfl, rfl⟩
  | j + 1, _, 0, _, _, _, h => absurd h (Nat.not_lt_zero _)
  | j + 1, i, k + 1, a, b, e, h => by
    rw [L_X5_high_19, L_X6_high_20, show ld w 106 (0 : Int32) = some (w 0) from ld_n (i := 0) (by decide) (by decide), bs, hw, if_neg (nI_ge (by omega) (by omega)), if_neg (nI_ge (by omega) (by omega))]
    obtain ⟨r, f5, f6⟩ := high_in hn hN hw hp RT (show i < N by omega) 19 n a b (-9) (by decide) (by omega) (by omega)
    rw [f5, f6]
    simp only [bs]
    rw [nI_1]
    exact high_out hn hN hw hp RT j (i + 1) k _ _ (by omega) (by omega)
theorem op_high {n : Nat} (hn : 300 ≤ n) {N : Nat} {w d : Nat → Int32} {desks : Int32} {kind lean needs group : Nat → Int32} {slip warmth unheard : Int32} (RH : R_hall N w desks kind lean needs group slip warmth unheard) {p h : Nat → Int32} {o t : Int32} (RS : R_st N p h o t d 0) {c5 c6 : Int32} {s5 m5 s6 m6 : Nat → Int32} (RT : R_tg N c5 c6 s5 m5 s6 m6) (x : Int32) :
    ∃ r, F_X5_high n desks p s5 m5 c5 x = some r ∧ F_X6_high n w d c6 s6 m6 x = some r := by
  obtain ⟨h1, hN, rfl, hw, ak, al, an, ag, es, ew, eu⟩ := RH
  have hp : ∀ i, i < N → p i = d i := fun i hi => by rw [RS.1 i hi, Nat.zero_add]
  unfold F_X5_high F_X6_high
  rw [show (0 : Int64) = Int32.toInt64 0 from by decide, show (1 : Int64) = Int32.toInt64 1 from by decide, isFrom_in6, isFrom_val]
  simp only [bs]
  by_cases c : (0 : Int32) ≤ x ∧ x ≤ 1
  · rw [if_neg (fun q => (ite01 _).mp q c), if_neg (fun q => (ite01 _).mp q c)]
    obtain ⟨r, f5, f6⟩ := high_out hn hN hw hp RT N 0 n 0 (-4) (by omega) (by omega)
    rw [show L_X5_high_19 n (nI N) p s5 m5 c5 n 0 (-4) (0 : Int32) = _ from f5, show L_X6_high_20 n w d c6 s6 m6 n 0 (-4) (0 : Int32) = _ from f6]
    simp only [bs]
    by_cases x0 : x = 0
    · rw [if_pos x0]
      exact ⟨_, rfl, rfl⟩
    · rw [if_neg x0]
      exact ⟨_, rfl, rfl⟩
  · rw [if_pos ((ite01 _).mpr c), if_pos ((ite01 _).mpr c)]
    exact ⟨_, rfl, rfl⟩
/-- the text: the class's and the Model's -/
def R_tx (l5 l6 : Int32) (t5 t6 : Nat → Int32) : Prop :=
  ∃ l, l ≤ 200 ∧ l5 = nI l ∧ l6 = nI l ∧ ∀ i, i < l → t5 i = t6 i ∧ ∃ a, 32 ≤ a ∧ a ≤ 126 ∧ t5 i = nI a
theorem op_write {n : Nat} {l5 l6 : Int32} {t5 t6 : Nat → Int32} (RX : R_tx l5 l6 t5 t6) (x : Int32) :
    ∃ r l5' t5' l6' t6', F_X5_write n t5 l5 x = some (r, l5', t5') ∧ F_X6_write n t6 l6 x = some (r, l6', t6') ∧ R_tx l5' l6' t5' t6' := by
  have RX0 := RX
  obtain ⟨l, hl, rfl, rfl, ht⟩ := RX
  unfold F_X5_write F_X6_write
  rw [show (32 : Int64) = Int32.toInt64 32 from by decide, show (126 : Int64) = Int32.toInt64 126 from by decide, isFrom_in6, isFrom_val]
  simp only [bs]
  by_cases cx : (32 : Int32) ≤ x ∧ x ≤ 126
  · rw [if_neg (fun q => (ite01 _).mp q cx), if_neg (fun q => (ite01 _).mp q cx)]
    by_cases c8 : l = 200
    · subst c8
      rw [if_neg (show ¬ nI 200 < (200 : Int32) from by decide), if_pos (show nI 200 = (200 : Int32) from rfl)]
      exact ⟨_, _, _, _, _, rfl, rfl, RX0⟩
    · rw [if_pos (show nI l < (200 : Int32) from nI_lt (b := 200) (by omega) (by decide)), if_neg (show ¬ nI l = (200 : Int32) from nI_ne (b := 200) (by omega) (by decide) c8), sto_n (by omega) (by decide), sto_n (by omega) (by decide)]
      simp only [bs]
      refine ⟨_, _, _, _, _, rfl, rfl, l + 1, by omega, nI_1 _, nI_1 _, ?_⟩
      intro i hi
      unfold upd
      by_cases e : i = l
      · rw [if_pos e, if_pos e]
        have k1 := cx.1
        have k2 := cx.2
        rw [fa_le, show (32 : Int32).toInt = 32 from by decide] at k1
        rw [fa_le, show (126 : Int32).toInt = 126 from by decide] at k2
        obtain ⟨z, hz, rfl⟩ := nI_of (x := x) (by rw [fa_lt, show (0 : Int32).toInt = 0 from by decide]; omega)
        rw [nI_toInt hz] at k1 k2
        exact ⟨rfl, z, by omega, by omega, rfl⟩
      · rw [if_neg e, if_neg e]
        exact ht i (by omega)
  · rw [if_pos ((ite01 _).mpr cx), if_pos ((ite01 _).mpr cx)]
    exact ⟨_, _, _, _, _, rfl, rfl, RX0⟩
theorem op_wipe {n : Nat} {l5 l6 : Int32} {t5 t6 : Nat → Int32} (RX : R_tx l5 l6 t5 t6) :
    ∃ r, F_X5_wipe n l5 = some (r, 0) ∧ F_X6_wipe n l6 = some (r, 0) ∧ R_tx 0 0 t5 t6 := by
  obtain ⟨l, hl, rfl, rfl, ht⟩ := RX
  exact ⟨_, rfl, rfl, 0, by omega, rfl, rfl, fun i hi => absurd hi (Nat.not_lt_zero _)⟩
theorem op_count {n : Nat} {N : Nat} {w d : Nat → Int32} {desks : Int32} {kind lean needs group : Nat → Int32} {slip warmth unheard : Int32} (RH : R_hall N w desks kind lean needs group slip warmth unheard) {p h : Nat → Int32} {o t : Int32} (RS : R_st N p h o t d 0) (u k l g : Int32) (x : Int32) :
    ∃ r, F_X5_count n l desks warmth unheard t u k g x = some r ∧ F_X6_count n w d u k l g x = some r := by
  obtain ⟨h1, hN, rfl, hw, ak, al, an, ag, es, rfl, rfl⟩ := RH
  have ht : t = d 9 := by rw [RS.2.2.2.1, Nat.zero_add]
  subst ht
  unfold F_X5_count F_X6_count
  rw [show ld w 106 (0 : Int32) = some (w 0) from ld_n (i := 0) (by decide) (by decide), show ld w 106 (51 : Int32) = some (w 51) from ld_n (i := 51) (by decide) (by decide), show ld w 106 (52 : Int32) = some (w 52) from ld_n (i := 52) (by decide) (by decide), show ld d 216 (9 : Int32) = some (d 9) from ld_n (i := 9) (by decide) (by decide), hw]
  simp only [bs]
  rw [Int32.mul_comm (w 51)]
  by_cases c0 : x = 0
  · rw [if_pos c0]; exact ⟨_, rfl, rfl⟩
  · rw [if_neg c0]
    by_cases c1 : x = 1
    · rw [if_pos c1]; exact ⟨_, rfl, rfl⟩
    · rw [if_neg c1]
      by_cases c2 : x = 2
      · rw [if_pos c2]; exact ⟨_, rfl, rfl⟩
      · rw [if_neg c2]
        by_cases c3 : x = 3
        · rw [if_pos c3]; exact ⟨_, rfl, rfl⟩
        · rw [if_neg c3]
          by_cases c4 : x = 4
          · rw [if_pos c4]; exact ⟨_, rfl, rfl⟩
          · rw [if_neg c4]
            by_cases c5 : x = 5
            · rw [if_pos c5]; exact ⟨_, rfl, rfl⟩
            · rw [if_neg c5]
              by_cases c6 : x = 6
              · rw [if_pos c6]; exact ⟨_, rfl, rfl⟩
              · rw [if_neg c6]
                by_cases c7 : x = 7
                · rw [if_pos c7]; exact ⟨_, rfl, rfl⟩
                · rw [if_neg c7]; exact ⟨_, rfl, rfl⟩
