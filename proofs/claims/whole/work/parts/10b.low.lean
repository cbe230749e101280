/-! The class's Hall, State and Tuner as plain functions. 300 turns are more than any loop takes. -/
theorem tunableOf_n {n : Nat} (hn : 300 ≤ n) {kind : Nat → Int32} {m N : Nat} (hN : N ≤ 8) (hm : m < 2 ^ 31) : F_X0_tunableOf n (nI N) kind (nI m) = some (nI (S_set (P_open kind m) N)) := by
  have loop : ∀ k i, i ≤ N → N - i < k → L_X0_tunableOf_4 n (nI N) kind (nI m) k (nI (S_set (P_open kind m) i)) (nI i) = some (nI (S_set (P_open kind m) N), nI N) := by
    intro k
    induction k with
    | zero => intro i _ h; omega
    | succ k ih =>
      intro i hi hk
      rw [L_X0_tunableOf_4]
      by_cases h : N ≤ i
      · obtain rfl : i = N := by omega
        rw [if_pos (nI_le (Nat.le_refl _) (by omega))]
      · rw [if_neg (nI_ge (by omega) (by omega)), isIn_n n hm (by omega), bs]
        have hstep := ih (i + 1) (by omega) (by omega)
        rw [S_set, ← nI_1] at hstep
        have hlt := S_set_lt (P_open kind m) i
        by_cases hb : bt m i = true
        · rw [if_pos hb, if_neg (by decide), ld_n (by omega) (by decide), bs]
          by_cases hk2 : kind i = 2
          · rw [if_pos hk2, bs]
            rw [if_neg (by simp [P_open, hk2])] at hstep
            exact hstep
          · rw [if_neg hk2, bs, shl1 (by omega), orb hlt]
            rw [if_pos (by simp [P_open, hb, hk2])] at hstep
            exact hstep
        · rw [if_neg hb, if_pos rfl, bs]
          rw [if_neg (by simp [P_open, hb])] at hstep
          exact hstep
  unfold F_X0_tunableOf
  have e : L_X0_tunableOf_4 n (nI N) kind (nI m) n 0 0 = some (nI (S_set (P_open kind m) N), nI N) := loop n 0 (Nat.zero_le _) (by omega)
  rw [e]
  rfl
theorem peggedDesks_n {n : Nat} (hn : 300 ≤ n) {kind : Nat → Int32} {N : Nat} (hN : N ≤ 8) : F_X0_peggedDesks n (nI N) kind = some (nI (S_set (P_peg kind) N)) := by
  have loop : ∀ k i, i ≤ N → N - i < k → L_X0_peggedDesks_4 (nI N) kind k (nI (S_set (P_peg kind) i)) (nI i) = some (nI (S_set (P_peg kind) N), nI N) := by
    intro k
    induction k with
    | zero => intro i _ h; omega
    | succ k ih =>
      intro i hi hk
      rw [L_X0_peggedDesks_4]
      by_cases h : N ≤ i
      · obtain rfl : i = N := by omega
        rw [if_pos (nI_le (Nat.le_refl _) (by omega))]
      · rw [if_neg (nI_ge (by omega) (by omega)), ld_n (by omega) (by decide), bs]
        have hstep := ih (i + 1) (by omega) (by omega)
        rw [S_set, ← nI_1] at hstep
        have hlt := S_set_lt (P_peg kind) i
        by_cases h0 : kind i = 0
        · rw [if_pos h0, bs, shl1 (by omega), orb hlt]
          rw [if_pos (by simp [P_peg, h0])] at hstep
          exact hstep
        · rw [if_neg h0, bs]
          by_cases h3 : kind i = 3
          · rw [if_pos h3, bs, shl1 (by omega), orb hlt]
            rw [if_pos (by simp [P_peg, h3])] at hstep
            exact hstep
          · rw [if_neg h3, bs]
            rw [if_neg (by simp [P_peg, h0, h3])] at hstep
            exact hstep
  unfold F_X0_peggedDesks
  have e : L_X0_peggedDesks_4 (nI N) kind n 0 0 = some (nI (S_set (P_peg kind) N), nI N) := loop n 0 (Nat.zero_le _) (by omega)
  rw [e]
  rfl
theorem desksOfGroup_n {n : Nat} (hn : 300 ≤ n) {group : Nat → Int32} {g : Int32} {N : Nat} (hN : N ≤ 8) : F_X0_desksOfGroup n (nI N) group g = some (nI (S_set (P_grp group g) N)) := by
  have loop : ∀ k i, i ≤ N → N - i < k → L_X0_desksOfGroup_4 (nI N) group g k (nI (S_set (P_grp group g) i)) (nI i) = some (nI (S_set (P_grp group g) N), nI N) := by
    intro k
    induction k with
    | zero => intro i _ h; omega
    | succ k ih =>
      intro i hi hk
      rw [L_X0_desksOfGroup_4]
      by_cases h : N ≤ i
      · obtain rfl : i = N := by omega
        rw [if_pos (nI_le (Nat.le_refl _) (by omega))]
      · rw [if_neg (nI_ge (by omega) (by omega)), ld_n (by omega) (by decide), bs]
        have hstep := ih (i + 1) (by omega) (by omega)
        rw [S_set, ← nI_1] at hstep
        have hlt := S_set_lt (P_grp group g) i
        by_cases h0 : group i = g
        · rw [if_pos h0, bs, shl1 (by omega), orb hlt]
          rw [if_pos (by simp [P_grp, h0])] at hstep
          exact hstep
        · rw [if_neg h0, bs]
          rw [if_neg (by simp [P_grp, h0])] at hstep
          exact hstep
  unfold F_X0_desksOfGroup
  have e : L_X0_desksOfGroup_4 (nI N) group g n 0 0 = some (nI (S_set (P_grp group g) N), nI N) := loop n 0 (Nat.zero_le _) (by omega)
  rw [e]
  rfl
/-- the first i places from f, the others from g -/
def S_fill (f g : Nat → Int32) (i : Nat) : Nat → Int32 := fun k => if k < i then f k else g k
theorem S_fill_0 (f g : Nat → Int32) : S_fill f g 0 = g := by funext k; simp [S_fill]
theorem S_fill_in {f g : Nat → Int32} {i k : Nat} (h : k < i) : S_fill f g i k = f k := by simp [S_fill, h]
theorem S_fill_out {f g : Nat → Int32} {i k : Nat} (h : i ≤ k) : S_fill f g i k = g k := by
  unfold S_fill
  rw [if_neg (by omega)]
theorem S_fill_up (f g : Nat → Int32) (i : Nat) : upd (S_fill f g i) i (f i) = S_fill f g (i + 1) := by
  funext k
  unfold upd S_fill
  by_cases h : k = i
  · subst h; simp
  · by_cases h2 : k < i
    · simp [h, h2, Nat.lt_succ_of_lt h2]
    · have : ¬ k < i + 1 := by omega
      simp [h, h2, this]
theorem S_fill_up' {f g : Nat → Int32} {i : Nat} {x : Int32} (h : x = f i) : upd (S_fill f g i) i x = S_fill f g (i + 1) := by rw [h, S_fill_up]
theorem S_fill_keep {f g : Nat → Int32} {i : Nat} (h : f i = g i) : S_fill f g (i + 1) = S_fill f g i := by
  funext k
  unfold S_fill
  by_cases e : k = i
  · subst e; simp [h]
  · by_cases h2 : k < i
    · simp [h2, Nat.lt_succ_of_lt h2]
    · have : ¬ k < i + 1 := by omega
      simp [h2, this]
theorem become_n {n : Nat} (hn : 300 ≤ n) (tp th sp sh : Nat → Int32) (o t : Int32) : F_X2_become n tp th sp sh o t = some (o, t, S_fill sp tp 8, S_fill sh th 8) := by
  have loop : ∀ k i, i ≤ 8 → 8 - i < k → L_X2_become_2 sp sh k (nI i) (S_fill sp tp i) (S_fill sh th i) = some (nI 8, S_fill sp tp 8, S_fill sh th 8) := by
    intro k
    induction k with
    | zero => intro i _ h; omega
    | succ k ih =>
      intro i hi hk
      rw [L_X2_become_2]
      by_cases h : 8 ≤ i
      · obtain rfl : i = 8 := by omega
        rw [if_pos (by decide)]
      · rw [if_neg (show ¬ (8 : Int32) ≤ nI i from nI_ge (b := 8) (by omega) (by decide)), ld_n (by omega) (by decide), bs, sto_n (by omega) (by decide), bs, ld_n (by omega) (by decide), bs, sto_n (by omega) (by decide), bs, S_fill_up, S_fill_up, nI_1]
        exact ih (i + 1) (by omega) (by omega)
  unfold F_X2_become
  have e := loop n 0 (Nat.zero_le _) (by omega)
  rw [S_fill_0, S_fill_0] at e
  rw [show (0 : Int32) = nI 0 from rfl, e]
  rfl
theorem begin_n {n : Nat} (hn : 300 ≤ n) {N : Nat} (hN : N ≤ 8) (tp th fh fp : Nat → Int32) (o : Int32) : F_X2_begin n tp th (nI N) fh fp o = some (o, 0, S_fill fp tp N, S_fill fh th N) := by
  have loop : ∀ k i, i ≤ N → N - i < k → L_X2_begin_2 (nI N) fh fp k (nI i) (S_fill fp tp i) (S_fill fh th i) = some (nI N, S_fill fp tp N, S_fill fh th N) := by
    intro k
    induction k with
    | zero => intro i _ h; omega
    | succ k ih =>
      intro i hi hk
      rw [L_X2_begin_2]
      by_cases h : N ≤ i
      · obtain rfl : i = N := by omega
        rw [if_pos (nI_le (Nat.le_refl _) (by omega))]
      · rw [if_neg (nI_ge (by omega) (by omega)), ld_n (by omega) (by decide), bs, sto_n (by omega) (by decide), bs, ld_n (by omega) (by decide), bs, sto_n (by omega) (by decide), bs, S_fill_up, S_fill_up, nI_1]
        exact ih (i + 1) (by omega) (by omega)
  unfold F_X2_begin
  have e := loop n 0 (Nat.zero_le _) (by omega)
  rw [S_fill_0, S_fill_0] at e
  rw [show L_X2_begin_2 (nI N) fh fp n 0 tp th = _ from e]
  rfl
/-- a hall deg degrees warmer -/
def S_warm (kind : Nat → Int32) (deg : Int32) (p : Nat → Int32) : Nat → Int32 := fun k => S_within (p k + deg * S_hpd (kind k))
/-- degrees by which the hall gets warmer from t on, x seconds long -/
def S_deg (warmth t x : Int32) : Int32 := ((t + x) / 60 - t / 60) * warmth
theorem letPass_n {n : Nat} (hn : 300 ≤ n) {N : Nat} (hN : N ≤ 8) (p kind : Nat → Int32) (t warmth x : Int32) : F_X2_letPass n p t (nI N) kind warmth x = some (t + x, S_fill (S_warm kind (S_deg warmth t x) p) p N) := by
  have loop : ∀ k i, i ≤ N → N - i < k → L_X2_letPass_29 n t (nI N) kind warmth x k (nI i) (S_fill (S_warm kind (S_deg warmth t x) p) p i) = some (nI N, S_fill (S_warm kind (S_deg warmth t x) p) p N) := by
    intro k
    induction k with
    | zero => intro i _ h; omega
    | succ k ih =>
      intro i hi hk
      rw [L_X2_letPass_29]
      by_cases h : N ≤ i
      · obtain rfl : i = N := by omega
        rw [if_pos (nI_le (Nat.le_refl _) (by omega))]
      · rw [if_neg (nI_ge (by omega) (by omega)), ld_n (by omega) (by decide), bs, hpd_n n (by omega) hN, bs, within_n, bs, sto_n (by omega) (by decide), bs, S_fill_out (Nat.le_refl i), S_fill_up' (by rfl), nI_1]
        exact ih (i + 1) (by omega) (by omega)
  unfold F_X2_letPass
  have e := loop n 0 (Nat.zero_le _) (by omega)
  rw [S_fill_0] at e
  rw [show L_X2_letPass_29 n t (nI N) kind warmth x n 0 p = _ from e]
  rfl
theorem giveNeedles_n {n : Nat} (hn : 300 ≤ n) {N m : Nat} (hN : N ≤ 8) (hm : m < 2 ^ 31) (h : Nat → Int32) : F_X2_giveNeedles n h (nI N) (nI m) = some (S_fill (fun k => if bt m k = true then 8 else h k) h N) := by
  have loop : ∀ k i, i ≤ N → N - i < k → L_X2_giveNeedles_2 n (nI N) (nI m) k (nI i) (S_fill (fun k => if bt m k = true then 8 else h k) h i) = some (nI N, S_fill (fun k => if bt m k = true then 8 else h k) h N) := by
    intro k
    induction k with
    | zero => intro i _ h; omega
    | succ k ih =>
      intro i hi hk
      rw [L_X2_giveNeedles_2]
      by_cases hq : N ≤ i
      · obtain rfl : i = N := by omega
        rw [if_pos (nI_le (Nat.le_refl _) (by omega))]
      · rw [if_neg (nI_ge (by omega) (by omega)), isIn_n n hm (by omega), bs]
        by_cases hb : bt m i = true
        · rw [if_pos hb, if_neg (by decide), sto_n (by omega) (by decide), bs, bs, S_fill_up' (by simp [hb]), nI_1]
          exact ih (i + 1) (by omega) (by omega)
        · rw [if_neg hb, if_pos rfl, bs, nI_1]
          have e := ih (i + 1) (by omega) (by omega)
          rw [S_fill_keep (by simp [hb])] at e
          exact e
  unfold F_X2_giveNeedles
  have e := loop n 0 (Nat.zero_le _) (by omega)
  rw [S_fill_0] at e
  rw [show L_X2_giveNeedles_2 n (nI N) (nI m) n 0 h = _ from e]
  rfl
theorem slipPegs_n {n : Nat} (hn : 300 ≤ n) {N m : Nat} (hN : N ≤ 8) (hm : m < 2 ^ 31) (p : Nat → Int32) : F_X2_slipPegs n p (nI N) (nI m) = some (S_fill (fun k => if bt m k = true then S_within (p k - 4) else p k) p N) := by
  have loop : ∀ k i, i ≤ N → N - i < k → L_X2_slipPegs_2 n (nI N) (nI m) k (nI i) (S_fill (fun k => if bt m k = true then S_within (p k - 4) else p k) p i) = some (nI N, S_fill (fun k => if bt m k = true then S_within (p k - 4) else p k) p N) := by
    intro k
    induction k with
    | zero => intro i _ h; omega
    | succ k ih =>
      intro i hi hk
      rw [L_X2_slipPegs_2]
      by_cases hq : N ≤ i
      · obtain rfl : i = N := by omega
        rw [if_pos (nI_le (Nat.le_refl _) (by omega))]
      · rw [if_neg (nI_ge (by omega) (by omega)), isIn_n n hm (by omega), bs]
        by_cases hb : bt m i = true
        · rw [if_pos hb, if_neg (by decide), ld_n (by omega) (by decide), bs, within_n, bs, sto_n (by omega) (by decide), bs, bs, S_fill_out (Nat.le_refl i), S_fill_up' (by simp [hb]), nI_1]
          exact ih (i + 1) (by omega) (by omega)
        · rw [if_neg hb, if_pos rfl, bs, nI_1]
          have e := ih (i + 1) (by omega) (by omega)
          rw [S_fill_keep (by simp [hb])] at e
          exact e
  unfold F_X2_slipPegs
  have e := loop n 0 (Nat.zero_le _) (by omega)
  rw [S_fill_0] at e
  rw [show L_X2_slipPegs_2 n (nI N) (nI m) n 0 p = _ from e]
  rfl
/-! the spread -/
def S_hi (p : Nat → Int32) : Nat → Int32
  | 0 => p 0
  | i + 1 => if S_hi p i < p i then p i else S_hi p i
def S_lo (p : Nat → Int32) : Nat → Int32
  | 0 => p 0
  | i + 1 => if p i < S_lo p i then p i else S_lo p i
def S_apart (p : Nat → Int32) (N : Nat) : Int32 := S_hi p N - S_lo p N
theorem i32_irr (x : Int32) : ¬ x < x := by rw [fa_lt]; omega
theorem S_hi_1 (p : Nat → Int32) : S_hi p 1 = p 0 := by
  rw [S_hi, S_hi, if_neg (i32_irr _)]
theorem S_lo_1 (p : Nat → Int32) : S_lo p 1 = p 0 := by
  rw [S_lo, S_lo, if_neg (i32_irr _)]
theorem apart_n {n : Nat} (hn : 300 ≤ n) {N : Nat} (h1 : 1 ≤ N) (hN : N ≤ 8) (p : Nat → Int32) : F_X2_apart n p (nI N) = some (S_apart p N) := by
  have loop : ∀ k i, i ≤ N → N - i < k → L_X2_apart_17 p (nI N) k (S_hi p i) (S_lo p i) (nI i) = some (S_hi p N, S_lo p N, nI N) := by
    intro k
    induction k with
    | zero => intro i _ h; omega
    | succ k ih =>
      intro i hi hk
      rw [L_X2_apart_17]
      by_cases h : N ≤ i
      · obtain rfl : i = N := by omega
        rw [if_pos (nI_le (Nat.le_refl _) (by omega))]
      · rw [if_neg (nI_ge (by omega) (by omega)), ld_n (by omega) (by decide), bs, bs, nI_1]
        exact ih (i + 1) (by omega) (by omega)
  unfold F_X2_apart
  have e := loop n 1 h1 (by omega)
  rw [S_hi_1, S_lo_1] at e
  rw [show ld p 8 (0 : Int32) = some (p 0) from ld_n (i := 0) (by decide) (by decide), bs, bs, show L_X2_apart_17 p (nI N) n (p 0) (p 0) 1 = _ from e]
  rfl
