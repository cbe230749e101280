/-! The Model: by groups, spread, heard; copies of states. -/
theorem rounds6_n {n : Nat} (hn : 300 ≤ n) {N : Nat} (hN : N ≤ 8) {w d le th : Nat → Int32} (hw : w 0 = nI N) {draws k0 : Int32} {dr : Bool} (hh : H_ok N (HT d)) (hd : dr = decide (0 ≤ draws)) (ho : S_ok (d 206)) :
    ∃ th', F_X6_rounds n w d th le draws k0 = some ((S_rnd N (W_kind w) (W_needs w) (W_group w) (w 50) (w 51) le (HT d) dr draws (PT d, d 206, d 207, k0) 5).2, (S_rnd N (W_kind w) (W_needs w) (W_group w) (w 50) (w 51) le (HT d) dr draws (PT d, d 206, d 207, k0) 5).1.2.2.2,
      S_put d (S_rnd N (W_kind w) (W_needs w) (W_group w) (w 50) (w 51) le (HT d) dr draws (PT d, d 206, d 207, k0) 5).1.1 (S_rnd N (W_kind w) (W_needs w) (W_group w) (w 50) (w 51) le (HT d) dr draws (PT d, d 206, d 207, k0) 5).1.2.1 (S_rnd N (W_kind w) (W_needs w) (W_group w) (w 50) (w 51) le (HT d) dr draws (PT d, d 206, d 207, k0) 5).1.2.2.1, th') := by
  have hz : ∀ g, (∀ k, 8 ≤ k → (S_rnd N (W_kind w) (W_needs w) (W_group w) (w 50) (w 51) le (HT d) dr draws (PT d, d 206, d 207, k0) g).1.1 k = 0) ∧ S_ok (S_rnd N (W_kind w) (W_needs w) (W_group w) (w 50) (w 51) le (HT d) dr draws (PT d, d 206, d 207, k0) g).1.2.1 := by
    intro g
    induction g with
    | zero => exact ⟨PT_0 d, ho⟩
    | succ g ih =>
      rw [S_rnd]
      refine ⟨fill_0 hN ih.1, ?_⟩
      show S_ok (if _ then _ else _)
      split
      · exact ih.2
      · exact within_ok _
  have loop : ∀ k g, g ≤ 5 → 5 - g < k → ∀ th, ∃ th', L_X6_rounds_4 n w le draws k (S_rnd N (W_kind w) (W_needs w) (W_group w) (w 50) (w 51) le (HT d) dr draws (PT d, d 206, d 207, k0) g).2 (nI g) (S_rnd N (W_kind w) (W_needs w) (W_group w) (w 50) (w 51) le (HT d) dr draws (PT d, d 206, d 207, k0) g).1.2.2.2
      (S_put d (S_rnd N (W_kind w) (W_needs w) (W_group w) (w 50) (w 51) le (HT d) dr draws (PT d, d 206, d 207, k0) g).1.1 (S_rnd N (W_kind w) (W_needs w) (W_group w) (w 50) (w 51) le (HT d) dr draws (PT d, d 206, d 207, k0) g).1.2.1 (S_rnd N (W_kind w) (W_needs w) (W_group w) (w 50) (w 51) le (HT d) dr draws (PT d, d 206, d 207, k0) g).1.2.2.1) th
      = some ((S_rnd N (W_kind w) (W_needs w) (W_group w) (w 50) (w 51) le (HT d) dr draws (PT d, d 206, d 207, k0) 5).2, nI 5, (S_rnd N (W_kind w) (W_needs w) (W_group w) (w 50) (w 51) le (HT d) dr draws (PT d, d 206, d 207, k0) 5).1.2.2.2,
      S_put d (S_rnd N (W_kind w) (W_needs w) (W_group w) (w 50) (w 51) le (HT d) dr draws (PT d, d 206, d 207, k0) 5).1.1 (S_rnd N (W_kind w) (W_needs w) (W_group w) (w 50) (w 51) le (HT d) dr draws (PT d, d 206, d 207, k0) 5).1.2.1 (S_rnd N (W_kind w) (W_needs w) (W_group w) (w 50) (w 51) le (HT d) dr draws (PT d, d 206, d 207, k0) 5).1.2.2.1, th') := by
    intro k
    induction k with
    | zero => intro g _ h; omega
    | succ k ih =>
      intro g hg hk th
      rw [L_X6_rounds_4]
      by_cases hq : 5 ≤ g
      · obtain rfl : g = 5 := by omega
        rw [if_pos (by decide)]
        exact ⟨_, rfl⟩
      · have hlt := S_set_lt (P_grp (W_group w) (nI g)) N
        have h2 := two8 hN
        obtain ⟨hz1, ho1⟩ := hz g
        have hstep := ih (g + 1) (by omega) (by omega)
        rw [S_rnd] at hstep
        generalize S_rnd N (W_kind w) (W_needs w) (W_group w) (w 50) (w 51) le (HT d) dr draws (PT d, d 206, d 207, k0) g = a at hz1 ho1 hstep ⊢
        obtain ⟨th1, e⟩ := tunes6_n (d := S_put d a.1.1 a.1.2.1 a.1.2.2.1) (le := le) (th := th) (k0 := a.1.2.2.2) (m := S_set (P_grp (W_group w) (nI g)) N) hn hN hw (by omega) (by rw [put_HT]; exact hh) hd (by rw [put_o]; exact ho1)
        rw [put_o, put_t, put_PT hz1, put_put, put_HT] at e
        rw [if_neg (show ¬ (5 : Int32) ≤ nI g from nI_ge (b := 5) (by omega) (by decide)), groupSet6_n hn hN hw, bs, e, bs, nI_1]
        exact hstep th1
  obtain ⟨th', e⟩ := loop n 0 (Nat.zero_le _) (by omega) th
  refine ⟨th', ?_⟩
  unfold F_X6_rounds
  rw [show S_put d (S_rnd N (W_kind w) (W_needs w) (W_group w) (w 50) (w 51) le (HT d) dr draws (PT d, d 206, d 207, k0) 0).1.1 (S_rnd N (W_kind w) (W_needs w) (W_group w) (w 50) (w 51) le (HT d) dr draws (PT d, d 206, d 207, k0) 0).1.2.1 (S_rnd N (W_kind w) (W_needs w) (W_group w) (w 50) (w 51) le (HT d) dr draws (PT d, d 206, d 207, k0) 0).1.2.2.1 = d from put_self d] at e
  have e2 : L_X6_rounds_4 n w le draws n 0 0 k0 d th = _ := e
  rw [e2]
  rfl
/-- the spread of the state at b -/
theorem spreadOf6_n {n : Nat} (hn : 300 ≤ n) {N : Nat} (h1 : 1 ≤ N) (hN : N ≤ 8) {w d : Nat → Int32} (hw : w 0 = nI N) {b : Nat} (hb : b ≤ 208) : F_X6_spreadOf n w d (nI b) = some (S_apart (fun k => d (b + k)) N) := by
  have loop : ∀ k i, i ≤ N → N - i < k → L_X6_spreadOf_21 w d (nI b) k (S_lo (fun k => d (b + k)) i) (S_hi (fun k => d (b + k)) i) (nI i) = some (S_lo (fun k => d (b + k)) N, S_hi (fun k => d (b + k)) N, nI N) := by
    intro k
    induction k with
    | zero => intro i _ h; omega
    | succ k ih =>
      intro i hi hk
      rw [L_X6_spreadOf_21, show ld w 106 (0 : Int32) = some (w 0) from ld_n (i := 0) (by decide) (by decide), bs, hw]
      by_cases h : N ≤ i
      · obtain rfl : i = N := by omega
        rw [if_pos (nI_le (Nat.le_refl _) (by omega))]
      · rw [if_neg (nI_ge (by omega) (by omega)), show (nI b + (0 : Int32)) + nI i = nI (b + i) from by rw [Int32.add_zero, nI_add], ld_n (by omega) (by decide), bs]
        have hstep := ih (i + 1) (by omega) (by omega)
        rw [S_lo, S_hi, ← nI_1 i] at hstep
        have e1 : (if S_lo (fun k => d (b + k)) i ≤ d (b + i) then some (S_lo (fun k => d (b + k)) i) else some (d (b + i))) = some (if d (b + i) < S_lo (fun k => d (b + k)) i then d (b + i) else S_lo (fun k => d (b + k)) i) := by
          by_cases c : S_lo (fun k => d (b + k)) i ≤ d (b + i)
          · rw [if_pos c, if_neg (by rw [fa_lt]; rw [fa_le] at c; omega)]
          · rw [if_neg c, if_pos (by rw [fa_lt]; rw [fa_le] at c; omega)]
        have e2 : (if d (b + i) ≤ S_hi (fun k => d (b + k)) i then some (S_hi (fun k => d (b + k)) i) else some (d (b + i))) = some (if S_hi (fun k => d (b + k)) i < d (b + i) then d (b + i) else S_hi (fun k => d (b + k)) i) := by
          by_cases c : d (b + i) ≤ S_hi (fun k => d (b + k)) i
          · rw [if_pos c, if_neg (by rw [fa_lt]; rw [fa_le] at c; omega)]
          · rw [if_neg c, if_pos (by rw [fa_lt]; rw [fa_le] at c; omega)]
        rw [e1, bs, e2, bs]
        exact hstep
  unfold F_X6_spreadOf
  have e := loop n 1 h1 (by omega)
  rw [S_hi_1, S_lo_1] at e
  rw [show nI b + (0 : Int32) = nI (b + 0) from by rw [Int32.add_zero, Nat.add_zero], ld_n (by omega) (by decide), bs, bs, show L_X6_spreadOf_21 w d (nI b) n (d (b + 0)) (d (b + 0)) 1 = _ from e]
  rfl
/-- of i, with those below j -/
def S_lw (p : Nat → Int32) (un : Int32) (i : Nat) : Nat → Nat
  | 0 => 0
  | j + 1 => S_lw p un i j + S_c p un i j
def S_twos (p : Nat → Int32) (un : Int32) : Nat → Nat
  | 0 => 0
  | i + 1 => S_twos p un i + S_lw p un i i
theorem plain6_n (n : Nat) (x : Int32) : F_X6_plain n x = some (S_abs x) := by
  unfold F_X6_plain S_abs
  split <;> rfl
theorem heardOf6_n {n : Nat} (hn : 300 ≤ n) {N : Nat} (hN : N ≤ 8) {w d : Nat → Int32} (hw : w 0 = nI N) {b : Nat} (hb : b ≤ 208) : F_X6_heardOf n w d (nI b) = some (nI (S_twos (fun k => d (b + k)) (w 52) N)) := by
  have inner : ∀ i, i < N → ∀ k j c, j ≤ i → i - j < k → L_X6_heardOf_17 n w d (nI b) (nI i) k (nI (c + S_lw (fun k => d (b + k)) (w 52) i j)) (nI j) = some (nI (c + S_lw (fun k => d (b + k)) (w 52) i i), nI i) := by
    intro i hi k
    induction k with
    | zero => intro j c _ h; omega
    | succ k ih =>
      intro j c hj hk
      rw [L_X6_heardOf_17]
      by_cases h : i ≤ j
      · obtain rfl : j = i := by omega
        rw [if_pos (nI_le (Nat.le_refl _) (by omega))]
      · rw [if_neg (nI_ge (by omega) (by omega)), show (nI b + (0 : Int32)) + nI i = nI (b + i) from by rw [Int32.add_zero, nI_add], ld_n (by omega) (by decide), bs, show (nI b + (0 : Int32)) + nI j = nI (b + j) from by rw [Int32.add_zero, nI_add], ld_n (by omega) (by decide), bs, plain6_n, bs, show ld w 106 (52 : Int32) = some (w 52) from ld_n (i := 52) (by decide) (by decide), bs]
        have hstep := ih (j + 1) c (by omega) (by omega)
        rw [S_lw, ← nI_1 j] at hstep
        by_cases q : S_abs (d (b + i) - d (b + j)) ≤ w 52
        · rw [if_pos q, bs, Int32.add_zero]
          rw [show S_c (fun k => d (b + k)) (w 52) i j = 0 from by unfold S_c; rw [if_pos q]] at hstep
          exact hstep
        · rw [if_neg q, bs, nI_1]
          rw [show S_c (fun k => d (b + k)) (w 52) i j = 1 from by unfold S_c; rw [if_neg q]] at hstep
          exact hstep
  have loop : ∀ k i, i ≤ N → N - i < k → L_X6_heardOf_4 n w d (nI b) k (nI (S_twos (fun k => d (b + k)) (w 52) i)) (nI i) = some (nI (S_twos (fun k => d (b + k)) (w 52) N), nI N) := by
    intro k
    induction k with
    | zero => intro i _ h; omega
    | succ k ih =>
      intro i hi hk
      rw [L_X6_heardOf_4, show ld w 106 (0 : Int32) = some (w 0) from ld_n (i := 0) (by decide) (by decide), bs, hw]
      by_cases h : N ≤ i
      · obtain rfl : i = N := by omega
        rw [if_pos (nI_le (Nat.le_refl _) (by omega))]
      · have e : L_X6_heardOf_17 n w d (nI b) (nI i) n (nI (S_twos (fun k => d (b + k)) (w 52) i)) 0 = _ := inner i (by omega) n 0 (S_twos (fun k => d (b + k)) (w 52) i) (by omega) (by omega)
        rw [if_neg (nI_ge (by omega) (by omega)), e, bs, nI_1]
        exact ih (i + 1) (by omega) (by omega)
  unfold F_X6_heardOf
  have e : L_X6_heardOf_4 n w d (nI b) n 0 0 = _ := loop n 0 (Nat.zero_le _) (by omega)
  rw [e]
  rfl
/-! the class counts the twos from below, the Model from above -/
theorem S_abs_sym {x y : Int32} (hx : S_ok x) (hy : S_ok y) : S_abs (x - y) = S_abs (y - x) := by
  unfold S_ok at hx hy
  have e1 : (x - y).toInt = x.toInt - y.toInt := by
    rw [Int32.toInt_sub, Int.bmod_eq_of_le] <;> omega
  have e2 : (y - x).toInt = y.toInt - x.toInt := by
    rw [Int32.toInt_sub, Int.bmod_eq_of_le] <;> omega
  have e3 : -(x - y) = y - x := by rw [Int32.neg_sub]
  have e4 : -(y - x) = x - y := by rw [Int32.neg_sub]
  have z : (0 : Int32).toInt = 0 := by decide
  unfold S_abs
  rw [e3, e4]
  by_cases h1 : 0 ≤ x - y
  · rw [if_pos h1]
    by_cases h2 : 0 ≤ y - x
    · rw [if_pos h2]
      rw [fa_le] at h1 h2
      rw [fa_eq]
      omega
    · rw [if_neg h2]
  · rw [if_neg h1, if_pos (by rw [fa_le] at h1 ⊢; omega)]
theorem S_c_sym {p : Nat → Int32} {un : Int32} {i j : Nat} (hi : S_ok (p i)) (hj : S_ok (p j)) : S_c p un i j = S_c p un j i := by
  unfold S_c
  rw [S_abs_sym hi hj]
theorem S_up_eq {p : Nat → Int32} {un : Int32} : ∀ {N : Nat}, (∀ i, i < N → S_ok (p i)) → S_up p un N N = S_twos p un N
  | 0, _ => rfl
  | N + 1, h => by
    have ih := S_up_eq (p := p) (un := un) (N := N) (fun i hi => h i (by omega))
    have key : ∀ i, i ≤ N → S_up p un (N + 1) i = S_up p un N i + S_lw p un N i := by
      intro i
      induction i with
      | zero => intro _; rfl
      | succ i ih2 =>
        intro hi
        rw [S_up, S_up, S_lw, ih2 (by omega), S_in, if_pos (by omega), S_c_sym (h i (by omega)) (h N (by omega))]
        omega
    rw [S_up, key N (Nat.le_refl _), ih, S_twos, S_in_low p un N (N + 1) (Nat.le_refl _)]
    rfl
/-! copies of states -/
theorem lays6_n {n : Nat} (hn : 300 ≤ n) (d : Nat → Int32) : F_X6_lays n d = some (fun j => if 198 ≤ j ∧ j < 216 then d (j - 198) else d j) := by
  have loop : ∀ k i, i ≤ 18 → 18 - i < k → L_X6_lays_2 k (nI i) (fun j => if 198 ≤ j ∧ j < 198 + i then d (j - 198) else d j) = some (nI 18, fun j => if 198 ≤ j ∧ j < 198 + 18 then d (j - 198) else d j) := by
    intro k
    induction k with
    | zero => intro i _ h; omega
    | succ k ih =>
      intro i hi hk
      rw [L_X6_lays_2]
      by_cases h : 18 ≤ i
      · obtain rfl : i = 18 := by omega
        rw [if_pos (by decide)]
      · rw [if_neg (show ¬ (18 : Int32) ≤ nI i from nI_ge (b := 18) (by omega) (by decide)), ld_n (by omega) (by decide), bs, show (198 : Int32) + nI i = nI (198 + i) from nI_add 198 i, sto_n (by omega) (by decide), bs, nI_1]
        have e : upd (fun j => if 198 ≤ j ∧ j < 198 + i then d (j - 198) else d j) (198 + i) (if 198 ≤ i ∧ i < 198 + i then d (i - 198) else d i) = (fun j => if 198 ≤ j ∧ j < 198 + (i + 1) then d (j - 198) else d j) := by
          funext j
          unfold upd
          by_cases c : j = 198 + i
          · subst c
            rw [if_pos rfl, if_neg (by omega), if_pos (by omega), Nat.add_sub_cancel_left]
          · rw [if_neg c]
            show (if 198 ≤ j ∧ j < 198 + i then d (j - 198) else d j) = _
            by_cases c2 : 198 ≤ j ∧ j < 198 + i
            · rw [if_pos c2, if_pos (by omega)]
            · rw [if_neg c2, if_neg (by omega)]
        rw [e]
        exact ih (i + 1) (by omega) (by omega)
  unfold F_X6_lays
  have e := loop n 0 (Nat.zero_le _) (by omega)
  rw [show (fun j => if 198 ≤ j ∧ j < 198 + 0 then d (j - 198) else d j) = d from by funext j; rw [if_neg (by omega)]] at e
  rw [show L_X6_lays_2 n 0 d = _ from e]
  rfl
/-- the trial as the state at 0 -/
def S_lay (d : Nat → Int32) : Nat → Int32 := fun j => if 198 ≤ j ∧ j < 216 then d (j - 198) else d j
def P0 (d : Nat → Int32) : Nat → Int32 := fun k => if k < 8 then d k else 0
theorem lay_PT (d : Nat → Int32) : PT (S_lay d) = P0 d := by
  funext k
  unfold PT P0 S_lay
  split
  · rw [if_pos (by omega), Nat.add_sub_cancel_left]
  · rfl
theorem lay_o (d : Nat → Int32) : S_lay d 206 = d 8 := rfl
theorem lay_t (d : Nat → Int32) : S_lay d 207 = d 9 := rfl
theorem lay_h (d : Nat → Int32) {k : Nat} (h : k < 8) : HT (S_lay d) k = d (10 + k) := by
  show (if 198 ≤ 208 + k ∧ 208 + k < 216 then d (208 + k - 198) else d (208 + k)) = _
  rw [if_pos (by omega), show 208 + k - 198 = 10 + k from by omega]
theorem lay_lo (d : Nat → Int32) {j : Nat} (h : j < 198) : S_lay d j = d j := by
  unfold S_lay
  rw [if_neg (by omega)]
theorem stays6_n {n : Nat} (hn : 300 ≤ n) (d : Nat → Int32) : F_X6_stays n d = some (fun j => if j < 18 then d (198 + j) else d j) := by
  have loop : ∀ k i, i ≤ 18 → 18 - i < k → L_X6_stays_2 k (nI i) (fun j => if j < i then d (198 + j) else d j) = some (nI 18, fun j => if j < 18 then d (198 + j) else d j) := by
    intro k
    induction k with
    | zero => intro i _ h; omega
    | succ k ih =>
      intro i hi hk
      rw [L_X6_stays_2]
      by_cases h : 18 ≤ i
      · obtain rfl : i = 18 := by omega
        rw [if_pos (by decide)]
      · rw [if_neg (show ¬ (18 : Int32) ≤ nI i from nI_ge (b := 18) (by omega) (by decide)), show (198 : Int32) + nI i = nI (198 + i) from nI_add 198 i, ld_n (by omega) (by decide), bs, sto_n (by omega) (by decide), bs, nI_1]
        have e : upd (fun j => if j < i then d (198 + j) else d j) i (if 198 + i < i then d (198 + (198 + i)) else d (198 + i)) = (fun j => if j < i + 1 then d (198 + j) else d j) := by
          funext j
          unfold upd
          by_cases c : j = i
          · subst c
            rw [if_pos rfl, if_neg (by omega), if_pos (by omega)]
          · rw [if_neg c]
            show (if j < i then d (198 + j) else d j) = _
            by_cases c2 : j < i
            · rw [if_pos c2, if_pos (by omega)]
            · rw [if_neg c2, if_neg (by omega)]
        rw [e]
        exact ih (i + 1) (by omega) (by omega)
  unfold F_X6_stays
  have e := loop n 0 (Nat.zero_le _) (by omega)
  rw [show (fun j => if j < 0 then d (198 + j) else d j) = d from by funext j; rw [if_neg (by omega)]] at e
  rw [show L_X6_stays_2 n 0 d = _ from e]
  rfl
theorem laysLeans6_n {n : Nat} (hn : 300 ≤ n) (w le : Nat → Int32) : F_X6_laysLeans n w le = some (-1, 0, S_fill (fun i => W_lean w i - 3) le 8) := by
  have loop : ∀ k i, i ≤ 8 → 8 - i < k → L_X6_laysLeans_2 w k (nI i) (S_fill (fun i => W_lean w i - 3) le i) = some (nI 8, S_fill (fun i => W_lean w i - 3) le 8) := by
    intro k
    induction k with
    | zero => intro i _ h; omega
    | succ k ih =>
      intro i hi hk
      rw [L_X6_laysLeans_2]
      by_cases h : 8 ≤ i
      · obtain rfl : i = 8 := by omega
        rw [if_pos (by decide)]
      · rw [if_neg (show ¬ (8 : Int32) ≤ nI i from nI_ge (b := 8) (by omega) (by decide)), show (9 : Int32) + nI i = nI (9 + i) from nI_add 9 i, ld_n (by omega) (by decide), bs, sto_n (by omega) (by decide), bs, S_fill_up' (by rfl), nI_1]
        exact ih (i + 1) (by omega) (by omega)
  unfold F_X6_laysLeans
  have e := loop n 0 (Nat.zero_le _) (by omega)
  rw [S_fill_0] at e
  rw [show L_X6_laysLeans_2 w n 0 le = _ from e]
  rfl
