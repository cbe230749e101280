/-! What is told of a desk; SPREAD, HEARD; WAY; HIGH; TOGETHER; the text's letters. -/
theorem op_desk {n : Nat} {N : Nat} {w d : Nat → Int32} {desks : Int32} {kind lean needs group : Nat → Int32} {slip warmth unheard : Int32} (RH : R_hall N w desks kind lean needs group slip warmth unheard) {p h : Nat → Int32} {o t : Int32} (RS : R_st N p h o t d 0) (x y : Int32) :
    ∃ r, F_X5_desk n desks kind lean needs group h x y = some r ∧ F_X6_desk n w d x y = some r := by
  obtain ⟨h1, hN, rfl, hw, ak, al, an, ag, es, ew, eu⟩ := RH
  obtain ⟨r1, r2, r3, r4, r5, r6, r7⟩ := RS
  unfold F_X5_desk F_X6_desk
  rw [isDesk6_n n h1 hN hw, hasDesk_val, show (0 : Int64) = Int32.toInt64 0 from by decide, show (4 : Int64) = Int32.toInt64 4 from by decide, in6_n]
  simp only [bs]
  by_cases hd : 0 ≤ x ∧ x < nI N
  · rw [if_neg (fun q => (ite01 _).mp q hd), if_neg (fun q => (ite01 _).mp q hd)]
    obtain ⟨j, hj, rfl⟩ := desk_of (by omega) hd
    rw [ld_n (f := kind) (by omega) (by decide), ld_n (f := lean) (by omega) (by decide), ld_n (f := needs) (by omega) (by decide), ld_n (f := group) (by omega) (by decide), ld_n (f := h) (by omega) (by decide)]
    simp only [bs]
    by_cases c : (0 : Int32) ≤ y ∧ y ≤ 4
    · obtain ⟨z, hz, rfl⟩ := small_of (m := 4) (by decide) c
      rw [if_neg (fun q => (ite01 _).mp q c)]
      have zc : z = 0 ∨ z = 1 ∨ z = 2 ∨ z = 3 ∨ z = 4 := by omega
      rcases zc with rfl | rfl | rfl | rfl | rfl
      · rw [if_pos (show nI 0 = (0 : Int32) from rfl), if_neg (show ¬ nI 0 = (3 : Int32) from by decide), show ((1 : Int32) + (8 : Int32) * nI 0) + nI j = nI (1 + j) from by rw [show (1 : Int32) + (8 : Int32) * nI 0 = nI 1 from by decide]; exact nI_add 1 j, ld_n (by omega) (by decide), bs]
        exact ⟨_, rfl, congrArg some (ak j hj).symm⟩
      · rw [if_neg (show ¬ nI 1 = (0 : Int32) from by decide), if_pos (show nI 1 = (1 : Int32) from rfl), if_neg (show ¬ nI 1 = (3 : Int32) from by decide), show ((1 : Int32) + (8 : Int32) * nI 1) + nI j = nI (9 + j) from by rw [show (1 : Int32) + (8 : Int32) * nI 1 = nI 9 from by decide]; exact nI_add 9 j, ld_n (by omega) (by decide), bs]
        exact ⟨_, rfl, congrArg some (al j hj).symm⟩
      · rw [if_neg (show ¬ nI 2 = (0 : Int32) from by decide), if_neg (show ¬ nI 2 = (1 : Int32) from by decide), if_pos (show nI 2 = (2 : Int32) from rfl), if_neg (show ¬ nI 2 = (3 : Int32) from by decide), show ((1 : Int32) + (8 : Int32) * nI 2) + nI j = nI (17 + j) from by rw [show (1 : Int32) + (8 : Int32) * nI 2 = nI 17 from by decide]; exact nI_add 17 j, ld_n (by omega) (by decide), bs]
        exact ⟨_, rfl, congrArg some (an j hj).symm⟩
      · rw [if_neg (show ¬ nI 3 = (0 : Int32) from by decide), if_neg (show ¬ nI 3 = (1 : Int32) from by decide), if_neg (show ¬ nI 3 = (2 : Int32) from by decide), if_pos (show nI 3 = (3 : Int32) from rfl), if_pos (show nI 3 = (3 : Int32) from rfl), show (10 : Int32) + nI j = nI (10 + j) from nI_add 10 j, ld_n (by omega) (by decide), bs]
        exact ⟨_, rfl, congrArg some (by rw [r2 j hj, Nat.zero_add])⟩
      · rw [if_neg (show ¬ nI 4 = (0 : Int32) from by decide), if_neg (show ¬ nI 4 = (1 : Int32) from by decide), if_neg (show ¬ nI 4 = (2 : Int32) from by decide), if_neg (show ¬ nI 4 = (3 : Int32) from by decide), if_pos (show nI 4 = (4 : Int32) from rfl), if_neg (show ¬ nI 4 = (3 : Int32) from by decide), show ((1 : Int32) + (8 : Int32) * nI 4) + nI j = nI (33 + j) from by rw [show (1 : Int32) + (8 : Int32) * nI 4 = nI 33 from by decide]; exact nI_add 33 j, ld_n (by omega) (by decide), bs]
        exact ⟨_, rfl, congrArg some (ag j hj).symm⟩
    · rw [if_pos ((ite01 _).mpr c), if_neg (fun q => c (by subst q; decide)), if_neg (fun q => c (by subst q; decide)), if_neg (fun q => c (by subst q; decide)), if_neg (fun q => c (by subst q; decide)), if_neg (fun q => c (by subst q; decide))]
      exact ⟨_, rfl, rfl⟩
  · rw [if_pos ((ite01 _).mpr hd), if_pos ((ite01 _).mpr hd)]
    exact ⟨_, rfl, rfl⟩
theorem op_off {n : Nat} {N : Nat} {w d : Nat → Int32} {desks : Int32} {kind lean needs group : Nat → Int32} {slip warmth unheard : Int32} (RH : R_hall N w desks kind lean needs group slip warmth unheard) {p h : Nat → Int32} {o t : Int32} (RS : R_st N p h o t d 0) (x : Int32) :
    ∃ r, F_X5_off n desks p o x = some r ∧ F_X6_off n w d x = some r := by
  obtain ⟨h1, hN, rfl, hw, ak, al, an, ag, es, ew, eu⟩ := RH
  obtain ⟨r1, r2, r3, r4, r5, r6, r7⟩ := RS
  unfold F_X5_off F_X6_off
  rw [isDesk6_n n h1 hN hw, hasDesk_val]
  simp only [bs]
  by_cases c9 : x = 9
  · subst c9
    have nd : ¬ ((0 : Int32) ≤ 9 ∧ (9 : Int32) < nI N) := fun q => nI_nlt (a := 9) (b := N) (by omega) (by decide) q.2
    rw [if_pos rfl, if_pos ((ite01 _).mpr nd), if_pos rfl, if_pos rfl, bs, show (0 : Int32) + 8 = 8 from by decide, show ld d 216 (8 : Int32) = some (d 8) from ld_n (i := 8) (by decide) (by decide), bs]
    exact ⟨_, rfl, congrArg some (by rw [r3, Nat.zero_add])⟩
  · rw [if_neg c9]
    by_cases hd : 0 ≤ x ∧ x < nI N
    · rw [if_neg (fun q => (ite01 _).mp q hd), if_neg (fun q => (ite01 _).mp q hd), if_neg c9]
      obtain ⟨j, hj, rfl⟩ := desk_of (by omega) hd
      rw [ld_n (by omega) (by decide), bs, bs, show (0 : Int32) + nI j = nI (0 + j) from nI_add 0 j, ld_n (by omega) (by decide), bs]
      exact ⟨_, rfl, congrArg some (by rw [r1 j hj])⟩
    · rw [if_pos ((ite01 _).mpr hd), if_pos ((ite01 _).mpr hd), if_neg c9]
      exact ⟨_, rfl, rfl⟩
theorem op_spread {n : Nat} (hn : 300 ≤ n) {N : Nat} {w d : Nat → Int32} {desks : Int32} {kind lean needs group : Nat → Int32} {slip warmth unheard : Int32} (RH : R_hall N w desks kind lean needs group slip warmth unheard) {p h : Nat → Int32} {o t : Int32} (RS : R_st N p h o t d 0) :
    ∃ r, F_X5_spread n desks p = some r ∧ F_X6_spread n w d = some r := by
  obtain ⟨h1, hN, rfl, hw, ak, al, an, ag, es, ew, eu⟩ := RH
  unfold F_X5_spread F_X6_spread
  rw [apart_n hn h1 hN, show (0 : Int32) = nI 0 from rfl, spreadOf6_n hn h1 hN hw (by decide), bs, bs]
  exact ⟨_, rfl, congrArg some (apart_ag h1 (fun i hi => (RS.1 i hi).symm))⟩
theorem op_heard {n : Nat} (hn : 300 ≤ n) {N : Nat} {w d : Nat → Int32} {desks : Int32} {kind lean needs group : Nat → Int32} {slip warmth unheard : Int32} (RH : R_hall N w desks kind lean needs group slip warmth unheard) {p h : Nat → Int32} {o t : Int32} (RS : R_st N p h o t d 0) :
    ∃ r, F_X5_heard n desks unheard p = some r ∧ F_X6_heard n w d = some r := by
  obtain ⟨h1, hN, rfl, hw, ak, al, an, ag, es, ew, rfl⟩ := RH
  unfold F_X5_heard F_X6_heard
  rw [twosHeard_n hn hN, show (0 : Int32) = nI 0 from rfl, heardOf6_n hn hN hw (by decide), bs, bs, S_up_eq RS.2.2.2.2.1]
  exact ⟨_, rfl, congrArg some (by rw [twos_ag (fun i hi => (RS.1 i hi).symm) _ N (Nat.le_refl _)])⟩
/-! WAY -/
/-- whom i hears, again and again -/
def S_on (h : Nat → Int32) (i : Nat) : Nat → Nat
  | 0 => i
  | k + 1 => (h (S_on h i k)).toNatClampNeg
theorem on_step {N : Nat} (hN : N ≤ 8) {h : Nat → Int32} (hh : HN N h) {i k : Nat} (hk : S_on h i k < N) : h (S_on h i k) = nI (S_on h i (k + 1)) ∧ (S_on h i (k + 1) < N ∨ S_on h i (k + 1) = 8 ∨ S_on h i (k + 1) = 9) := by
  obtain ⟨a, e, c⟩ := hh _ hk
  have : S_on h i (k + 1) = a := by
    show (h (S_on h i k)).toNatClampNeg = a
    rw [e, nI_clamp (by omega)]
  rw [this]
  exact ⟨e, c⟩
/-- within N steps, or never -/
theorem on_loop {N : Nat} (hN : N ≤ 8) {h : Nat → Int32} {i : Nat} (ha : ∀ k, k ≤ N → S_on h i k < N) : ∀ k, S_on h i k < N := by
  have tw : ∃ a b, a < b ∧ b ≤ N ∧ S_on h i a = S_on h i b := by
    by_cases q : ∃ a b, a < b ∧ b ≤ N ∧ S_on h i a = S_on h i b
    · exact q
    · exfalso
      have inj : ∀ a b, a < b → b ≤ N → S_on h i a ≠ S_on h i b := fun a b x y z => q ⟨a, b, x, y, z⟩
      have key : ∀ (m n : Nat) (f : Nat → Nat), (∀ a, a < n → f a < m) → (∀ a b, a < b → b < n → f a ≠ f b) → n ≤ m := by
        intro m
        induction m with
        | zero =>
          intro n f h1 h2
          rcases Nat.eq_zero_or_pos n with e | e
          · omega
          · have := h1 0 e
            omega
        | succ m ihm =>
          intro n f h1 h2
          cases n with
          | zero => omega
          | succ n =>
            have := ihm n (fun a => if f a = m then f n else f a) (fun a hlt => by
              have x1 := h1 a (by omega)
              have x2 := h1 n (by omega)
              have x3 := h2 a n hlt (by omega)
              show (if f a = m then f n else f a) < m
              split <;> omega) (fun a b hab hb => by
              have y1 := h2 a b hab (by omega)
              have y2 := h2 a n (by omega) (by omega)
              have y3 := h2 b n hb (by omega)
              show (if f a = m then f n else f a) ≠ (if f b = m then f n else f b)
              split <;> split <;> omega)
            omega
      have := key N (N + 1) (S_on h i) (fun a hlt => ha a (by omega)) (fun a b x y => inj a b x (by omega))
      omega
  obtain ⟨a, b, hab, hb, e⟩ := tw
  have per : ∀ k, S_on h i (a + k) = S_on h i (b + k) := by
    intro k
    induction k with
    | zero => exact e
    | succ k ih =>
      show (h (S_on h i (a + k))).toNatClampNeg = (h (S_on h i (b + k))).toNatClampNeg
      rw [ih]
  intro k
  induction k using Nat.strongRecOn with
  | ind k ih =>
    by_cases c : k ≤ N
    · exact ha k c
    · have := per (k - b)
      rw [show b + (k - b) = k from by omega] at this
      rw [← this]
      exact ih _ (by omega)
/-- what all on the way lean together, k steps long -/
def S_wl (lean h : Nat → Int32) (i : Nat) : Nat → Int32
  | 0 => 0
  | k + 1 => if h (S_on h i k) = 8 then S_wl lean h i k else S_wl lean h i k + (lean (S_on h i k) - 3)
theorem op_way {n : Nat} (hn : 300 ≤ n) {N : Nat} {w d : Nat → Int32} {desks : Int32} {kind lean needs group : Nat → Int32} {slip warmth unheard : Int32} (RH : R_hall N w desks kind lean needs group slip warmth unheard) {p h : Nat → Int32} {o t : Int32} (RS : R_st N p h o t d 0) (x y : Int32) :
    ∃ r, F_X5_way n desks lean h x y = some r ∧ F_X6_way n w d x y = some r := by
  obtain ⟨h1, hN, rfl, hw, ak, al, an, ag, es, ew, eu⟩ := RH
  obtain ⟨r1, r2, r3, r4, r5, r6, r7⟩ := RS
  unfold F_X5_way F_X6_way
  rw [isDesk6_n n h1 hN hw, hasDesk_val, show (0 : Int64) = Int32.toInt64 0 from by decide, show (1 : Int64) = Int32.toInt64 1 from by decide, isFrom_in6, isFrom_val]
  simp only [bs]
  by_cases hd : 0 ≤ x ∧ x < nI N
  · rw [if_neg (fun q => (ite01 _).mp q hd), if_neg (fun q => (ite01 _).mp q hd)]
    by_cases c : (0 : Int32) ≤ y ∧ y ≤ 1
    · rw [if_neg (fun q => (ite01 _).mp q c), if_neg (fun q => (ite01 _).mp q c)]
      obtain ⟨i, hi, rfl⟩ := desk_of (by omega) hd
      -- one turn of the Model's
      have turn6 : ∀ k m, S_on h i m < N → m ≤ 8 → L_X6_way_28 w d (k + 1) (nI (S_on h i m)) (nI m) (S_wl lean h i m) = L_X6_way_28 w d k (nI (S_on h i (m + 1))) (nI (m + 1)) (S_wl lean h i (m + 1)) := by
        intro k m hm hm8
        obtain ⟨e, -⟩ := on_step hN r7 hm
        rw [L_X6_way_28, if_neg (show ¬ (8 : Int32) ≤ nI (S_on h i m) from nI_ge (b := 8) (by omega) (by decide)), if_neg (show ¬ (8 : Int32) < nI m from nI_nlt (a := 8) (by omega) (by decide)), show (10 : Int32) + nI (S_on h i m) = nI (10 + S_on h i m) from nI_add 10 _, ld_n (by omega) (by decide), bs]
        have e2 : d (10 + S_on h i m) = h (S_on h i m) := by rw [r2 _ hm, Nat.zero_add]
        rw [e2]
        have e3 : (if h (S_on h i m) = 8 then some (0 : Int32) else Option.bind (ld w 106 ((9 : Int32) + nI (S_on h i m))) fun v => some (v - 3)) = some (if h (S_on h i m) = 8 then 0 else lean (S_on h i m) - 3) := by
          rw [show (9 : Int32) + nI (S_on h i m) = nI (9 + S_on h i m) from nI_add 9 _, ld_n (by omega) (by decide), bs]
          have : w (9 + S_on h i m) = lean (S_on h i m) := (al _ hm).symm
          rw [this]
          split <;> rfl
        rw [e3, bs, bs, nI_1]
        rw [S_wl]
        by_cases c8 : h (S_on h i m) = 8
        · rw [if_pos c8, if_pos c8, Int32.add_zero, e]
        · rw [if_neg c8, if_neg c8, e]
      -- and of the class's
      have turn5 : ∀ k m, S_on h i m < N → m + 1 ≤ N → L_X5_way_30 n (nI N) lean h y (k + 1) (nI (S_on h i m)) (S_wl lean h i m) (nI (m + 1)) =
          if S_on h i (m + 1) < N then L_X5_way_30 n (nI N) lean h y k (nI (S_on h i (m + 1))) (S_wl lean h i (m + 1)) (nI (m + 1 + 1)) else if y = 0 then some (nI (m + 1)) else some (S_wl lean h i (m + 1) + 100) := by
        intro k m hm hm8
        obtain ⟨e, cases3⟩ := on_step hN r7 hm
        rw [L_X5_way_30, if_neg (nI_nlt (by omega) (by omega)), hasDesk_n n hm (by omega), bs, if_neg (by decide), ld_n (by omega) (by decide), bs]
        have e3 : (if h (S_on h i m) = 8 then some (S_wl lean h i m) else Option.bind (F_X0_leanOf n (nI N) lean (nI (S_on h i m))) fun r => some (S_wl lean h i m + r)) = some (S_wl lean h i (m + 1)) := by
          rw [leanOf_n n hm hN, bs, S_wl]
          split <;> rfl
        rw [e3, bs]
        by_cases c8 : S_on h i (m + 1) = 8
        · rw [if_pos (show h (S_on h i m) = 8 from by rw [e, c8]; rfl), if_neg (show ¬ S_on h i (m + 1) < N from by omega)]
        · have n8 : ¬ h (S_on h i m) = 8 := by rw [e]; exact nI_ne (b := 8) (by omega) (by decide) c8
          rw [if_neg n8]
          by_cases c9 : S_on h i (m + 1) = 9
          · rw [if_pos (show h (S_on h i m) = 9 from by rw [e, c9]; rfl), if_neg (show ¬ S_on h i (m + 1) < N from by omega)]
          · have n9 : ¬ h (S_on h i m) = 9 := by rw [e]; exact nI_ne (b := 9) (by omega) (by decide) c9
            rw [if_neg n9, if_pos (by omega), nI_1, e]
      by_cases all : ∀ k, k ≤ N → S_on h i k < N
      · have al2 := on_loop hN all
        have run5 : ∀ k m, m ≤ N → N - m < k → L_X5_way_30 n (nI N) lean h y k (nI (S_on h i m)) (S_wl lean h i m) (nI (m + 1)) = some (-4) := by
          intro k
          induction k with
          | zero => intro m _ h; omega
          | succ k ih =>
            intro m hm hk
            by_cases q : m = N
            · subst q
              rw [L_X5_way_30, if_pos (nI_lt (by omega) (by omega))]
            · rw [turn5 k m (al2 m) (by omega), if_pos (al2 _)]
              exact ih (m + 1) (by omega) (by omega)
        have run6 : ∀ k m, m ≤ 9 → 9 - m < k → L_X6_way_28 w d k (nI (S_on h i m)) (nI m) (S_wl lean h i m) = some (nI (S_on h i 9), nI 9, S_wl lean h i 9) := by
          intro k
          induction k with
          | zero => intro m _ h; omega
          | succ k ih =>
            intro m hm hk
            by_cases q : m = 9
            · subst q
              have := al2 9
              rw [L_X6_way_28, if_neg (show ¬ (8 : Int32) ≤ nI (S_on h i 9) from nI_ge (b := 8) (by omega) (by decide)), if_pos (by decide)]
            · rw [turn6 k m (al2 m) (by omega)]
              exact ih (m + 1) (by omega) (by omega)
        have := al2 9
        rw [show L_X5_way_30 n (nI N) lean h y n (nI i) 0 1 = _ from run5 n 0 (by omega) (by omega), show L_X6_way_28 w d n (nI i) 0 0 = _ from run6 n 0 (by omega) (by omega)]
        simp only [bs]
        rw [if_neg (show ¬ (8 : Int32) ≤ nI (S_on h i 9) from nI_ge (b := 8) (by omega) (by decide))]
        exact ⟨_, rfl, rfl⟩
      · -- the first step that leaves
        have ex : ∃ k, ¬ (k ≤ N → S_on h i k < N) := Classical.not_forall.mp all
        obtain ⟨z, hz, hmin⟩ := pk_least (fun k => ¬ (k ≤ N → S_on h i k < N)) ex
        have hz1 : z ≤ N ∧ ¬ S_on h i z < N := by
          by_cases q : z ≤ N
          · exact ⟨q, fun q2 => hz (fun _ => q2)⟩
          · exact absurd (fun q2 => absurd q2 q) hz
        have hlow : ∀ j, j < z → S_on h i j < N := fun j hj => by
          have := Classical.not_not.mp (hmin j hj)
          exact this (by omega)
        have hz0 : 0 < z := by
          rcases Nat.eq_zero_or_pos z with e | e
          · subst e
            exact absurd hi hz1.2
          · exact e
        obtain ⟨z, rfl⟩ : ∃ j, z = j + 1 := ⟨z - 1, by omega⟩
        have out := (on_step hN r7 (hlow z (by omega))).2
        have run5 : ∀ k m, m ≤ z → z - m < k → L_X5_way_30 n (nI N) lean h y k (nI (S_on h i m)) (S_wl lean h i m) (nI (m + 1)) = if y = 0 then some (nI (z + 1)) else some (S_wl lean h i (z + 1) + 100) := by
          intro k
          induction k with
          | zero => intro m _ h; omega
          | succ k ih =>
            intro m hm hk
            rw [turn5 k m (hlow m (by omega)) (by omega)]
            by_cases q : m = z
            · subst q
              rw [if_neg hz1.2]
            · rw [if_pos (hlow (m + 1) (by omega))]
              exact ih (m + 1) (by omega) (by omega)
        have run6 : ∀ k m, m ≤ z + 1 → z + 1 - m < k → L_X6_way_28 w d k (nI (S_on h i m)) (nI m) (S_wl lean h i m) = some (nI (S_on h i (z + 1)), nI (z + 1), S_wl lean h i (z + 1)) := by
          intro k
          induction k with
          | zero => intro m _ h; omega
          | succ k ih =>
            intro m hm hk
            by_cases q : m = z + 1
            · subst q
              rw [L_X6_way_28, if_pos (show (8 : Int32) ≤ nI (S_on h i (z + 1)) from nI_le (a := 8) (by omega) (by omega))]
            · rw [turn6 k m (hlow m (by omega)) (by omega)]
              exact ih (m + 1) (by omega) (by omega)
        rw [show L_X5_way_30 n (nI N) lean h y n (nI i) 0 1 = _ from run5 n 0 (by omega) (by omega), show L_X6_way_28 w d n (nI i) 0 0 = _ from run6 n 0 (by omega) (by omega)]
        simp only [bs]
        rw [if_pos (show (8 : Int32) ≤ nI (S_on h i (z + 1)) from nI_le (a := 8) (by omega) (by omega))]
        by_cases c3 : y = 0
        · rw [if_pos c3]
          exact ⟨_, rfl, rfl⟩
        · rw [if_neg c3]
          exact ⟨_, rfl, rfl⟩
    · rw [if_pos ((ite01 _).mpr c), if_pos ((ite01 _).mpr c)]
      exact ⟨_, rfl, rfl⟩
  · rw [if_pos ((ite01 _).mpr hd), if_pos ((ite01 _).mpr hd)]
    exact ⟨_, rfl, rfl⟩
