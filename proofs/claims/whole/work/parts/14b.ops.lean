/-! EVENING, AGAIN, BLAME, EAR, NEEDLES. -/
theorem ite01 (c : Prop) [Decidable c] : ((if c then (1 : Int32) else 0) = 0) ↔ ¬ c := by
  by_cases h : c
  · rw [if_pos h]
    exact ⟨fun q => absurd q (by decide), fun q => absurd h q⟩
  · rw [if_neg h]
    exact ⟨fun _ => h, fun _ => rfl⟩
theorem heard_both {n : Nat} (hn : 300 ≤ n) {N : Nat} (hN : N ≤ 8) {w d' p' : Nat → Int32} (hw : w 0 = nI N) (g2 : AG N p' (fun k => d' (198 + k))) (g3 : OKN N p') :
    F_X2_twosHeard n p' (nI N) (w 52) = some (nI (S_twos p' (w 52) N)) ∧ F_X6_heardOf n w d' (198 : Int32) = some (nI (S_twos p' (w 52) N)) := by
  refine ⟨?_, ?_⟩
  · rw [twosHeard_n hn hN, S_up_eq g3]
  · rw [show (198 : Int32) = nI 198 from rfl, heardOf6_n hn hN hw (by decide), twos_ag g2 _ N (Nat.le_refl _)]
theorem spread_both {n : Nat} (hn : 300 ≤ n) {N : Nat} (h1 : 1 ≤ N) (hN : N ≤ 8) {w d' p' : Nat → Int32} (hw : w 0 = nI N) (g2 : AG N p' (fun k => d' (198 + k))) :
    F_X2_apart n p' (nI N) = some (S_apart p' N) ∧ F_X6_spreadOf n w d' (198 : Int32) = some (S_apart p' N) := by
  refine ⟨apart_n hn h1 hN p', ?_⟩
  rw [show (198 : Int32) = nI 198 from rfl, spreadOf6_n hn h1 hN hw (by decide), apart_ag h1 g2]
theorem op_evening {n : Nat} (hn : 300 ≤ n) {N : Nat} {w d th le0 : Nat → Int32} {desks : Int32} {kind lean needs group : Nat → Int32} {slip warmth unheard : Int32} (RH : R_hall N w desks kind lean needs group slip warmth unheard) {p h : Nat → Int32} {o t : Int32} (RS : R_st N p h o t d 0) (tp tq : Nat → Int32) (to' ts : Int32) (ap ah : Nat → Int32) (ao at' st0 dr0 z0 k0 draws6 m0 x y : Int32) :
    ∃ r J dr6 k6 d' th' le', F_X5_evening n desks kind lean needs group slip warmth unheard p h o t tp tq to' ts ap ah ao at' st0 dr0 z0 k0 x y = some (r, J) ∧ F_X6_evening n w d th le0 draws6 m0 x y = some (r, dr6, k6, d', th', le') ∧ LOW d d' := by
  have RH0 := RH
  obtain ⟨h1, hN, ed, hw, ak, al, an, ag, es, ew, eu⟩ := RH
  subst ed
  subst eu
  unfold F_X5_evening F_X6_evening
  rw [show (0 : Int64) = Int32.toInt64 0 from by decide, show (9999 : Int64) = Int32.toInt64 9999 from by decide, show (1 : Int64) = Int32.toInt64 1 from by decide, isFrom_in6, isFrom_in6, isFrom_val, isFrom_val]
  simp only [bs]
  by_cases c : (0 : Int32) ≤ x ∧ x ≤ 9999
  · rw [if_neg (fun q => (ite01 _).mp q c), if_neg (fun q => (ite01 _).mp q c)]
    by_cases c2 : (0 : Int32) ≤ y ∧ y ≤ 1
    · rw [if_neg (fun q => (ite01 _).mp q c2), if_neg (fun q => (ite01 _).mp q c2)]
      obtain ⟨sec, k', bo, bt', bp, bh, o', t', p', k6, d', th', e1, e2, l2, g2, g3⟩ := trial_b hn RH0 (le := fun i => lean i - 3) (le8 := S_fill (fun i => W_lean w i - 3) le0 8) (th := th) (dd := S_lay d) (p8 := S_fill p tp 8) (h8 := S_fill h tq 8) (hx := h) (st := -1) (draws := 1) (z := x) (k0 := 0) (m0 := 0) (draws6 := x) (dr := true) RS (AG.fill hN _ _) (AG.fill hN _ _) RS.2.2.2.2.2.2 (lean_st hN lean) rfl (fun _ => ⟨rfl, rfl, rfl⟩) (decide_eq_true c.1).symm (LOW.lay d) (lay_PT d) (lay_o d) (lay_t d) (lay_HT hN RS) (lean_8 hN al) ap ah ao at'
      obtain ⟨s1, s2⟩ := spread_both hn h1 hN hw g2
      obtain ⟨t1, t2⟩ := heard_both hn hN hw g2 g3
      rw [startTrial_n hn, lays_dd hn, laysLeans6_n hn, show F_X4_drawBy n x = some (1, x, 0) from rfl]
      simp only [bs]
      rw [e1, e2]
      simp only [bs]
      rw [s1, s2, t1, t2]
      simp only [bs]
      by_cases c3 : y = 0
      · rw [if_pos c3, if_pos c3]
        exact ⟨_, _, _, _, _, _, _, rfl, rfl, l2⟩
      · rw [if_neg c3, if_neg c3]
        exact ⟨_, _, _, _, _, _, _, rfl, rfl, l2⟩
    · rw [if_pos ((ite01 _).mpr c2), if_pos ((ite01 _).mpr c2)]
      exact ⟨_, _, _, _, _, _, _, rfl, rfl, LOW.rf d⟩
  · rw [if_pos ((ite01 _).mpr c), if_pos ((ite01 _).mpr c)]
    exact ⟨_, _, _, _, _, _, _, rfl, rfl, LOW.rf d⟩
theorem op_again {n : Nat} (hn : 300 ≤ n) {N : Nat} {w d : Nat → Int32} {desks : Int32} {kind lean needs group : Nat → Int32} {slip warmth unheard : Int32} (RH : R_hall N w desks kind lean needs group slip warmth unheard) {p h : Nat → Int32} {o t : Int32} (RS : R_st N p h o t d 0) (tp tq : Nat → Int32) :
    ∃ r J d', F_X5_again n desks kind warmth unheard p h o t tp tq = some (r, J) ∧ F_X6_again n w d = some (r, d') ∧ LOW d d' := by
  obtain ⟨h1, hN, rfl, hw, ak, al, an, ag, es, rfl, rfl⟩ := RH
  have loop : ∀ k m, m ≤ 100 → 100 - m < k → ∀ (J0 : Int32 × Int32 × (Nat → Int32) × (Nat → Int32) × Int32 × Int32) (t1 : Int32) (p1 d1 : Nat → Int32), LOW d d1 → AG N p1 (PT d1) → d1 207 = t1 →
      ∃ r J d', L_X5_again_6 n (nI N) kind (w 51) (w 52) J0 k (nI m) t1 p1 = some (r, J) ∧ L_X6_again_6 n w k (nI m) d1 = some (r, d') ∧ LOW d d' := by
    intro k
    induction k with
    | zero => intro m _ h; omega
    | succ k ih =>
      intro m hm hk J0 t1 p1 d1 l1 g1 et
      rw [L_X5_again_6, L_X6_again_6]
      by_cases hq : 100 ≤ m
      · obtain rfl : m = 100 := by omega
        rw [if_pos (by decide), if_pos (by decide)]
        exact ⟨_, _, _, rfl, rfl, l1⟩
      · have g1' : AG N p1 (fun k => d1 (198 + k)) := g1.tr (PT_fun hN d1).sym
        obtain ⟨s1, s2⟩ := spread_both hn h1 hN hw g1'
        rw [if_neg (show ¬ (99 : Int32) < nI m from nI_nlt (a := 99) (by omega) (by decide)), if_neg (show ¬ (100 : Int32) ≤ nI m from nI_ge (b := 100) (by omega) (by decide)), s1, s2, bs, bs, show ld w 106 (52 : Int32) = some (w 52) from ld_n (i := 52) (by decide) (by decide), bs]
        by_cases c : S_apart p1 N ≤ w 52
        · rw [if_pos c, if_pos c, letPass_n hn hN, passes6_n hn hN hw, bs, bs, nI_1]
          refine ih (m + 1) (by omega) (by omega) _ _ _ _ (l1.tr (LOW.put _ _ _ _)) ?_ ?_
          · rw [put_PT (fill_0 hN (PT_0 d1)), et]
            exact AG.fillN (warm_ag ak g1 _)
          · rw [put_t, et]
        · rw [if_neg c, if_neg c]
          exact ⟨_, _, _, rfl, rfl, l1⟩
  obtain ⟨r1, r2, r3, r4, r5, r6, r7⟩ := RS
  rw [Nat.zero_add] at r3 r4
  unfold F_X5_again F_X6_again
  rw [startTrial_n hn, lays_dd hn, bs, bs]
  refine loop n 0 (by omega) (by omega) _ _ _ _ (LOW.lay d) ?_ ?_
  · rw [lay_PT]
    intro i hi
    show S_fill p tp 8 i = P0 d i
    rw [S_fill_in (by omega), r1 i hi, Nat.zero_add]
    unfold P0
    rw [if_pos (by omega)]
  · rw [lay_t, r4]
/-- a spread is less than FAR -/
theorem apart_far {N : Nat} (h1 : 1 ≤ N) {p : Nat → Int32} (ok : OKN N p) : S_apart p N < (1000000 : Int32) := by
  have bh : ∀ i, i ≤ N → S_ok (S_hi p i) := by
    intro i
    induction i with
    | zero => intro _; exact ok 0 h1
    | succ i ih =>
      intro h
      rw [S_hi]
      split
      · exact ok i (by omega)
      · exact ih (by omega)
  have bl : ∀ i, i ≤ N → S_ok (S_lo p i) := by
    intro i
    induction i with
    | zero => intro _; exact ok 0 h1
    | succ i ih =>
      intro h
      rw [S_lo]
      split
      · exact ok i (by omega)
      · exact ih (by omega)
  have a := bh N (Nat.le_refl _)
  have b := bl N (Nat.le_refl _)
  unfold S_ok at a b
  unfold S_apart
  rw [fa_lt, Int32.toInt_sub, Int.bmod_eq_of_le (by omega) (by omega)]
  have e : (1000000 : Int32).toInt = 1000000 := by decide
  omega
theorem abs_far {x : Int32} (ok : S_ok x) : S_abs x < (1000000 : Int32) := by
  unfold S_ok at ok
  have e : (1000000 : Int32).toInt = 1000000 := by decide
  unfold S_abs
  rw [fa_lt]
  split
  · omega
  · rw [Int32.toInt_neg, Int.bmod_eq_of_le (by omega) (by omega)]
    omega
/-- 'the first, or a better one' of the Model's -/
theorem better6 {α : Type} (b l v : Int32) (new : Int32) (k : Int32 → Int32 → Option α) :
    (Option.bind (if b = (-4 : Int32) then some (1 : Int32) else if l ≤ v then some 0 else some 1) fun j => Option.bind (if j = 0 then some b else some new) fun x => Option.bind (if j = 0 then some l else some v) fun y => k x y) =
      k (if b = -4 ∨ v < l then new else b) (if b = -4 ∨ v < l then v else l) := by
  by_cases c : b = -4
  · have c1 : b = -4 ∨ v < l := Or.inl c
    rw [if_pos c, if_pos c1, if_pos c1, bs, if_neg (by decide), bs, if_neg (by decide), bs]
  · rw [if_neg c]
    by_cases c2 : l ≤ v
    · have c1 : ¬ (b = -4 ∨ v < l) := fun q => q.elim c (fun q => by rw [fa_lt] at q; rw [fa_le] at c2; omega)
      rw [if_pos c2, if_neg c1, if_neg c1, bs, if_pos rfl, bs, if_pos rfl, bs]
    · have c1 : b = -4 ∨ v < l := Or.inr (by rw [fa_lt]; rw [fa_le] at c2; omega)
      rw [if_neg c2, if_pos c1, if_pos c1, bs, if_neg (by decide), bs, if_neg (by decide), bs]
/-- how the class's best and the Model's best stand to each other: either nothing has been tried -/
def BEST (c1 c2 m1 m2 : Int32) : Prop := (c2 = 1000000 ∧ m1 = -4) ∨ (c1 = m1 ∧ c2 = m2 ∧ m1 ≠ -4)
theorem BEST.next {c1 c2 m1 m2 v new : Int32} (b : BEST c1 c2 m1 m2) (hv : v < (1000000 : Int32)) (hn : new ≠ -4) : BEST (if v < c2 then new else c1) (if v < c2 then v else c2) (if m1 = -4 ∨ v < m2 then new else m1) (if m1 = -4 ∨ v < m2 then v else m2) := by
  rcases b with ⟨rfl, rfl⟩ | ⟨rfl, rfl, hm⟩
  · rw [if_pos hv, if_pos hv, if_pos (Or.inl rfl), if_pos (Or.inl rfl)]
    exact Or.inr ⟨rfl, rfl, hn⟩
  · by_cases c : v < c2
    · rw [if_pos c, if_pos c, if_pos (Or.inr c), if_pos (Or.inr c)]
      exact Or.inr ⟨rfl, rfl, hn⟩
    · rw [if_neg c, if_neg c, if_neg (fun q => q.elim hm c), if_neg (fun q => q.elim hm c)]
      exact Or.inr ⟨rfl, rfl, hm⟩
theorem nI_ne4 {j : Nat} (h : j < 2 ^ 31) : nI j ≠ (-4 : Int32) := fun q => by
  have e := congrArg Int32.toInt q
  rw [nI_toInt h] at e
  have : (-4 : Int32).toInt = -4 := by decide
  omega
