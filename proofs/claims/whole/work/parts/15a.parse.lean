/-! The text read: letters, numbers. -/
/-- a text of L letters -/
def TT (L : Nat) (cc : Nat → Nat) : Prop := L ≤ 200 ∧ ∀ i, i < L → 32 ≤ cc i ∧ cc i ≤ 126
def CC (L : Nat) (cc : Nat → Nat) (t : Nat → Int32) : Prop := ∀ i, i < L → t i = nI (cc i)
theorem tx_cc {l5 l6 : Int32} {t5 t6 : Nat → Int32} (RX : R_tx l5 l6 t5 t6) : ∃ L cc, l5 = nI L ∧ l6 = nI L ∧ TT L cc ∧ CC L cc t5 ∧ CC L cc t6 := by
  obtain ⟨l, hl, e5, e6, h⟩ := RX
  refine ⟨l, fun i => (t5 i).toNatClampNeg, e5, e6, ⟨hl, ?_⟩, ?_, ?_⟩
  · intro i hi
    obtain ⟨-, a, a1, a2, ea⟩ := h i hi
    show 32 ≤ (t5 i).toNatClampNeg ∧ (t5 i).toNatClampNeg ≤ 126
    rw [ea, nI_clamp (by omega)]
    exact ⟨a1, a2⟩
  · intro i hi
    obtain ⟨-, a, a1, a2, ea⟩ := h i hi
    show t5 i = nI (t5 i).toNatClampNeg
    rw [ea, nI_clamp (by omega)]
  · intro i hi
    obtain ⟨e, a, a1, a2, ea⟩ := h i hi
    show t6 i = nI (t5 i).toNatClampNeg
    rw [← e, ea, nI_clamp (by omega)]
theorem letter5 (n : Nat) {L : Nat} {cc : Nat → Nat} {b : Nat → Int32} (tt : TT L cc) (hb : CC L cc b) {a : Nat} (ha : a < 2 ^ 31) : F_X3_letterAt n (nI a) b (nI L) = some (if a < L then nI (cc a) else 0) := by
  have hL := tt.1
  unfold F_X3_letterAt
  rw [if_neg (show ¬ nI a < (0 : Int32) from nI_nlt (b := 0) (by omega) (by omega))]
  by_cases c : a < L
  · rw [if_neg (nI_ge (by omega) (by omega)), if_neg (show ¬ (200 : Int32) ≤ nI a from nI_ge (b := 200) (by omega) (by decide)), ld_n (by omega) (by decide), bs, if_pos c, hb a c]
  · rw [if_pos (nI_le (by omega) (by omega)), if_neg c]
theorem letter6 (n : Nat) {L : Nat} {cc : Nat → Nat} {b : Nat → Int32} (tt : TT L cc) (hb : CC L cc b) {a : Nat} (ha : a < 2 ^ 31) : F_X6_letterAt n b (nI L) (nI a) = some (if a < L then nI (cc a) else -1) := by
  have hL := tt.1
  unfold F_X6_letterAt
  by_cases c : a < L
  · rw [if_neg (nI_ge (by omega) (by omega)), ld_n (by omega) (by decide), bs, if_pos c, hb a c]
  · rw [if_pos (nI_le (by omega) (by omega)), if_neg c]
/-- a digit stands there -/
abbrev DG (L : Nat) (cc : Nat → Nat) (a : Nat) : Prop := a < L ∧ 48 ≤ cc a ∧ cc a ≤ 57
theorem digit5 (n : Nat) {L : Nat} {cc : Nat → Nat} (tt : TT L cc) (a : Nat) : F_X5_isFrom n (if a < L then nI (cc a) else 0) 48 57 = some (if DG L cc a then 1 else 0) := by
  rw [isFrom_val]
  congr 1
  by_cases c : a < L
  · have h := tt.2 a c
    rw [if_pos c]
    by_cases d : DG L cc a
    · rw [if_pos d, if_pos ⟨nI_le (a := 48) d.2.1 (by omega), nI_le (b := 57) d.2.2 (by decide)⟩]
    · rw [if_neg d, if_neg]
      intro q
      have q1 := (nI_leI (a := 48) (b := cc a) (by decide) (by omega)).mp q.1
      have q2 := (nI_leI (a := cc a) (b := 57) (by omega) (by decide)).mp q.2
      exact d ⟨c, q1, q2⟩
  · rw [if_neg c, if_neg (by decide), if_neg (fun d => c d.1)]
theorem digit6 (n : Nat) {L : Nat} {cc : Nat → Nat} (tt : TT L cc) (a : Nat) : F_X6_in n (Int32.toInt64 (if a < L then nI (cc a) else -1)) (48 : Int64) (57 : Int64) = some (if DG L cc a then 1 else 0) := by
  rw [show (48 : Int64) = Int32.toInt64 48 from by decide, show (57 : Int64) = Int32.toInt64 57 from by decide, isFrom_in6]
  by_cases c : a < L
  · have h := digit5 n tt a
    rw [if_pos c] at h ⊢
    exact h
  · rw [if_neg c, isFrom_val, if_neg (by decide), if_neg (fun d => c d.1)]
/-- how many digits, at most two, and what they tell -/
def S_dc (L : Nat) (cc : Nat → Nat) (a : Nat) : Nat := if DG L cc a then (if DG L cc (a + 1) then 2 else 1) else 0
def S_dv (L : Nat) (cc : Nat → Nat) (a : Nat) : Nat := if DG L cc a then (if DG L cc (a + 1) then (cc a - 48) * 10 + (cc (a + 1) - 48) else cc a - 48) else 0
theorem dv_lt (L : Nat) (cc : Nat → Nat) (a : Nat) : S_dv L cc a < 100 := by
  unfold S_dv
  by_cases d : DG L cc a
  · rw [if_pos d]
    have := d.2
    by_cases d2 : DG L cc (a + 1)
    · rw [if_pos d2]
      have := d2.2
      omega
    · rw [if_neg d2]
      omega
  · rw [if_neg d]
    omega
theorem dc_le (L : Nat) (cc : Nat → Nat) (a : Nat) : S_dc L cc a ≤ 2 := by
  unfold S_dc
  split
  · split <;> omega
  · omega
theorem num5 (n : Nat) {L : Nat} {cc : Nat → Nat} {b : Nat → Int32} (tt : TT L cc) (hb : CC L cc b) {a : Nat} (ha : a ≤ 1000) (k : Nat) : L_X3_readNumber_6 n b (nI L) (k + 3) 0 0 (nI a) = some (nI (S_dc L cc a), nI (S_dv L cc a), nI (a + S_dc L cc a)) := by
  unfold S_dc S_dv
  rw [L_X3_readNumber_6, if_neg (show ¬ (2 : Int32) ≤ 0 from by decide), letter5 n tt hb (by omega)]
  simp only [bs]
  rw [digit5 n tt]
  simp only [bs]
  by_cases d : DG L cc a
  · have d1 := d.2
    rw [if_pos d, if_neg (show ¬ (1 : Int32) = 0 from by decide), if_pos d.1, if_pos d, if_pos d, show (0 : Int32) * 10 + nI (cc a) - 48 = nI (cc a - 48) from by rw [show (0 : Int32) * 10 = 0 from by decide, Int32.zero_add]; exact pk_sub (b := 48) d1.1, show (0 : Int32) + 1 = 1 from by decide, nI_1, L_X3_readNumber_6, if_neg (show ¬ (2 : Int32) ≤ 1 from by decide), letter5 n tt hb (by omega)]
    simp only [bs]
    rw [digit5 n tt]
    simp only [bs]
    by_cases d2 : DG L cc (a + 1)
    · have d3 := d2.2
      rw [if_pos d2, if_neg (show ¬ (1 : Int32) = 0 from by decide), if_pos d2.1, if_pos d2, if_pos d2, show nI (cc a - 48) * 10 + nI (cc (a + 1)) - 48 = nI ((cc a - 48) * 10 + (cc (a + 1) - 48)) from by
        rw [show nI (cc a - 48) * (10 : Int32) = nI ((cc a - 48) * 10) from pk_mul _ 10, nI_add, show nI ((cc a - 48) * 10 + cc (a + 1)) - (48 : Int32) = nI ((cc a - 48) * 10 + cc (a + 1) - 48) from pk_sub (b := 48) (by omega), show (cc a - 48) * 10 + cc (a + 1) - 48 = (cc a - 48) * 10 + (cc (a + 1) - 48) from by omega], show (1 : Int32) + 1 = 2 from by decide, nI_1, L_X3_readNumber_6, if_pos (show (2 : Int32) ≤ 2 from by decide)]
      rfl
    · rw [if_neg d2, if_pos (show (0 : Int32) = 0 from rfl), if_neg d2, if_neg d2]
      rfl
  · rw [if_neg d, if_pos (show (0 : Int32) = 0 from rfl), if_neg d, if_neg d]
    rfl
theorem num6 (n : Nat) {L : Nat} {cc : Nat → Nat} {b : Nat → Int32} (tt : TT L cc) (hb : CC L cc b) {a : Nat} (ha : a ≤ 1000) (k : Nat) : L_X6_takesNumbers_12 n b (nI L) (k + 3) 0 0 (nI a) = some (nI (S_dv L cc a), nI (S_dc L cc a), nI (a + S_dc L cc a)) := by
  unfold S_dc S_dv
  rw [L_X6_takesNumbers_12, letter6 n tt hb (by omega)]
  simp only [bs]
  rw [digit6 n tt]
  simp only [bs]
  by_cases d : DG L cc a
  · have d1 := d.2
    rw [if_pos d, if_neg (show ¬ (1 : Int32) = 0 from by decide), if_neg (show ¬ (2 : Int32) ≤ 0 from by decide), if_pos d.1, if_pos d, if_pos d, show (10 : Int32) * 0 + nI (cc a) - 48 = nI (cc a - 48) from by rw [show (10 : Int32) * 0 = 0 from by decide, Int32.zero_add]; exact pk_sub (b := 48) d1.1, show (0 : Int32) + 1 = 1 from by decide, nI_1, L_X6_takesNumbers_12, letter6 n tt hb (by omega)]
    simp only [bs]
    rw [digit6 n tt]
    simp only [bs]
    by_cases d2 : DG L cc (a + 1)
    · have d3 := d2.2
      rw [if_pos d2, if_neg (show ¬ (1 : Int32) = 0 from by decide), if_neg (show ¬ (2 : Int32) ≤ 1 from by decide), if_pos d2.1, if_pos d2, if_pos d2, show (10 : Int32) * nI (cc a - 48) + nI (cc (a + 1)) - 48 = nI ((cc a - 48) * 10 + (cc (a + 1) - 48)) from by
        rw [Int32.mul_comm, show nI (cc a - 48) * (10 : Int32) = nI ((cc a - 48) * 10) from pk_mul _ 10, nI_add, show nI ((cc a - 48) * 10 + cc (a + 1)) - (48 : Int32) = nI ((cc a - 48) * 10 + cc (a + 1) - 48) from pk_sub (b := 48) (by omega), show (cc a - 48) * 10 + cc (a + 1) - 48 = (cc a - 48) * 10 + (cc (a + 1) - 48) from by omega], show (1 : Int32) + 1 = 2 from by decide, nI_1, L_X6_takesNumbers_12, letter6 n tt hb (by omega)]
      simp only [bs]
      rw [digit6 n tt]
      simp only [bs]
      by_cases d4 : DG L cc (a + 1 + 1)
      · rw [if_pos d4, if_neg (show ¬ (1 : Int32) = 0 from by decide), if_pos (show (2 : Int32) ≤ 2 from by decide)]
        rfl
      · rw [if_neg d4, if_pos (show (0 : Int32) = 0 from rfl)]
        rfl
    · rw [if_neg d2, if_pos (show (0 : Int32) = 0 from rfl), if_neg d2, if_neg d2]
      rfl
  · rw [if_neg d, if_pos (show (0 : Int32) = 0 from rfl), if_neg d, if_neg d]
    rfl
/-- the numbers told so far -/
def NM (j : Nat) (nm5 nm6 : Nat → Int32) : Prop := ∀ i, i < j → ∃ v, v < 100 ∧ nm5 i = nI v ∧ nm6 i = nI v
theorem NM.put {j : Nat} {nm5 nm6 : Nat → Int32} (h : NM j nm5 nm6) {v : Nat} (hv : v < 100) : NM (j + 1) (upd nm5 j (nI v)) (upd nm6 j (nI v)) := by
  intro i hi
  unfold upd
  by_cases c : i = j
  · rw [if_pos c, if_pos c]
    exact ⟨v, hv, rfl, rfl⟩
  · rw [if_neg c, if_neg c]
    exact h i (by omega)
theorem nums_both {n : Nat} (hn : 300 ≤ n) {L : Nat} {cc : Nat → Nat} {b t6 : Nat → Int32} (tt : TT L cc) (hb : CC L cc b) (h6 : CC L cc t6) (D : Int32) (kind lean needs fh group fp : Nat → Int32) (oboe slip warmth unheard r638 : Int32) {cnt : Nat} (hc4 : cnt ≤ 4) :
    ∀ m j k k6 q (nm5 nm6 : Nat → Int32), j + m = cnt → m < k → m < k6 → q + 1 ≤ L → NM j nm5 nm6 →
    (∃ a' nm' a6 nm6', L_X3_readItem_25 n D kind lean needs fh group fp oboe slip warmth unheard b (nI L) r638 (nI cnt) k (nI j) nm5 (nI q) = some (0, a', nm', D, oboe, slip, warmth, unheard, kind, lean, needs, fh, group, fp) ∧ L_X6_takesNumbers_2 n t6 (nI L) (nI cnt) k6 (nI j) (nI (q + 1)) nm6 = some (0, a6, nm6')) ∨
    (∃ e nm5' nm6' k', q + 1 ≤ e ∧ e ≤ L ∧ NM cnt nm5' nm6' ∧ L_X3_readItem_25 n D kind lean needs fh group fp oboe slip warmth unheard b (nI L) r638 (nI cnt) k (nI j) nm5 (nI q) = L_X3_readItem_25 n D kind lean needs fh group fp oboe slip warmth unheard b (nI L) r638 (nI cnt) (k' + 1) (nI cnt) nm5' (nI (e - 1)) ∧ L_X6_takesNumbers_2 n t6 (nI L) (nI cnt) k6 (nI j) (nI (q + 1)) nm6 = some (1, nI e, nm6')) := by
  have hL := tt.1
  intro m
  induction m with
  | zero =>
    intro j k k6 q nm5 nm6 e hk hk6 hq nm
    obtain rfl : j = cnt := by omega
    obtain ⟨k, rfl⟩ : ∃ i, k = i + 1 := ⟨k - 1, by omega⟩
    obtain ⟨k6, rfl⟩ : ∃ i, k6 = i + 1 := ⟨k6 - 1, by omega⟩
    refine Or.inr ⟨q + 1, nm5, nm6, k, by omega, hq, nm, rfl, ?_⟩
    rw [L_X6_takesNumbers_2, if_pos (nI_le (Nat.le_refl _) (by omega))]
  | succ m ih =>
    intro j k k6 q nm5 nm6 e hk hk6 hq nm
    obtain ⟨k, rfl⟩ : ∃ i, k = i + 1 := ⟨k - 1, by omega⟩
    obtain ⟨k6, rfl⟩ : ∃ i, k6 = i + 1 := ⟨k6 - 1, by omega⟩
    obtain ⟨n3, hn3⟩ : ∃ i, n = i + 3 := ⟨n - 3, by omega⟩
    have f5 := num5 n tt hb (a := q + 1) (by omega) n3
    have f6 := num6 n tt h6 (a := q + 1) (by omega) n3
    rw [← hn3] at f5 f6
    have hdc := dc_le L cc (q + 1)
    have hdv := dv_lt L cc (q + 1)
    rw [L_X3_readItem_25, L_X6_takesNumbers_2, if_neg (nI_ge (by omega) (by omega)), if_neg (show ¬ (4 : Int32) ≤ nI j from nI_ge (b := 4) (by omega) (by decide)), if_neg (nI_ge (by omega) (by omega)), nI_1 q, f6]
    unfold F_X3_readNumber
    rw [f5]
    simp only [bs]
    generalize S_dc L cc (q + 1) = c at hdc
    by_cases c0 : c = 0
    · subst c0
      rw [if_pos (show nI 0 = (0 : Int32) from rfl), if_pos (show nI 0 = (0 : Int32) from rfl)]
      simp only [bs, if_true]
      exact Or.inl ⟨_, _, _, _, rfl, rfl⟩
    · rw [if_neg (show ¬ nI c = (0 : Int32) from nI_ne (b := 0) (by omega) (by decide) c0), if_neg (show ¬ nI c = (0 : Int32) from nI_ne (b := 0) (by omega) (by decide) c0), if_neg (show ¬ nI j < (0 : Int32) from nI_nlt (b := 0) (by omega) (by omega)), if_pos (show nI j < (4 : Int32) from nI_lt (b := 4) (by omega) (by decide)), sto_n (by omega) (by decide), sto_n (by omega) (by decide)]
      simp only [bs]
      rw [if_neg (show ¬ (1 : Int32) = 0 from by decide), letter5 n tt hb (by omega), letter6 n tt h6 (by omega), nI_1 j, nI_m1 (by omega)]
      simp only [bs]
      have sep : ∃ s, (s = 59 ∨ s = 44) ∧ (if nI cnt ≤ nI (j + 1) then some (59 : Int32) else some 44) = some (nI s) ∧ (if nI (cnt - 1) ≤ nI j then some (59 : Int32) else some 44) = some (nI s) := by
        by_cases q : cnt ≤ j + 1
        · rw [if_pos (nI_le q (by omega)), if_pos (nI_le (by omega) (by omega))]
          exact ⟨59, Or.inl rfl, rfl, rfl⟩
        · rw [if_neg (nI_ge (by omega) (by omega)), if_neg (nI_ge (by omega) (by omega))]
          exact ⟨44, Or.inr rfl, rfl, rfl⟩
      obtain ⟨s, hs, s5, s6⟩ := sep
      rw [s5, s6]
      simp only [bs]
      by_cases inn : q + 1 + c < L
      · have tl := tt.2 _ inn
        rw [if_pos inn, if_pos inn]
        by_cases es : nI (cc (q + 1 + c)) = nI s
        · rw [if_pos es, if_pos es, nI_1]
          rcases ih (j + 1) k k6 (q + 1 + c) _ _ (by omega) (by omega) (by omega) (by omega) (nm.put hdv) with h | ⟨e2, n5, n6, k', z1, z2, z3, z4, z5⟩
          · exact Or.inl h
          · exact Or.inr ⟨e2, n5, n6, k', by omega, z2, z3, z4, z5⟩
        · rw [if_neg es, if_neg es]
          exact Or.inl ⟨_, _, _, _, rfl, rfl⟩
      · have n5 : ¬ (0 : Int32) = nI s := by rcases hs with rfl | rfl <;> decide
        have n6 : ¬ (-1 : Int32) = nI s := by rcases hs with rfl | rfl <;> decide
        rw [if_neg inn, if_neg inn, if_neg n5, if_neg n6]
        exact Or.inl ⟨_, _, _, _, rfl, rfl⟩
