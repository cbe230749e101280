/-! Sets in sets; NEEDLES. -/
theorem bt_tb (m i : Nat) : bt m i = m.testBit i := by
  unfold bt
  rw [Nat.testBit_eq_decide_div_mod_eq]
def S_sub (s T : Nat) : Prop := ∀ i, s.testBit i = true → T.testBit i = true
theorem nI_bit {s : Nat} {i : Nat} (hi : i < 32) : (nI s).toBitVec.getLsbD i = s.testBit i := by
  show (BitVec.ofNat 32 s).getLsbD i = _
  rw [BitVec.getLsbD_ofNat]
  simp [hi]
theorem sub_n {s T : Nat} (hs : s < 2 ^ 31) : (nI s &&& (nI T ^^^ (-1 : Int32))) = 0 ↔ S_sub s T := by
  have e1 : ∀ i, i < 32 → (nI s &&& (nI T ^^^ (-1 : Int32))).toBitVec.getLsbD i = (s.testBit i && !T.testBit i) := by
    intro i hi
    rw [Int32.toBitVec_and, Int32.toBitVec_xor, BitVec.getLsbD_and, BitVec.getLsbD_xor, nI_bit hi, nI_bit hi]
    have : (-1 : Int32).toBitVec.getLsbD i = true := by
      have h : ∀ i, i < 32 → (-1 : Int32).toBitVec.getLsbD i = true := by decide
      exact h i hi
    rw [this, Bool.xor_true]
  constructor
  · intro h i hi
    have hlt : i < 32 := by
      rcases Nat.lt_or_ge i 32 with q | q
      · exact q
      · rw [Nat.testBit_lt_two_pow (Nat.lt_of_lt_of_le hs (Nat.pow_le_pow_right (by decide) (by omega)))] at hi
        cases hi
    have h2 := e1 i hlt
    rw [h, hi] at h2
    have : (0 : Int32).toBitVec.getLsbD i = false := by
      show (BitVec.ofNat 32 0).getLsbD i = false
      rw [BitVec.getLsbD_ofNat]
      simp
    rw [this] at h2
    simpa using h2.symm
  · intro h
    apply Int32.toBitVec_inj.1
    apply BitVec.eq_of_getLsbD_eq
    intro i hi
    rw [e1 i hi]
    have : (0 : Int32).toBitVec.getLsbD i = false := by
      show (BitVec.ofNat 32 0).getLsbD i = false
      rw [BitVec.getLsbD_ofNat]
      simp
    rw [this]
    cases c : s.testBit i
    · rfl
    · rw [h i c]
      rfl
theorem sub_le {s T : Nat} (h : S_sub s T) : s ≤ T := by
  have e : s &&& T = s := by
    apply Nat.eq_of_testBit_eq
    intro i
    rw [Nat.testBit_and]
    cases c : s.testBit i
    · rfl
    · rw [h i c]
      rfl
  rw [← e]
  exact Nat.and_le_right
theorem sub_ones {s T : Nat} (h : S_sub s T) : ∀ k, S_ones s k ≤ S_ones T k
  | 0 => Nat.le_refl _
  | k + 1 => by
    have ih := sub_ones h k
    rw [S_ones, S_ones]
    have a : s / 2 ^ k % 2 < 2 := Nat.mod_lt _ (by decide)
    have key : s / 2 ^ k % 2 = 1 → T / 2 ^ k % 2 = 1 := by
      intro q
      have hq := h k (by rw [← bt_tb]; unfold bt; exact decide_eq_true q)
      rw [← bt_tb] at hq
      unfold bt at hq
      exact of_decide_eq_true hq
    omega
theorem open_iff {kind : Nat → Int32} {N s : Nat} (hs : s < 2 ^ N) : S_set (P_open kind s) N = s ↔ S_sub s (S_set (P_open kind (2 ^ N - 1)) N) := by
  have hall : ∀ i, i < N → bt (2 ^ N - 1) i = true := by
    intro i hi
    rw [bt_tb, Nat.testBit_two_pow_sub_one]
    exact decide_eq_true hi
  have hb : ∀ i, N ≤ i → s.testBit i = false := fun i hi => Nat.testBit_lt_two_pow (Nat.lt_of_lt_of_le hs (Nat.pow_le_pow_right (by decide) hi))
  constructor
  · intro e i hi
    have hlt : i < N := by
      rcases Nat.lt_or_ge i N with q | q
      · exact q
      · rw [hb i q] at hi
        cases hi
    rw [← e, ← bt_tb, S_set_bt _ N i hlt] at hi
    rw [← bt_tb, S_set_bt _ N i hlt]
    unfold P_open at hi ⊢
    rw [hall i hlt]
    rw [Bool.and_eq_true] at hi ⊢
    exact ⟨rfl, hi.2⟩
  · intro h
    apply Nat.eq_of_testBit_eq
    intro i
    rcases Nat.lt_or_ge i N with q | q
    · rw [← bt_tb, S_set_bt _ N i q]
      unfold P_open
      rw [bt_tb]
      cases c : s.testBit i
      · rfl
      · have h2 := h i c
        rw [← bt_tb, S_set_bt _ N i q] at h2
        unfold P_open at h2
        rw [Bool.and_eq_true] at h2
        rw [h2.2]
        rfl
    · rw [hb i q, ← bt_tb, S_set_big _ N i q]
/-- some k of the bits of T -/
def S_pick (T k : Nat) : Nat → Nat
  | 0 => 0
  | i + 1 => if bt T i = true ∧ S_ones (S_pick T k i) 8 < k then S_pick T k i + 2 ^ i else S_pick T k i
theorem pick_ok : ∀ T, T < 256 → ∀ k, k < 4 → k ≤ S_ones T 8 → S_pick T k 8 &&& T = S_pick T k 8 ∧ S_ones (S_pick T k 8) 8 = k := by decide +kernel
theorem pick_sub {T k : Nat} (h : S_pick T k 8 &&& T = S_pick T k 8) : S_sub (S_pick T k 8) T := by
  intro i hi
  rw [← h, Nat.testBit_and, Bool.and_eq_true] at hi
  exact hi.2
/-- who of them hears a needle -/
def S_nd (s : Nat) (h : Nat → Int32) : Nat → Int32 := fun j => if bt s j = true then 8 else h j
theorem HN.nd {N : Nat} {h : Nat → Int32} (hh : HN N h) (s : Nat) : HN N (S_nd s h) := by
  intro j hj
  unfold S_nd
  by_cases c : bt s j = true
  · exact ⟨8, if_pos c, Or.inr (Or.inl rfl)⟩
  · obtain ⟨b, e, hb⟩ := hh j hj
    exact ⟨b, (if_neg c).trans e, hb⟩
theorem needles78_n {n : Nat} (hn : 300 ≤ n) {w d : Nat → Int32} {s N : Nat} (hN : N ≤ 8) (hw : w 0 = nI N) (hs : s < 2 ^ 31) : L_X6_needles_78 n w (nI s) n 0 d = some (nI N, fun j => if (208 ≤ j ∧ j < 208 + N) ∧ bt s (j - 208) = true then 8 else d j) := by
  have loop : ∀ k i, i ≤ N → N - i < k → L_X6_needles_78 n w (nI s) k (nI i) (fun j => if (208 ≤ j ∧ j < 208 + i) ∧ bt s (j - 208) = true then 8 else d j) = some (nI N, fun j => if (208 ≤ j ∧ j < 208 + N) ∧ bt s (j - 208) = true then 8 else d j) := by
    intro k
    induction k with
    | zero => intro i _ h; omega
    | succ k ih =>
      intro i hi hk
      rw [L_X6_needles_78, show ld w 106 (0 : Int32) = some (w 0) from ld_n (i := 0) (by decide) (by decide), bs, hw]
      by_cases hq : N ≤ i
      · obtain rfl : i = N := by omega
        rw [if_pos (nI_le (Nat.le_refl _) (by omega))]
      · rw [if_neg (nI_ge (by omega) (by omega)), has_n n hs (by omega), bs, show (208 : Int32) + nI i = nI (208 + i) from nI_add 208 i]
        have hstep := ih (i + 1) (by omega) (by omega)
        have upd8 : ∀ v : Int32, v = (if bt s i = true then 8 else d (208 + i)) → upd (fun j => if (208 ≤ j ∧ j < 208 + i) ∧ bt s (j - 208) = true then 8 else d j) (208 + i) v = fun j => if (208 ≤ j ∧ j < 208 + (i + 1)) ∧ bt s (j - 208) = true then 8 else d j := by
          intro v hv
          funext j
          show (if j = 208 + i then v else if (208 ≤ j ∧ j < 208 + i) ∧ bt s (j - 208) = true then 8 else d j) = (if (208 ≤ j ∧ j < 208 + (i + 1)) ∧ bt s (j - 208) = true then 8 else d j)
          by_cases e : j = 208 + i
          · subst e
            rw [if_pos rfl, hv, show 208 + i - 208 = i from by omega]
            by_cases c : bt s i = true
            · rw [if_pos c, if_pos ⟨by omega, c⟩]
            · rw [if_neg c, if_neg (fun q => c q.2)]
          · rw [if_neg e]
            by_cases c : (208 ≤ j ∧ j < 208 + i) ∧ bt s (j - 208) = true
            · rw [if_pos c, if_pos ⟨by omega, c.2⟩]
            · rw [if_neg c, if_neg (fun q => c ⟨by omega, q.2⟩)]
        by_cases hb : bt s i = true
        · rw [if_pos hb, if_neg (by decide), bs, sto_n (by omega) (by decide), bs, upd8 8 (by rw [if_pos hb]), nI_1]
          exact hstep
        · rw [if_neg hb, if_pos rfl, ld_n (by omega) (by decide), bs, bs, sto_n (by omega) (by decide), bs, upd8 _ (by rw [if_neg hb, if_neg (by omega)]), nI_1]
          exact hstep
  have e := loop n 0 (Nat.zero_le _) (by omega)
  rw [show (fun j => if (208 ≤ j ∧ j < 208 + 0) ∧ bt s (j - 208) = true then (8 : Int32) else d j) = d from by funext j; rw [if_neg (by omega)]] at e
  exact e
theorem op_needles {n : Nat} (hn : 300 ≤ n) {N : Nat} {w d th le0 : Nat → Int32} {desks : Int32} {kind lean needs group : Nat → Int32} {slip warmth unheard : Int32} (RH : R_hall N w desks kind lean needs group slip warmth unheard) {p h : Nat → Int32} {o t : Int32} (RS : R_st N p h o t d 0) (tp tq : Nat → Int32) (to' ts : Int32) (ap ah : Nat → Int32) (ao at' st0 dr0 z0 k0 draws6 m0 x y : Int32) :
    ∃ r J dr6 k6 d' th' le', F_X5_needles n desks kind lean needs group slip warmth p h o t tp tq to' ts ap ah ao at' st0 dr0 z0 k0 x y = some (r, J) ∧ F_X6_needles n w d th le0 draws6 m0 x y = some (r, dr6, k6, d', th', le') ∧ LOW d d' := by
  have RH0 := RH
  obtain ⟨h1, hN, ed, hw, ak, al, an, ag, es, ew, eu⟩ := RH
  subst ed
  have p2 := two8 hN
  have p1 : 1 ≤ 2 ^ N := Nat.one_le_two_pow
  have hTlt := S_set_lt (P_open kind (2 ^ N - 1)) N
  have hopen : ∀ s, s < 2 ^ N → (F_X6_open n w (nI s) = some (nI (S_set (P_open kind s) N))) := fun s hs => by
    rw [open6_n hn hN hw (by omega), open_ag ak]
  have hsub : ∀ s, s < 2 ^ N → (S_set (P_open kind s) N = s ↔ S_sub s (S_set (P_open kind (2 ^ N - 1)) N)) := fun s hs => open_iff hs
  have hTun : F_X0_tunableOf n (nI N) kind (nI (2 ^ N - 1)) = some (nI (S_set (P_open kind (2 ^ N - 1)) N)) := tunableOf_n hn hN (by omega)
  generalize S_set (P_open kind (2 ^ N - 1)) N = T at hTlt hsub hTun
  -- a set that isn't tried by the Model
  have skip6 : ∀ kk, kk < 4 → ∀ s, s < 2 ^ N → ¬ (S_ones s 8 = kk ∧ S_sub s T) → ∀ k (m1 m2 e1 e2 : Int32) (d1 th1 le1 : Nat → Int32), L_X6_needles_34 n w (nI kk) (k + 1) m1 m2 (nI s) e1 e2 d1 th1 le1 = L_X6_needles_34 n w (nI kk) k m1 m2 (nI (s + 1)) e1 e2 d1 th1 le1 := by
    intro kk hkk s hs hno k m1 m2 e1 e2 d1 th1 le1
    rw [L_X6_needles_34, show ld w 106 (0 : Int32) = some (w 0) from ld_n (i := 0) (by decide) (by decide), bs, hw, shl1 (by omega), if_neg (nI_ge (by omega) (by omega)), ones6_n hn (by omega), bs]
    have hle := S_ones_le s 8
    by_cases c : S_ones s 8 = kk
    · rw [if_pos (by rw [c]), hopen s hs, bs, if_neg (fun q => hno ⟨c, (hsub s hs).mp (nI_inj (by have := S_set_lt (P_open kind s) N; omega) (by omega) q)⟩), bs, nI_1]
    · rw [if_neg (nI_ne (by omega) (by omega) c), bs, nI_1]
  have tail6 : ∀ kk, kk < 4 → ∀ k s, T < s → s ≤ 2 ^ N → 2 ^ N - s < k → ∀ (m1 m2 e1 e2 : Int32) (d1 th1 le1 : Nat → Int32), L_X6_needles_34 n w (nI kk) k m1 m2 (nI s) e1 e2 d1 th1 le1 = some (m1, m2, nI (2 ^ N), e1, e2, d1, th1, le1) := by
    intro kk hkk k
    induction k with
    | zero => intro s _ _ h; omega
    | succ k ih =>
      intro s hT hs hk m1 m2 e1 e2 d1 th1 le1
      by_cases hq : 2 ^ N ≤ s
      · obtain rfl : s = 2 ^ N := by omega
        rw [L_X6_needles_34, show ld w 106 (0 : Int32) = some (w 0) from ld_n (i := 0) (by decide) (by decide), bs, hw, shl1 (by omega), if_pos (nI_le (Nat.le_refl _) (by omega))]
      · rw [skip6 kk hkk s (by omega) (fun q => by have := sub_le q.2; omega)]
        exact ih (s + 1) (by omega) (by omega) (by omega) _ _ _ _ _ _ _
  have none6 : ∀ kk, kk < 4 → S_ones T 8 < kk → ∀ k s, s ≤ 2 ^ N → 2 ^ N - s < k → ∀ (m1 m2 e1 e2 : Int32) (d1 th1 le1 : Nat → Int32), L_X6_needles_34 n w (nI kk) k m1 m2 (nI s) e1 e2 d1 th1 le1 = some (m1, m2, nI (2 ^ N), e1, e2, d1, th1, le1) := by
    intro kk hkk hgt k
    induction k with
    | zero => intro s _ h; omega
    | succ k ih =>
      intro s hs hk m1 m2 e1 e2 d1 th1 le1
      by_cases hq : 2 ^ N ≤ s
      · obtain rfl : s = 2 ^ N := by omega
        rw [L_X6_needles_34, show ld w 106 (0 : Int32) = some (w 0) from ld_n (i := 0) (by decide) (by decide), bs, hw, shl1 (by omega), if_pos (nI_le (Nat.le_refl _) (by omega))]
      · rw [skip6 kk hkk s (by omega) (fun q => by have := sub_ones q.2 8; omega)]
        exact ih (s + 1) (by omega) (by omega) _ _ _ _ _ _ _
  have loop : ∀ kk, kk < 4 → ∀ k s, s ≤ T + 1 → T + 1 - s < k → ∀ (c1 c2 m1 m2 a1 a2 : Int32) (q1 q2 : Nat → Int32) (s1 s2 s3 b1 b2 : Int32) (q3 q4 : Nat → Int32) (e1 e2 : Int32) (d1 th1 le1 : Nat → Int32), LOW d d1 → BEST c1 c2 m1 m2 →
      ∃ c1' c2' m1' m2' J e1' e2' d' th' le', L_X5_needles_56 n (nI N) kind lean needs group slip warmth p h o t z0 (nI kk) (nI T) k c1 c2 (nI s) a1 a2 q1 q2 s1 s2 s3 b1 b2 q3 q4 = some (c1', c2', nI (T + 1), J) ∧ L_X6_needles_34 n w (nI kk) k m1 m2 (nI s) e1 e2 d1 th1 le1 = L_X6_needles_34 n w (nI kk) (k - (T + 1 - s)) m1' m2' (nI (T + 1)) e1' e2' d' th' le' ∧ LOW d d' ∧ BEST c1' c2' m1' m2' ∧ ((m1 ≠ -4 ∨ ∃ s', s ≤ s' ∧ s' ≤ T ∧ S_ones s' 8 = kk ∧ S_sub s' T) → m1' ≠ -4) := by
    intro kk hkk k
    induction k with
    | zero => intro s _ h; omega
    | succ k ih =>
      intro s hs hk c1 c2 m1 m2 a1 a2 q1 q2 s1 s2 s3 b1 b2 q3 q4 e1 e2 d1 th1 le1 l1 hb
      rw [L_X5_needles_56]
      by_cases hq : T < s
      · obtain rfl : s = T + 1 := by omega
        rw [if_pos (nI_lt (by omega) (by omega)), Nat.sub_self, Nat.sub_zero]
        refine ⟨_, _, _, _, _, _, _, _, _, _, rfl, rfl, l1, hb, fun q => ?_⟩
        rcases q with q | ⟨s', a, b, -⟩
        · exact q
        · omega
      · have hle := S_ones_le s 8
        rw [if_neg (nI_nlt (by omega) (by omega)), bitCount_n n (by omega), bs]
        have skip : ¬ (S_ones s 8 = kk ∧ S_sub s T) → ∀ (J : Int32 × Int32 × (Nat → Int32) × (Nat → Int32) × Int32 × Int32 × Int32 × Int32 × Int32 × (Nat → Int32) × (Nat → Int32)), J = (a1, a2, q1, q2, s1, s2, s3, b1, b2, q3, q4) → True := fun _ _ _ => trivial
        by_cases ct : S_ones s 8 = kk ∧ S_sub s T
        · obtain ⟨ck, cs⟩ := ct
          have RS1 := RS.low hN (by decide) l1
          have hx8 : AG N (S_fill (fun k => if bt s k = true then 8 else S_fill h q2 8 k) (S_fill h q2 8) N) (S_nd s h) := fun j hj => by
            rw [S_fill_in hj]
            show (if bt s j = true then 8 else S_fill h q2 8 j) = (if bt s j = true then 8 else h j)
            rw [S_fill_in (by omega)]
          have hdd : ∀ j, j < 208 → (fun j => if (208 ≤ j ∧ j < 208 + N) ∧ bt s (j - 208) = true then 8 else S_lay d1 j) j = S_lay d1 j := fun j hj => if_neg (by omega)
          have hHT : AG N (HT (fun j => if (208 ≤ j ∧ j < 208 + N) ∧ bt s (j - 208) = true then 8 else S_lay d1 j)) (S_nd s h) := fun j hj => by
            show (if (208 ≤ 208 + j ∧ 208 + j < 208 + N) ∧ bt s (208 + j - 208) = true then 8 else S_lay d1 (208 + j)) = (if bt s j = true then 8 else h j)
            rw [show 208 + j - 208 = j from by omega]
            by_cases c : bt s j = true
            · rw [if_pos ⟨by omega, c⟩, if_pos c]
            · rw [if_neg (fun q => c q.2), if_neg c]
              exact lay_HT hN RS1 j hj
          have hpt2 : PT (fun j => if (208 ≤ j ∧ j < 208 + N) ∧ bt s (j - 208) = true then 8 else S_lay d1 j) = P0 d1 := by
            rw [← lay_PT d1]
            funext j
            unfold PT
            split
            · exact hdd _ (by omega)
            · rfl
          obtain ⟨sec, k', bo, bt', bp, bh, o', t', p', k6, d', th', f1, f2, l2, g2, g3⟩ := trial_b hn RH0 (le := fun i => lean i - 3) (le8 := S_fill (fun i => W_lean w i - 3) le1 8) (th := th1) (dd := fun j => if (208 ≤ j ∧ j < 208 + N) ∧ bt s (j - 208) = true then 8 else S_lay d1 j) (p8 := S_fill p q1 8) (h8 := S_fill (fun k => if bt s k = true then 8 else S_fill h q2 8 k) (S_fill h q2 8) N) (hx := S_nd s h) (st := -1) (draws := 0) (z := z0) (k0 := s3) (m0 := 0) (draws6 := -1) (dr := false) RS1 (AG.fill hN _ _) hx8 (HN.nd RS.2.2.2.2.2.2 s) (lean_st hN lean) rfl (fun q => by cases q) (by decide) (fun j hj => (hdd j (by omega)).trans (lay_lo d1 hj)) hpt2 ((hdd 206 (by omega)).trans (lay_o d1)) ((hdd 207 (by omega)).trans (lay_t d1)) hHT (lean_8 hN al) q3 q4 b1 b2
          obtain ⟨sp1, sp2⟩ := spread_both hn h1 hN hw g2
          have far := apart_far h1 g3
          have nx := hb.next (v := S_apart p' N) (new := nI s) far (nI_ne4 (by omega))
          have nn : (if m1 = -4 ∨ S_apart p' N < m2 then nI s else m1) ≠ -4 := next_ne (by omega)
          rw [if_pos (by rw [ck]), if_pos ((sub_n (by omega)).mpr cs), startTrial_n hn]
          simp only [bs]
          rw [giveNeedles_n hn hN (by omega)]
          simp only [bs]
          rw [f1]
          simp only [bs]
          rw [sp1]
          simp only [bs]
          rw [L_X6_needles_34, show ld w 106 (0 : Int32) = some (w 0) from ld_n (i := 0) (by decide) (by decide), bs, hw, shl1 (by omega), if_neg (nI_ge (by omega) (by omega)), ones6_n hn (by omega), bs, if_pos (show nI (S_ones s 8) = nI kk from by rw [ck]), hopen s (by omega), bs, if_pos (show nI (S_set (P_open kind s) N) = nI s from by rw [(hsub s (by omega)).mpr cs]), lays_dd hn, laysLeans6_n hn]
          simp only [bs]
          rw [needles78_n hn hN hw (by omega)]
          simp only [bs]
          rw [f2]
          simp only [bs]
          rw [sp2]
          simp only [bs]
          rw [better6 m1 m2 (S_apart p' N) (nI s) (fun x y => some (x, y, (-1 : Int32), k6, d', th', S_fill (fun i => W_lean w i - 3) le1 8))]
          simp only [bs]
          rw [show k + 1 - (T + 1 - s) = k - (T + 1 - (s + 1)) from by omega]
          by_cases q : c2 ≤ S_apart p' N
          · have q2' : ¬ S_apart p' N < c2 := by rw [fa_lt]; rw [fa_le] at q; omega
            rw [if_neg q2', if_neg q2'] at nx
            rw [if_pos q]
            simp only [bs]
            rw [nI_1]
            obtain ⟨c1', c2', m1', m2', J, e1', e2', d2, th2, le2, r1, r2, r3, r4, r5⟩ := ih (s + 1) (by omega) (by omega) c1 c2 _ _ o' t' p' (S_fill (fun k => if bt s k = true then 8 else S_fill h q2 8 k) (S_fill h q2 8) N) (-1) 0 k' bo bt' bp bh (-1) k6 d' th' (S_fill (fun i => W_lean w i - 3) le1 8) (l1.tr l2) nx
            exact ⟨c1', c2', m1', m2', J, e1', e2', d2, th2, le2, r1, r2, r3, r4, fun _ => r5 (Or.inl nn)⟩
          · have q2' : S_apart p' N < c2 := by rw [fa_lt]; rw [fa_le] at q; omega
            rw [if_pos q2', if_pos q2'] at nx
            rw [if_neg q]
            simp only [bs]
            rw [nI_1]
            obtain ⟨c1', c2', m1', m2', J, e1', e2', d2, th2, le2, r1, r2, r3, r4, r5⟩ := ih (s + 1) (by omega) (by omega) (nI s) (S_apart p' N) _ _ o' t' p' (S_fill (fun k => if bt s k = true then 8 else S_fill h q2 8 k) (S_fill h q2 8) N) (-1) 0 k' bo bt' bp bh (-1) k6 d' th' (S_fill (fun i => W_lean w i - 3) le1 8) (l1.tr l2) nx
            exact ⟨c1', c2', m1', m2', J, e1', e2', d2, th2, le2, r1, r2, r3, r4, fun _ => r5 (Or.inl nn)⟩
        · rw [skip6 kk hkk s (by omega) ct, show k + 1 - (T + 1 - s) = k - (T + 1 - (s + 1)) from by omega]
          obtain ⟨c1', c2', m1', m2', J, e1', e2', d2, th2, le2, r1, r2, r3, r4, r5⟩ := ih (s + 1) (by omega) (by omega) c1 c2 m1 m2 a1 a2 q1 q2 s1 s2 s3 b1 b2 q3 q4 e1 e2 d1 th1 le1 l1 hb
          refine ⟨c1', c2', m1', m2', J, e1', e2', d2, th2, le2, ?_, r2, r3, r4, fun q => r5 ?_⟩
          · by_cases ck : S_ones s 8 = kk
            · rw [if_pos (by rw [ck]), if_neg (fun q => ct ⟨ck, (sub_n (by omega)).mp q⟩)]
              simp only [bs]
              rw [nI_1]
              exact r1
            · rw [if_neg (nI_ne (by omega) (by omega) ck)]
              simp only [bs]
              rw [nI_1]
              exact r1
          · rcases q with q | ⟨s', q1', q2', q3', q4'⟩
            · exact Or.inl q
            · refine Or.inr ⟨s', ?_, q2', q3', q4'⟩
              rcases Nat.lt_or_ge s s' with z | z
              · omega
              · obtain rfl : s = s' := by omega
                exact absurd ⟨q3', q4'⟩ ct
  unfold F_X5_needles F_X6_needles
  rw [show (0 : Int64) = Int32.toInt64 0 from by decide, show (1 : Int64) = Int32.toInt64 1 from by decide, show (3 : Int64) = Int32.toInt64 3 from by decide, isFrom_in6, isFrom_in6, isFrom_val, isFrom_val]
  simp only [bs]
  by_cases c : (0 : Int32) ≤ x ∧ x ≤ 3
  · rw [if_neg (fun q => (ite01 _).mp q c), if_neg (fun q => (ite01 _).mp q c)]
    by_cases c2 : (0 : Int32) ≤ y ∧ y ≤ 1
    · rw [if_neg (fun q => (ite01 _).mp q c2), if_neg (fun q => (ite01 _).mp q c2)]
      obtain ⟨kk, hk4, rfl⟩ : ∃ j : Nat, j < 4 ∧ x = nI j := by
        obtain ⟨j, hj, rfl⟩ := nI_of (x := x) (by rw [fa_lt]; have := c.1; rw [fa_le] at this; omega)
        refine ⟨j, ?_, rfl⟩
        have h2 := (nI_leI hj (by decide) (b := 3)).mp c.2
        omega
      rw [allDesks_n n hN, bs, hTun, bs, bitCount_n n (by omega), bs]
      have hones := S_ones_le T 8
      by_cases cn : kk ≤ S_ones T 8
      · obtain ⟨w1, w2⟩ := pick_ok T (by omega) kk hk4 cn
        have hsubw := pick_sub w1
        obtain ⟨c1', c2', m1', m2', J, e1', e2', d2, th2, le2, r1, r2, r3, r4, r5⟩ := loop kk hk4 n 0 (by omega) (by omega) 0 1000000 (-4) (-4) to' ts tp tq st0 dr0 k0 ao at' ap ah draws6 m0 d th le0 (LOW.rf d) (Or.inl ⟨rfl, rfl⟩)
        have ne := r5 (Or.inr ⟨_, Nat.zero_le _, sub_le hsubw, w2, hsubw⟩)
        obtain ⟨rfl, rfl⟩ := r4.eq ne
        rw [tail6 kk hk4 _ (T + 1) (by omega) (by omega) (by omega)] at r2
        rw [if_pos (nI_le cn (by omega)), show L_X5_needles_56 n (nI N) kind lean needs group slip warmth p h o t z0 (nI kk) (nI T) n 0 1000000 0 to' ts tp tq st0 dr0 k0 ao at' ap ah = _ from r1, show L_X6_needles_34 n w (nI kk) n (-4) (-4) 0 draws6 m0 d th le0 = _ from r2]
        simp only [bs]
        by_cases c3 : y = 0
        · rw [if_pos c3, if_pos c3]
          exact ⟨_, _, _, _, _, _, _, rfl, rfl, r3⟩
        · rw [if_neg c3, if_neg c3]
          exact ⟨_, _, _, _, _, _, _, rfl, rfl, r3⟩
      · rw [if_neg (nI_ge (by omega) (by omega)), show L_X6_needles_34 n w (nI kk) n (-4) (-4) 0 draws6 m0 d th le0 = _ from none6 kk hk4 (by omega) n 0 (by omega) (by omega) _ _ _ _ _ _ _]
        simp only [bs]
        by_cases c3 : y = 0
        · rw [if_pos c3]
          exact ⟨_, _, _, _, _, _, _, rfl, rfl, LOW.rf d⟩
        · rw [if_neg c3]
          exact ⟨_, _, _, _, _, _, _, rfl, rfl, LOW.rf d⟩
    · rw [if_pos ((ite01 _).mpr c2), if_pos ((ite01 _).mpr c2)]
      exact ⟨_, _, _, _, _, _, _, rfl, rfl, LOW.rf d⟩
  · rw [if_pos ((ite01 _).mpr c), if_pos ((ite01 _).mpr c)]
    exact ⟨_, _, _, _, _, _, _, rfl, rfl, LOW.rf d⟩
