/-! HALVES. -/
def BEST3 (c1 c2 c3 m1 m2 m3 : Int32) : Prop := (c2 = 1000000 ∧ m1 = -4) ∨ (c1 = m1 ∧ c2 = m2 ∧ c3 = m3 ∧ m1 ≠ -4)
theorem best3 {c1 c2 c3 m1 m2 m3 v sec new : Int32} (b : BEST3 c1 c2 c3 m1 m2 m3) (hv : v < (1000000 : Int32)) (hn : new ≠ -4) :
    ∃ x1 x2 x3 y1 y2 y3, (if v < c2 then some (new, v, sec) else if v = c2 then (if c3 ≤ sec then some (c1, c2, c3) else some (new, v, sec)) else some (c1, c2, c3)) = some (x1, x2, x3) ∧
      (if m1 = (-4 : Int32) then some (new, v, sec) else if v < m2 then some (new, v, sec) else if v = m2 then (if m3 ≤ sec then some (m1, m2, m3) else some (new, v, sec)) else some (m1, m2, m3)) = some (y1, y2, y3) ∧ BEST3 x1 x2 x3 y1 y2 y3 ∧ y1 ≠ -4 := by
  rcases b with ⟨rfl, rfl⟩ | ⟨rfl, rfl, rfl, hm⟩
  · rw [if_pos hv, if_pos rfl]
    exact ⟨_, _, _, _, _, _, rfl, rfl, Or.inr ⟨rfl, rfl, rfl, hn⟩, hn⟩
  · rw [if_neg hm]
    by_cases c : v < c2
    · rw [if_pos c]
      exact ⟨_, _, _, _, _, _, rfl, rfl, Or.inr ⟨rfl, rfl, rfl, hn⟩, hn⟩
    · rw [if_neg c]
      by_cases e : v = c2
      · rw [if_pos e]
        by_cases q : c3 ≤ sec
        · rw [if_pos q]
          exact ⟨_, _, _, _, _, _, rfl, rfl, Or.inr ⟨rfl, rfl, rfl, hm⟩, hm⟩
        · rw [if_neg q]
          exact ⟨_, _, _, _, _, _, rfl, rfl, Or.inr ⟨rfl, rfl, rfl, hn⟩, hn⟩
      · rw [if_neg e]
        exact ⟨_, _, _, _, _, _, rfl, rfl, Or.inr ⟨rfl, rfl, rfl, hm⟩, hm⟩
theorem rest_n {N : Nat} (hN : N ≤ 8) (x : Int32) : ∃ m, m < 2 ^ 31 ∧ nI (2 ^ N - 1) &&& x = nI m := by
  have h2 := two8 hN
  have h := pk_and x (m := nI (2 ^ N - 1)) N (pk_tn (by omega))
  refine ⟨x.toBitVec.toNat % 2 ^ N, ?_, ?_⟩
  · have : x.toBitVec.toNat % 2 ^ N < 2 ^ N := Nat.mod_lt _ (Nat.two_pow_pos N)
    omega
  · rw [Int32.and_comm]
    exact h
theorem all_n {N : Nat} (hN : N ≤ 8) : ((1 : Int32) <<< (nI N &&& 31)) - 1 = nI (2 ^ N - 1) := by
  have e := allDesks_n 0 hN
  unfold F_X0_allDesks at e
  exact Option.some.inj e
theorem op_halves {n : Nat} (hn : 300 ≤ n) {N : Nat} {w d th le0 : Nat → Int32} {desks : Int32} {kind lean needs group : Nat → Int32} {slip warmth unheard : Int32} (RH : R_hall N w desks kind lean needs group slip warmth unheard) {p h : Nat → Int32} {o t : Int32} (RS : R_st N p h o t d 0) (tp tq : Nat → Int32) (to' ts : Int32) (ap ah : Nat → Int32) (ao at' st0 dr0 z0 k0 draws6 m0 x : Int32) :
    ∃ r J dr6 k6 d' th' le', F_X5_halves n desks kind lean needs slip warmth p h o t tp tq to' ts ap ah ao at' st0 dr0 z0 k0 x = some (r, J) ∧ F_X6_halves n w d th le0 draws6 m0 x = some (r, dr6, k6, d', th', le') ∧ LOW d d' := by
  obtain ⟨h1, hN, ed, hw, ak, al, an, ag, es, ew, eu⟩ := RH
  subst ed
  subst es
  subst ew
  have p2 := two8 hN
  have p1 : 1 ≤ 2 ^ N := Nat.one_le_two_pow
  have loop : ∀ (leM : Nat → Int32), AG N leM (fun i => lean i - 3) → ∀ k s, s ≤ 2 ^ N → 2 ^ N - s < k → ∀ (c1 c2 c3 m1 m2 m3 a1 a2 : Int32) (q1 q2 : Nat → Int32) (s1 s2 s3 b1 b2 : Int32) (q3 q4 : Nat → Int32) (e2 : Int32) (d1 th1 : Nat → Int32), LOW d d1 → BEST3 c1 c2 c3 m1 m2 m3 → (s = 0 ∨ m1 ≠ -4) →
      ∃ c1' c2' c3' m1' m2' m3' J e2' d' th', L_X5_halves_32 n (nI N) kind lean needs (w 50) (w 51) p h o t z0 (nI (2 ^ N - 1)) k c1 c2 c3 (nI s) a1 a2 q1 q2 s1 s2 s3 b1 b2 q3 q4 = some (c1', c2', c3', nI (2 ^ N), J) ∧ L_X6_halves_41 n w (nI N) (-1, 0, leM) k m1 m2 m3 (nI s) d1 th1 e2 = some (m1', m2', m3', nI (2 ^ N), d', th', e2') ∧ LOW d d' ∧ BEST3 c1' c2' c3' m1' m2' m3' ∧ m1' ≠ -4 := by
    intro leM hleM k
    induction k with
    | zero => intro s _ h; omega
    | succ k ih =>
      intro s hs hk c1 c2 c3 m1 m2 m3 a1 a2 q1 q2 s1 s2 s3 b1 b2 q3 q4 e2 d1 th1 l1 hb hm
      rw [L_X5_halves_32, L_X6_halves_41, all_n hN]
      by_cases hq : 2 ^ N ≤ s
      · obtain rfl : s = 2 ^ N := by omega
        rw [if_pos (nI_lt (by omega) (by omega)), if_pos (nI_lt (by omega) (by omega))]
        exact ⟨_, _, _, _, _, _, _, _, _, _, rfl, rfl, l1, hb, hm.resolve_left (by omega)⟩
      · have RS1 := RS.low hN (by decide) l1
        have hlay := lay_HT hN RS1
        obtain ⟨r1, r2, r3, r4, r5, r6, r7⟩ := RS1
        rw [Nat.zero_add] at r3 r4
        have hp0 : AG N (S_fill p q1 8) (PT (S_lay d1)) := fun i hi => by
          rw [S_fill_in (by omega), r1 i hi, Nat.zero_add, lay_PT]
          show d1 i = if i < 8 then d1 i else 0
          rw [if_pos (by omega)]
        obtain ⟨m, hm31, em⟩ := rest_n hN (nI s ^^^ (-1 : Int32))
        have hh8 : AG N (S_fill h q2 8) h := AG.fill hN h q2
        have hhN8 : HN N (S_fill h q2 8) := r7.ag hh8.sym
        -- the class
        have f1 := letTune_n hn hN (kind := kind) (lean := lean) (needs := needs) (le := fun i => lean i - 3) (p := S_fill p q1 8) (h := S_fill h q2 8) (slip := w 50) (warmth := w 51) (o := o) (t := t) (st := -1) (draws := 0) (z := z0) (k0 := s3) (dr := false) (m := s) (by omega) (hhN8.ok hN) (lean_st hN lean) rfl q3 q4
        have oA : S_ok (S_tune N kind needs (w 50) (w 51) (fun i => lean i - 3) (S_fill h q2 8) false z0 s (S_fill p q1 8, o, t, s3)).2.1 := (tune_ok (a := (S_fill p q1 8, o, t, s3)) r6).2
        have gA : SG false N (S_tune N kind needs (w 50) (w 51) (fun i => lean i - 3) (S_fill h q2 8) false z0 s (S_fill p q1 8, o, t, s3)) (S_tune N (W_kind w) (W_needs w) (w 50) (w 51) leM (HT (S_lay d1)) false (-1) s (PT (S_lay d1), S_lay d1 206, S_lay d1 207, e2)) :=
          tune_ag hN ak an hleM.sym (hh8.tr hlay.sym) hhN8 (w 50) (w 51) false (fun q => by cases q) s (a := (S_fill p q1 8, o, t, s3)) (b := (PT (S_lay d1), S_lay d1 206, S_lay d1 207, e2))
            ⟨hp0, r3, r4, fun q => by cases q⟩
        have oM : S_ok (S_lay d1 206) := by rw [lay_o, ← r3]; exact r6
        have hHT : HN N (HT (S_lay d1)) := r7.ag hlay.sym
        obtain ⟨tha, f3⟩ := tunes6_n hn hN (d := S_lay d1) (le := leM) (th := th1) hw (draws := -1) (k0 := e2) (dr := false) (m := s) (by omega) (hHT.ok hN) (by decide) oM
        have hz : ∀ k, 8 ≤ k → (S_tune N (W_kind w) (W_needs w) (w 50) (w 51) leM (HT (S_lay d1)) false (-1) s (PT (S_lay d1), S_lay d1 206, S_lay d1 207, e2)).1 k = 0 := fill_0 hN (PT_0 _)
        have oB := (tune_ok (N := N) (kind := W_kind w) (needs := W_needs w) (le := leM) (h := HT (S_lay d1)) (slip := w 50) (warmth := w 51) (dr := false) (z := -1) (m := s) (a := (PT (S_lay d1), S_lay d1 206, S_lay d1 207, e2)) oM).2
        generalize S_tune N kind needs (w 50) (w 51) (fun i => lean i - 3) (S_fill h q2 8) false z0 s (S_fill p q1 8, o, t, s3) = A at f1 oA gA
        generalize S_tune N (W_kind w) (W_needs w) (w 50) (w 51) leM (HT (S_lay d1)) false (-1) s (PT (S_lay d1), S_lay d1 206, S_lay d1 207, e2) = B at f3 hz oB gA
        have f2 := letTune_n hn hN (kind := kind) (lean := lean) (needs := needs) (le := fun i => lean i - 3) (p := A.1) (h := S_fill h q2 8) (slip := w 50) (warmth := w 51) (o := A.2.1) (t := A.2.2.1) (st := -1) (draws := 0) (z := z0) (k0 := A.2.2.2) (dr := false) (m := m) hm31 (hhN8.ok hN) (lean_st hN lean) rfl (S_fill (S_fill p q1 8) q3 8) (S_fill (S_fill h q2 8) q4 8)
        obtain ⟨thb, f4⟩ := tunes6_n hn hN (d := S_put (S_lay d1) B.1 B.2.1 B.2.2.1) (le := leM) (th := tha) hw (draws := -1) (k0 := B.2.2.2) (dr := false) (m := m) hm31 (by rw [put_HT]; exact hHT.ok hN) (by decide) (by rw [put_o]; exact oB)
        rw [put_o, put_t, put_PT hz, put_put, put_HT] at f4
        have gA2 := tune_ag hN ak an hleM.sym (hh8.tr hlay.sym) hhN8 (w 50) (w 51) false (z := z0) (z' := -1) (fun q => by cases q) m (a := A) (b := B) gA
        have okA2 := (tune_ok (N := N) (kind := kind) (needs := needs) (le := fun i => lean i - 3) (h := S_fill h q2 8) (slip := w 50) (warmth := w 51) (dr := false) (z := z0) (m := m) (a := A) oA).1
        rw [show (A.1, A.2.1, A.2.2.1, A.2.2.2) = A from rfl] at f2
        rw [show (B.1, B.2.1, B.2.2.1, B.2.2.2) = B from rfl] at f4
        generalize S_tune N kind needs (w 50) (w 51) (fun i => lean i - 3) (S_fill h q2 8) false z0 m A = A2 at f2 gA2 okA2
        have hz2 : ∀ k, 8 ≤ k → (S_tune N (W_kind w) (W_needs w) (w 50) (w 51) leM (HT (S_lay d1)) false (-1) m B).1 k = 0 := fill_0 hN hz
        generalize S_tune N (W_kind w) (W_needs w) (w 50) (w 51) leM (HT (S_lay d1)) false (-1) m B = B2 at f4 gA2 hz2
        have g2 : AG N A2.1 (fun k => S_put (S_lay d1) B2.1 B2.2.1 B2.2.2.1 (198 + k)) := fun i hi => by
          show _ = S_put (S_lay d1) B2.1 B2.2.1 B2.2.2.1 (198 + i)
          rw [put_p (by omega)]
          exact gA2.1 i hi
        obtain ⟨sp1, sp2⟩ := spread_both hn h1 hN hw g2
        have far := apart_far h1 okA2
        obtain ⟨x1, x2, x3, y1, y2, y3, w1, w2, w3, w4⟩ := best3 (sec := S_secs N kind needs s + S_secs N kind needs m) (new := nI s) hb far (nI_ne4 (by omega))
        rw [if_neg (nI_nlt (by omega) (by omega)), if_neg (nI_nlt (by omega) (by omega)), startTrial_n hn, lays_dd hn, em]
        simp only [bs]
        rw [f1]
        simp only [bs]
        rw [f2]
        simp only [bs]
        rw [sp1]
        simp only [bs]
        rw [w1, f3]
        simp only [bs]
        rw [f4]
        simp only [bs]
        rw [sp2]
        simp only [bs]
        rw [← secs_ag ak an s, ← secs_ag ak an m, w2]
        simp only [bs]
        rw [nI_1]
        exact ih (s + 1) (by omega) (by omega) _ _ _ _ _ _ _ _ _ _ _ _ _ _ _ _ _ _ _ _ (l1.tr ((LOW.lay d1).tr (LOW.put _ _ _ _))) w3 (Or.inr w4)
  unfold F_X5_halves F_X6_halves
  rw [show (0 : Int64) = Int32.toInt64 0 from by decide, show (2 : Int64) = Int32.toInt64 2 from by decide, isFrom_in6, isFrom_val, allDesks_n n hN, laysLeans6_n hn, show ld w 106 (0 : Int32) = some (w 0) from ld_n (i := 0) (by decide) (by decide), hw]
  simp only [bs]
  by_cases c : (0 : Int32) ≤ x ∧ x ≤ 2
  · rw [if_neg (fun q => (ite01 _).mp q c), if_neg (fun q => (ite01 _).mp q c)]
    obtain ⟨c1', c2', c3', m1', m2', m3', J, e2', d', th', f1, f2, l2, b2, ne⟩ := loop (S_fill (fun i => W_lean w i - 3) le0 8) (lean_8 hN al) n 0 (by omega) (by omega) 0 1000000 1000000 (-4) 0 0 to' ts tp tq st0 dr0 k0 ao at' ap ah 0 d th (LOW.rf d) (Or.inl ⟨rfl, rfl⟩) (Or.inl rfl)
    obtain ⟨rfl, rfl, rfl⟩ : c1' = m1' ∧ c2' = m2' ∧ c3' = m3' := by
      rcases b2 with ⟨-, e⟩ | ⟨a, b, c, -⟩
      · exact absurd e ne
      · exact ⟨a, b, c⟩
    rw [show L_X5_halves_32 n (nI N) kind lean needs (w 50) (w 51) p h o t z0 (nI (2 ^ N - 1)) n 0 1000000 1000000 0 to' ts tp tq st0 dr0 k0 ao at' ap ah = _ from f1, show L_X6_halves_41 n w (nI N) (-1, 0, S_fill (fun i => W_lean w i - 3) le0 8) n (-4) 0 0 0 d th 0 = _ from f2]
    simp only [bs]
    by_cases c3 : x = 0
    · rw [if_pos c3, if_pos c3]
      exact ⟨_, _, _, _, _, _, _, rfl, rfl, l2⟩
    · rw [if_neg c3, if_neg c3]
      by_cases c4 : x = 1
      · rw [if_pos c4, if_pos c4]
        exact ⟨_, _, _, _, _, _, _, rfl, rfl, l2⟩
      · rw [if_neg c4, if_neg c4]
        exact ⟨_, _, _, _, _, _, _, rfl, rfl, l2⟩
  · rw [if_pos ((ite01 _).mpr c), if_pos ((ite01 _).mpr c)]
    exact ⟨_, _, _, _, _, _, _, rfl, rfl, LOW.rf d⟩
