/-! BLAME and EAR. -/
theorem BEST.eq {c1 c2 m1 m2 : Int32} (b : BEST c1 c2 m1 m2) (h : m1 ≠ -4) : c1 = m1 ∧ c2 = m2 := by
  rcases b with ⟨-, e⟩ | ⟨a, b, -⟩
  · exact absurd e h
  · exact ⟨a, b⟩
theorem betterC (c1 c2 v new : Int32) : (if c2 ≤ v then some (c1, c2) else some (new, v)) = some (if v < c2 then new else c1, if v < c2 then v else c2) := by
  by_cases h : c2 ≤ v
  · have h2 : ¬ v < c2 := by rw [fa_lt]; rw [fa_le] at h; omega
    rw [if_pos h, if_neg h2, if_neg h2]
  · have h2 : v < c2 := by rw [fa_lt]; rw [fa_le] at h; omega
    rw [if_neg h, if_pos h2, if_pos h2]
theorem next_ne {m1 m2 v : Int32} {i : Nat} (hi : i < 2 ^ 31) : (if m1 = -4 ∨ v < m2 then nI i else m1) ≠ -4 := by
  by_cases c : m1 = -4 ∨ v < m2
  · rw [if_pos c]
    exact nI_ne4 hi
  · rw [if_neg c]
    exact fun q => c (Or.inl q)
theorem op_blame {n : Nat} (hn : 300 ≤ n) {N : Nat} {w d th le0 : Nat → Int32} {desks : Int32} {kind lean needs group : Nat → Int32} {slip warmth unheard : Int32} (RH : R_hall N w desks kind lean needs group slip warmth unheard) {p h : Nat → Int32} {o t : Int32} (RS : R_st N p h o t d 0) (tp tq : Nat → Int32) (to' ts : Int32) (ap ah : Nat → Int32) (ao at' st0 dr0 z0 k0 draws6 m0 x : Int32) :
    ∃ r J dr6 k6 d' th' le', F_X5_blame n desks kind lean needs group slip warmth p h o t tp tq to' ts ap ah ao at' st0 dr0 z0 k0 x = some (r, J) ∧ F_X6_blame n w d th le0 draws6 m0 x = some (r, dr6, k6, d', th', le') ∧ LOW d d' := by
  have RH0 := RH
  obtain ⟨h1, hN, ed, hw, ak, al, an, ag, es, ew, eu⟩ := RH
  subst ed
  have loop : ∀ k i, i ≤ N → N - i < k → ∀ (c1 c2 m1 m2 a1 a2 : Int32) (q1 q2 : Nat → Int32) (s1 s2 s3 b1 b2 : Int32) (q3 q4 : Nat → Int32) (e1 e2 : Int32) (d1 th1 le1 : Nat → Int32), LOW d d1 → BEST c1 c2 m1 m2 → (i = 0 ∨ m1 ≠ -4) →
      ∃ c1' c2' m1' m2' J e1' e2' d' th' le', L_X5_blame_19 n (nI N) kind lean needs group slip warmth p h o t z0 k c1 c2 (nI i) a1 a2 q1 q2 s1 s2 s3 b1 b2 q3 q4 = some (c1', c2', nI N, J) ∧ L_X6_blame_20 n w k m1 m2 (nI i) e1 e2 d1 th1 le1 = some (m1', m2', nI N, e1', e2', d', th', le') ∧ LOW d d' ∧ BEST c1' c2' m1' m2' ∧ m1' ≠ -4 := by
    intro k
    induction k with
    | zero => intro i _ h; omega
    | succ k ih =>
      intro i hi hk c1 c2 m1 m2 a1 a2 q1 q2 s1 s2 s3 b1 b2 q3 q4 e1 e2 d1 th1 le1 l1 hb hm
      rw [L_X5_blame_19, L_X6_blame_20, show ld w 106 (0 : Int32) = some (w 0) from ld_n (i := 0) (by decide) (by decide), bs, hw]
      by_cases hq : N ≤ i
      · obtain rfl : i = N := by omega
        rw [if_pos (nI_le (Nat.le_refl _) (by omega)), if_pos (nI_le (Nat.le_refl _) (by omega))]
        exact ⟨_, _, _, _, _, _, _, _, _, _, rfl, rfl, l1, hb, hm.resolve_left (by omega)⟩
      · have hiN : i < N := by omega
        have RS1 := RS.low hN (by decide) l1
        have hle : ∀ j, j < N → (if j = i then (0 : Int32) else lean j - 3) = if nI j = nI i then 0 else lean j - 3 := fun j hj => by
          by_cases c : j = i
          · rw [if_pos c, if_pos (by rw [c])]
          · rw [if_neg c, if_neg (nI_ne (by omega) (by omega) c)]
        have hl8 : AG N (upd (S_fill (fun i => W_lean w i - 3) le1 8) i 0) (fun j => if j = i then (0 : Int32) else lean j - 3) := fun j hj => by
          show (if j = i then (0 : Int32) else S_fill (fun i => W_lean w i - 3) le1 8 j) = (if j = i then (0 : Int32) else lean j - 3)
          by_cases c : j = i
          · rw [if_pos c, if_pos c]
          · rw [if_neg c, if_neg c]
            exact lean_8 hN al j hj
        obtain ⟨sec, k', bo, bt', bp, bh, o', t', p', k6, d', th', f1, f2, l2, g2, g3⟩ := trial_b hn RH0 (le := fun j => if j = i then (0 : Int32) else lean j - 3) (le8 := upd (S_fill (fun i => W_lean w i - 3) le1 8) i 0) (th := th1) (dd := S_lay d1) (p8 := S_fill p q1 8) (h8 := S_fill h q2 8) (hx := h) (st := nI i) (draws := 0) (z := z0) (k0 := s3) (m0 := 0) (draws6 := -1) (dr := false) RS1 (AG.fill hN _ _) (AG.fill hN _ _) RS.2.2.2.2.2.2 hle rfl (fun q => by cases q) (by decide) (LOW.lay d1) (lay_PT d1) (lay_o d1) (lay_t d1) (lay_HT hN RS1) hl8 q3 q4 b1 b2
        obtain ⟨sp1, sp2⟩ := spread_both hn h1 hN hw g2
        rw [if_neg (nI_ge (by omega) (by omega)), if_neg (nI_ge (by omega) (by omega)), startTrial_n hn, lays_dd hn, laysLeans6_n hn, show F_X4_straighten n (nI i) = some (nI i) from rfl]
        simp only [bs]
        rw [sto_n (by omega) (by decide), f1]
        simp only [bs]
        rw [f2, sp1]
        simp only [bs]
        rw [sp2, betterC]
        simp only [bs]
        rw [better6, nI_1]
        have far := apart_far h1 g3
        exact ih (i + 1) (by omega) (by omega) _ _ _ _ _ _ _ _ _ _ _ _ _ _ _ _ _ _ _ _ (l1.tr l2) (hb.next far (nI_ne4 (by omega))) (Or.inr (next_ne (by omega)))
  unfold F_X5_blame F_X6_blame
  rw [show (0 : Int64) = Int32.toInt64 0 from by decide, show (1 : Int64) = Int32.toInt64 1 from by decide, isFrom_in6, isFrom_val]
  simp only [bs]
  by_cases c : (0 : Int32) ≤ x ∧ x ≤ 1
  · rw [if_neg (fun q => (ite01 _).mp q c), if_neg (fun q => (ite01 _).mp q c)]
    obtain ⟨c1', c2', m1', m2', J, e1', e2', d', th', le', f1, f2, l2, b2, ne⟩ := loop n 0 (by omega) (by omega) 0 1000000 (-4) 0 to' ts tp tq st0 dr0 k0 ao at' ap ah draws6 m0 d th le0 (LOW.rf d) (Or.inl ⟨rfl, rfl⟩) (Or.inl rfl)
    obtain ⟨rfl, rfl⟩ := b2.eq ne
    rw [show L_X5_blame_19 n (nI N) kind lean needs group slip warmth p h o t z0 n 0 1000000 0 to' ts tp tq st0 dr0 k0 ao at' ap ah = _ from f1, show L_X6_blame_20 n w n (-4) 0 0 draws6 m0 d th le0 = _ from f2]
    simp only [bs]
    by_cases c3 : x = 0
    · rw [if_pos c3, if_pos c3]
      exact ⟨_, _, _, _, _, _, _, rfl, rfl, l2⟩
    · rw [if_neg c3, if_neg c3]
      exact ⟨_, _, _, _, _, _, _, rfl, rfl, l2⟩
  · rw [if_pos ((ite01 _).mpr c), if_pos ((ite01 _).mpr c)]
    exact ⟨_, _, _, _, _, _, _, rfl, rfl, LOW.rf d⟩
/-- whom i might hear, besides i's own -/
theorem HN.set {N : Nat} {h : Nat → Int32} (hh : HN N h) (i : Nat) {a : Nat} (ha : a < N ∨ a = 8 ∨ a = 9) : HN N (fun j => if j = i then nI a else h j) := by
  intro j hj
  by_cases c : j = i
  · exact ⟨a, if_pos c, ha⟩
  · obtain ⟨b, e, hb⟩ := hh j hj
    exact ⟨b, (if_neg c).trans e, hb⟩
theorem op_ear {n : Nat} (hn : 300 ≤ n) {N : Nat} {w d th le0 : Nat → Int32} {desks : Int32} {kind lean needs group : Nat → Int32} {slip warmth unheard : Int32} (RH : R_hall N w desks kind lean needs group slip warmth unheard) {p h : Nat → Int32} {o t : Int32} (RS : R_st N p h o t d 0) (tp tq : Nat → Int32) (to' ts : Int32) (ap ah : Nat → Int32) (ao at' st0 dr0 z0 k0 draws6 m0 x y : Int32) :
    ∃ r J dr6 k6 d' th' le', F_X5_ear n desks kind lean needs group slip warmth p h o t tp tq to' ts ap ah ao at' st0 dr0 z0 k0 x y = some (r, J) ∧ F_X6_ear n w d th le0 draws6 m0 x y = some (r, dr6, k6, d', th', le') ∧ LOW d d' := by
  have RH0 := RH
  obtain ⟨h1, hN, ed, hw, ak, al, an, ag, es, ew, eu⟩ := RH
  subst ed
  have loop : ∀ i, i < N → ∀ k a, a ≤ 10 → 10 - a < k → ∀ (c1 c2 m1 m2 a1 a2 : Int32) (q1 q2 : Nat → Int32) (s1 s2 s3 b1 b2 : Int32) (q3 q4 : Nat → Int32) (e1 e2 : Int32) (d1 th1 le1 : Nat → Int32), LOW d d1 → BEST c1 c2 m1 m2 → (a ≤ 9 ∨ m1 ≠ -4) →
      ∃ c1' c2' m1' m2' J e1' e2' d' th' le', L_X5_ear_48 n (nI N) kind lean needs group slip warmth p h o t z0 (nI i) k c1 c2 (nI a) a1 a2 q1 q2 s1 s2 s3 b1 b2 q3 q4 = some (c1', c2', nI 10, J) ∧ L_X6_ear_44 n w (nI i) k m1 m2 (nI a) d1 th1 le1 e1 e2 = some (m1', m2', nI 10, d', th', le', e1', e2') ∧ LOW d d' ∧ BEST c1' c2' m1' m2' ∧ m1' ≠ -4 := by
    intro i hi k
    induction k with
    | zero => intro a _ h; omega
    | succ k ih =>
      intro a ha hk c1 c2 m1 m2 a1 a2 q1 q2 s1 s2 s3 b1 b2 q3 q4 e1 e2 d1 th1 le1 l1 hb hm
      rw [L_X5_ear_48, L_X6_ear_44]
      by_cases hq : 10 ≤ a
      · obtain rfl : a = 10 := by omega
        rw [if_pos (by decide), if_pos (by decide)]
        exact ⟨_, _, _, _, _, _, _, _, _, _, rfl, rfl, l1, hb, hm.resolve_left (by omega)⟩
      · rw [if_neg (show ¬ (9 : Int32) < nI a from nI_nlt (a := 9) (by omega) (by decide)), if_neg (show ¬ (9 : Int32) < nI a from nI_nlt (a := 9) (by omega) (by decide))]
        by_cases c8 : a = 8
        · subst c8
          rw [if_pos (show nI 8 = (8 : Int32) from rfl), if_pos (show nI 8 = (8 : Int32) from rfl), bs, bs, nI_1]
          exact ih 9 (by omega) (by omega) _ _ _ _ _ _ _ _ _ _ _ _ _ _ _ _ _ _ _ _ l1 hb (Or.inl (by omega))
        · have n8 : ¬ nI a = (8 : Int32) := nI_ne (b := 8) (by omega) (by decide) c8
          rw [if_neg n8, if_neg n8, isWhom6_n n h1 hN hw hi, canHear_val]
          simp only [bs]
          by_cases ch : nI a = 8 ∨ nI a = 9 ∨ ((0 ≤ nI a ∧ nI a < nI N) ∧ ¬ nI a = nI i)
          · rw [if_neg (fun q => (ite01 _).mp q ch), if_neg (fun q => (ite01 _).mp q ch)]
            have ha2 : a < N ∨ a = 8 ∨ a = 9 := by
              rcases ch with q | q | q
              · exact absurd q n8
              · exact Or.inr (Or.inr (nI_inj (b := 9) (by omega) (by decide) q))
              · exact Or.inl ((nI_ltI (by omega) (by omega)).mp q.1.2)
            have RS1 := RS.low hN (by decide) l1
            have hx8 : AG N (upd (S_fill h q2 8) i (nI a)) (fun j => if j = i then nI a else h j) := fun j hj => by
              show (if j = i then nI a else S_fill h q2 8 j) = (if j = i then nI a else h j)
              rw [S_fill_in (by omega)]
            have hlay2 : AG N (HT (upd (S_lay d1) (208 + i) (nI a))) (fun j => if j = i then nI a else h j) := fun j hj => by
              show (if 208 + j = 208 + i then nI a else S_lay d1 (208 + j)) = (if j = i then nI a else h j)
              by_cases c : j = i
              · rw [if_pos (by omega), if_pos c]
              · rw [if_neg (by omega), if_neg c]
                exact lay_HT hN RS1 j hj
            have lw2 : ∀ (j : Nat), j < 208 → upd (S_lay d1) (208 + i) (nI a) j = S_lay d1 j := fun j hj => by
              show (if j = 208 + i then nI a else S_lay d1 j) = _
              rw [if_neg (by omega)]
            have hpt2 : PT (upd (S_lay d1) (208 + i) (nI a)) = P0 d1 := by
              rw [← lay_PT d1]
              funext j
              unfold PT
              split
              · exact lw2 _ (by omega)
              · rfl
            obtain ⟨sec, k', bo, bt', bp, bh, o', t', p', k6, d', th', f1, f2, l2, g2, g3⟩ := trial_b hn RH0 (le := fun i => lean i - 3) (le8 := S_fill (fun i => W_lean w i - 3) le1 8) (th := th1) (dd := upd (S_lay d1) (208 + i) (nI a)) (p8 := S_fill p q1 8) (h8 := upd (S_fill h q2 8) i (nI a)) (hx := fun j => if j = i then nI a else h j) (st := -1) (draws := 0) (z := z0) (k0 := s3) (m0 := 0) (draws6 := -1) (dr := false) RS1 (AG.fill hN _ _) hx8 (RS.2.2.2.2.2.2.set i ha2) (lean_st hN lean) rfl (fun q => by cases q) (by decide) (fun j hj => (lw2 j (by omega)).trans (lay_lo d1 hj)) hpt2 ((lw2 206 (by omega)).trans (lay_o d1)) ((lw2 207 (by omega)).trans (lay_t d1)) hlay2 (lean_8 hN al) q3 q4 b1 b2
            rw [startTrial_n hn, lays_dd hn, laysLeans6_n hn]
            simp only [bs]
            rw [sto_n (by omega) (by decide), show (208 : Int32) + nI i = nI (208 + i) from nI_add 208 i, sto_n (by omega) (by decide)]
            simp only [bs]
            rw [f1, f2]
            simp only [bs]
            rw [ld_n (by omega) (by decide), show (198 : Int32) + nI i = nI (198 + i) from nI_add 198 i, ld_n (by omega) (by decide)]
            simp only [bs]
            rw [plain6_n, show d' (198 + i) = p' i from (g2 i hi).symm, abs_n]
            simp only [bs]
            have far := abs_far (g3 i hi)
            rw [better6 m1 m2 (S_abs (p' i)) (nI a) (fun x y => some (x, y, d', th', S_fill (fun i => W_lean w i - 3) le1 8, (-1 : Int32), k6))]
            have nx := hb.next (v := S_abs (p' i)) (new := nI a) far (nI_ne4 (by omega))
            have nn : (if m1 = -4 ∨ S_abs (p' i) < m2 then nI a else m1) ≠ -4 := next_ne (by omega)
            by_cases q : c2 ≤ S_abs (p' i)
            · have q2' : ¬ S_abs (p' i) < c2 := by rw [fa_lt]; rw [fa_le] at q; omega
              rw [if_neg q2', if_neg q2'] at nx
              rw [if_pos q]
              simp only [bs]
              rw [nI_1]
              exact ih (a + 1) (by omega) (by omega) _ _ _ _ _ _ _ _ _ _ _ _ _ _ _ _ _ _ _ _ (l1.tr l2) nx (Or.inr nn)
            · have q2' : S_abs (p' i) < c2 := by rw [fa_lt]; rw [fa_le] at q; omega
              rw [if_pos q2', if_pos q2'] at nx
              rw [if_neg q]
              simp only [bs]
              rw [nI_1]
              exact ih (a + 1) (by omega) (by omega) _ _ _ _ _ _ _ _ _ _ _ _ _ _ _ _ _ _ _ _ (l1.tr l2) nx (Or.inr nn)
          · rw [if_pos ((ite01 _).mpr ch), if_pos ((ite01 _).mpr ch)]
            simp only [bs]
            rw [nI_1]
            have a9 : a ≠ 9 := fun q => ch (Or.inr (Or.inl (by rw [q]; rfl)))
            exact ih (a + 1) (by omega) (by omega) _ _ _ _ _ _ _ _ _ _ _ _ _ _ _ _ _ _ _ _ l1 hb (Or.inl (by omega))
  unfold F_X5_ear F_X6_ear
  rw [isDesk6_n n h1 hN hw, hasDesk_val, show (0 : Int64) = Int32.toInt64 0 from by decide, show (1 : Int64) = Int32.toInt64 1 from by decide, isFrom_in6, isFrom_val]
  simp only [bs]
  by_cases hd : 0 ≤ x ∧ x < nI N
  · rw [if_neg (fun q => (ite01 _).mp q hd), if_neg (fun q => (ite01 _).mp q hd)]
    by_cases c : (0 : Int32) ≤ y ∧ y ≤ 1
    · rw [if_neg (fun q => (ite01 _).mp q c), if_neg (fun q => (ite01 _).mp q c)]
      obtain ⟨i, hi, rfl⟩ := desk_of (by omega) hd
      rw [ld_n (by omega) (by decide), show (1 : Int32) + nI i = nI (1 + i) from nI_add 1 i, ld_n (by omega) (by decide)]
      simp only [bs]
      rw [show w (1 + i) = kind i from (ak i hi).symm]
      by_cases k2 : kind i = 2
      · rw [if_pos k2, if_pos k2]
        exact ⟨_, _, _, _, _, _, _, rfl, rfl, LOW.rf d⟩
      · rw [if_neg k2, if_neg k2]
        obtain ⟨c1', c2', m1', m2', J, e1', e2', d', th', le', f1, f2, l2, b2, ne⟩ := loop i hi n 0 (by omega) (by omega) 9 1000000 (-4) 0 to' ts tp tq st0 dr0 k0 ao at' ap ah draws6 m0 d th le0 (LOW.rf d) (Or.inl ⟨rfl, rfl⟩) (Or.inl (by omega))
        obtain ⟨rfl, rfl⟩ := b2.eq ne
        rw [show L_X5_ear_48 n (nI N) kind lean needs group slip warmth p h o t z0 (nI i) n 9 1000000 0 to' ts tp tq st0 dr0 k0 ao at' ap ah = _ from f1, show L_X6_ear_44 n w (nI i) n (-4) 0 0 d th le0 draws6 m0 = _ from f2]
        simp only [bs]
        by_cases c3 : y = 0
        · rw [if_pos c3, if_pos c3]
          exact ⟨_, _, _, _, _, _, _, rfl, rfl, l2⟩
        · rw [if_neg c3, if_neg c3]
          exact ⟨_, _, _, _, _, _, _, rfl, rfl, l2⟩
    · rw [if_pos ((ite01 _).mpr c), if_pos ((ite01 _).mpr c)]
      exact ⟨_, _, _, _, _, _, _, rfl, rfl, LOW.rf d⟩
  · rw [if_pos ((ite01 _).mpr hd), if_pos ((ite01 _).mpr hd)]
    exact ⟨_, _, _, _, _, _, _, rfl, rfl, LOW.rf d⟩
