/-! The whole text; what is laid. -/
theorem begins6_n {n : Nat} (hn : 300 ≤ n) (w : Nat → Int32) : ∃ W, F_X6_begins n w = some W ∧ KW w W ∧ W 53 = 0 ∧ W 102 = 9 ∧ W 103 = 0 ∧ W 104 = 1 ∧ W 105 = 3 := by
  have loop : ∀ k i, i ≤ 53 → 53 - i < k → L_X6_begins_2 k (nI i) (fun j => if 53 ≤ j ∧ j < 53 + i then 0 else w j) = some (nI 53, fun j => if 53 ≤ j ∧ j < 53 + 53 then 0 else w j) := by
    intro k
    induction k with
    | zero => intro i _ h; omega
    | succ k ih =>
      intro i hi hk
      rw [L_X6_begins_2]
      by_cases q : 53 ≤ i
      · obtain rfl : i = 53 := by omega
        rw [if_pos (show (53 : Int32) ≤ nI 53 from by decide)]
      · rw [if_neg (show ¬ (53 : Int32) ≤ nI i from nI_ge (b := 53) (by omega) (by decide)), show (53 : Int32) + nI i = nI (53 + i) from nI_add 53 i, sto_n (by omega) (by decide), bs, nI_1]
        have e : upd (fun j => if 53 ≤ j ∧ j < 53 + i then (0 : Int32) else w j) (53 + i) 0 = fun j => if 53 ≤ j ∧ j < 53 + (i + 1) then 0 else w j := by
          funext j
          show (if j = 53 + i then (0 : Int32) else if 53 ≤ j ∧ j < 53 + i then 0 else w j) = if 53 ≤ j ∧ j < 53 + (i + 1) then 0 else w j
          by_cases c : j = 53 + i
          · rw [if_pos c, if_pos ⟨by omega, by omega⟩]
          · rw [if_neg c]
            by_cases c2 : 53 ≤ j ∧ j < 53 + i
            · rw [if_pos c2, if_pos ⟨c2.1, by omega⟩]
            · rw [if_neg c2, if_neg (fun q => c2 ⟨q.1, by omega⟩)]
        rw [e]
        exact ih (i + 1) (by omega) (by omega)
  have e := loop n 0 (by omega) (by omega)
  rw [show (fun j => if 53 ≤ j ∧ j < 53 + 0 then (0 : Int32) else w j) = w from by funext j; rw [if_neg (by omega)]] at e
  unfold F_X6_begins
  rw [show L_X6_begins_2 n 0 w = _ from e]
  simp only [bsn]
  generalize hW : (fun j => if 53 ≤ j ∧ j < 53 + 53 then (0 : Int32) else w j) = W
  have g1 : ∀ j, j < 53 → W j = w j := fun j hj => by rw [← hW]; exact if_neg (by omega)
  have g2 : ∀ j, 53 ≤ j → j < 106 → W j = 0 := fun j h1 h2 => by rw [← hW]; exact if_pos ⟨h1, by omega⟩
  rw [show (102 : Int32) = nI 102 from rfl, sto_n (by decide) (by decide)]
  simp only [bsn]
  rw [show (104 : Int32) = nI 104 from rfl, sto_n (by decide) (by decide)]
  simp only [bsn]
  rw [show (105 : Int32) = nI 105 from rfl, sto_n (by decide) (by decide)]
  simp only [bsn]
  refine ⟨_, rfl, fun j hj => ?_, ?_, ?_, ?_, ?_, ?_⟩
  · rw [upd_ne (by omega), upd_ne (by omega), upd_ne (by omega)]
    exact g1 j hj
  · rw [upd_ne (by decide), upd_ne (by decide), upd_ne (by decide)]
    exact g2 53 (by decide) (by decide)
  · rw [upd_ne (by decide), upd_ne (by decide), upd_at]
  · rw [upd_ne (by decide), upd_ne (by decide), upd_ne (by decide)]
    exact g2 103 (by decide) (by decide)
  · rw [upd_ne (by decide), upd_at]
  · rw [upd_at]
theorem read_both {n : Nat} (hn : 300 ≤ n) {L : Nat} {cc : Nat → Nat} {b t6 : Nat → Int32} (tt : TT L cc) (hb : CC L cc b) (h6 : CC L cc t6) : ∀ k c a (nm5 nm6 : Nat → Int32) (D : Nat) (w : Nat → Int32) (desks : Int32) (kind lean needs fh group fp : Nat → Int32) (oboe slip warmth unheard : Int32), c ≤ a → a ≤ L → L - a < k → R_told D w desks kind lean needs fh group fp oboe slip warmth unheard →
    ∃ r pl nm5' desks' oboe' slip' warmth' unheard' kind' lean' needs' fh' group' fp' m6 w' nm6' D', L_X3_readInto_20 n b (nI L) k (nI c) (nI a) nm5 kind lean needs fh group fp desks oboe slip warmth unheard = some (r, pl, nm5', desks', oboe', slip', warmth', unheard', kind', lean', needs', fh', group', fp') ∧
      L_X6_faultOf_9 n t6 (nI L) k nm6 (nI a) w = some (r, m6, w', nm6') ∧ KW w w' ∧ (r = -4 → R_told D' w' desks' kind' lean' needs' fh' group' fp' oboe' slip' warmth' unheard') := by
  have hL := tt.1
  have e200 : (if (200 : Int32) < nI L then (200 : Int32) else nI L) = nI L := if_neg (nI_nlt (a := 200) (by omega) (by decide))
  intro k
  induction k with
  | zero => intro c a nm5 nm6 D w desks kind lean needs fh group fp oboe slip warmth unheard _ _ h; omega
  | succ k ih =>
    intro c a nm5 nm6 D w desks kind lean needs fh group fp oboe slip warmth unheard hc ha hk RT
    rw [L_X3_readInto_20, L_X6_faultOf_9, e200]
    by_cases q : L ≤ a
    · rw [if_pos (show nI L ≤ nI a from nI_le q (by omega)), if_pos (show nI L ≤ nI a from nI_le q (by omega))]
      by_cases q2 : L ≤ c
      · rw [if_pos (nI_le q2 (by omega))]
        exact ⟨_, _, _, _, _, _, _, _, _, _, _, _, _, _, _, _, _, D, rfl, rfl, fun _ _ => rfl, fun _ => RT⟩
      · rw [if_neg (nI_ge (by omega) (by omega))]
        exact ⟨_, _, _, _, _, _, _, _, _, _, _, _, _, _, _, _, _, D, rfl, rfl, fun _ _ => rfl, fun _ => RT⟩
    · rw [if_neg (show ¬ nI L ≤ nI c from nI_ge (by omega) (by omega)), if_neg (show ¬ nI L ≤ nI a from nI_ge (by omega) (by omega)), if_neg (show ¬ nI L ≤ nI a from nI_ge (by omega) (by omega))]
      rcases item_both hn tt hb h6 RT (show a < L by omega) nm5 nm6 with ⟨J, a6, w', nm6', f5, f6, kw⟩ | ⟨e, nm5', nm6', D', desks', oboe', slip', warmth', unheard', kind', lean', needs', fh', group', fp', w', z1, z2, f5, f6, kw, RT'⟩
      · rw [f5, f6]
        simp only [bsn, if_true]
        exact ⟨_, _, _, _, _, _, _, _, _, _, _, _, _, _, _, _, _, 0, rfl, rfl, kw, fun q => absurd q (nI_ne4 (by omega))⟩
      · rw [f5, f6]
        simp only [bsn, show ¬ (1 : Int32) = 0 from by decide, if_false]
        rw [nI_1]
        obtain ⟨r, pl, n5, x1, x2, x3, x4, x5, x6, x7, x8, x9, x10, x11, m6, w2, n6, D2, g5, g6, kw2, h2⟩ := ih (c + 1) e nm5' nm6' D' w' desks' kind' lean' needs' fh' group' fp' oboe' slip' warmth' unheard' (by omega) z2 (by omega) RT'
        exact ⟨r, pl, n5, x1, x2, x3, x4, x5, x6, x7, x8, x9, x10, x11, m6, w2, n6, D2, g5, g6, kw.tr kw2, h2⟩
theorem fault_both {n : Nat} (hn : 300 ≤ n) {L : Nat} {cc : Nat → Nat} {b t6 : Nat → Int32} (tt : TT L cc) (hb : CC L cc b) (h6 : CC L cc t6) (nm5 nm6 w kind lean needs fh group fp : Nat → Int32) :
    ∃ r pl nm5' desks' oboe' slip' warmth' unheard' kind' lean' needs' fh' group' fp' m6 w' nm6' D', F_X3_readInto n nm5 kind lean needs fh group fp b (nI L) = some (r, pl, nm5', desks', oboe', slip', warmth', unheard', kind', lean', needs', fh', group', fp') ∧
      F_X6_faultOf n w t6 (nI L) nm6 = some (r, m6, w', nm6') ∧ KW w w' ∧ (r = -4 → R_told D' w' desks' kind' lean' needs' fh' group' fp' oboe' slip' warmth' unheard') := by
  have hL := tt.1
  obtain ⟨W, e, kw, w53, w102, w103, w104, w105⟩ := begins6_n hn w
  have RT : R_told 0 W 0 kind lean needs fh group fp 0 0 1 3 := ⟨by omega, rfl, w53, fun i hi => absurd hi (Nat.not_lt_zero _), by rw [w102]; decide, w103.symm, w104.symm, w105.symm, small_ok 0 (v := 0) (by decide) (by decide)⟩
  obtain ⟨r, pl, n5, x1, x2, x3, x4, x5, x6, x7, x8, x9, x10, x11, m6, w2, n6, D2, g5, g6, kw2, h2⟩ := read_both hn tt hb h6 n 0 0 nm5 nm6 0 W 0 kind lean needs fh group fp 0 0 1 3 (by omega) (by omega) (by omega) RT
  unfold F_X3_readInto F_X6_faultOf
  rw [e, show F_X0_clear n = some (0, 0, 0, 1, 3) from rfl]
  simp only [bsn]
  exact ⟨r, pl, n5, x1, x2, x3, x4, x5, x6, x7, x8, x9, x10, x11, m6, w2, n6, D2, g5, g6, kw.tr kw2, h2⟩
theorem op_fault {n : Nat} (hn : 300 ≤ n) {l5 l6 : Int32} {t5 t6 : Nat → Int32} (RX : R_tx l5 l6 t5 t6) (nm5 nm6 w kind lean needs fh group fp : Nat → Int32) :
    ∃ r J m6 w' nm6', F_X5_fault n t5 l5 nm5 kind lean needs fh group fp = some (r, J) ∧ F_X6_fault n w t6 l6 nm6 = some (r, m6, w', nm6') ∧ KW w w' := by
  obtain ⟨L, cc, rfl, rfl, tt, hb, h6⟩ := tx_cc RX
  obtain ⟨r, pl, n5, x1, x2, x3, x4, x5, x6, x7, x8, x9, x10, x11, m6, w2, n6, D2, g5, g6, kw2, h2⟩ := fault_both hn tt hb h6 nm5 nm6 w kind lean needs fh group fp
  unfold F_X5_fault F_X6_fault
  rw [g5, g6]
  simp only [bsn]
  exact ⟨_, _, _, _, _, rfl, rfl, kw2⟩
/-! can it be laid? -/
def GD (D : Nat) (fh : Nat → Int32) (i : Nat) : Prop := fh i = 8 ∨ fh i = 9 ∨ ((0 ≤ fh i ∧ fh i < nI D) ∧ ¬ fh i = nI i)
def S_cl (g : Nat → Bool) : Nat → Nat → Bool
  | 0, _ => true
  | j + 1, i => g i && S_cl g j (i + 1)
theorem cl_all (g : Nat → Bool) : ∀ j i, S_cl g j i = true → ∀ q, i ≤ q → q < i + j → g q = true
  | 0, i, _, q, h1, h2 => by omega
  | j + 1, i, h, q, h1, h2 => by
    rw [S_cl, Bool.and_eq_true] at h
    by_cases c : q = i
    · rw [c]
      exact h.1
    · exact cl_all g j (i + 1) h.2 q (by omega) (by omega)
def GB (D : Nat) (fh : Nat → Int32) : Nat → Bool := fun i => decide (fh i = 8 ∨ fh i = 9 ∨ ((0 ≤ fh i ∧ fh i < nI D) ∧ ¬ fh i = nI i))
theorem laid5 {n : Nat} {D : Nat} (hD : D ≤ 8) (h0 : 0 < D) (fh : Nat → Int32) : ∀ j i k, i + j = D → j < k → L_X0_canBeLaid_2 n (nI D) fh k (nI i) = some (if S_cl (GB D fh) j i = true then 1 else 0)
  | 0, i, 0, _, h => absurd h (Nat.not_lt_zero _)
  | 0, i, k + 1, e, h => by
    obtain rfl : i = D := by omega
    rw [L_X0_canBeLaid_2, if_pos (nI_le (Nat.le_refl _) (by omega)), if_neg (show ¬ nI i ≤ (0 : Int32) from nI_ge (a := 0) h0 (by omega))]
    rfl
  | j + 1, i, 0, _, h => absurd h (Nat.not_lt_zero _)
  | j + 1, i, k + 1, e, h => by
    rw [L_X0_canBeLaid_2, if_neg (nI_ge (by omega) (by omega)), ld_n (by omega) (by decide), bs, canHear_val, bs, nI_1, laid5 hD h0 fh j (i + 1) k (by omega) (by omega), S_cl]
    by_cases g : fh i = 8 ∨ fh i = 9 ∨ ((0 ≤ fh i ∧ fh i < nI D) ∧ ¬ fh i = nI i)
    · have gb : GB D fh i = true := decide_eq_true g
      rw [if_pos g, if_neg (show ¬ (1 : Int32) = 0 from by decide), gb, Bool.true_and]
    · have gb : GB D fh i = false := decide_eq_false g
      rw [if_neg g, if_pos (show (0 : Int32) = 0 from rfl), gb, Bool.false_and, if_neg (show ¬ (false : Bool) = true from by decide)]
theorem laid6 {D : Nat} (hD : D ≤ 8) {T2 : Int32 × Int32 × (Nat → Int32) × (Nat → Int32)} {w fh : Nat → Int32} (hT : T2.2.2.1 = w) (hw : w 53 = nI D) (hf : ∀ i, i < D → fh i = w (78 + i) ∧ ∃ a, a ≤ 9 ∧ fh i = nI a) : ∀ j i k (y : Int32), i + j = D → j < k → y = 0 ∨ y = 1 → ∃ z, L_X6_lay_27 T2 k y (nI i) = some (if y = 0 then 0 else if S_cl (GB D fh) j i = true then 1 else 0, z)
  | 0, i, 0, _, _, h, _ => absurd h (Nat.not_lt_zero _)
  | 0, i, k + 1, y, e, h, hy => by
    obtain rfl : i = D := by omega
    rw [L_X6_lay_27, hT, show ld w 106 (53 : Int32) = some (w 53) from ld_n (i := 53) (by decide) (by decide), bs, hw, if_pos (nI_le (Nat.le_refl _) (by omega))]
    refine ⟨nI i, ?_⟩
    rcases hy with rfl | rfl <;> rfl
  | j + 1, i, 0, _, _, h, _ => absurd h (Nat.not_lt_zero _)
  | j + 1, i, k + 1, y, e, h, hy => by
    rw [L_X6_lay_27, hT, show ld w 106 (53 : Int32) = some (w 53) from ld_n (i := 53) (by decide) (by decide), bs, hw, if_neg (nI_ge (by omega) (by omega))]
    rcases hy with rfl | rfl
    · rw [if_pos (show (0 : Int32) = 0 from rfl), if_pos (show (0 : Int32) = 0 from rfl)]
      exact ⟨_, rfl⟩
    · obtain ⟨f1, a, ha, fa⟩ := hf i (by omega)
      rw [if_neg (show ¬ (1 : Int32) = 0 from by decide), show (78 : Int32) + nI i = nI (78 + i) from nI_add 78 i, ld_n (by omega) (by decide), bs, ← f1, bs, nI_1, if_neg (show ¬ (1 : Int32) = 0 from by decide), S_cl]
      have e1 : (if (8 : Int32) ≤ fh i then some (1 : Int32) else if fh i = nI i then some 0 else if nI D ≤ fh i then some 0 else some 1) = some (if GB D fh i = true then 1 else 0) := by
        rw [fa]
        by_cases c8 : 8 ≤ a
        · rw [if_pos (show (8 : Int32) ≤ nI a from nI_le (a := 8) c8 (by omega)), if_pos]
          refine decide_eq_true ?_
          rw [fa]
          rcases (show a = 8 ∨ a = 9 by omega) with rfl | rfl
          · exact Or.inl rfl
          · exact Or.inr (Or.inl rfl)
        · have n8 : ¬ nI a = (8 : Int32) := nI_ne (b := 8) (by omega) (by decide) (by omega)
          have n9 : ¬ nI a = (9 : Int32) := nI_ne (b := 9) (by omega) (by decide) (by omega)
          rw [if_neg (show ¬ (8 : Int32) ≤ nI a from nI_ge (b := 8) (by omega) (by decide))]
          by_cases ci : a = i
          · rw [if_pos (show nI a = nI i from by rw [ci]), if_neg]
            intro q
            have q2 := of_decide_eq_true q
            rw [fa] at q2
            rcases q2 with q2 | q2 | ⟨-, q2⟩
            · exact n8 q2
            · exact n9 q2
            · exact q2 (by rw [ci])
          · have ni : ¬ nI a = nI i := nI_ne (by omega) (by omega) ci
            rw [if_neg ni]
            by_cases cd : a < D
            · rw [if_neg (nI_ge cd (by omega)), if_pos]
              refine decide_eq_true ?_
              rw [fa]
              exact Or.inr (Or.inr ⟨⟨nI_pos' (by omega), nI_lt cd (by omega)⟩, ni⟩)
            · rw [if_pos (nI_le (by omega) (by omega)), if_neg]
              intro q
              have q2 := of_decide_eq_true q
              rw [fa] at q2
              rcases q2 with q2 | q2 | ⟨⟨-, q2⟩, -⟩
              · exact n8 q2
              · exact n9 q2
              · exact nI_nlt (by omega) (by omega) q2
      rw [e1, bs]
      cases g : GB D fh i
      · rw [if_neg (show ¬ (false : Bool) = true from by decide), Bool.false_and, if_neg (show ¬ (false : Bool) = true from by decide)]
        obtain ⟨z, hz⟩ := laid6 hD hT hw hf j (i + 1) k 0 (by omega) (by omega) (Or.inl rfl)
        rw [if_pos (show (0 : Int32) = 0 from rfl)] at hz
        exact ⟨z, hz⟩
      · rw [if_pos (show (true : Bool) = true from rfl), Bool.true_and]
        obtain ⟨z, hz⟩ := laid6 hD hT hw hf j (i + 1) k 1 (by omega) (by omega) (Or.inr rfl)
        rw [if_neg (show ¬ (1 : Int32) = 0 from by decide)] at hz
        exact ⟨z, hz⟩
/-! what comes -/
theorem comes6_n {n : Nat} (hn : 300 ≤ n) (w d : Nat → Int32) : ∃ w' d', F_X6_comes n w d = some (0, 0, 0, w', d') ∧ (∀ j, j < 53 → w' j = w (53 + j)) ∧ (∀ i, i < 8 → d' i = w (94 + i) - 20) ∧ (∀ i, i < 8 → d' (10 + i) = w (78 + i)) ∧ d' 8 = w 102 - 9 ∧ d' 9 = 0 := by
  have loop : ∀ k i, i ≤ 53 → 53 - i < k → L_X6_comes_2 k (nI i) (fun j => if j < i then w (53 + j) else w j) = some (nI 53, fun j => if j < 53 then w (53 + j) else w j) := by
    intro k
    induction k with
    | zero => intro i _ h; omega
    | succ k ih =>
      intro i hi hk
      rw [L_X6_comes_2]
      by_cases q : 53 ≤ i
      · obtain rfl : i = 53 := by omega
        rw [if_pos (show (53 : Int32) ≤ nI 53 from by decide)]
      · rw [if_neg (show ¬ (53 : Int32) ≤ nI i from nI_ge (b := 53) (by omega) (by decide)), show (53 : Int32) + nI i = nI (53 + i) from nI_add 53 i, ld_n (by omega) (by decide), bs, sto_n (by omega) (by decide), bs, nI_1]
        have e : upd (fun j => if j < i then w (53 + j) else w j) i ((fun j => if j < i then w (53 + j) else w j) (53 + i)) = fun j => if j < i + 1 then w (53 + j) else w j := by
          funext j
          show (if j = i then (if 53 + i < i then w (53 + (53 + i)) else w (53 + i)) else if j < i then w (53 + j) else w j) = if j < i + 1 then w (53 + j) else w j
          by_cases c : j = i
          · subst c
            rw [if_pos rfl, if_neg (by omega), if_pos (by omega)]
          · rw [if_neg c]
            by_cases c2 : j < i
            · rw [if_pos c2, if_pos (by omega)]
            · rw [if_neg c2, if_neg (by omega)]
        rw [e]
        exact ih (i + 1) (by omega) (by omega)
  have e := loop n 0 (by omega) (by omega)
  rw [show (fun j => if j < 0 then w (53 + j) else w j) = w from by funext j; rw [if_neg (by omega)]] at e
  generalize hW : (fun j => if j < 53 then w (53 + j) else w j) = W at e
  have gW : ∀ j, j < 53 → W j = w (53 + j) := fun j hj => by rw [← hW]; exact if_pos hj
  have loop2 : ∀ k i (T2 : Int32 × (Nat → Int32)), T2.2 = W → i ≤ 8 → 8 - i < k → ∀ d1 : Nat → Int32, (∀ q, q < i → d1 q = W (41 + q) - 20 ∧ d1 (10 + q) = W (25 + q)) → ∃ d', L_X6_comes_31 T2 k (nI i) d1 = some (nI 8, d') ∧ ∀ q, q < 8 → d' q = W (41 + q) - 20 ∧ d' (10 + q) = W (25 + q) := by
    intro k
    induction k with
    | zero => intro i T2 _ _ h; omega
    | succ k ih =>
      intro i T2 hT hi hk d1 hd
      rw [L_X6_comes_31]
      by_cases q : 8 ≤ i
      · obtain rfl : i = 8 := by omega
        rw [if_pos (show (8 : Int32) ≤ nI 8 from by decide)]
        exact ⟨d1, rfl, hd⟩
      · rw [if_neg (show ¬ (8 : Int32) ≤ nI i from nI_ge (b := 8) (by omega) (by decide)), hT, show (41 : Int32) + nI i = nI (41 + i) from nI_add 41 i, show (0 : Int32) + nI i = nI (0 + i) from nI_add 0 i, show (25 : Int32) + nI i = nI (25 + i) from nI_add 25 i, show (10 : Int32) + nI i = nI (10 + i) from nI_add 10 i, Nat.zero_add, ld_n (by omega) (by decide), bs, sto_n (by omega) (by decide), bs, ld_n (by omega) (by decide), bs, sto_n (by omega) (by decide), bs, nI_1]
        refine ih (i + 1) T2 hT (by omega) (by omega) _ ?_
        intro q hq
        by_cases c : q = i
        · subst c
          refine ⟨?_, ?_⟩
          · rw [upd_ne (by omega), upd_at]
          · rw [upd_at]
        · obtain ⟨y1, y2⟩ := hd q (by omega)
          refine ⟨?_, ?_⟩
          · rw [upd_ne (by omega), upd_ne c]
            exact y1
          · rw [upd_ne (by omega), upd_ne (by omega)]
            exact y2
  obtain ⟨d', e2, hd'⟩ := loop2 n 0 (nI 53, W) rfl (by omega) (by omega) d (fun q hq => absurd hq (Nat.not_lt_zero _))
  unfold F_X6_comes
  rw [show L_X6_comes_2 n 0 w = _ from e]
  simp only [bsn]
  rw [show L_X6_comes_31 (nI 53, W) n 0 d = _ from e2]
  simp only [bsn]
  rw [show ld W 106 (49 : Int32) = some (W 49) from ld_n (i := 49) (by decide) (by decide), show (8 : Int32) = nI 8 from rfl, show (9 : Int32) = nI 9 from rfl]
  simp only [bsn]
  rw [sto_n (by decide) (by decide)]
  simp only [bsn]
  rw [sto_n (by decide) (by decide)]
  simp only [bsn]
  refine ⟨_, _, rfl, gW, fun i hi => ?_, fun i hi => ?_, ?_, ?_⟩
  · rw [upd_ne (by omega), upd_ne (by omega), (hd' i hi).1, gW _ (by omega), show 53 + (41 + i) = 94 + i from by omega]
  · rw [upd_ne (by omega), upd_ne (by omega), (hd' i hi).2, gW _ (by omega), show 53 + (25 + i) = 78 + i from by omega]
  · rw [upd_ne (by decide), upd_at, gW 49 (by decide)]
  · rw [upd_at]
