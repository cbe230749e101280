/-! One item of the text. -/
/-- what the text told so far: the class's hall and the Model's cells -/
def R_told (D : Nat) (w : Nat → Int32) (desks : Int32) (kind lean needs fh group fp : Nat → Int32) (oboe slip warmth unheard : Int32) : Prop :=
  D ≤ 8 ∧ desks = nI D ∧ w 53 = nI D ∧ (∀ i, i < D → kind i = w (54 + i) ∧ lean i = w (62 + i) ∧ needs i = w (70 + i) ∧ fh i = w (78 + i) ∧ group i = w (86 + i) ∧ fp i = w (94 + i) - 20 ∧ S_ok (fp i) ∧ ∃ a, a ≤ 9 ∧ fh i = nI a) ∧
    oboe = w 102 - 9 ∧ slip = w 103 ∧ warmth = w 104 ∧ unheard = w 105 ∧ S_ok oboe
theorem bsn {α β : Type} (a : α) (k : α → Option β) : Option.bind (some a) k = k a := Eq.trans (Eq.refl _) (Eq.refl _)
theorem upd_ne {f : Nat → Int32} {i j : Nat} {x : Int32} (h : j ≠ i) : upd f i x j = f j := by
  unfold upd
  rw [if_neg h]
theorem hr_mv {D : Nat} (hD : D ≤ 8) {w w' : Nat → Int32} {kind lean needs fh group fp : Nat → Int32} (l : ∀ j, 53 ≤ j → j < 102 → w' j = w j) (hr : ∀ i, i < D → kind i = w (54 + i) ∧ lean i = w (62 + i) ∧ needs i = w (70 + i) ∧ fh i = w (78 + i) ∧ group i = w (86 + i) ∧ fp i = w (94 + i) - 20 ∧ S_ok (fp i) ∧ ∃ a, a ≤ 9 ∧ fh i = nI a) :
    ∀ i, i < D → kind i = w' (54 + i) ∧ lean i = w' (62 + i) ∧ needs i = w' (70 + i) ∧ fh i = w' (78 + i) ∧ group i = w' (86 + i) ∧ fp i = w' (94 + i) - 20 ∧ S_ok (fp i) ∧ ∃ a, a ≤ 9 ∧ fh i = nI a := fun i hi => by
  rw [l (54 + i) (by omega) (by omega), l (62 + i) (by omega) (by omega), l (70 + i) (by omega) (by omega), l (78 + i) (by omega) (by omega), l (86 + i) (by omega) (by omega), l (94 + i) (by omega) (by omega)]
  exact hr i hi
def KW (w w' : Nat → Int32) : Prop := ∀ j, j < 53 → w' j = w j
theorem KW.put {w : Nat → Int32} {i : Nat} (h : 53 ≤ i) (x : Int32) : KW w (upd w i x) := fun j hj => by
  unfold upd
  rw [if_neg (by omega)]
theorem KW.tr {a b c : Nat → Int32} (h : KW a b) (h2 : KW b c) : KW a c := fun j hj => (h2 j hj).trans (h j hj)
theorem small_ok {v : Nat} (k : Nat) (hv : v < 100) (hk : k < 100) : S_ok (nI v - nI k) := by
  unfold S_ok
  rw [Int32.toInt_sub, nI_toInt (by omega), nI_toInt (by omega), Int.bmod_eq_of_le (by omega) (by omega)]
  omega
theorem isTold_n (n : Nat) {w : Nat → Int32} {D : Nat} (hD : D ≤ 8) (hw : w 53 = nI D) {v : Nat} (hv : v < 100) : F_X6_isTold n w (nI v) = some (if v < D then 1 else 0) := by
  unfold F_X6_isTold
  rw [show ld w 106 (53 : Int32) = some (w 53) from ld_n (i := 53) (by decide) (by decide), bs, hw, show (0 : Int64) = Int32.toInt64 0 from by decide, in6_n, bs, zb_ite, bs]
  congr 1
  rcases Nat.eq_zero_or_pos D with e | e
  · subst e
    rw [if_neg, if_neg (by omega)]
    intro q
    have q2 := q.2
    rw [fa_le, nI_toInt (by omega), show (nI 0 - (1 : Int32)).toInt = -1 from by decide] at q2
    omega
  · rw [nI_m1 e]
    by_cases c : v < D
    · rw [if_pos c, if_pos ⟨nI_pos' (by omega), nI_le (by omega) (by omega)⟩]
    · rw [if_neg c, if_neg (fun q => nI_ge (a := D - 1) (b := v) (by omega) (by omega) q.2)]
theorem told_desk (n : Nat) {D v : Nat} (hD : D ≤ 8) (hv : v < 100) : F_X0_hasDesk n (nI D) (nI v) = some (if v < D then 1 else 0) := by
  rw [hasDesk_val]
  congr 1
  by_cases c : v < D
  · rw [if_pos c, if_pos ⟨nI_pos' (by omega), nI_lt c (by omega)⟩]
  · rw [if_neg c, if_neg (fun q => nI_nlt (by omega) (by omega) q.2)]
theorem item_class {n : Nat} (hn : 300 ≤ n) {L : Nat} {cc : Nat → Nat} {b t6 : Nat → Int32} (tt : TT L cc) (hb : CC L cc b) (h6 : CC L cc t6) (desks : Int32) (kind lean needs fh group fp : Nat → Int32) (oboe slip warmth unheard : Int32) {a : Nat} (ha : a < L) (nm5 nm6 : Nat → Int32) {cnt : Nat} (h0 : 0 < cnt) (hc4 : cnt ≤ 4) (hnb : F_X3_numbersBehind n (nI (cc a)) = some (nI cnt)) :
    (∃ J a6 nm6', F_X3_readItem n nm5 (nI a) desks kind lean needs fh group fp oboe slip warmth unheard b (nI L) = some (0, J) ∧ F_X6_takesNumbers n t6 (nI L) (nI (a + 1)) nm6 (nI cnt) = some (0, a6, nm6')) ∨
    (∃ e nm5' nm6', a + 1 ≤ e ∧ e ≤ L ∧ NM cnt nm5' nm6' ∧ F_X6_takesNumbers n t6 (nI L) (nI (a + 1)) nm6 (nI cnt) = some (1, nI e, nm6') ∧ F_X3_readItem n nm5 (nI a) desks kind lean needs fh group fp oboe slip warmth unheard b (nI L) = (Option.bind (F_X3_takeItem n nm5' desks kind lean needs fh group fp oboe slip warmth unheard (nI (cc a))) fun r => Option.bind (zb r.1) fun _ => some (r.1, nI e, nm5', r.2.1, r.2.2.1, r.2.2.2.1, r.2.2.2.2.1, r.2.2.2.2.2.1, r.2.2.2.2.2.2.1, r.2.2.2.2.2.2.2.1, r.2.2.2.2.2.2.2.2.1, r.2.2.2.2.2.2.2.2.2.1, r.2.2.2.2.2.2.2.2.2.2.1, r.2.2.2.2.2.2.2.2.2.2.2))) := by
  have hL := tt.1
  unfold F_X3_readItem F_X6_takesNumbers
  rw [letter5 n tt hb (by omega), if_pos ha, bs, hnb, bs, if_neg (show ¬ nI cnt = (0 : Int32) from nI_ne (b := 0) (by omega) (by decide) (by omega))]
  rcases nums_both hn tt hb h6 desks kind lean needs fh group fp oboe slip warmth unheard (nI (cc a)) hc4 cnt 0 n n a nm5 nm6 (by omega) (by omega) (by omega) (by omega) (fun i hi => absurd hi (Nat.not_lt_zero _)) with ⟨a', nm', a6, nm6', f5, f6⟩ | ⟨e, nm5', nm6', k', z1, z2, z3, z4, z5⟩
  · exact Or.inl ⟨_, _, _, f5, f6⟩
  · refine Or.inr ⟨e, nm5', nm6', z1, z2, z3, z5, z4.trans ?_⟩
    rw [L_X3_readItem_25, if_pos (nI_le (Nat.le_refl _) (by omega)), nI_1, show e - 1 + 1 = e from by omega]
/-- what comes of one item -/
def ITEM (n : Nat) (L : Nat) (b t6 w : Nat → Int32) (desks : Int32) (kind lean needs fh group fp : Nat → Int32) (oboe slip warmth unheard : Int32) (a : Nat) (nm5 nm6 : Nat → Int32) : Prop :=
  (∃ J a6 w' nm6', F_X3_readItem n nm5 (nI a) desks kind lean needs fh group fp oboe slip warmth unheard b (nI L) = some (0, J) ∧ F_X6_takesItem n w t6 (nI L) (nI a) nm6 = some (0, a6, w', nm6') ∧ KW w w') ∨
  (∃ e nm5' nm6' D' desks' oboe' slip' warmth' unheard' kind' lean' needs' fh' group' fp' w', a + 1 ≤ e ∧ e ≤ L ∧ F_X3_readItem n nm5 (nI a) desks kind lean needs fh group fp oboe slip warmth unheard b (nI L) = some (1, nI e, nm5', desks', oboe', slip', warmth', unheard', kind', lean', needs', fh', group', fp') ∧ F_X6_takesItem n w t6 (nI L) (nI a) nm6 = some (1, nI e, w', nm6') ∧ KW w w' ∧ R_told D' w' desks' kind' lean' needs' fh' group' fp' oboe' slip' warmth' unheard')
theorem nb_100 (n : Nat) : F_X3_numbersBehind n (nI 100) = some (nI 4) := by
  unfold F_X3_numbersBehind
  rw [if_pos (show nI 100 = (100 : Int32) from rfl)]
  rfl
theorem item_100 {n : Nat} (hn : 300 ≤ n) {L : Nat} {cc : Nat → Nat} {b t6 : Nat → Int32} (tt : TT L cc) (hb : CC L cc b) (h6 : CC L cc t6) {D : Nat} {w : Nat → Int32} {desks : Int32} {kind lean needs fh group fp : Nat → Int32} {oboe slip warmth unheard : Int32} (RT : R_told D w desks kind lean needs fh group fp oboe slip warmth unheard) {a : Nat} (ha : a < L) (nm5 nm6 : Nat → Int32) (hch : cc a = 100) : ITEM n L b t6 w desks kind lean needs fh group fp oboe slip warmth unheard a nm5 nm6 := by
  have hL := tt.1
  have RT0 := RT
  obtain ⟨hD, rfl, hw, hr, ho, es, ew, eu, oo⟩ := RT
  have hnb : F_X3_numbersBehind n (nI (cc a)) = some (nI 4) := by
    rw [hch]
    exact nb_100 n
  unfold ITEM
  unfold F_X6_takesItem
  rw [letter6 n tt h6 (by omega), if_pos ha, hch]
  simp only [bsn]
  rw [if_pos (show nI 100 = (100 : Int32) from rfl), nI_1]
  rcases item_class hn tt hb h6 (nI D) kind lean needs fh group fp oboe slip warmth unheard ha nm5 nm6 (by decide) (by decide) hnb with ⟨J, a6, nm6', f5, f6⟩ | ⟨e, nm5', nm6', z1, z2, nm, f6, f5⟩
  · rw [show F_X6_takesNumbers n t6 (nI L) (nI (a + 1)) nm6 (4 : Int32) = _ from f6]
    simp only [bsn, if_true]
    exact Or.inl ⟨_, _, _, _, f5, rfl, fun _ _ => rfl⟩
  · rw [show F_X6_takesNumbers n t6 (nI L) (nI (a + 1)) nm6 (4 : Int32) = _ from f6, f5, hch]
    unfold F_X3_takeItem
    obtain ⟨v0, hv0, a0, b0⟩ := nm 0 (by decide)
    obtain ⟨v1, hv1, a1, b1⟩ := nm 1 (by decide)
    obtain ⟨v2, hv2, a2, b2⟩ := nm 2 (by decide)
    obtain ⟨v3, hv3, a3, b3⟩ := nm 3 (by decide)
    simp only [bsn, show ¬ (1 : Int32) = 0 from by decide, if_false]
    simp only [show ld nm5' 4 (0 : Int32) = some (nm5' 0) from ld_n (i := 0) (by decide) (by decide), show ld nm5' 4 (1 : Int32) = some (nm5' 1) from ld_n (i := 1) (by decide) (by decide), show ld nm6' 4 (0 : Int32) = some (nm6' 0) from ld_n (i := 0) (by decide) (by decide), show ld nm6' 4 (1 : Int32) = some (nm6' 1) from ld_n (i := 1) (by decide) (by decide), show ld nm6' 4 (2 : Int32) = some (nm6' 2) from ld_n (i := 2) (by decide) (by decide), show ld nm6' 4 (3 : Int32) = some (nm6' 3) from ld_n (i := 3) (by decide) (by decide), a0, b0, a1, b1, a2, b2, a3, b3, bsn]
    rw [if_pos (show nI 100 = (100 : Int32) from rfl)]
    unfold F_X3_takeDesk
    simp only [show ld nm5' 4 (0 : Int32) = some (nm5' 0) from ld_n (i := 0) (by decide) (by decide), show ld nm5' 4 (1 : Int32) = some (nm5' 1) from ld_n (i := 1) (by decide) (by decide), show ld nm5' 4 (2 : Int32) = some (nm5' 2) from ld_n (i := 2) (by decide) (by decide), show ld nm5' 4 (3 : Int32) = some (nm5' 3) from ld_n (i := 3) (by decide) (by decide), a0, b0, a1, b1, a2, b2, a3, b3, bsn]
    by_cases c0 : v0 ≤ 3
    · rw [if_neg (show ¬ (3 : Int32) < nI v0 from nI_nlt (a := 3) (by omega) (by decide)), if_neg (show ¬ (4 : Int32) ≤ nI v0 from nI_ge (b := 4) (by omega) (by decide))]
      by_cases c1 : v1 ≤ 6
      · rw [if_neg (show ¬ (6 : Int32) < nI v1 from nI_nlt (a := 6) (by omega) (by decide)), if_neg (show ¬ (7 : Int32) ≤ nI v1 from nI_ge (b := 7) (by omega) (by decide)), show (1 : Int64) = Int32.toInt64 1 from by decide, show (60 : Int64) = Int32.toInt64 60 from by decide, isFrom_in6, isFrom_val]
        simp only [bsn]
        by_cases c2 : (1 : Int32) ≤ nI v2 ∧ nI v2 ≤ 60
        · simp only [if_pos c2, show ¬ (1 : Int32) = 0 from by decide, if_false]
          by_cases c3 : v3 ≤ 9
          · rw [if_pos (show nI v3 ≤ (9 : Int32) from nI_le (b := 9) c3 (by decide)), if_neg (show ¬ (10 : Int32) ≤ nI v3 from nI_ge (b := 10) (by omega) (by decide))]
            unfold F_X0_addDesk F_X6_adds
            rw [show ld w 106 (53 : Int32) = some (w 53) from ld_n (i := 53) (by decide) (by decide), bs, hw]
            by_cases c8 : D = 8
            · subst c8
              rw [if_neg (show ¬ nI 8 < (8 : Int32) from by decide), if_pos (show nI 8 = (8 : Int32) from rfl)]
              simp only [bsn, if_true, show zb (0 : Int32) = some () from rfl]
              exact Or.inl ⟨_, _, _, _, rfl, rfl, fun _ _ => rfl⟩
            · rw [if_pos (show nI D < (8 : Int32) from nI_lt (b := 8) (by omega) (by decide)), if_neg (show ¬ nI D = (8 : Int32) from nI_ne (b := 8) (by omega) (by decide) c8), show (54 : Int32) + nI D = nI (54 + D) from nI_add 54 D, show (62 : Int32) + nI D = nI (62 + D) from nI_add 62 D, show (70 : Int32) + nI D = nI (70 + D) from nI_add 70 D, show (78 : Int32) + nI D = nI (78 + D) from nI_add 78 D, show (86 : Int32) + nI D = nI (86 + D) from nI_add 86 D, show (94 : Int32) + nI D = nI (94 + D) from nI_add 94 D]
              simp only [sto_n (show D < 8 by omega) (show 8 < 2 ^ 31 by decide), sto_n (show 54 + D < 106 by omega) (show 106 < 2 ^ 31 by decide), sto_n (show 62 + D < 106 by omega) (show 106 < 2 ^ 31 by decide), sto_n (show 70 + D < 106 by omega) (show 106 < 2 ^ 31 by decide), sto_n (show 78 + D < 106 by omega) (show 106 < 2 ^ 31 by decide), sto_n (show 86 + D < 106 by omega) (show 106 < 2 ^ 31 by decide), sto_n (show 94 + D < 106 by omega) (show 106 < 2 ^ 31 by decide), bsn]
              rw [show (53 : Int32) = nI 53 from rfl, ld_n (by decide) (by decide), bs, sto_n (by decide) (by decide), bs]
              have e53 : upd (upd (upd (upd (upd (upd w (54 + D) (nI v0)) (62 + D) (nI v1)) (70 + D) (nI v2)) (78 + D) (nI v3)) (86 + D) 0) (94 + D) 20 53 = nI D := by
                unfold upd
                repeat (first | rw [if_neg (by omega)] | rw [if_pos (by omega)])
                exact hw
              rw [e53, nI_1]
              generalize hW : upd (upd (upd (upd (upd (upd (upd w (54 + D) (nI v0)) (62 + D) (nI v1)) (70 + D) (nI v2)) (78 + D) (nI v3)) (86 + D) 0) (94 + D) 20) 53 (nI (D + 1)) = W
              have g : ∀ j, W j = if j = 53 then nI (D + 1) else if j = 94 + D then 20 else if j = 86 + D then 0 else if j = 78 + D then nI v3 else if j = 70 + D then nI v2 else if j = 62 + D then nI v1 else if j = 54 + D then nI v0 else w j := fun j => by
                rw [← hW]
                rfl
              simp only [bsn, show ¬ (1 : Int32) = 0 from by decide, if_false, show zb (1 : Int32) = some () from rfl]
              refine Or.inr ⟨e, nm5', nm6', D + 1, _, _, _, _, _, _, _, _, _, _, _, _, z1, z2, rfl, rfl, fun j hj => ?_, by omega, rfl, ?_, ?_, ?_, ?_, ?_, ?_, oo⟩
              · rw [g]
                repeat (first | rw [if_neg (by omega)] | rw [if_pos (by omega)])
              · rw [g, if_pos rfl]
              · intro i hi
                simp only [g]
                unfold upd
                by_cases ci : i = D
                · subst ci
                  refine ⟨?_, ?_, ?_, ?_, ?_, ?_, ?_, v3, c3, ?_⟩
                  all_goals try (
                    repeat (first | rw [if_neg (by omega)] | rw [if_pos (by omega)]))
                  · rfl
                  · exact small_ok 0 (v := 0) (by decide) (by decide)
                · obtain ⟨q1, q2, q3, q4, q5, q6, q7, q8⟩ := hr i (by omega)
                  refine ⟨?_, ?_, ?_, ?_, ?_, ?_, ?_, ?_⟩
                  all_goals (
                    repeat (first | rw [if_neg (by omega)] | rw [if_pos (by omega)]))
                  · exact q1
                  · exact q2
                  · exact q3
                  · exact q4
                  · exact q5
                  · exact q6
                  · exact q7
                  · exact q8
              · rw [g]
                repeat (first | rw [if_neg (by omega)] | rw [if_pos (by omega)])
                exact ho
              · rw [g]
                repeat (first | rw [if_neg (by omega)] | rw [if_pos (by omega)])
                exact es
              · rw [g]
                repeat (first | rw [if_neg (by omega)] | rw [if_pos (by omega)])
                exact ew
              · rw [g]
                repeat (first | rw [if_neg (by omega)] | rw [if_pos (by omega)])
                exact eu
          · rw [if_neg (show ¬ nI v3 ≤ (9 : Int32) from nI_ge (a := 9) (by omega) (by omega)), if_pos (show (10 : Int32) ≤ nI v3 from nI_le (a := 10) (by omega) (by omega))]
            simp only [bsn, show zb (0 : Int32) = some () from rfl]
            exact Or.inl ⟨_, _, _, _, rfl, rfl, fun _ _ => rfl⟩
        · simp only [if_neg c2, if_true, bsn, show zb (0 : Int32) = some () from rfl]
          exact Or.inl ⟨_, _, _, _, rfl, rfl, fun _ _ => rfl⟩
      · rw [if_pos (show (6 : Int32) < nI v1 from nI_lt (a := 6) (by omega) (by omega)), if_pos (show (7 : Int32) ≤ nI v1 from nI_le (a := 7) (by omega) (by omega))]
        simp only [bsn, show zb (0 : Int32) = some () from rfl]
        exact Or.inl ⟨_, _, _, _, rfl, rfl, fun _ _ => rfl⟩
    · rw [if_pos (show (3 : Int32) < nI v0 from nI_lt (a := 3) (by omega) (by omega)), if_pos (show (4 : Int32) ≤ nI v0 from nI_le (a := 4) (by omega) (by omega))]
      simp only [bsn, show zb (0 : Int32) = some () from rfl]
      exact Or.inl ⟨_, _, _, _, rfl, rfl, fun _ _ => rfl⟩
theorem nb_103 (n : Nat) : F_X3_numbersBehind n (nI 103) = some (nI 2) := by
  unfold F_X3_numbersBehind
  rw [if_neg (show ¬ nI 103 = (100 : Int32) from by decide), if_pos (show nI 103 = (103 : Int32) from rfl)]
  rfl
theorem item_103 {n : Nat} (hn : 300 ≤ n) {L : Nat} {cc : Nat → Nat} {b t6 : Nat → Int32} (tt : TT L cc) (hb : CC L cc b) (h6 : CC L cc t6) {D : Nat} {w : Nat → Int32} {desks : Int32} {kind lean needs fh group fp : Nat → Int32} {oboe slip warmth unheard : Int32} (RT : R_told D w desks kind lean needs fh group fp oboe slip warmth unheard) {a : Nat} (ha : a < L) (nm5 nm6 : Nat → Int32) (hch : cc a = 103) : ITEM n L b t6 w desks kind lean needs fh group fp oboe slip warmth unheard a nm5 nm6 := by
  have hL := tt.1
  have RT0 := RT
  obtain ⟨hD, rfl, hw, hr, ho, es, ew, eu, oo⟩ := RT
  have hnb : F_X3_numbersBehind n (nI (cc a)) = some (nI 2) := by
    rw [hch]
    exact nb_103 n
  unfold ITEM
  unfold F_X6_takesItem
  rw [letter6 n tt h6 (by omega), if_pos ha, hch]
  simp only [bsn]
  rw [if_neg (show ¬ nI 103 = (100 : Int32) from by decide), if_pos (show nI 103 = (103 : Int32) from rfl), nI_1]
  rcases item_class hn tt hb h6 (nI D) kind lean needs fh group fp oboe slip warmth unheard ha nm5 nm6 (by decide) (by decide) hnb with ⟨J, a6, nm6', f5, f6⟩ | ⟨e, nm5', nm6', z1, z2, nm, f6, f5⟩
  · rw [show F_X6_takesNumbers n t6 (nI L) (nI (a + 1)) nm6 (2 : Int32) = _ from f6]
    simp only [bsn, if_true]
    rw [show (86 : Int32) + 0 = nI 86 from by decide, sto_n (by decide) (by decide)]
    simp only [bsn]
    exact Or.inl ⟨_, _, _, _, f5, rfl, KW.put (by decide) _⟩
  · rw [show F_X6_takesNumbers n t6 (nI L) (nI (a + 1)) nm6 (2 : Int32) = _ from f6, f5, hch]
    unfold F_X3_takeItem
    obtain ⟨v0, hv0, a0, b0⟩ := nm 0 (by decide)
    obtain ⟨v1, hv1, a1, b1⟩ := nm 1 (by decide)
    simp only [bsn, show ¬ (1 : Int32) = 0 from by decide, if_false]
    simp only [show ld nm5' 4 (0 : Int32) = some (nm5' 0) from ld_n (i := 0) (by decide) (by decide), show ld nm5' 4 (1 : Int32) = some (nm5' 1) from ld_n (i := 1) (by decide) (by decide), show ld nm6' 4 (0 : Int32) = some (nm6' 0) from ld_n (i := 0) (by decide) (by decide), show ld nm6' 4 (1 : Int32) = some (nm6' 1) from ld_n (i := 1) (by decide) (by decide), a0, b0, a1, b1, bsn]
    rw [if_neg (show ¬ nI 103 = (100 : Int32) from by decide), if_pos (show nI 103 = (103 : Int32) from rfl)]
    rw [told_desk n hD hv0, isTold_n n hD hw hv0]
    simp only [bsn]
    by_cases c : v0 < D
    · simp only [if_pos c, show ¬ (1 : Int32) = 0 from by decide, if_false]
      by_cases c2 : v1 < 5
      · rw [if_pos (show nI v1 < (5 : Int32) from nI_lt (b := 5) c2 (by decide)), if_neg (show ¬ (5 : Int32) ≤ nI v1 from nI_ge (b := 5) (by omega) (by decide)), sto_n (by omega) (by decide)]
        simp only [bsn, show ¬ (1 : Int32) = 0 from by decide, if_false]
        rw [show (86 : Int32) + nI v0 = nI (86 + v0) from nI_add 86 _, sto_n (by omega) (by decide)]
        simp only [bsn, show zb (1 : Int32) = some () from rfl]
        refine Or.inr ⟨e, nm5', nm6', D, _, _, _, _, _, _, _, _, _, _, _, _, z1, z2, rfl, rfl, KW.put (by omega) _, hD, rfl, ?_, ?_, ?_, ?_, ?_, ?_, oo⟩
        · exact (upd_ne (by omega)).trans hw
        · intro i hi
          obtain ⟨q1, q2, q3, q4, q5, q6, q7, q8⟩ := hr i hi
          have t1 : upd group v0 (nI v1) i = upd w (86 + v0) (nI v1) (86 + i) := by
            by_cases c3 : i = v0
            · subst c3
              rw [upd_at, upd_at]
            · rw [upd_ne c3, upd_ne (by omega)]
              exact q5
          exact ⟨q1.trans (upd_ne (by omega)).symm, q2.trans (upd_ne (by omega)).symm, q3.trans (upd_ne (by omega)).symm, q4.trans (upd_ne (by omega)).symm, t1, q6.trans (congrArg (fun z => z - (20 : Int32)) (upd_ne (by omega)).symm), q7, q8⟩
        · rw [upd_ne (by omega)]
          exact ho
        · exact es.trans (upd_ne (by omega)).symm
        · exact ew.trans (upd_ne (by omega)).symm
        · exact eu.trans (upd_ne (by omega)).symm
      · rw [if_neg (show ¬ nI v1 < (5 : Int32) from nI_nlt (b := 5) (by omega) (by omega)), if_pos (show (5 : Int32) ≤ nI v1 from nI_le (a := 5) (by omega) (by omega))]
        simp only [bsn, if_true]
        rw [show (86 : Int32) + 0 = nI 86 from by decide, sto_n (by decide) (by decide)]
        simp only [bsn, show zb (0 : Int32) = some () from rfl]
        exact Or.inl ⟨_, _, _, _, rfl, rfl, KW.put (by decide) _⟩
    · simp only [if_neg c, if_true, bsn]
      rw [show (86 : Int32) + 0 = nI 86 from by decide, sto_n (by decide) (by decide)]
      simp only [bsn, show zb (0 : Int32) = some () from rfl]
      exact Or.inl ⟨_, _, _, _, rfl, rfl, KW.put (by decide) _⟩
theorem nb_104 (n : Nat) : F_X3_numbersBehind n (nI 104) = some (nI 1) := by
  unfold F_X3_numbersBehind
  rw [if_neg (show ¬ nI 104 = (100 : Int32) from by decide), if_neg (show ¬ nI 104 = (103 : Int32) from by decide), if_pos (show nI 104 = (104 : Int32) from rfl)]
  rfl
theorem item_104 {n : Nat} (hn : 300 ≤ n) {L : Nat} {cc : Nat → Nat} {b t6 : Nat → Int32} (tt : TT L cc) (hb : CC L cc b) (h6 : CC L cc t6) {D : Nat} {w : Nat → Int32} {desks : Int32} {kind lean needs fh group fp : Nat → Int32} {oboe slip warmth unheard : Int32} (RT : R_told D w desks kind lean needs fh group fp oboe slip warmth unheard) {a : Nat} (ha : a < L) (nm5 nm6 : Nat → Int32) (hch : cc a = 104) : ITEM n L b t6 w desks kind lean needs fh group fp oboe slip warmth unheard a nm5 nm6 := by
  have hL := tt.1
  have RT0 := RT
  obtain ⟨hD, rfl, hw, hr, ho, es, ew, eu, oo⟩ := RT
  have hnb : F_X3_numbersBehind n (nI (cc a)) = some (nI 1) := by
    rw [hch]
    exact nb_104 n
  unfold ITEM
  unfold F_X6_takesItem
  rw [letter6 n tt h6 (by omega), if_pos ha, hch]
  simp only [bsn]
  rw [if_neg (show ¬ nI 104 = (100 : Int32) from by decide), if_neg (show ¬ nI 104 = (103 : Int32) from by decide), if_pos (show nI 104 = (104 : Int32) from rfl), nI_1]
  rcases item_class hn tt hb h6 (nI D) kind lean needs fh group fp oboe slip warmth unheard ha nm5 nm6 (by decide) (by decide) hnb with ⟨J, a6, nm6', f5, f6⟩ | ⟨e, nm5', nm6', z1, z2, nm, f6, f5⟩
  · rw [show F_X6_takesNumbers n t6 (nI L) (nI (a + 1)) nm6 (1 : Int32) = _ from f6]
    simp only [bsn, if_true]
    rw [show ld nm6' 4 (0 : Int32) = some (nm6' 0) from ld_n (i := 0) (by decide) (by decide), bs, show (105 : Int32) = nI 105 from rfl, sto_n (by decide) (by decide)]
    simp only [bsn]
    exact Or.inl ⟨_, _, _, _, f5, rfl, KW.put (by decide) _⟩
  · rw [show F_X6_takesNumbers n t6 (nI L) (nI (a + 1)) nm6 (1 : Int32) = _ from f6, f5, hch]
    unfold F_X3_takeItem
    obtain ⟨v0, hv0, a0, b0⟩ := nm 0 (by decide)
    simp only [bsn, show ¬ (1 : Int32) = 0 from by decide, if_false]
    simp only [show ld nm5' 4 (0 : Int32) = some (nm5' 0) from ld_n (i := 0) (by decide) (by decide), show ld nm5' 4 (1 : Int32) = some (nm5' 1) from ld_n (i := 1) (by decide) (by decide), show ld nm6' 4 (0 : Int32) = some (nm6' 0) from ld_n (i := 0) (by decide) (by decide), a0, b0, bsn]
    rw [if_neg (show ¬ nI 104 = (100 : Int32) from by decide), if_neg (show ¬ nI 104 = (103 : Int32) from by decide), if_pos (show nI 104 = (104 : Int32) from rfl)]
    rw [show (1 : Int64) = Int32.toInt64 1 from by decide, show (20 : Int64) = Int32.toInt64 20 from by decide, isFrom_in6, isFrom_val, show (105 : Int32) = nI 105 from rfl, sto_n (by decide) (by decide)]
    simp only [bsn]
    by_cases c : (1 : Int32) ≤ nI v0 ∧ nI v0 ≤ 20
    · simp only [if_pos c, show ¬ (1 : Int32) = 0 from by decide, if_false, bsn, show zb (1 : Int32) = some () from rfl]
      refine Or.inr ⟨e, nm5', nm6', D, _, _, _, _, _, _, _, _, _, _, _, _, z1, z2, rfl, rfl, KW.put (by decide) _, hD, rfl, hw, hr_mv hD (fun j h1 h2 => by unfold upd; rw [if_neg (by omega)]) hr, ho, es, ew, ?_, oo⟩
      unfold upd
      rw [if_pos rfl]
    · simp only [if_neg c, if_true, bsn, show zb (0 : Int32) = some () from rfl]
      exact Or.inl ⟨_, _, _, _, rfl, rfl, KW.put (by decide) _⟩
theorem nb_111 (n : Nat) : F_X3_numbersBehind n (nI 111) = some (nI 2) := by
  unfold F_X3_numbersBehind
  rw [if_neg (show ¬ nI 111 = (100 : Int32) from by decide), if_neg (show ¬ nI 111 = (103 : Int32) from by decide), if_neg (show ¬ nI 111 = (104 : Int32) from by decide), if_pos (show nI 111 = (111 : Int32) from rfl)]
  rfl
theorem item_111 {n : Nat} (hn : 300 ≤ n) {L : Nat} {cc : Nat → Nat} {b t6 : Nat → Int32} (tt : TT L cc) (hb : CC L cc b) (h6 : CC L cc t6) {D : Nat} {w : Nat → Int32} {desks : Int32} {kind lean needs fh group fp : Nat → Int32} {oboe slip warmth unheard : Int32} (RT : R_told D w desks kind lean needs fh group fp oboe slip warmth unheard) {a : Nat} (ha : a < L) (nm5 nm6 : Nat → Int32) (hch : cc a = 111) : ITEM n L b t6 w desks kind lean needs fh group fp oboe slip warmth unheard a nm5 nm6 := by
  have hL := tt.1
  have RT0 := RT
  obtain ⟨hD, rfl, hw, hr, ho, es, ew, eu, oo⟩ := RT
  have hnb : F_X3_numbersBehind n (nI (cc a)) = some (nI 2) := by
    rw [hch]
    exact nb_111 n
  unfold ITEM
  unfold F_X6_takesItem
  rw [letter6 n tt h6 (by omega), if_pos ha, hch]
  simp only [bsn]
  rw [if_neg (show ¬ nI 111 = (100 : Int32) from by decide), if_neg (show ¬ nI 111 = (103 : Int32) from by decide), if_neg (show ¬ nI 111 = (104 : Int32) from by decide), if_pos (show nI 111 = (111 : Int32) from rfl), nI_1]
  rcases item_class hn tt hb h6 (nI D) kind lean needs fh group fp oboe slip warmth unheard ha nm5 nm6 (by decide) (by decide) hnb with ⟨J, a6, nm6', f5, f6⟩ | ⟨e, nm5', nm6', z1, z2, nm, f6, f5⟩
  · rw [show F_X6_takesNumbers n t6 (nI L) (nI (a + 1)) nm6 (2 : Int32) = _ from f6]
    simp only [bsn, if_true]
    rw [show ld nm6' 4 (0 : Int32) = some (nm6' 0) from ld_n (i := 0) (by decide) (by decide), bs, show (102 : Int32) = nI 102 from rfl, sto_n (by decide) (by decide), bs, show ld nm6' 4 (1 : Int32) = some (nm6' 1) from ld_n (i := 1) (by decide) (by decide), bs, show (103 : Int32) = nI 103 from rfl, sto_n (by decide) (by decide)]
    simp only [bsn]
    exact Or.inl ⟨_, _, _, _, f5, rfl, (KW.put (by decide) _).tr (KW.put (by decide) _)⟩
  · rw [show F_X6_takesNumbers n t6 (nI L) (nI (a + 1)) nm6 (2 : Int32) = _ from f6, f5, hch]
    unfold F_X3_takeItem
    obtain ⟨v0, hv0, a0, b0⟩ := nm 0 (by decide)
    obtain ⟨v1, hv1, a1, b1⟩ := nm 1 (by decide)
    simp only [bsn, show ¬ (1 : Int32) = 0 from by decide, if_false]
    simp only [show ld nm5' 4 (0 : Int32) = some (nm5' 0) from ld_n (i := 0) (by decide) (by decide), show ld nm5' 4 (1 : Int32) = some (nm5' 1) from ld_n (i := 1) (by decide) (by decide), show ld nm6' 4 (0 : Int32) = some (nm6' 0) from ld_n (i := 0) (by decide) (by decide), show ld nm6' 4 (1 : Int32) = some (nm6' 1) from ld_n (i := 1) (by decide) (by decide), a0, b0, a1, b1, bsn]
    rw [if_neg (show ¬ nI 111 = (100 : Int32) from by decide), if_neg (show ¬ nI 111 = (103 : Int32) from by decide), if_neg (show ¬ nI 111 = (104 : Int32) from by decide), if_pos (show nI 111 = (111 : Int32) from rfl)]
    rw [show (102 : Int32) = nI 102 from rfl, show (103 : Int32) = nI 103 from rfl, sto_n (by decide) (by decide)]
    simp only [bsn]
    rw [sto_n (by decide) (by decide)]
    by_cases c : v0 ≤ 18
    · rw [if_neg (show ¬ (18 : Int32) < nI v0 from nI_nlt (a := 18) (by omega) (by decide)), if_neg (show ¬ (19 : Int32) ≤ nI v0 from nI_ge (b := 19) (by omega) (by decide))]
      by_cases c2 : v1 ≤ 3
      · rw [if_pos (show nI v1 ≤ (3 : Int32) from nI_le (b := 3) c2 (by decide)), if_neg (show ¬ (4 : Int32) ≤ nI v1 from nI_ge (b := 4) (by omega) (by decide))]
        simp only [bsn, show zb (1 : Int32) = some () from rfl]
        refine Or.inr ⟨e, nm5', nm6', D, _, _, _, _, _, _, _, _, _, _, _, _, z1, z2, rfl, rfl, (KW.put (by decide) _).tr (KW.put (by decide) _), hD, rfl, hw, hr_mv hD (fun j h1 h2 => by unfold upd; rw [if_neg (by omega), if_neg (by omega)]) hr, ?_, ?_, ew, eu, ?_⟩
        · unfold upd
          rw [if_neg (by decide), if_pos rfl]
        · unfold upd
          rw [if_pos rfl]
        · exact small_ok 9 hv0 (by decide)
      · rw [if_neg (show ¬ nI v1 ≤ (3 : Int32) from nI_ge (a := 3) (by omega) (by omega)), if_pos (show (4 : Int32) ≤ nI v1 from nI_le (a := 4) (by omega) (by omega))]
        simp only [bsn, show zb (0 : Int32) = some () from rfl]
        exact Or.inl ⟨_, _, _, _, rfl, rfl, (KW.put (by decide) _).tr (KW.put (by decide) _)⟩
    · rw [if_pos (show (18 : Int32) < nI v0 from nI_lt (a := 18) (by omega) (by omega)), if_pos (show (19 : Int32) ≤ nI v0 from nI_le (a := 19) (by omega) (by omega))]
      simp only [bsn, show zb (0 : Int32) = some () from rfl]
      exact Or.inl ⟨_, _, _, _, rfl, rfl, (KW.put (by decide) _).tr (KW.put (by decide) _)⟩
theorem nb_112 (n : Nat) : F_X3_numbersBehind n (nI 112) = some (nI 2) := by
  unfold F_X3_numbersBehind
  rw [if_neg (show ¬ nI 112 = (100 : Int32) from by decide), if_neg (show ¬ nI 112 = (103 : Int32) from by decide), if_neg (show ¬ nI 112 = (104 : Int32) from by decide), if_neg (show ¬ nI 112 = (111 : Int32) from by decide), if_pos (show nI 112 = (112 : Int32) from rfl)]
  rfl
theorem item_112 {n : Nat} (hn : 300 ≤ n) {L : Nat} {cc : Nat → Nat} {b t6 : Nat → Int32} (tt : TT L cc) (hb : CC L cc b) (h6 : CC L cc t6) {D : Nat} {w : Nat → Int32} {desks : Int32} {kind lean needs fh group fp : Nat → Int32} {oboe slip warmth unheard : Int32} (RT : R_told D w desks kind lean needs fh group fp oboe slip warmth unheard) {a : Nat} (ha : a < L) (nm5 nm6 : Nat → Int32) (hch : cc a = 112) : ITEM n L b t6 w desks kind lean needs fh group fp oboe slip warmth unheard a nm5 nm6 := by
  have hL := tt.1
  have RT0 := RT
  obtain ⟨hD, rfl, hw, hr, ho, es, ew, eu, oo⟩ := RT
  have hnb : F_X3_numbersBehind n (nI (cc a)) = some (nI 2) := by
    rw [hch]
    exact nb_112 n
  unfold ITEM
  unfold F_X6_takesItem
  rw [letter6 n tt h6 (by omega), if_pos ha, hch]
  simp only [bsn]
  rw [if_neg (show ¬ nI 112 = (100 : Int32) from by decide), if_neg (show ¬ nI 112 = (103 : Int32) from by decide), if_neg (show ¬ nI 112 = (104 : Int32) from by decide), if_neg (show ¬ nI 112 = (111 : Int32) from by decide), if_pos (show nI 112 = (112 : Int32) from rfl), nI_1]
  rcases item_class hn tt hb h6 (nI D) kind lean needs fh group fp oboe slip warmth unheard ha nm5 nm6 (by decide) (by decide) hnb with ⟨J, a6, nm6', f5, f6⟩ | ⟨e, nm5', nm6', z1, z2, nm, f6, f5⟩
  · rw [show F_X6_takesNumbers n t6 (nI L) (nI (a + 1)) nm6 (2 : Int32) = _ from f6]
    simp only [bsn, if_true]
    rw [show (94 : Int32) + 0 = nI 94 from by decide, sto_n (by decide) (by decide)]
    simp only [bsn]
    exact Or.inl ⟨_, _, _, _, f5, rfl, KW.put (by decide) _⟩
  · rw [show F_X6_takesNumbers n t6 (nI L) (nI (a + 1)) nm6 (2 : Int32) = _ from f6, f5, hch]
    unfold F_X3_takeItem
    obtain ⟨v0, hv0, a0, b0⟩ := nm 0 (by decide)
    obtain ⟨v1, hv1, a1, b1⟩ := nm 1 (by decide)
    simp only [bsn, show ¬ (1 : Int32) = 0 from by decide, if_false]
    simp only [show ld nm5' 4 (0 : Int32) = some (nm5' 0) from ld_n (i := 0) (by decide) (by decide), show ld nm5' 4 (1 : Int32) = some (nm5' 1) from ld_n (i := 1) (by decide) (by decide), show ld nm6' 4 (0 : Int32) = some (nm6' 0) from ld_n (i := 0) (by decide) (by decide), show ld nm6' 4 (1 : Int32) = some (nm6' 1) from ld_n (i := 1) (by decide) (by decide), a0, b0, a1, b1, bsn]
    rw [if_neg (show ¬ nI 112 = (100 : Int32) from by decide), if_neg (show ¬ nI 112 = (103 : Int32) from by decide), if_neg (show ¬ nI 112 = (104 : Int32) from by decide), if_neg (show ¬ nI 112 = (111 : Int32) from by decide), if_pos (show nI 112 = (112 : Int32) from rfl)]
    rw [told_desk n hD hv0, isTold_n n hD hw hv0]
    simp only [bsn]
    by_cases c : v0 < D
    · simp only [if_pos c, show ¬ (1 : Int32) = 0 from by decide, if_false]
      by_cases c2 : v1 ≤ 40
      · rw [if_pos (show nI v1 ≤ (40 : Int32) from nI_le (b := 40) c2 (by decide)), if_neg (show ¬ (41 : Int32) ≤ nI v1 from nI_ge (b := 41) (by omega) (by decide)), sto_n (by omega) (by decide)]
        simp only [bsn, show ¬ (1 : Int32) = 0 from by decide, if_false]
        rw [show (94 : Int32) + nI v0 = nI (94 + v0) from nI_add 94 _, sto_n (by omega) (by decide)]
        simp only [bsn, show zb (1 : Int32) = some () from rfl]
        refine Or.inr ⟨e, nm5', nm6', D, _, _, _, _, _, _, _, _, _, _, _, _, z1, z2, rfl, rfl, KW.put (by omega) _, hD, rfl, ?_, ?_, ?_, ?_, ?_, ?_, oo⟩
        · exact (upd_ne (by omega)).trans hw
        · intro i hi
          obtain ⟨q1, q2, q3, q4, q5, q6, q7, q8⟩ := hr i hi
          have t1 : upd fp v0 (nI v1 - 20) i = upd w (94 + v0) (nI v1) (94 + i) - 20 := by
            by_cases c3 : i = v0
            · subst c3
              rw [upd_at, upd_at]
            · rw [upd_ne c3, upd_ne (by omega)]
              exact q6
          have t2 : S_ok (upd fp v0 (nI v1 - 20) i) := by
            by_cases c3 : i = v0
            · subst c3
              rw [upd_at]
              exact small_ok 20 hv1 (by decide)
            · rw [upd_ne c3]
              exact q7
          exact ⟨q1.trans (upd_ne (by omega)).symm, q2.trans (upd_ne (by omega)).symm, q3.trans (upd_ne (by omega)).symm, q4.trans (upd_ne (by omega)).symm, q5.trans (upd_ne (by omega)).symm, t1, t2, q8⟩
        · rw [upd_ne (by omega)]
          exact ho
        · exact es.trans (upd_ne (by omega)).symm
        · exact ew.trans (upd_ne (by omega)).symm
        · exact eu.trans (upd_ne (by omega)).symm
      · rw [if_neg (show ¬ nI v1 ≤ (40 : Int32) from nI_ge (a := 40) (by omega) (by omega)), if_pos (show (41 : Int32) ≤ nI v1 from nI_le (a := 41) (by omega) (by omega))]
        simp only [bsn, if_true]
        rw [show (94 : Int32) + 0 = nI 94 from by decide, sto_n (by decide) (by decide)]
        simp only [bsn, show zb (0 : Int32) = some () from rfl]
        exact Or.inl ⟨_, _, _, _, rfl, rfl, KW.put (by decide) _⟩
    · simp only [if_neg c, if_true, bsn]
      rw [show (94 : Int32) + 0 = nI 94 from by decide, sto_n (by decide) (by decide)]
      simp only [bsn, show zb (0 : Int32) = some () from rfl]
      exact Or.inl ⟨_, _, _, _, rfl, rfl, KW.put (by decide) _⟩
theorem nb_119 (n : Nat) : F_X3_numbersBehind n (nI 119) = some (nI 1) := by
  unfold F_X3_numbersBehind
  rw [if_neg (show ¬ nI 119 = (100 : Int32) from by decide), if_neg (show ¬ nI 119 = (103 : Int32) from by decide), if_neg (show ¬ nI 119 = (104 : Int32) from by decide), if_neg (show ¬ nI 119 = (111 : Int32) from by decide), if_neg (show ¬ nI 119 = (112 : Int32) from by decide), if_pos (show nI 119 = (119 : Int32) from rfl)]
  rfl
theorem item_119 {n : Nat} (hn : 300 ≤ n) {L : Nat} {cc : Nat → Nat} {b t6 : Nat → Int32} (tt : TT L cc) (hb : CC L cc b) (h6 : CC L cc t6) {D : Nat} {w : Nat → Int32} {desks : Int32} {kind lean needs fh group fp : Nat → Int32} {oboe slip warmth unheard : Int32} (RT : R_told D w desks kind lean needs fh group fp oboe slip warmth unheard) {a : Nat} (ha : a < L) (nm5 nm6 : Nat → Int32) (hch : cc a = 119) : ITEM n L b t6 w desks kind lean needs fh group fp oboe slip warmth unheard a nm5 nm6 := by
  have hL := tt.1
  have RT0 := RT
  obtain ⟨hD, rfl, hw, hr, ho, es, ew, eu, oo⟩ := RT
  have hnb : F_X3_numbersBehind n (nI (cc a)) = some (nI 1) := by
    rw [hch]
    exact nb_119 n
  unfold ITEM
  unfold F_X6_takesItem
  rw [letter6 n tt h6 (by omega), if_pos ha, hch]
  simp only [bsn]
  rw [if_neg (show ¬ nI 119 = (100 : Int32) from by decide), if_neg (show ¬ nI 119 = (103 : Int32) from by decide), if_neg (show ¬ nI 119 = (104 : Int32) from by decide), if_neg (show ¬ nI 119 = (111 : Int32) from by decide), if_neg (show ¬ nI 119 = (112 : Int32) from by decide), if_pos (show nI 119 = (119 : Int32) from rfl), nI_1]
  rcases item_class hn tt hb h6 (nI D) kind lean needs fh group fp oboe slip warmth unheard ha nm5 nm6 (by decide) (by decide) hnb with ⟨J, a6, nm6', f5, f6⟩ | ⟨e, nm5', nm6', z1, z2, nm, f6, f5⟩
  · rw [show F_X6_takesNumbers n t6 (nI L) (nI (a + 1)) nm6 (1 : Int32) = _ from f6]
    simp only [bsn, if_true]
    rw [show ld nm6' 4 (0 : Int32) = some (nm6' 0) from ld_n (i := 0) (by decide) (by decide), bs, show (104 : Int32) = nI 104 from rfl, sto_n (by decide) (by decide)]
    simp only [bsn]
    exact Or.inl ⟨_, _, _, _, f5, rfl, KW.put (by decide) _⟩
  · rw [show F_X6_takesNumbers n t6 (nI L) (nI (a + 1)) nm6 (1 : Int32) = _ from f6, f5, hch]
    unfold F_X3_takeItem
    obtain ⟨v0, hv0, a0, b0⟩ := nm 0 (by decide)
    simp only [bsn, show ¬ (1 : Int32) = 0 from by decide, if_false]
    simp only [show ld nm5' 4 (0 : Int32) = some (nm5' 0) from ld_n (i := 0) (by decide) (by decide), show ld nm5' 4 (1 : Int32) = some (nm5' 1) from ld_n (i := 1) (by decide) (by decide), show ld nm6' 4 (0 : Int32) = some (nm6' 0) from ld_n (i := 0) (by decide) (by decide), a0, b0, bsn]
    rw [if_neg (show ¬ nI 119 = (100 : Int32) from by decide), if_neg (show ¬ nI 119 = (103 : Int32) from by decide), if_neg (show ¬ nI 119 = (104 : Int32) from by decide), if_neg (show ¬ nI 119 = (111 : Int32) from by decide), if_neg (show ¬ nI 119 = (112 : Int32) from by decide), if_pos (show nI 119 = (119 : Int32) from rfl)]
    rw [show (104 : Int32) = nI 104 from rfl, sto_n (by decide) (by decide)]
    by_cases c : v0 ≤ 3
    · rw [if_pos (show nI v0 ≤ (3 : Int32) from nI_le (b := 3) c (by decide)), if_neg (show ¬ (4 : Int32) ≤ nI v0 from nI_ge (b := 4) (by omega) (by decide))]
      simp only [bsn, show zb (1 : Int32) = some () from rfl]
      refine Or.inr ⟨e, nm5', nm6', D, _, _, _, _, _, _, _, _, _, _, _, _, z1, z2, rfl, rfl, KW.put (by decide) _, hD, rfl, hw, hr_mv hD (fun j h1 h2 => by unfold upd; rw [if_neg (by omega)]) hr, ho, es, ?_, eu, oo⟩
      unfold upd
      rw [if_pos rfl]
    · rw [if_neg (show ¬ nI v0 ≤ (3 : Int32) from nI_ge (a := 3) (by omega) (by omega)), if_pos (show (4 : Int32) ≤ nI v0 from nI_le (a := 4) (by omega) (by omega))]
      simp only [bsn, show zb (0 : Int32) = some () from rfl]
      exact Or.inl ⟨_, _, _, _, rfl, rfl, KW.put (by decide) _⟩
theorem item_both {n : Nat} (hn : 300 ≤ n) {L : Nat} {cc : Nat → Nat} {b t6 : Nat → Int32} (tt : TT L cc) (hb : CC L cc b) (h6 : CC L cc t6) {D : Nat} {w : Nat → Int32} {desks : Int32} {kind lean needs fh group fp : Nat → Int32} {oboe slip warmth unheard : Int32} (RT : R_told D w desks kind lean needs fh group fp oboe slip warmth unheard) {a : Nat} (ha : a < L) (nm5 nm6 : Nat → Int32) : ITEM n L b t6 w desks kind lean needs fh group fp oboe slip warmth unheard a nm5 nm6 := by
  have hL := tt.1
  have hcc := tt.2 a ha
  by_cases c100 : cc a = 100
  · exact item_100 hn tt hb h6 RT ha nm5 nm6 c100
  by_cases c103 : cc a = 103
  · exact item_103 hn tt hb h6 RT ha nm5 nm6 c103
  by_cases c104 : cc a = 104
  · exact item_104 hn tt hb h6 RT ha nm5 nm6 c104
  by_cases c111 : cc a = 111
  · exact item_111 hn tt hb h6 RT ha nm5 nm6 c111
  by_cases c112 : cc a = 112
  · exact item_112 hn tt hb h6 RT ha nm5 nm6 c112
  by_cases c119 : cc a = 119
  · exact item_119 hn tt hb h6 RT ha nm5 nm6 c119
  unfold ITEM
  unfold F_X3_readItem F_X6_takesItem F_X3_numbersBehind
  rw [letter5 n tt hb (by omega), letter6 n tt h6 (by omega), if_pos ha, if_pos ha]
  simp only [bsn]
  rw [if_neg (show ¬ nI (cc a) = (100 : Int32) from nI_ne (b := 100) (by omega) (by decide) c100), if_neg (show ¬ nI (cc a) = (103 : Int32) from nI_ne (b := 103) (by omega) (by decide) c103), if_neg (show ¬ nI (cc a) = (104 : Int32) from nI_ne (b := 104) (by omega) (by decide) c104), if_neg (show ¬ nI (cc a) = (111 : Int32) from nI_ne (b := 111) (by omega) (by decide) c111), if_neg (show ¬ nI (cc a) = (112 : Int32) from nI_ne (b := 112) (by omega) (by decide) c112), if_neg (show ¬ nI (cc a) = (119 : Int32) from nI_ne (b := 119) (by omega) (by decide) c119), if_neg (show ¬ nI (cc a) = (100 : Int32) from nI_ne (b := 100) (by omega) (by decide) c100), if_neg (show ¬ nI (cc a) = (103 : Int32) from nI_ne (b := 103) (by omega) (by decide) c103), if_neg (show ¬ nI (cc a) = (104 : Int32) from nI_ne (b := 104) (by omega) (by decide) c104), if_neg (show ¬ nI (cc a) = (111 : Int32) from nI_ne (b := 111) (by omega) (by decide) c111), if_neg (show ¬ nI (cc a) = (112 : Int32) from nI_ne (b := 112) (by omega) (by decide) c112), if_neg (show ¬ nI (cc a) = (119 : Int32) from nI_ne (b := 119) (by omega) (by decide) c119)]
  simp only [bsn, if_true]
  exact Or.inl ⟨_, _, _, _, rfl, rfl, fun _ _ => rfl⟩
