/-! How both begin, the constructor's own loop included. -/
theorem init_loop : ∀ (k i : Nat) (f : Nat → Int32), i ≤ 81 → 81 - i < k → L_X5_init_143 k (nI i) f = some (nI 81, fun j => if i ≤ j ∧ j < 81 then c7 j else f j) := by
  intro k
  induction k with
  | zero =>
    intro i f h1 h2
    exact absurd h2 (by omega)
  | succ k ih =>
    intro i f h1 h2
    rw [L_X5_init_143]
    by_cases h : i = 81
    · subst h
      rw [if_pos (show (81 : Int32) ≤ nI 81 by decide)]
      refine congrArg (fun g => some (nI 81, g)) (funext fun j => ?_)
      rw [if_neg (show ¬ (81 ≤ j ∧ j < 81) by omega)]
    · rw [if_neg (show ¬ (81 : Int32) ≤ nI i from nI_ge (b := 81) (by omega) (by decide)), if_neg (show ¬ (200 : Int32) ≤ nI i from nI_ge (b := 200) (by omega) (by decide)), ld_n (by omega) (by decide), bs, sto_n (by omega) (by decide), bs, show nI i + (1 : Int32) = nI (i + 1) from nI_1 i, ih (i + 1) _ (by omega) (by omega)]
      refine congrArg (fun g => some (nI 81, g)) (funext fun j => ?_)
      by_cases hj : j = i
      · subst hj
        rw [if_neg (show ¬ (j + 1 ≤ j ∧ j < 81) by omega), if_pos (show j ≤ j ∧ j < 81 by omega)]
        simp [upd]
      · by_cases hq : i ≤ j ∧ j < 81
        · rw [if_pos hq, if_pos (show i + 1 ≤ j ∧ j < 81 by omega)]
        · rw [if_neg hq, if_neg (show ¬ (i + 1 ≤ j ∧ j < 81) by omega)]
          simp [upd, hj]
theorem init_loop0 : L_X5_init_143 300 (0 : Int32) (fun _ => 0) = some (nI 81, S_text Z8) := by
  rw [show (0 : Int32) = nI 0 from rfl, init_loop 300 0 _ (by decide) (by decide)]
  refine congrArg (fun g => some (nI 81, g)) (funext fun j => ?_)
  unfold S_text
  by_cases hj : j < 81
  · rw [if_pos hj, if_pos (show 0 ≤ j ∧ j < 81 by omega)]
    rfl
  · rw [if_neg hj, if_neg (show ¬ (0 ≤ j ∧ j < 81) by omega)]
    rfl
theorem ex_some {α : Type} {x : Option α} (h : x.isSome = true) : ∃ v, x = some v := by
  cases x with
  | none => cases h
  | some v => exact ⟨v, rfl⟩
theorem init_both : ∃ pl nm desks oboe slip warmth unheard kind lean needs fh group fp y0 y1 y2 y3 y4 y5 y6 y7 y8 y9 y10 o t p h w d,
    F_X5_init 300 = some (0, S_text Z8, pl, nm, desks, oboe, slip, warmth, unheard, kind, lean, needs, fh, group, fp, y0, y1, y2, y3, y4, y5, y6, y7, y8, y9, y10, o, t, p, h, 0, 0) ∧
    F_X6_init 300 = some (0, 0, 0, w, d) ∧ R_hall 5 w desks kind lean needs group slip warmth unheard ∧ R_st 5 p h o t d 0 := by
  obtain ⟨pl, nm, desks, oboe, slip, warmth, unheard, kind, lean, needs, fh, group, fp, y0, y1, y2, y3, y4, y5, y6, y7, y8, y9, y10, o, t, p, h, w, d, e5, e6, RH, RS⟩ := begin_both
  refine ⟨pl, nm, desks, oboe, slip, warmth, unheard, kind, lean, needs, fh, group, fp, y0, y1, y2, y3, y4, y5, y6, y7, y8, y9, y10, o, t, p, h, w, d, ?_, e6, RH, RS⟩
  obtain ⟨a3, h3⟩ : ∃ v, F_X3_init 300 = some v := ex_some (by decide +kernel)
  obtain ⟨a0, h0⟩ : ∃ v, F_X0_init 300 = some v := ex_some (by decide +kernel)
  obtain ⟨a2, h2⟩ : ∃ v, F_X2_init 300 = some v := ex_some (by decide +kernel)
  obtain ⟨a8, h8⟩ : ∃ v, F_X1_init_c8 300 = some v := ex_some (by decide +kernel)
  obtain ⟨b2, g2⟩ : ∃ v, F_X1_init_c2 300 = some v := ex_some (by decide +kernel)
  obtain ⟨a4, h4⟩ : ∃ v, F_X4_init 300 = some v := ex_some (by decide +kernel)
  have e5' : F_X5_layText 300 (S_text Z8) (81 : Int32) (fun _ => 0) (0 : Int32) (fun _ => 0) (fun _ => 0) (fun _ => 0) (fun _ => 0) (fun _ => 0) (fun _ => 0) (0 : Int32) (0 : Int32) (0 : Int32) (0 : Int32) (fun _ => 0) (fun _ => 0) (fun _ => 0) (fun _ => 0) (fun _ => 0) (fun _ => 0) (fun _ => 0) (fun _ => 0) (0 : Int32) (0 : Int32) (0 : Int32) (0 : Int32) (0 : Int32) = some (5, 0, pl, nm, desks, oboe, slip, warmth, unheard, kind, lean, needs, fh, group, fp, y0, y1, y2, y3, y4, y5, y6, y7, y8, y9, y10, o, t, p, h, 0, 0) := e5
  unfold F_X5_init
  rw [h3, bs, h0, bs, bs, h2, bs, h8, bs, g2, bs, h4, bs, bs, bs, init_loop0, bs, if_neg (show ¬ (200 : Int32) < 81 by decide), e5', bs]
