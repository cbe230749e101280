/-! LAY. -/
theorem R_hall.kw {N : Nat} {w w' : Nat → Int32} {desks : Int32} {kind lean needs group : Nat → Int32} {slip warmth unheard : Int32} (RH : R_hall N w desks kind lean needs group slip warmth unheard) (kw : KW w w') : R_hall N w' desks kind lean needs group slip warmth unheard := by
  obtain ⟨h1, hN, ed, hw, ak, al, an, ag, es, ew, eu⟩ := RH
  refine ⟨h1, hN, ed, (kw 0 (by decide)).trans hw, fun i hi => (ak i hi).trans ?_, fun i hi => (al i hi).trans ?_, fun i hi => (an i hi).trans ?_, fun i hi => (ag i hi).trans ?_, es.trans (kw 50 (by decide)).symm, ew.trans (kw 51 (by decide)).symm, eu.trans (kw 52 (by decide)).symm⟩
  · exact (kw (1 + i) (by omega)).symm
  · exact (kw (9 + i) (by omega)).symm
  · exact (kw (17 + i) (by omega)).symm
  · exact (kw (33 + i) (by omega)).symm
theorem op_lay {n : Nat} (hn : 300 ≤ n) {N : Nat} {w d : Nat → Int32} {desks : Int32} {kind lean needs group : Nat → Int32} {slip warmth unheard : Int32} (RH : R_hall N w desks kind lean needs group slip warmth unheard) {p h : Nat → Int32} {o t : Int32} (RS : R_st N p h o t d 0)
    {P H : Nat → Nat → Int32} {O T : Nat → Int32} {x u : Nat} (RU : R_sh 8 54 N P H O T x u d) {P2 H2 : Nat → Nat → Int32} {O2 T2 : Nat → Int32} {x2 u2 : Nat} (RK : R_sh 2 18 N P2 H2 O2 T2 x2 u2 d) {c5 c6 : Int32} {s5 m5 s6 m6 : Nat → Int32} (RT : R_tg N c5 c6 s5 m5 s6 m6)
    {l5 l6 : Int32} {t5 t6 : Nat → Int32} (RX : R_tx l5 l6 t5 t6) (nm5 nm6 fh fp : Nat → Int32) (oboe : Int32) (tk tl tn tf tg tp : Nat → Int32) :
    ∃ r c5' pl nm5' desks' oboe' slip' warmth' unheard' kind' lean' needs' fh' group' fp' y0 y1 y2 y3 y4 y5 y6 y7 y8 y9 y10 o' t' p' h' u' u2' N' at6 c6' w' d' nm6',
      F_X5_layText n t5 l5 nm5 desks kind lean needs fh group fp oboe slip warmth unheard tk tl tn tf tg tp p h o t (nI u) (nI u2) c5 = some (r, c5', pl, nm5', desks', oboe', slip', warmth', unheard', kind', lean', needs', fh', group', fp', y0, y1, y2, y3, y4, y5, y6, y7, y8, y9, y10, o', t', p', h', nI u', nI u2') ∧
      F_X6_lay n w d (nI u) (nI u2) t6 l6 nm6 c6 = some (r, nI u', nI u2', at6, c6', w', d', nm6') ∧
      R_hall N' w' desks' kind' lean' needs' group' slip' warmth' unheard' ∧ R_st N' p' h' o' t' d' 0 ∧ R_sh 8 54 N' P H O T x u' d' ∧ R_sh 2 18 N' P2 H2 O2 T2 x2 u2' d' ∧ R_tg N' c5' c6' s5 m5 s6 m6 := by
  obtain ⟨L, cc, rfl, rfl, tt, hb, h6⟩ := tx_cc RX
  obtain ⟨r, pl, n5, desks', oboe', slip', warmth', unheard', kind', lean', needs', fh', group', fp', at6, w2, n6, D, g5, g6, kw, hr⟩ := fault_both hn tt hb h6 nm5 nm6 w tk tl tn tf tg tp
  unfold F_X5_layText F_X6_lay
  rw [g5, g6]
  simp only [bsn]
  by_cases e4 : r = -4
  · obtain ⟨hD, rfl, w53, hr2, eo, es, ew, eu, oo⟩ := hr e4
    have hf : ∀ i, i < D → fh' i = w2 (78 + i) ∧ ∃ a, a ≤ 9 ∧ fh' i = nI a := fun i hi => ⟨(hr2 i hi).2.2.2.1, (hr2 i hi).2.2.2.2.2.2.2⟩
    rw [if_pos e4, if_pos e4, show ld w2 106 (53 : Int32) = some (w2 53) from ld_n (i := 53) (by decide) (by decide), w53]
    simp only [bsn]
    rcases Nat.eq_zero_or_pos D with e0 | h0
    · subst e0
      obtain ⟨z, hz⟩ := laid6 (T2 := (r, at6, w2, n6)) (w := w2) (fh := fh') (D := 0) (by omega) rfl w53 (fun i hi => absurd hi (Nat.not_lt_zero _)) 0 0 n 0 (by omega) (by omega) (Or.inl rfl)
      rw [if_pos (show (0 : Int32) = 0 from rfl)] at hz
      have c0 : F_X0_canBeLaid n (nI 0) fh' = some 0 := by
        obtain ⟨k, hk⟩ : ∃ k, n = k + 1 := ⟨n - 1, by omega⟩
        unfold F_X0_canBeLaid
        rw [hk, L_X0_canBeLaid_2, if_pos (show nI 0 ≤ (0 : Int32) from by decide), if_pos (show nI 0 ≤ (0 : Int32) from by decide)]
      rw [if_pos (show nI 0 ≤ (0 : Int32) from by decide), c0]
      simp only [bsn]
      rw [show L_X6_lay_27 (r, at6, w2, n6) n 0 0 = _ from hz]
      simp only [bsn, if_true]
      exact ⟨_, _, _, _, _, _, _, _, _, _, _, _, _, _, _, _, _, _, _, _, _, _, _, _, _, _, _, _, _, _, u, u2, N, _, _, _, _, _, rfl, rfl, RH.kw kw, RS, RU, RK, RT⟩
    · obtain ⟨z, hz⟩ := laid6 (T2 := (r, at6, w2, n6)) (w := w2) (fh := fh') hD rfl w53 hf D 0 n 1 (by omega) (by omega) (Or.inr rfl)
      rw [if_neg (show ¬ (1 : Int32) = 0 from by decide)] at hz
      have hc : F_X0_canBeLaid n (nI D) fh' = some (if S_cl (GB D fh') D 0 = true then 1 else 0) := laid5 hD h0 fh' D 0 n (by omega) (by omega)
      rw [if_neg (show ¬ nI D ≤ (0 : Int32) from nI_ge (a := 0) h0 (by omega)), hc]
      simp only [bsn]
      rw [show L_X6_lay_27 (r, at6, w2, n6) n 1 0 = _ from hz]
      simp only [bsn]
      by_cases g : S_cl (GB D fh') D 0 = true
      · simp only [if_pos g, show ¬ (1 : Int32) = 0 from by decide, if_false]
        obtain ⟨w', d', q0, q1, q2, q3, q4, q5⟩ := comes6_n hn w2 d
        have hall := cl_all _ D 0 g
        rw [begin_n hn hD, q0, show F_X1_empty_c8 n = some (nI 0) from rfl, show F_X1_empty_c2 n = some (nI 0) from rfl]
        simp only [bsn]
        have w0 : w' 0 = nI D := (q1 0 (by decide)).trans w53
        rw [show ld w' 106 (0 : Int32) = some (w' 0) from ld_n (i := 0) (by decide) (by decide), w0]
        simp only [bsn]
        refine ⟨_, _, _, _, _, _, _, _, _, _, _, _, _, _, _, _, _, _, _, _, _, _, _, _, _, _, _, _, _, _, 0, 0, D, _, _, _, _, _, rfl, rfl, ?_, ?_, R_sh.emp RU.1 _, R_sh.emp RK.1 _, ⟨0, by omega, rfl, rfl, fun i hi => absurd hi (Nat.not_lt_zero _)⟩⟩
        · refine ⟨h0, hD, rfl, w0, fun i hi => (hr2 i hi).1.trans ?_, fun i hi => (hr2 i hi).2.1.trans ?_, fun i hi => (hr2 i hi).2.2.1.trans ?_, fun i hi => (hr2 i hi).2.2.2.2.1.trans ?_, es.trans (q1 50 (by decide)).symm, ew.trans (q1 51 (by decide)).symm, eu.trans (q1 52 (by decide)).symm⟩
          · show _ = w' (1 + i)
            rw [q1 _ (by omega), show 53 + (1 + i) = 54 + i from by omega]
          · show _ = w' (9 + i)
            rw [q1 _ (by omega), show 53 + (9 + i) = 62 + i from by omega]
          · show _ = w' (17 + i)
            rw [q1 _ (by omega), show 53 + (17 + i) = 70 + i from by omega]
          · show _ = w' (33 + i)
            rw [q1 _ (by omega), show 53 + (33 + i) = 86 + i from by omega]
        · refine ⟨fun i hi => ?_, fun i hi => ?_, ?_, ?_, fun i hi => ?_, oo, fun i hi => ?_⟩
          · rw [S_fill_in hi, Nat.zero_add, q2 i (by omega)]
            exact (hr2 i hi).2.2.2.2.2.1
          · rw [S_fill_in hi, Nat.zero_add, q3 i (by omega)]
            exact (hr2 i hi).2.2.2.1
          · rw [Nat.zero_add, q4]
            exact eo
          · rw [Nat.zero_add, q5]
          · rw [S_fill_in hi]
            exact (hr2 i hi).2.2.2.2.2.2.1
          · rw [S_fill_in hi]
            have gi := of_decide_eq_true (hall i (by omega) (by omega))
            obtain ⟨-, a, ha, fa⟩ := hf i hi
            rcases gi with q | q | ⟨⟨-, q⟩, -⟩
            · exact ⟨8, q, Or.inr (Or.inl rfl)⟩
            · exact ⟨9, q, Or.inr (Or.inr rfl)⟩
            · rw [fa] at q
              exact ⟨a, fa, Or.inl ((nI_ltI (by omega) (by omega)).mp q)⟩
      · simp only [if_neg g, if_true]
        exact ⟨_, _, _, _, _, _, _, _, _, _, _, _, _, _, _, _, _, _, _, _, _, _, _, _, _, _, _, _, _, _, u, u2, N, _, _, _, _, _, rfl, rfl, RH.kw kw, RS, RU, RK, RT⟩
  · rw [if_neg e4, if_neg e4]
    simp only [bsn]
    have stop : ∃ z, L_X6_lay_27 (r, at6, w2, n6) n 0 0 = some (0, z) := by
      obtain ⟨k, hk⟩ : ∃ k, n = k + 1 := ⟨n - 1, by omega⟩
      rw [hk, L_X6_lay_27]
      show ∃ z, Option.bind (ld w2 106 (53 : Int32)) _ = some (0, z)
      rw [show ld w2 106 (53 : Int32) = some (w2 53) from ld_n (i := 53) (by decide) (by decide), bs]
      by_cases q : w2 53 ≤ 0
      · rw [if_pos q]
        exact ⟨_, rfl⟩
      · rw [if_neg q, if_pos (show (0 : Int32) = 0 from rfl)]
        exact ⟨_, rfl⟩
    obtain ⟨z, hz⟩ := stop
    rw [hz]
    simp only [bsn, if_true]
    exact ⟨_, _, _, _, _, _, _, _, _, _, _, _, _, _, _, _, _, _, _, _, _, _, _, _, _, _, _, _, _, _, u, u2, N, _, _, _, _, _, rfl, rfl, RH.kw kw, RS, RU, RK, RT⟩
