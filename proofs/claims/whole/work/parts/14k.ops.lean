/-! The deeds. -/
/-- what was kept stays -/
def KP (d d' : Nat → Int32) : Prop := ∀ j, 18 ≤ j → j < 54 → d' j = d j
def S_stay (D : Nat → Int32) : Nat → Int32 := fun j => if j < 18 then D (198 + j) else D j
theorem stays_dd {n : Nat} (hn : 300 ≤ n) (d : Nat → Int32) : F_X6_stays n d = some (S_stay d) := stays6_n hn d
theorem stay_hi {d1 q : Nat → Int32} {o t : Int32} {j : Nat} (h : 18 ≤ j) (h2 : j < 198) : S_stay (S_put (S_lay d1) q o t) j = d1 j := by
  unfold S_stay
  rw [if_neg (by omega), put_lo h2, lay_lo d1 h2]
theorem stay_st {N : Nat} (hN : N ≤ 8) {p h p' q : Nat → Int32} {o t o' t' : Int32} {d1 : Nat → Int32} (RS : R_st N p h o t d1 0) (g : AG N p' q) (ok : OKN N p') (oo : S_ok o') : R_st N p' h o' t' (S_stay (S_put (S_lay d1) q o' t')) 0 := by
  obtain ⟨r1, r2, r3, r4, r5, r6, r7⟩ := RS
  refine ⟨fun i hi => ?_, fun i hi => ?_, ?_, ?_, ok, oo, r7⟩
  · unfold S_stay
    rw [Nat.zero_add, if_pos (show i < 18 by omega), put_p (by omega)]
    exact g i hi
  · unfold S_stay
    rw [Nat.zero_add, if_pos (show 10 + i < 18 by omega), show 198 + (10 + i) = 208 + i from by omega, put_hi (by omega)]
    have := lay_h d1 (k := i) (by omega)
    unfold HT at this
    rw [this, r2 i hi, Nat.zero_add]
  · unfold S_stay
    rw [if_pos (show 0 + 8 < 18 by omega)]
    exact (put_o (S_lay d1) q o' t').symm
  · unfold S_stay
    rw [if_pos (show 0 + 9 < 18 by omega)]
    exact (put_t (S_lay d1) q o' t').symm
theorem mind_st {N : Nat} (hN : N ≤ 8) {p h : Nat → Int32} {o t : Int32} {d : Nat → Int32} (RS : R_st N p h o t d 0) (u : Nat) : R_st N p h o t (S_mind d u) 0 := RS.mv hN (fun j hj => mind_lo (by omega))
theorem op_tune {n : Nat} (hn : 300 ≤ n) {N : Nat} {w d : Nat → Int32} {desks : Int32} {kind lean needs group : Nat → Int32} {slip warmth unheard : Int32} (RH : R_hall N w desks kind lean needs group slip warmth unheard) {p h : Nat → Int32} {o t : Int32} (RS : R_st N p h o t d 0) {P H : Nat → Nat → Int32} {O T : Nat → Int32} {x u : Nat} (RU : R_sh 8 54 N P H O T x u d) (ap ah : Nat → Int32) (ao at' z k0 : Int32) (th le0 : Nat → Int32) (draws6 m0 y : Int32) :
    ∃ r P' H' O' T' x' u' p' o' t' J dr6 k6 d' th' le', F_X5_tune n desks kind lean needs slip warmth p h o t (P 0) (H 0) (O 0) (T 0) (P 1) (H 1) (O 1) (T 1) (P 2) (H 2) (O 2) (T 2) (P 3) (H 3) (O 3) (T 3) (P 4) (H 4) (O 4) (T 4) (P 5) (H 5) (O 5) (T 5) (P 6) (H 6) (O 6) (T 6) (P 7) (H 7) (O 7) (T 7) (nI x) (nI u) ap ah ao at' (-1) 0 z k0 y = some (r, o', t', p', nI x', nI u', O' 0, T' 0, P' 0, H' 0, O' 1, T' 1, P' 1, H' 1, O' 2, T' 2, P' 2, H' 2, O' 3, T' 3, P' 3, H' 3, O' 4, T' 4, P' 4, H' 4, O' 5, T' 5, P' 5, H' 5, O' 6, T' 6, P' 6, H' 6, O' 7, T' 7, P' 7, H' 7, J) ∧
      F_X6_tune n w d (nI u) th le0 draws6 m0 y = some (r, nI u', dr6, k6, d', th', le') ∧ R_st N p' h o' t' d' 0 ∧ R_sh 8 54 N P' H' O' T' x' u' d' ∧ KP d d' := by
  have RU0 := RU
  obtain ⟨h1, hN, ed, hw, ak, al, an, ag, es, ew, eu⟩ := RH
  subst ed
  subst es
  subst ew
  have hx := RU.1
  have hu := RU.2.1
  have p2 := two8 hN
  unfold F_X5_tune F_X6_tune
  rw [isSomeSet_n n hN, isSet6_n n hN hw]
  simp only [bs]
  by_cases cy : (1 : Int32) ≤ y ∧ y ≤ nI (2 ^ N - 1)
  · obtain ⟨s, hs, hs2, rfl⟩ := set_of hN cy
    have RSm := mind_st hN RS u
    have hlay := lay_HT hN RSm
    have gA0 : AG N p (PT (S_lay (S_mind d u))) := fun i hi => by
      rw [lay_PT]
      show p i = if i < 8 then S_mind d u i else 0
      rw [if_pos (by omega), RSm.1 i hi, Nat.zero_add]
    have ho : o = S_lay (S_mind d u) 206 := by rw [lay_o, RSm.2.2.1, Nat.zero_add]
    have ht : t = S_lay (S_mind d u) 207 := by rw [lay_t, RSm.2.2.2.1, Nat.zero_add]
    have so := RS.2.2.2.2.2.1
    have hh := RS.2.2.2.2.2.2
    have hleM := lean_8 (le0 := le0) hN al
    have gA : SG false N (S_tune N kind needs (w 50) (w 51) (fun i => lean i - 3) h false z s (p, o, t, k0)) (S_tune N (W_kind w) (W_needs w) (w 50) (w 51) (S_fill (fun i => W_lean w i - 3) le0 8) (HT (S_lay (S_mind d u))) false (-1) s (PT (S_lay (S_mind d u)), S_lay (S_mind d u) 206, S_lay (S_mind d u) 207, 0)) :=
      tune_ag hN ak an hleM.sym hlay.sym hh (w 50) (w 51) false (fun q => by cases q) s (a := (p, o, t, k0)) (b := (PT (S_lay (S_mind d u)), S_lay (S_mind d u) 206, S_lay (S_mind d u) 207, 0)) ⟨gA0, ho, ht, fun q => by cases q⟩
    have okA := tune_ok (N := N) (kind := kind) (needs := needs) (le := fun i => lean i - 3) (h := h) (slip := w 50) (warmth := w 51) (dr := false) (z := z) (m := s) (a := (p, o, t, k0)) so
    have f1 := letTune_n hn hN (kind := kind) (lean := lean) (needs := needs) (le := fun i => lean i - 3) (p := p) (h := h) (slip := w 50) (warmth := w 51) (o := o) (t := t) (st := -1) (draws := 0) (z := z) (k0 := k0) (dr := false) (m := s) (by omega) (hh.ok hN) (lean_st hN lean) rfl ap ah
    obtain ⟨th', f2⟩ := tunes6_n hn hN (d := S_lay (S_mind d u)) (le := S_fill (fun i => W_lean w i - 3) le0 8) (th := th) hw (draws := -1) (k0 := 0) (dr := false) (m := s) (by omega) ((hh.ag hlay.sym).ok hN) (by decide) (by rw [← ho]; exact so)
    generalize S_tune N kind needs (w 50) (w 51) (fun i => lean i - 3) h false z s (p, o, t, k0) = A at f1 gA okA
    generalize S_tune N (W_kind w) (W_needs w) (w 50) (w 51) (S_fill (fun i => W_lean w i - 3) le0 8) (HT (S_lay (S_mind d u))) false (-1) s (PT (S_lay (S_mind d u)), S_lay (S_mind d u) 206, S_lay (S_mind d u) 207, 0) = B at f2 gA
    obtain ⟨g1, g2, g3, -⟩ := gA
    rw [if_neg (fun q => (ite01 _).mp q cy), if_neg (show ¬ (if (0 : Int32) ≤ nI s ∧ nI s ≤ nI (2 ^ N - 1) then (1 : Int32) else 0) = 0 from fun q => (ite01 _).mp q ⟨nI_pos' (by omega), cy.2⟩), if_neg (show ¬ nI s = (0 : Int32) from nI_ne (b := 0) (by omega) (by decide) (by omega)), put8_n hn P H O T hx hu, minds6_n hn hu]
    simp only [bs]
    rw [f1, lays_dd hn]
    simp only [bs]
    rw [laysLeans6_n hn]
    simp only [bs]
    rw [f2]
    simp only [bs]
    rw [stays_dd hn]
    simp only [bs]
    refine ⟨_, setF P x (S_fill p (P x) 8), setF H x (S_fill h (H x) 8), upd O x o, upd T x t, (x + 1) % 8, if u = 8 then 8 else u + 1, A.1, A.2.1, A.2.2.1, _, _, _, _, _, _, rfl, congrArg some (by rw [secs_ag ak an s]), ?_, ?_, ?_⟩
    · rw [← g2, ← g3]
      exact stay_st hN RSm g1 okA.1 okA.2
    · exact (RU.mind hN RS).mv hN (fun j h1 h2 => stay_hi (by omega) (by omega))
    · intro j h1 h2
      rw [stay_hi h1 (by omega), mind_lo h2]
  · rw [if_pos ((ite01 _).mpr cy)]
    by_cases c2 : (0 : Int32) ≤ y ∧ y ≤ nI (2 ^ N - 1)
    · rw [if_neg (show ¬ (if (0 : Int32) ≤ y ∧ y ≤ nI (2 ^ N - 1) then (1 : Int32) else 0) = 0 from fun q => (ite01 _).mp q c2)]
      have x0 : y = 0 := by
        rw [fa_le, fa_le, show (1 : Int32).toInt = 1 from by decide] at cy
        have k1 := c2.1
        have k2 := c2.2
        rw [fa_le] at k1 k2
        rw [show (0 : Int32).toInt = 0 from by decide] at k1
        rw [fa_eq, show (0 : Int32).toInt = 0 from by decide]
        omega
      rw [if_pos x0]
      exact ⟨_, P, H, O, T, x, u, _, _, _, _, _, _, _, _, _, rfl, rfl, RS, RU0, fun _ _ _ => rfl⟩
    · rw [if_pos (show (if (0 : Int32) ≤ y ∧ y ≤ nI (2 ^ N - 1) then (1 : Int32) else 0) = 0 from (ite01 _).mpr c2)]
      exact ⟨_, P, H, O, T, x, u, _, _, _, _, _, _, _, _, _, rfl, rfl, RS, RU0, fun _ _ _ => rfl⟩
theorem op_minutes {n : Nat} (hn : 300 ≤ n) {N : Nat} {w d : Nat → Int32} {desks : Int32} {kind lean needs group : Nat → Int32} {slip warmth unheard : Int32} (RH : R_hall N w desks kind lean needs group slip warmth unheard) {p h : Nat → Int32} {o t : Int32} (RS : R_st N p h o t d 0) {P H : Nat → Nat → Int32} {O T : Nat → Int32} {x u : Nat} (RU : R_sh 8 54 N P H O T x u d) (y : Int32) :
    ∃ r P' H' O' T' x' u' p' t' d', F_X5_minutes n desks kind warmth p h o t (P 0) (H 0) (O 0) (T 0) (P 1) (H 1) (O 1) (T 1) (P 2) (H 2) (O 2) (T 2) (P 3) (H 3) (O 3) (T 3) (P 4) (H 4) (O 4) (T 4) (P 5) (H 5) (O 5) (T 5) (P 6) (H 6) (O 6) (T 6) (P 7) (H 7) (O 7) (T 7) (nI x) (nI u) y = some (r, t', p', nI x', nI u', O' 0, T' 0, P' 0, H' 0, O' 1, T' 1, P' 1, H' 1, O' 2, T' 2, P' 2, H' 2, O' 3, T' 3, P' 3, H' 3, O' 4, T' 4, P' 4, H' 4, O' 5, T' 5, P' 5, H' 5, O' 6, T' 6, P' 6, H' 6, O' 7, T' 7, P' 7, H' 7) ∧
      F_X6_minutes n w d (nI u) y = some (r, nI u', d') ∧ R_st N p' h o t' d' 0 ∧ R_sh 8 54 N P' H' O' T' x' u' d' ∧ KP d d' := by
  have RU0 := RU
  obtain ⟨h1, hN, ed, hw, ak, al, an, ag, es, ew, eu⟩ := RH
  subst ed
  subst ew
  have hx := RU.1
  have hu := RU.2.1
  have ht9 : d 9 = t := by rw [RS.2.2.2.1, Nat.zero_add]
  unfold F_X5_minutes F_X6_minutes
  rw [show (1 : Int64) = Int32.toInt64 1 from by decide, show (60 : Int64) = Int32.toInt64 60 from by decide, isFrom_in6, isFrom_val, show ld d 216 (9 : Int32) = some (d 9) from ld_n (i := 9) (by decide) (by decide), ht9, Int32.mul_comm 60 y]
  simp only [bs]
  by_cases cy : (1 : Int32) ≤ y ∧ y ≤ 60
  · rw [if_neg (fun q => (ite01 _).mp q cy), if_neg (fun q => (ite01 _).mp q cy)]
    by_cases c9 : t + y * 60 ≤ 99999
    · have RSm := mind_st hN RS u
      have gA0 : AG N p (PT (S_lay (S_mind d u))) := fun i hi => by
        rw [lay_PT]
        show p i = if i < 8 then S_mind d u i else 0
        rw [if_pos (by omega), RSm.1 i hi, Nat.zero_add]
      have ho : S_lay (S_mind d u) 206 = o := by rw [lay_o, RSm.2.2.1, Nat.zero_add]
      have ht : S_lay (S_mind d u) 207 = t := by rw [lay_t, RSm.2.2.2.1, Nat.zero_add]
      rw [if_pos c9, if_pos c9, put8_n hn P H O T hx hu, minds6_n hn hu]
      simp only [bs]
      rw [letPass_n hn hN, lays_dd hn]
      simp only [bs]
      rw [passes6_n hn hN hw, ho, ht]
      simp only [bs]
      rw [stays_dd hn]
      simp only [bs]
      have g1 : AG N (S_fill (S_warm kind (S_deg (w 51) t (y * 60)) p) p N) (S_fill (S_warm (W_kind w) (S_deg (w 51) t (y * 60)) (PT (S_lay (S_mind d u)))) (PT (S_lay (S_mind d u))) N) := AG.fillN (warm_ag ak gA0 _)
      have st := stay_st (t' := t + y * 60) hN RSm g1 (warm_okN N kind _ p p) RS.2.2.2.2.2.1
      generalize S_fill (S_warm (W_kind w) (S_deg (w 51) t (y * 60)) (PT (S_lay (S_mind d u)))) (PT (S_lay (S_mind d u))) N = q at st
      have e9 : S_stay (S_put (S_lay (S_mind d u)) q o (t + y * 60)) 9 = t + y * 60 := put_t (S_lay (S_mind d u)) q o (t + y * 60)
      rw [show ld (S_stay (S_put (S_lay (S_mind d u)) q o (t + y * 60))) 216 (9 : Int32) = some (S_stay (S_put (S_lay (S_mind d u)) q o (t + y * 60)) 9) from ld_n (i := 9) (by decide) (by decide), e9]
      simp only [bs]
      refine ⟨_, setF P x (S_fill p (P x) 8), setF H x (S_fill h (H x) 8), upd O x o, upd T x t, (x + 1) % 8, if u = 8 then 8 else u + 1, _, _, _, rfl, rfl, st, ?_, ?_⟩
      · exact (RU.mind hN RS).mv hN (fun j h1 h2 => stay_hi (by omega) (by omega))
      · intro j h1 h2
        rw [stay_hi h1 (by omega), mind_lo h2]
    · rw [if_neg c9, if_neg c9]
      exact ⟨_, P, H, O, T, x, u, _, _, _, rfl, rfl, RS, RU0, fun _ _ _ => rfl⟩
  · rw [if_pos ((ite01 _).mpr cy), if_pos ((ite01 _).mpr cy)]
    exact ⟨_, P, H, O, T, x, u, _, _, _, rfl, rfl, RS, RU0, fun _ _ _ => rfl⟩
theorem op_hear {n : Nat} (hn : 300 ≤ n) {N : Nat} {w d : Nat → Int32} {desks : Int32} {kind lean needs group : Nat → Int32} {slip warmth unheard : Int32} (RH : R_hall N w desks kind lean needs group slip warmth unheard) {p h : Nat → Int32} {o t : Int32} (RS : R_st N p h o t d 0) {P H : Nat → Nat → Int32} {O T : Nat → Int32} {x u : Nat} (RU : R_sh 8 54 N P H O T x u d) (a y : Int32) :
    ∃ r P' H' O' T' x' u' h' d', F_X5_hear n desks p h o t (P 0) (H 0) (O 0) (T 0) (P 1) (H 1) (O 1) (T 1) (P 2) (H 2) (O 2) (T 2) (P 3) (H 3) (O 3) (T 3) (P 4) (H 4) (O 4) (T 4) (P 5) (H 5) (O 5) (T 5) (P 6) (H 6) (O 6) (T 6) (P 7) (H 7) (O 7) (T 7) (nI x) (nI u) a y = some (r, h', nI x', nI u', O' 0, T' 0, P' 0, H' 0, O' 1, T' 1, P' 1, H' 1, O' 2, T' 2, P' 2, H' 2, O' 3, T' 3, P' 3, H' 3, O' 4, T' 4, P' 4, H' 4, O' 5, T' 5, P' 5, H' 5, O' 6, T' 6, P' 6, H' 6, O' 7, T' 7, P' 7, H' 7) ∧
      F_X6_hear n w d (nI u) a y = some (r, nI u', d') ∧ R_st N p h' o t d' 0 ∧ R_sh 8 54 N P' H' O' T' x' u' d' ∧ KP d d' := by
  have RU0 := RU
  obtain ⟨h1, hN, ed, hw, ak, al, an, ag, es, ew, eu⟩ := RH
  subst ed
  have hx := RU.1
  have hu := RU.2.1
  unfold F_X5_hear F_X6_hear
  rw [isDesk6_n n h1 hN hw, hasDesk_val]
  simp only [bs]
  by_cases hd : 0 ≤ a ∧ a < nI N
  · rw [if_neg (fun q => (ite01 _).mp q hd), if_neg (fun q => (ite01 _).mp q hd)]
    obtain ⟨j, hj, rfl⟩ := desk_of (by omega) hd
    rw [isWhom6_n n h1 hN hw hj, canHear_val]
    simp only [bs]
    by_cases cw : y = 8 ∨ y = 9 ∨ ((0 ≤ y ∧ y < nI N) ∧ ¬ y = nI j)
    · rw [if_neg (fun q => (ite01 _).mp q cw), if_neg (fun q => (ite01 _).mp q cw)]
      have hy : ∃ b, y = nI b ∧ (b < N ∨ b = 8 ∨ b = 9) := by
        rcases cw with rfl | rfl | ⟨c, -⟩
        · exact ⟨8, rfl, Or.inr (Or.inl rfl)⟩
        · exact ⟨9, rfl, Or.inr (Or.inr rfl)⟩
        · obtain ⟨b, hb, rfl⟩ := desk_of (by omega) c
          exact ⟨b, rfl, Or.inl hb⟩
      have RSm := mind_st hN RS u
      rw [put8_n hn P H O T hx hu, minds6_n hn hu]
      simp only [bs]
      rw [ld_n (by omega) (by decide), sto_n (by omega) (by decide), show (10 : Int32) + nI j = nI (10 + j) from nI_add 10 j, ld_n (by omega) (by decide), sto_n (by omega) (by decide)]
      simp only [bs]
      have e2 : S_mind d u (10 + j) = h j := by rw [RSm.2.1 j hj, Nat.zero_add]
      rw [e2]
      refine ⟨_, setF P x (S_fill p (P x) 8), setF H x (S_fill h (H x) 8), upd O x o, upd T x t, (x + 1) % 8, if u = 8 then 8 else u + 1, _, _, rfl, rfl, ?_, ?_, ?_⟩
      · obtain ⟨r1, r2, r3, r4, r5, r6, r7⟩ := RSm
        refine ⟨fun i hi => ?_, fun i hi => ?_, ?_, ?_, r5, r6, fun i hi => ?_⟩
        · unfold upd
          rw [if_neg (by omega)]
          exact r1 i hi
        · unfold upd
          by_cases c : i = j
          · rw [if_pos c, if_pos (by omega)]
          · rw [if_neg c, if_neg (by omega)]
            exact r2 i hi
        · unfold upd
          rw [if_neg (by omega)]
          exact r3
        · unfold upd
          rw [if_neg (by omega)]
          exact r4
        · unfold upd
          by_cases c : i = j
          · rw [if_pos c]
            exact hy
          · rw [if_neg c]
            exact r7 i hi
      · refine (RU.mind hN RS).mv hN (fun k h1 h2 => ?_)
        unfold upd
        rw [if_neg (by omega)]
      · intro k h1 h2
        show (if k = 10 + j then y else S_mind d u k) = d k
        rw [if_neg (by omega), mind_lo h2]
    · rw [if_pos ((ite01 _).mpr cw), if_pos ((ite01 _).mpr cw)]
      exact ⟨_, P, H, O, T, x, u, _, _, rfl, rfl, RS, RU0, fun _ _ _ => rfl⟩
  · rw [if_pos ((ite01 _).mpr hd), if_pos ((ite01 _).mpr hd)]
    exact ⟨_, P, H, O, T, x, u, _, _, rfl, rfl, RS, RU0, fun _ _ _ => rfl⟩
theorem op_undo {n : Nat} (hn : 300 ≤ n) {N : Nat} (hN : N ≤ 8) {d p h : Nat → Int32} {o t : Int32} (RS : R_st N p h o t d 0) {P H : Nat → Nat → Int32} {O T : Nat → Int32} {x u : Nat} (RU : R_sh 8 54 N P H O T x u d) :
    ∃ r x' u' p' h' o' t' d', F_X5_undo n p h o t (P 0) (H 0) (O 0) (T 0) (P 1) (H 1) (O 1) (T 1) (P 2) (H 2) (O 2) (T 2) (P 3) (H 3) (O 3) (T 3) (P 4) (H 4) (O 4) (T 4) (P 5) (H 5) (O 5) (T 5) (P 6) (H 6) (O 6) (T 6) (P 7) (H 7) (O 7) (T 7) (nI x) (nI u) = some (r, o', t', p', h', nI x', nI u') ∧
      F_X6_undo n d (nI u) = some (r, nI u', d') ∧ R_st N p' h' o' t' d' 0 ∧ R_sh 8 54 N P H O T x' u' d' ∧ KP d d' := by
  have hx := RU.1
  have hu := RU.2.1
  unfold F_X5_undo F_X6_undo
  rcases Nat.eq_zero_or_pos u with e | h0
  · subst e
    rw [take8_0, if_pos (show nI 0 = (0 : Int32) from rfl)]
    simp only [bs, if_true]
    exact ⟨_, x, 0, _, _, _, _, _, rfl, rfl, RS, RU, fun _ _ _ => rfl⟩
  · rw [take8_n hn P H O T hx hu h0, if_neg (show ¬ nI u = (0 : Int32) from nI_ne (b := 0) (by omega) (by decide) (by omega)), undo22_n hn h0 hu]
    simp only [bs]
    rw [if_neg (show ¬ (1 : Int32) = 0 from by decide), nI_m1 h0]
    obtain ⟨q1, q2⟩ := RU.take (Or.inl rfl) h0
    refine ⟨_, (x + 7) % 8, u - 1, _, _, _, _, _, rfl, rfl, ?_, ?_, ?_⟩
    · exact (q2.fill hN _ _).mv hN (fun j hj => cp_in hj d)
    · exact q1.mv hN (fun j h1 h2 => cp_out (by omega) d)
    · intro j h1 h2
      exact cp_out (by omega) d
theorem op_keep {n : Nat} (hn : 300 ≤ n) {N : Nat} (hN : N ≤ 8) {d p h : Nat → Int32} {o t : Int32} (RS : R_st N p h o t d 0) {P H : Nat → Nat → Int32} {O T : Nat → Int32} {x u : Nat} (RK : R_sh 2 18 N P H O T x u d) :
    ∃ r P' H' O' T' x' u' d', F_X5_keep n p h o t (P 0) (H 0) (O 0) (T 0) (P 1) (H 1) (O 1) (T 1) (nI x) (nI u) = some (r, nI x', nI u', O' 0, T' 0, P' 0, H' 0, O' 1, T' 1, P' 1, H' 1) ∧
      F_X6_keep n d (nI u) = some (r, nI u', d') ∧ R_sh 2 18 N P' H' O' T' x' u' d' ∧ ∀ j, j < 18 ∨ 54 ≤ j → d' j = d j := by
  have hx := RK.1
  have hu := RK.2.1
  unfold F_X5_keep F_X6_keep
  by_cases c2 : u = 2
  · subst c2
    rw [if_neg (show ¬ nI 2 < (2 : Int32) from by decide), if_pos (show nI 2 = (2 : Int32) from rfl)]
    exact ⟨_, P, H, O, T, x, 2, _, rfl, rfl, RK, fun _ _ => rfl⟩
  · rw [if_pos (show nI u < (2 : Int32) from nI_lt (b := 2) (by omega) (by decide)), if_neg (show ¬ nI u = (2 : Int32) from nI_ne (b := 2) (by omega) (by decide) c2), put2_n hn P H O T hx hu, if_neg c2, keep13_n hn (v := u) (by omega)]
    simp only [bs]
    rw [nI_1]
    have hput := RK.put (d' := S_cp 0 (18 + 18 * u) d 18) (Or.inr rfl) hN RS (by
      intro j hj
      rw [if_neg c2, show 18 + 18 * (u + 1 - 1) + j = 18 + 18 * u + j from by omega, cp_in hj]) (by
      intro k hk _ j hj
      rw [if_neg c2, cp_out (by omega), show 18 + 18 * (u + 1 - 1 - (k + 1)) + j = 18 + 18 * (u - 1 - k) + j from by omega])
    rw [if_neg c2] at hput
    refine ⟨_, setF P x (S_fill p (P x) 8), setF H x (S_fill h (H x) 8), upd O x o, upd T x t, (x + 1) % 2, u + 1, _, rfl, rfl, hput, ?_⟩
    intro j hj
    exact cp_out (by omega) d
theorem op_back {n : Nat} (hn : 300 ≤ n) {N : Nat} (hN : N ≤ 8) {d p h : Nat → Int32} {o t : Int32} (RS : R_st N p h o t d 0) {P H : Nat → Nat → Int32} {O T : Nat → Int32} {x u : Nat} (RK : R_sh 2 18 N P H O T x u d) (v : Nat) :
    ∃ r x' u' v' p' h' o' t' d', F_X5_back n p h o t (nI v) (P 0) (H 0) (O 0) (T 0) (P 1) (H 1) (O 1) (T 1) (nI x) (nI u) = some (r, o', t', p', h', nI v', nI x', nI u') ∧
      F_X6_back n d (nI v) (nI u) = some (r, nI v', nI u', d') ∧ R_st N p' h' o' t' d' 0 ∧ R_sh 2 18 N P H O T x' u' d' ∧ (v' = v ∨ v' = 0) ∧ ∀ j, 18 ≤ j → d' j = d j := by
  have hx := RK.1
  have hu := RK.2.1
  unfold F_X5_back F_X6_back
  rcases Nat.eq_zero_or_pos u with e | h0
  · subst e
    rw [take2_0, if_pos (show nI 0 = (0 : Int32) from rfl)]
    simp only [bs, if_true]
    exact ⟨_, x, 0, v, _, _, _, _, _, rfl, rfl, RS, RK, Or.inl rfl, fun _ _ => rfl⟩
  · rw [take2_n hn P H O T hx hu h0, if_neg (show ¬ nI u = (0 : Int32) from nI_ne (b := 0) (by omega) (by decide) (by omega)), back22_n hn h0 hu]
    simp only [bs]
    rw [if_neg (show ¬ (1 : Int32) = 0 from by decide), nI_m1 h0, show F_X1_empty_c8 n = some (nI 0) from rfl]
    simp only [bs]
    obtain ⟨q1, q2⟩ := RK.take (Or.inr rfl) h0
    refine ⟨_, (x + 1) % 2, u - 1, 0, _, _, _, _, _, rfl, rfl, ?_, ?_, Or.inr rfl, ?_⟩
    · exact (q2.fill hN _ _).mv hN (fun j hj => cp_in hj d)
    · exact q1.mv hN (fun j h1 h2 => cp_out (by omega) d)
    · intro j h1
      exact cp_out (by omega) d
