/-! Class and Model side by side: what is tried (by groups). -/
def R_hall (N : Nat) (w : Nat → Int32) (desks : Int32) (kind lean needs group : Nat → Int32) (slip warmth unheard : Int32) : Prop :=
  1 ≤ N ∧ N ≤ 8 ∧ desks = nI N ∧ w 0 = nI N ∧ AG N kind (W_kind w) ∧ AG N lean (W_lean w) ∧ AG N needs (W_needs w) ∧ AG N group (W_group w) ∧ slip = w 50 ∧ warmth = w 51 ∧ unheard = w 52
/-- a state of the class and the one at b of the Model's -/
def R_st (N : Nat) (p h : Nat → Int32) (o t : Int32) (d : Nat → Int32) (b : Nat) : Prop :=
  (∀ i, i < N → p i = d (b + i)) ∧ (∀ i, i < N → h i = d (b + (10 + i))) ∧ o = d (b + 8) ∧ t = d (b + 9) ∧ OKN N p ∧ S_ok o ∧ HN N h
def LOW (d d' : Nat → Int32) : Prop := ∀ j, j < 198 → d' j = d j
theorem LOW.rf (d : Nat → Int32) : LOW d d := fun _ _ => rfl
theorem LOW.tr {a b c : Nat → Int32} (h : LOW a b) (h2 : LOW b c) : LOW a c := fun j hj => (h2 j hj).trans (h j hj)
theorem LOW.put (d p : Nat → Int32) (o t : Int32) : LOW d (S_put d p o t) := fun _ hj => put_lo hj
theorem LOW.lay (d : Nat → Int32) : LOW d (S_lay d) := fun _ hj => lay_lo d hj
theorem R_st.low {N : Nat} {p h : Nat → Int32} {o t : Int32} {d d' : Nat → Int32} {b : Nat} (hN : N ≤ 8) (hb : b ≤ 180) (r : R_st N p h o t d b) (l : LOW d d') : R_st N p h o t d' b :=
  ⟨fun i hi => by rw [l _ (by omega)]; exact r.1 i hi, fun i hi => by rw [l _ (by omega)]; exact r.2.1 i hi, by rw [l _ (by omega)]; exact r.2.2.1, by rw [l _ (by omega)]; exact r.2.2.2.1, r.2.2.2.2⟩
/-- by groups, from a state on -/
def S_R (N : Nat) (kind needs group : Nat → Int32) (slip warmth : Int32) (le h : Nat → Int32) (dr : Bool) (z : Int32) (p : Nat → Int32) (o t : Int32) : ST × Int32 := S_rnd N kind needs group slip warmth le h dr z (p, o, t, 0) 5
theorem startTrial_n {n : Nat} (hn : 300 ≤ n) (p h tp th : Nat → Int32) (o t : Int32) : F_X5_startTrial n p h o t tp th = some (o, t, S_fill p tp 8, S_fill h th 8, -1, 0) := by
  unfold F_X5_startTrial
  rw [become_n hn, bs]
  rfl
theorem trial_c {n : Nat} (hn : 300 ≤ n) {N : Nat} (hN : N ≤ 8) {kind lean needs group le p h p8 h8 : Nat → Int32} {slip warmth o t st draws z k0 : Int32} {dr : Bool} (hp8 : AG N p8 p) (hh8 : AG N h8 h) (hh : HN N h) (hle : ∀ i, i < N → le i = if nI i = st then 0 else lean i - 3) (hd : D_ok dr draws) (hk : dr = true → k0 = 0) (ap ah : Nat → Int32) (ao at' : Int32) :
    ∃ (k' bo bt' : Int32) (bp bh : Nat → Int32) (o' t' : Int32) (p' : Nat → Int32), F_X4_letGroupsTune n ap ah ao at' st draws z k0 (nI N) kind lean needs group slip warmth p8 h8 o t =
      some ((S_R N kind needs group slip warmth le h dr z p o t).2, k', bo, bt', bp, bh, o', t', p') ∧ AG N p' (S_R N kind needs group slip warmth le h dr z p o t).1.1 := by
  have hh2 : HN N h8 := hh.ag hh8.sym
  obtain ⟨bo, bt', bp, bh, e⟩ := letGroups_n hn hN (kind := kind) (lean := lean) (needs := needs) (group := group) (le := le) (h := h8) (slip := slip) (warmth := warmth) (st := st) (draws := draws) (z := z) (dr := dr) (hh2.ok hN) hle hd (p8, o, t, k0) ap ah ao at'
  have g := rnd_ag hN (AG.rf N kind) (AG.rf N needs) (AG.rf N group) (AG.rf N le) hh8 hh2 slip warmth dr (z := z) (z' := z) (fun _ => rfl) (a := (p8, o, t, k0)) (b := (p, o, t, 0)) ⟨hp8, rfl, rfl, hk⟩ 5
  unfold S_R
  rw [← g.2]
  exact ⟨_, bo, bt', bp, bh, _, _, _, e, g.1.1⟩
theorem trial_m {n : Nat} (hn : 300 ≤ n) {N : Nat} (hN : N ≤ 8) {w d le th : Nat → Int32} (hw : w 0 = nI N) {draws k0 : Int32} {dr : Bool} (hh : HN N (HT d)) (hd : dr = decide (0 ≤ draws)) (ho : S_ok (d 206)) (hk : dr = true → k0 = 0) :
    ∃ (k' : Int32) (d' th' : Nat → Int32), F_X6_rounds n w d th le draws k0 = some ((S_R N (W_kind w) (W_needs w) (W_group w) (w 50) (w 51) le (HT d) dr draws (PT d) (d 206) (d 207)).2, k', d', th') ∧ LOW d d' ∧ PT d' = (S_R N (W_kind w) (W_needs w) (W_group w) (w 50) (w 51) le (HT d) dr draws (PT d) (d 206) (d 207)).1.1 := by
  have hz : ∀ g k, 8 ≤ k → (S_rnd N (W_kind w) (W_needs w) (W_group w) (w 50) (w 51) le (HT d) dr draws (PT d, d 206, d 207, k0) g).1.1 k = 0 := by
    intro g
    induction g with
    | zero => exact PT_0 d
    | succ g ih => exact fill_0 hN ih
  cases dr
  · have g := rnd_ag hN (AG.rf N (W_kind w)) (AG.rf N (W_needs w)) (AG.rf N (W_group w)) (AG.rf N le) (AG.rf N (HT d)) hh (w 50) (w 51) false (z := draws) (z' := draws) (fun _ => rfl) (a := (PT d, d 206, d 207, k0)) (b := (PT d, d 206, d 207, 0)) ⟨AG.rf N _, rfl, rfl, fun q => by cases q⟩ 5
    obtain ⟨th', e⟩ := rounds6_n hn hN (le := le) (th := th) (k0 := k0) hw (hh.ok hN) hd ho
    have hz2 : ∀ g k, 8 ≤ k → (S_rnd N (W_kind w) (W_needs w) (W_group w) (w 50) (w 51) le (HT d) false draws (PT d, d 206, d 207, 0) g).1.1 k = 0 := by
      intro g
      induction g with
      | zero => exact PT_0 d
      | succ g ih => exact fill_0 hN ih
    have eq5 : (S_rnd N (W_kind w) (W_needs w) (W_group w) (w 50) (w 51) le (HT d) false draws (PT d, d 206, d 207, k0) 5).1.1 = (S_rnd N (W_kind w) (W_needs w) (W_group w) (w 50) (w 51) le (HT d) false draws (PT d, d 206, d 207, 0) 5).1.1 := by
      funext k
      by_cases hk8 : k < N
      · exact g.1.1 k hk8
      · by_cases h8 : 8 ≤ k
        · rw [hz 5 k h8]
          exact (hz2 5 k h8).symm
        · have keep : ∀ (k1 : Int32) (g : Nat), (S_rnd N (W_kind w) (W_needs w) (W_group w) (w 50) (w 51) le (HT d) false draws (PT d, d 206, d 207, k1) g).1.1 k = PT d k := by
            intro k1 g
            induction g with
            | zero => rfl
            | succ g ih =>
              rw [S_rnd]
              show S_fill _ _ N k = _
              rw [S_fill_out (by omega)]
              exact ih
          rw [keep k0 5]
          exact (keep 0 5).symm
    unfold S_R
    rw [← g.2]
    exact ⟨_, _, th', e, LOW.put _ _ _ _, by rw [put_PT (hz 5)]; exact eq5⟩
  · obtain rfl := hk rfl
    obtain ⟨th', e⟩ := rounds6_n hn hN (le := le) (th := th) (k0 := 0) hw (hh.ok hN) hd ho
    exact ⟨_, _, th', e, LOW.put _ _ _ _, put_PT (hz 5)⟩
/-- what both say of it -/
theorem S_R_ag {N : Nat} (hN : N ≤ 8) {kind kind' needs needs' group group' le le' h h' p p' : Nat → Int32} {slip warmth o t : Int32} {dr : Bool} {z z' : Int32} (ak : AG N kind kind') (an : AG N needs needs') (ag : AG N group group') (al : AG N le le') (ah : AG N h h') (hh : HN N h) (hz : dr = true → z = z') (ap : AG N p p') :
    AG N (S_R N kind needs group slip warmth le h dr z p o t).1.1 (S_R N kind' needs' group' slip warmth le' h' dr z' p' o t).1.1 ∧ (S_R N kind needs group slip warmth le h dr z p o t).2 = (S_R N kind' needs' group' slip warmth le' h' dr z' p' o t).2 := by
  have g := rnd_ag hN ak an ag al ah hh slip warmth dr hz (a := (p, o, t, 0)) (b := (p', o, t, 0)) ⟨ap, rfl, rfl, fun _ => rfl⟩ 5
  exact ⟨g.1.1, g.2⟩
theorem PT_fun {N : Nat} (hN : N ≤ 8) (d : Nat → Int32) : AG N (fun k => d (198 + k)) (PT d) := fun i hi => (PT_in (by omega)).symm
/-- a trial of both from now: the class's p8 (h8 is who is heard there), the Model's dd -/
theorem trial_b {n : Nat} (hn : 300 ≤ n) {N : Nat} {w d dd le8 th : Nat → Int32} {desks : Int32} {kind lean needs group : Nat → Int32} {slip warmth unheard : Int32} (RH : R_hall N w desks kind lean needs group slip warmth unheard) {p h hx le p8 h8 : Nat → Int32} {o t st draws z k0 m0 draws6 : Int32} {dr : Bool} (RS : R_st N p h o t d 0)
    (hp8 : AG N p8 p) (hh8 : AG N h8 hx) (hhx : HN N hx) (hle : ∀ i, i < N → le i = if nI i = st then 0 else lean i - 3) (hd : D_ok dr draws) (hk : dr = true → k0 = 0 ∧ m0 = 0 ∧ z = draws6) (hd6 : dr = decide (0 ≤ draws6))
    (hdl : LOW d dd) (hpt : PT dd = P0 d) (hdo : dd 206 = d 8) (hdt : dd 207 = d 9) (hdh : AG N (HT dd) hx) (hl8 : AG N le8 le) (ap ah : Nat → Int32) (ao at' : Int32) :
    ∃ (sec k' bo bt' : Int32) (bp bh : Nat → Int32) (o' t' : Int32) (p' : Nat → Int32) (k6 : Int32) (d' th' : Nat → Int32),
      F_X4_letGroupsTune n ap ah ao at' st draws z k0 (nI N) kind lean needs group slip warmth p8 h8 o t = some (sec, k', bo, bt', bp, bh, o', t', p') ∧
      F_X6_rounds n w dd th le8 draws6 m0 = some (sec, k6, d', th') ∧ LOW d d' ∧ AG N p' (fun k => d' (198 + k)) ∧ OKN N p' := by
  obtain ⟨h1, hN, rfl, hw, ak, al, an, ag, es, ew, eu⟩ := RH
  obtain ⟨r1, r2, r3, r4, r5, r6, r7⟩ := RS
  rw [Nat.zero_add] at r3 r4
  obtain ⟨k', bo, bt', bp, bh, o', t', p', e1, g1⟩ := trial_c hn hN (kind := kind) (lean := lean) (needs := needs) (group := group) (slip := slip) (warmth := warmth) (o := o) (t := t) hp8 hh8 hhx hle hd (fun q => (hk q).1) ap ah ao at'
  have hh6 : HN N (HT dd) := hhx.ag hdh.sym
  obtain ⟨k6, d', th', e2, l2, g2⟩ := trial_m hn hN (le := le8) (th := th) (k0 := m0) hw hh6 hd6 (by rw [hdo, ← r3]; exact r6) (fun q => (hk q).2.1)
  have key := S_R_ag hN (kind := kind) (kind' := W_kind w) (needs := needs) (needs' := W_needs w) (group := group) (group' := W_group w) (le := le) (le' := le8) (h := hx) (h' := HT dd) (p := p) (p' := PT dd) (slip := slip) (warmth := warmth) (o := o) (t := t) (dr := dr) (z := z) (z' := draws6) ak an ag hl8.sym hdh.sym hhx (fun q => (hk q).2.2) (by
    rw [hpt]
    intro i hi
    rw [r1 i hi, Nat.zero_add]
    unfold P0
    rw [if_pos (by omega)])
  rw [hdo, hdt, ← r3, ← r4, ← es, ← ew] at e2 g2
  refine ⟨_, k', bo, bt', bp, bh, o', t', p', k6, d', th', e1, ?_, hdl.tr l2, ?_, ?_⟩
  · rw [key.2]
    exact e2
  · refine g1.tr (key.1.tr ?_)
    rw [← g2]
    exact (PT_fun hN d').sym
  · have ok := rnd_ok (N := N) (kind := kind) (needs := needs) (group := group) (le := le) (h := hx) (slip := slip) (warmth := warmth) (dr := dr) (z := z) (a := (p, o, t, 0)) r5 r6 5
    exact OKN.ag ok.1 g1.sym
theorem lays_dd {n : Nat} (hn : 300 ≤ n) (d : Nat → Int32) : F_X6_lays n d = some (S_lay d) := lays6_n hn d
theorem lay_HT {N : Nat} (hN : N ≤ 8) {p h : Nat → Int32} {o t : Int32} {d : Nat → Int32} (RS : R_st N p h o t d 0) : AG N (HT (S_lay d)) h := fun i hi => by
  rw [lay_h d (by omega), RS.2.1 i hi, Nat.zero_add]
theorem lean_8 {N : Nat} (hN : N ≤ 8) {w lean le0 : Nat → Int32} (al : AG N lean (W_lean w)) : AG N (S_fill (fun i => W_lean w i - 3) le0 8) (fun i => lean i - 3) := fun i hi => by
  rw [S_fill_in (by omega)]
  show W_lean w i - 3 = lean i - 3
  rw [al i hi]
theorem lean_st {N : Nat} (hN : N ≤ 8) (lean : Nat → Int32) : ∀ i, i < N → lean i - 3 = if nI i = (-1 : Int32) then 0 else lean i - 3 := fun i hi => by
  rw [if_neg]
  intro q
  have h := congrArg Int32.toInt q
  rw [nI_toInt (by omega)] at h
  have : (-1 : Int32).toInt = -1 := by decide
  omega
/-- ROUND -/
theorem op_round {n : Nat} (hn : 300 ≤ n) {N : Nat} {w d th le0 : Nat → Int32} {desks : Int32} {kind lean needs group : Nat → Int32} {slip warmth unheard : Int32} (RH : R_hall N w desks kind lean needs group slip warmth unheard) {p h : Nat → Int32} {o t : Int32} (RS : R_st N p h o t d 0) (tp tq : Nat → Int32) (to' ts : Int32) (ap ah : Nat → Int32) (ao at' st0 dr0 z0 k0 draws6 m0 x : Int32) :
    ∃ r J dr6 k6 d' th' le', F_X5_round n desks kind lean needs group slip warmth p h o t tp tq to' ts ap ah ao at' st0 dr0 z0 k0 x = some (r, J) ∧ F_X6_round n w d th le0 draws6 m0 x = some (r, dr6, k6, d', th', le') ∧ LOW d d' := by
  have RH0 := RH
  obtain ⟨h1, hN, ed, hw, ak, al, an, ag, es, ew, eu⟩ := RH
  subst ed
  obtain ⟨sec, k', bo, bt', bp, bh, o', t', p', k6, d', th', e1, e2, l2, g2, g3⟩ := trial_b hn RH0 (le := fun i => lean i - 3) (le8 := S_fill (fun i => W_lean w i - 3) le0 8) (th := th) (dd := S_lay d) (p8 := S_fill p tp 8) (h8 := S_fill h tq 8) (hx := h) (st := -1) (draws := 0) (z := z0) (k0 := k0) (m0 := 0) (draws6 := -1) (dr := false) RS (AG.fill hN _ _) (AG.fill hN _ _) RS.2.2.2.2.2.2 (lean_st hN lean) rfl (fun q => by cases q) (by decide) (LOW.lay d) (lay_PT d) (lay_o d) (lay_t d) (lay_HT hN RS) (lean_8 hN al) ap ah ao at'
  unfold F_X5_round F_X6_round
  rw [show ld w 106 (0 : Int32) = some (w 0) from ld_n (i := 0) (by decide) (by decide), bs, hw, nI_m1 h1, show (-2 : Int64) = Int32.toInt64 (-2) from by decide, in6_n, bs]
  have en : (nI (N - 1)).toInt = ((N - 1 : Nat) : Int) := nI_toInt (by omega)
  have eN : (nI N).toInt = (N : Int) := nI_toInt (by omega)
  have c1 : (-1 : Int32).toInt = -1 := by decide
  have c2 : (-2 : Int32).toInt = -2 := by decide
  have c0 : (0 : Int32).toInt = 0 := by decide
  rw [startTrial_n hn, lays_dd hn, laysLeans6_n hn]
  simp only [bs]
  rw [e1, e2]
  simp only [bs]
  rw [apart_n hn h1 hN, show (198 : Int32) = nI 198 from rfl, spreadOf6_n hn h1 hN hw (by decide), apart_ag h1 g2]
  simp only [bs]
  by_cases x1 : x = -1
  · subst x1
    rw [if_pos rfl, if_pos rfl, if_neg (by rw [if_pos (by rw [fa_le, fa_le]; omega)]; decide), if_pos rfl]
    exact ⟨_, _, _, _, _, _, _, rfl, rfl, l2⟩
  · rw [if_neg x1]
    by_cases x2 : x = -2
    · subst x2
      rw [if_pos rfl, if_neg (by decide), if_pos rfl, if_neg (by rw [if_pos (by rw [fa_le, fa_le]; omega)]; decide), if_neg (by decide), if_pos rfl]
      exact ⟨_, _, _, _, _, _, _, rfl, rfl, l2⟩
    · rw [if_neg x2, hasDesk_val, bs]
      have y1 : x.toInt ≠ -1 := fun q => x1 (by rw [fa_eq]; omega)
      have y2 : x.toInt ≠ -2 := fun q => x2 (by rw [fa_eq]; omega)
      by_cases hd : 0 ≤ x ∧ x < nI N
      · obtain ⟨j, hj, rfl⟩ := desk_of (by omega) hd
        have ej : (nI j).toInt = (j : Int) := nI_toInt (by omega)
        rw [if_neg (by rw [if_pos hd]; decide), if_neg x1, if_neg x2, if_neg (by rw [if_pos (by rw [fa_le, fa_le]; omega)]; decide), if_neg x1, if_neg x2, pitchOf_n n (by omega) (by omega), bs, if_neg (show ¬ nI j = (9 : Int32) from nI_ne (b := 9) (by omega) (by decide) (by omega)), nI_clamp (by omega), nI_add, ld_n (by omega) (by decide), bs, g2 j hj]
        exact ⟨_, _, _, _, _, _, _, rfl, rfl, l2⟩
      · rw [if_pos (by rw [if_neg hd]), if_pos (by rw [if_neg]; rw [fa_le, fa_le]; rw [fa_le, fa_lt] at hd; omega)]
        exact ⟨_, _, _, _, _, _, _, rfl, rfl, LOW.rf d⟩
