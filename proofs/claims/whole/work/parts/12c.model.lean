/-! What is not below N does not count; numbers in bounds; sets; deeds kept. -/
def AG (N : Nat) (f g : Nat → Int32) : Prop := ∀ i, i < N → f i = g i
theorem AG.rf (N : Nat) (f : Nat → Int32) : AG N f f := fun _ _ => rfl
theorem AG.sym {N : Nat} {f g : Nat → Int32} (h : AG N f g) : AG N g f := fun i hi => (h i hi).symm
theorem AG.tr {N : Nat} {f g k : Nat → Int32} (h : AG N f g) (h2 : AG N g k) : AG N f k := fun i hi => (h i hi).trans (h2 i hi)
theorem AG.fill {N : Nat} (hN : N ≤ 8) (f g : Nat → Int32) : AG N (S_fill f g 8) f := fun i hi => S_fill_in (by omega)
theorem AG.fillN {N : Nat} {f f' g g' : Nat → Int32} (h : AG N f f') : AG N (S_fill f g N) (S_fill f' g' N) := fun i hi => by rw [S_fill_in hi, S_fill_in hi]; exact h i hi
/-- every desk hears one of the N desks, a needle or the oboe -/
def HN (N : Nat) (h : Nat → Int32) : Prop := ∀ i, i < N → ∃ a, h i = nI a ∧ (a < N ∨ a = 8 ∨ a = 9)
theorem HN.ok {N : Nat} {h : Nat → Int32} (hN : N ≤ 8) (hh : HN N h) : H_ok N h := fun i hi => by
  obtain ⟨a, e, c⟩ := hh i hi
  exact ⟨a, by omega, e⟩
theorem HN.ag {N : Nat} {h g : Nat → Int32} (hh : HN N h) (a : AG N h g) : HN N g := fun i hi => by rw [← a i hi]; exact hh i hi
theorem open_ag {N : Nat} {k k' : Nat → Int32} (a : AG N k k') (m : Nat) : S_set (P_open k m) N = S_set (P_open k' m) N := S_set_congr (fun i hi => by unfold P_open; rw [a i hi])
theorem grp_ag {N : Nat} {k k' : Nat → Int32} (a : AG N k k') (g : Int32) : S_set (P_grp k g) N = S_set (P_grp k' g) N := S_set_congr (fun i hi => by unfold P_grp; rw [a i hi])
theorem peg_ag {N : Nat} {k k' : Nat → Int32} (a : AG N k k') : S_set (P_peg k) N = S_set (P_peg k') N := S_set_congr (fun i hi => by unfold P_peg; rw [a i hi])
theorem slow_ag {N : Nat} {k k' : Nat → Int32} (a : AG N k k') (T : Nat) : ∀ i, i ≤ N → S_slow k T i = S_slow k' T i
  | 0, _ => rfl
  | i + 1, h => by rw [S_slow, S_slow, slow_ag a T i (by omega), a i (by omega)]
theorem frm_ag {N : Nat} {k k' : Nat → Int32} (a : AG N k k') (T : Nat) : ∀ i, i ≤ N → S_frm k T i = S_frm k' T i
  | 0, _ => rfl
  | i + 1, h => by rw [S_frm, S_frm, frm_ag a T i (by omega), a i (by omega)]
theorem np_ag {N : Nat} (hN : N ≤ 8) {le le' p p' h h' : Nat → Int32} (al : AG N le le') (ap : AG N p p') (ah : AG N h h') (hh : HN N h) (dr : Bool) {z z' : Int32} (T : Nat) {k0 k0' : Int32} (hk : dr = true → k0 = k0' ∧ z = z') (nz o : Int32) : AG N (S_np dr z T k0 le nz p h o) (S_np dr z' T k0' le' nz p' h' o) := by
  intro i hi
  have ed : (if dr = true then S_draw z (S_dn dr T k0 i) else 0) = (if dr = true then S_draw z' (S_dn dr T k0' i) else 0) := by
    cases dr
    · rw [if_neg (by decide), if_neg (by decide)]
    · obtain ⟨rfl, rfl⟩ := hk rfl
      exact Eq.refl _
  unfold S_np S_note
  rw [ed, al i hi, ap i hi, ← ah i hi]
  obtain ⟨a, e, c⟩ := hh i hi
  rw [e]
  by_cases c8 : a = 8
  · subst c8
    rw [if_pos (show nI 8 = (8 : Int32) from rfl), if_pos (show nI 8 = (8 : Int32) from rfl)]
  · by_cases c9 : a = 9
    · subst c9
      rw [if_pos (show nI 9 = (9 : Int32) from rfl), if_pos (show nI 9 = (9 : Int32) from rfl)]
    · rw [nI_clamp (by omega), ap a (by omega)]
theorem warm_ag {N : Nat} {k k' p p' : Nat → Int32} (ak : AG N k k') (ap : AG N p p') (deg : Int32) : AG N (S_warm k deg p) (S_warm k' deg p') := by
  intro i hi
  unfold S_warm
  rw [ak i hi, ap i hi]
/-- two states that agree on the N desks (and in their draws, if there are any) -/
def SG (dr : Bool) (N : Nat) (a b : ST) : Prop := AG N a.1 b.1 ∧ a.2.1 = b.2.1 ∧ a.2.2.1 = b.2.2.1 ∧ (dr = true → a.2.2.2 = b.2.2.2)
theorem tune_ag {N : Nat} (hN : N ≤ 8) {kind kind' needs needs' le le' h h' : Nat → Int32} (ak : AG N kind kind') (an : AG N needs needs') (al : AG N le le') (ah : AG N h h') (hh : HN N h) (slip warmth : Int32) (dr : Bool) {z z' : Int32} (hz : dr = true → z = z') (m : Nat) {a b : ST} (hs : SG dr N a b) :
    SG dr N (S_tune N kind needs slip warmth le h dr z m a) (S_tune N kind' needs' slip warmth le' h' dr z' m b) := by
  obtain ⟨p, o, t, k⟩ := a
  obtain ⟨p', o', t', k'⟩ := b
  obtain ⟨ap, eo, et, ek⟩ := hs
  cases eo
  cases et
  unfold S_tune
  rw [open_ag ak m, slow_ag an _ N (Nat.le_refl _), frm_ag ah _ N (Nat.le_refl _)]
  exact ⟨AG.fillN (warm_ag ak (np_ag hN al ap ah hh _ _ (fun q => ⟨ek q, hz q⟩) _ _) _), rfl, rfl, fun q => by
    have e := ek q
    dsimp only at e ⊢
    rw [e]⟩
theorem secs_ag {N : Nat} {kind kind' needs needs' : Nat → Int32} (ak : AG N kind kind') (an : AG N needs needs') (m : Nat) : S_secs N kind needs m = S_secs N kind' needs' m := by
  unfold S_secs
  rw [open_ag ak m, slow_ag an _ N (Nat.le_refl _)]
theorem rnd_ag {N : Nat} (hN : N ≤ 8) {kind kind' needs needs' group group' le le' h h' : Nat → Int32} (ak : AG N kind kind') (an : AG N needs needs') (ag : AG N group group') (al : AG N le le') (ah : AG N h h') (hh : HN N h) (slip warmth : Int32) (dr : Bool) {z z' : Int32} (hz : dr = true → z = z') {a b : ST} (hs : SG dr N a b) :
    ∀ g, SG dr N (S_rnd N kind needs group slip warmth le h dr z a g).1 (S_rnd N kind' needs' group' slip warmth le' h' dr z' b g).1 ∧ (S_rnd N kind needs group slip warmth le h dr z a g).2 = (S_rnd N kind' needs' group' slip warmth le' h' dr z' b g).2 := by
  intro g
  induction g with
  | zero => exact ⟨hs, rfl⟩
  | succ g ih =>
    rw [S_rnd, S_rnd, grp_ag ag]
    exact ⟨tune_ag hN ak an al ah hh slip warmth dr hz _ ih.1, by rw [ih.2, secs_ag ak an]⟩
theorem hi_ag {N : Nat} (h1 : 1 ≤ N) {p q : Nat → Int32} (a : AG N p q) : ∀ i, i ≤ N → S_hi p i = S_hi q i
  | 0, _ => a 0 h1
  | i + 1, h => by rw [S_hi, S_hi, hi_ag h1 a i (by omega), a i (by omega)]
theorem lo_ag {N : Nat} (h1 : 1 ≤ N) {p q : Nat → Int32} (a : AG N p q) : ∀ i, i ≤ N → S_lo p i = S_lo q i
  | 0, _ => a 0 h1
  | i + 1, h => by rw [S_lo, S_lo, lo_ag h1 a i (by omega), a i (by omega)]
theorem apart_ag {N : Nat} (h1 : 1 ≤ N) {p q : Nat → Int32} (a : AG N p q) : S_apart p N = S_apart q N := by
  unfold S_apart
  rw [hi_ag h1 a N (Nat.le_refl _), lo_ag h1 a N (Nat.le_refl _)]
theorem lw_ag {N : Nat} {p q : Nat → Int32} (a : AG N p q) (un : Int32) {i : Nat} (hi : i < N) : ∀ j, j ≤ N → S_lw p un i j = S_lw q un i j
  | 0, _ => rfl
  | j + 1, h => by rw [S_lw, S_lw, lw_ag a un hi j (by omega)]; unfold S_c; rw [a i hi, a j (by omega)]
theorem twos_ag {N : Nat} {p q : Nat → Int32} (a : AG N p q) (un : Int32) : ∀ i, i ≤ N → S_twos p un i = S_twos q un i
  | 0, _ => rfl
  | i + 1, h => by rw [S_twos, S_twos, twos_ag a un i (by omega), lw_ag a un (by omega) i (by omega)]
/-! bounds are kept -/
def OKN (N : Nat) (p : Nat → Int32) : Prop := ∀ i, i < N → S_ok (p i)
theorem OKN.ag {N : Nat} {p q : Nat → Int32} (h : OKN N p) (a : AG N p q) : OKN N q := fun i hi => by rw [← a i hi]; exact h i hi
theorem warm_okN (N : Nat) (k : Nat → Int32) (deg : Int32) (p q : Nat → Int32) : OKN N (S_fill (S_warm k deg p) q N) := fun i hi => by rw [S_fill_in hi]; exact within_ok _
theorem tune_ok {N : Nat} {kind needs le h : Nat → Int32} {slip warmth : Int32} {dr : Bool} {z : Int32} {m : Nat} {a : ST} (ho : S_ok a.2.1) : OKN N (S_tune N kind needs slip warmth le h dr z m a).1 ∧ S_ok (S_tune N kind needs slip warmth le h dr z m a).2.1 := by
  refine ⟨warm_okN _ _ _ _ _, ?_⟩
  unfold S_tune
  dsimp only
  split
  · exact ho
  · exact within_ok _
theorem rnd_ok {N : Nat} {kind needs group le h : Nat → Int32} {slip warmth : Int32} {dr : Bool} {z : Int32} {a : ST} (hp : OKN N a.1) (ho : S_ok a.2.1) : ∀ g, OKN N (S_rnd N kind needs group slip warmth le h dr z a g).1.1 ∧ S_ok (S_rnd N kind needs group slip warmth le h dr z a g).1.2.1 := by
  intro g
  induction g with
  | zero => exact ⟨hp, ho⟩
  | succ g ih => exact tune_ok ih.2
/-! the Model's 'in' over long numbers -/
theorem cmp_lt0 (x y : Int64) : lg_cmp x y < 0 ↔ x < y := by
  unfold lg_cmp
  by_cases h : x > y
  · rw [if_pos h]
    refine ⟨fun q => absurd q (by decide), fun q => ?_⟩
    have h' := Int64.lt_iff_toInt_lt.mp h
    have q' := Int64.lt_iff_toInt_lt.mp q
    omega
  · rw [if_neg h]
    by_cases e : x = y
    · rw [if_pos e]
      refine ⟨fun q => absurd q (by decide), fun q => ?_⟩
      subst e
      have q' := Int64.lt_iff_toInt_lt.mp q
      omega
    · rw [if_neg e]
      refine ⟨fun _ => ?_, fun _ => by decide⟩
      have h' : ¬ y.toInt < x.toInt := fun q => h (Int64.lt_iff_toInt_lt.mpr q)
      have e' : ¬ x.toInt = y.toInt := fun q => e (Int64.toInt_inj.mp q)
      exact Int64.lt_iff_toInt_lt.mpr (by omega)
theorem cmp_gt0 (x y : Int64) : 0 < lg_cmp x y ↔ y < x := by
  unfold lg_cmp
  by_cases h : x > y
  · rw [if_pos h]
    exact ⟨fun _ => h, fun _ => by decide⟩
  · rw [if_neg h]
    refine ⟨fun q => ?_, fun q => absurd q h⟩
    by_cases e : x = y
    · rw [if_pos e] at q
      exact absurd q (by decide)
    · rw [if_neg e] at q
      exact absurd q (by decide)
theorem i64_lt (x y : Int32) : Int32.toInt64 x < Int32.toInt64 y ↔ x < y := by
  rw [Int64.lt_iff_toInt_lt, Int32.toInt_toInt64, Int32.toInt_toInt64, fa_lt]
theorem in6_n (n : Nat) (x a b : Int32) : F_X6_in n (Int32.toInt64 x) (Int32.toInt64 a) (Int32.toInt64 b) = some (if a ≤ x ∧ x ≤ b then 1 else 0) := by
  unfold F_X6_in
  by_cases h1 : lg_cmp (Int32.toInt64 x) (Int32.toInt64 a) < 0
  · rw [if_pos h1]
    rw [cmp_lt0, i64_lt, fa_lt] at h1
    rw [if_neg (by rw [fa_le, fa_le]; omega)]
  · rw [if_neg h1]
    rw [cmp_lt0, i64_lt, fa_lt] at h1
    by_cases h2 : 0 < lg_cmp (Int32.toInt64 x) (Int32.toInt64 b)
    · rw [if_pos h2]
      rw [cmp_gt0, i64_lt, fa_lt] at h2
      rw [if_neg (by rw [fa_le, fa_le]; omega)]
    · rw [if_neg h2]
      rw [cmp_gt0, i64_lt, fa_lt] at h2
      rw [if_pos (by rw [fa_le, fa_le]; omega)]
theorem isFrom_in6 (n : Nat) (x a b : Int32) : F_X6_in n (Int32.toInt64 x) (Int32.toInt64 a) (Int32.toInt64 b) = F_X5_isFrom n x a b := by rw [in6_n, isFrom_val]
theorem zb_ite (c : Prop) [Decidable c] : zb (if c then 1 else 0) = some () := by
  by_cases h : c
  · rw [if_pos h]; rfl
  · rw [if_neg h]; rfl
theorem nI_m1 {N : Nat} (h : 1 ≤ N) : nI N - (1 : Int32) = nI (N - 1) := pk_sub (b := 1) h
theorem isDesk6_n (n : Nat) {w : Nat → Int32} {N : Nat} (h1 : 1 ≤ N) (hN : N ≤ 8) (hw : w 0 = nI N) (x : Int32) : F_X6_isDesk n w x = F_X0_hasDesk n (nI N) x := by
  unfold F_X6_isDesk
  rw [show ld w 106 (0 : Int32) = some (w 0) from ld_n (i := 0) (by decide) (by decide), bs, hw, nI_m1 h1, show (0 : Int64) = Int32.toInt64 0 from by decide, in6_n, bs, zb_ite, bs, hasDesk_val]
  congr 1
  have e1 : (nI (N - 1)).toInt = ((N - 1 : Nat) : Int) := nI_toInt (by omega)
  have e2 : (nI N).toInt = (N : Int) := nI_toInt (by omega)
  by_cases h : 0 ≤ x ∧ x < nI N
  · rw [if_pos h, if_pos]
    rw [fa_le, fa_lt] at h
    rw [fa_le, fa_le]
    omega
  · rw [if_neg h, if_neg]
    rw [fa_le, fa_lt] at h
    rw [fa_le, fa_le]
    omega
/-- some set of desks (or none of them) -/
theorem isSet6_n (n : Nat) {w : Nat → Int32} {N : Nat} (hN : N ≤ 8) (hw : w 0 = nI N) (x : Int32) : F_X6_isSet n w x = some (if 0 ≤ x ∧ x ≤ nI (2 ^ N - 1) then 1 else 0) := by
  unfold F_X6_isSet
  have e := allDesks_n n hN
  unfold F_X0_allDesks at e
  rw [show ld w 106 (0 : Int32) = some (w 0) from ld_n (i := 0) (by decide) (by decide), bs, hw, Option.some.inj e, show (0 : Int64) = Int32.toInt64 0 from by decide, in6_n, bs, zb_ite, bs]
theorem canHear_val (n : Nat) (d i x : Int32) : F_X0_canHear n d i x = some (if x = 8 ∨ x = 9 ∨ ((0 ≤ x ∧ x < d) ∧ ¬ x = i) then 1 else 0) := by
  unfold F_X0_canHear
  rw [hasDesk_val]
  by_cases e8 : x = 8
  · rw [if_pos e8, if_pos (Or.inl e8)]
  · rw [if_neg e8]
    by_cases e9 : x = 9
    · rw [if_pos e9, if_pos (Or.inr (Or.inl e9))]
    · rw [if_neg e9, bs]
      by_cases hd : 0 ≤ x ∧ x < d
      · rw [if_pos hd, if_neg (by decide)]
        by_cases ej : x = i
        · rw [if_pos ej, if_neg (fun q => q.elim e8 (fun q => q.elim e9 (fun q => q.2 ej)))]
        · rw [if_neg ej, if_pos (Or.inr (Or.inr ⟨hd, ej⟩))]
      · rw [if_neg hd, if_pos rfl, if_neg (fun q => q.elim e8 (fun q => q.elim e9 (fun q => hd q.1)))]
theorem isWhom6_val (n : Nat) {w : Nat → Int32} {N : Nat} (h1 : 1 ≤ N) (hN : N ≤ 8) (hw : w 0 = nI N) {j : Nat} (hj : j < N) (x : Int32) : F_X6_isWhom n w (nI j) x = some (if x = 8 ∨ x = 9 ∨ ((0 ≤ x ∧ x < nI N) ∧ ¬ x = nI j) then 1 else 0) := by
  unfold F_X6_isWhom
  by_cases ej : x = nI j
  · rw [if_pos ej, if_neg]
    intro q
    rcases q with q | q | q
    · exact nI_ne (b := 8) (by omega) (by decide) (by omega) (ej.symm.trans q)
    · exact nI_ne (b := 9) (by omega) (by decide) (by omega) (ej.symm.trans q)
    · exact q.2 ej
  · rw [if_neg ej, isDesk6_n n h1 hN hw, hasDesk_val, bs]
    by_cases hd : 0 ≤ x ∧ x < nI N
    · rw [if_pos hd, if_neg (by decide), if_pos (Or.inr (Or.inr ⟨hd, ej⟩))]
    · rw [if_neg hd, if_pos rfl]
      by_cases e8 : x = 8
      · rw [if_pos e8, if_pos (Or.inl e8)]
      · rw [if_neg e8]
        by_cases e9 : x = 9
        · rw [if_pos e9, if_pos (Or.inr (Or.inl e9))]
        · rw [if_neg e9, if_neg (fun q => q.elim e8 (fun q => q.elim e9 (fun q => hd q.1)))]
theorem isWhom6_n (n : Nat) {w : Nat → Int32} {N : Nat} (h1 : 1 ≤ N) (hN : N ≤ 8) (hw : w 0 = nI N) {j : Nat} (hj : j < N) (x : Int32) : F_X6_isWhom n w (nI j) x = F_X0_canHear n (nI N) (nI j) x := by
  rw [isWhom6_val n h1 hN hw hj, canHear_val]
