/-! Tuning: one set, and by groups. -/
/-- every desk hears a desk, a needle or the oboe -/
def H_ok (N : Nat) (h : Nat → Int32) : Prop := ∀ i, i < N → ∃ a, a ≤ 9 ∧ h i = nI a
def S_note (le : Nat → Int32) (nz : Int32) (p h : Nat → Int32) (o : Int32) (i : Nat) : Int32 :=
  if h i = 8 then 0 else ((if h i = 9 then o else p (h i).toNatClampNeg) + le i) + nz
theorem pitchOf_n (n : Nat) {p : Nat → Int32} {o : Int32} {a : Nat} (h9 : a ≤ 9) (h8 : a ≠ 8) : F_X2_pitchOf n p o (nI a) = some (if nI a = 9 then o else p (nI a).toNatClampNeg) := by
  unfold F_X2_pitchOf
  by_cases e : a = 9
  · subst e
    rw [if_pos (show nI 9 = (9 : Int32) from rfl), if_pos (show nI 9 = (9 : Int32) from rfl)]
  · have hn : ¬ nI a = (9 : Int32) := nI_ne (b := 9) (by omega) (by decide) e
    rw [if_neg hn, if_neg hn, if_neg (nI_pos (by omega)), if_neg (show ¬ (8 : Int32) ≤ nI a from nI_ge (b := 8) (by omega) (by decide)), ld_n (by omega) (by decide), bs, nI_clamp (by omega)]
theorem noteFor_n (n : Nat) {N i : Nat} (hN : N ≤ 8) (hi : i < N) {p h lean le : Nat → Int32} {o st nz : Int32} (hh : H_ok N h) (hle : le i = if nI i = st then 0 else lean i - 3) :
    F_X4_noteFor n p h o st (nI N) lean (nI i) nz = some (S_note le nz p h o i) := by
  obtain ⟨a, ha, ea⟩ := hh i hi
  unfold F_X4_noteFor S_note
  rw [hasDesk_n n hi (by omega), bs, if_neg (by decide), ld_n (by omega) (by decide), bs, bs, ea]
  by_cases e8 : a = 8
  · subst e8
    rw [if_pos (show nI 8 = (8 : Int32) from rfl), if_pos (show nI 8 = (8 : Int32) from rfl)]
  · have hn : ¬ nI a = (8 : Int32) := nI_ne (b := 8) (by omega) (by decide) e8
    rw [if_neg hn, if_neg hn, hle]
    by_cases es : nI i = st
    · rw [if_pos es, if_pos es, bs, pitchOf_n n ha e8, bs]
    · rw [if_neg es, if_neg es, leanOf_n n hi hN, bs, bs, pitchOf_n n ha e8, bs]
def S_draw (z k : Int32) : Int32 := ((F_X6_drawNext 0 z k).getD (0, 0)).1
theorem drawNext_n (n : Nat) (z k : Int32) : F_X6_drawNext n z k = some (S_draw z k, k + 1) := rfl
theorem nextDraw_1 (n : Nat) (z k : Int32) : F_X4_nextDraw n 1 z k = some (S_draw z k, k + 1) := by
  unfold F_X4_nextDraw
  rw [if_neg (by decide)]
  rfl
theorem nextDraw_0 (n : Nat) (z k : Int32) : F_X4_nextDraw n 0 z k = some (0, k) := by
  unfold F_X4_nextDraw
  rw [if_pos rfl]
def S_dn (dr : Bool) (T : Nat) (k0 : Int32) : Nat → Int32
  | 0 => k0
  | i + 1 => if bt T i = true then (if dr = true then S_dn dr T k0 i + 1 else S_dn dr T k0 i) else S_dn dr T k0 i
def S_slow (needs : Nat → Int32) (T : Nat) : Nat → Int32
  | 0 => 0
  | i + 1 => if bt T i = true then (if S_slow needs T i < needs i then needs i else S_slow needs T i) else S_slow needs T i
def S_frm (h : Nat → Int32) (T : Nat) : Nat → Int32
  | 0 => 0
  | i + 1 => if bt T i = true then (if h i = 9 then 1 else S_frm h T i) else S_frm h T i
def S_np (dr : Bool) (z : Int32) (T : Nat) (k0 : Int32) (le : Nat → Int32) (nz : Int32) (p h : Nat → Int32) (o : Int32) : Nat → Int32 := fun i =>
  if bt T i = true then S_within (S_note le nz p h o i + (if dr = true then S_draw z (S_dn dr T k0 i) else 0)) else p i
def S_nz (T : Nat) : Int32 := nI ((S_ones T 8 - 1) / 2)
theorem nz_n (T : Nat) : (nI (S_ones T 8) - 1) / 2 = S_nz T := by
  have key : ∀ c, c ≤ 8 → (nI c - 1) / 2 = nI ((c - 1) / 2) := by decide +kernel
  exact key _ (S_ones_le T 8)
/-- a state: how far off the desks and the oboe are, the seconds, how many draws -/
abbrev ST : Type := (Nat → Int32) × Int32 × Int32 × Int32
/-- one set tunes -/
def S_tune (N : Nat) (kind needs : Nat → Int32) (slip warmth : Int32) (le h : Nat → Int32) (dr : Bool) (z : Int32) (m : Nat) (a : ST) : ST :=
  (S_fill (S_warm kind (S_deg warmth a.2.2.1 (S_slow needs (S_set (P_open kind m) N) N)) (S_np dr z (S_set (P_open kind m) N) a.2.2.2 le (S_nz (S_set (P_open kind m) N)) a.1 h a.2.1)) a.1 N,
   if S_frm h (S_set (P_open kind m) N) N = 0 then a.2.1 else S_within (a.2.1 + slip),
   a.2.2.1 + S_slow needs (S_set (P_open kind m) N) N,
   S_dn dr (S_set (P_open kind m) N) a.2.2.2 N)
def S_secs (N : Nat) (kind needs : Nat → Int32) (m : Nat) : Int32 := S_slow needs (S_set (P_open kind m) N) N
theorem S_fill_warm (kind : Nat → Int32) (deg : Int32) (f p : Nat → Int32) (N : Nat) : S_fill (S_warm kind deg (S_fill f p N)) (S_fill f p N) N = S_fill (S_warm kind deg f) p N := by
  funext k
  unfold S_fill S_warm
  by_cases h : k < N
  · simp [h]
  · simp [h]
theorem bt_in {P : Nat → Bool} {N i : Nat} (h : bt (S_set P N) i = true) : i < N := by
  rcases Nat.lt_or_ge i N with q | q
  · exact q
  · rw [S_set_big P N i q] at h
    cases h
/-- how the class's tuner draws -/
def D_ok (dr : Bool) (draws : Int32) : Prop := draws = if dr = true then 1 else 0
theorem nextDraw_n (n : Nat) {dr : Bool} {draws : Int32} (h : D_ok dr draws) (z k : Int32) : F_X4_nextDraw n draws z k = some (if dr = true then S_draw z k else 0, if dr = true then k + 1 else k) := by
  cases dr
  · have e : draws = 0 := h
    subst e
    exact nextDraw_0 n z k
  · have e : draws = 1 := h
    subst e
    exact nextDraw_1 n z k
theorem letTune_n {n : Nat} (hn : 300 ≤ n) {N : Nat} (hN : N ≤ 8) {kind lean needs le p h : Nat → Int32} {slip warmth o t st draws z k0 : Int32} {dr : Bool} {m : Nat} (hm : m < 2 ^ 31) (hh : H_ok N h) (hle : ∀ i, i < N → le i = if nI i = st then 0 else lean i - 3) (hd : D_ok dr draws) (ap ah : Nat → Int32) :
    F_X4_letTune n ap ah st draws z k0 (nI N) kind lean needs slip warmth p h o t (nI m) =
      some (S_secs N kind needs m, (S_tune N kind needs slip warmth le h dr z m (p, o, t, k0)).2.2.2, o, t, S_fill p ap 8, S_fill h ah 8, (S_tune N kind needs slip warmth le h dr z m (p, o, t, k0)).2.1, (S_tune N kind needs slip warmth le h dr z m (p, o, t, k0)).2.2.1, (S_tune N kind needs slip warmth le h dr z m (p, o, t, k0)).1) := by
  unfold F_X4_letTune
  rw [tunableOf_n hn hN hm, bs]
  have hT := S_set_lt (P_open kind m) N
  have hT2 := two8 hN
  have hbt : ∀ i, bt (S_set (P_open kind m) N) i = true → i < N := fun i => bt_in
  simp only [S_tune, S_secs]
  generalize S_set (P_open kind m) N = T at hT hbt ⊢
  rw [bitCount_n n (by omega), bs, become_n hn, bs]
  dsimp only
  have loop : ∀ k i, i ≤ N → N - i < k → L_X4_letTune_35 n st draws z (nI N) lean needs (nI T) (nI (S_ones T 8)) (o, t, S_fill p ap 8, S_fill h ah 8) k (S_slow needs T i) (S_frm h T i) (nI i) (S_dn dr T k0 i) (S_fill (S_np dr z T k0 le (S_nz T) p h o) p i)
      = some (S_slow needs T N, S_frm h T N, nI N, S_dn dr T k0 N, S_fill (S_np dr z T k0 le (S_nz T) p h o) p N) := by
    intro k
    induction k with
    | zero => intro i _ h; omega
    | succ k ih =>
      intro i hi hk
      rw [L_X4_letTune_35]
      by_cases hq : N ≤ i
      · obtain rfl : i = N := by omega
        rw [if_pos (nI_le (Nat.le_refl _) (by omega))]
      · have hiN : i < N := by omega
        rw [if_neg (nI_ge (by omega) (by omega)), isIn_n n (by omega) (by omega), bs]
        have hstep := ih (i + 1) (by omega) (by omega)
        rw [S_slow, S_frm, S_dn, ← nI_1] at hstep
        by_cases hb : bt T i = true
        · rw [if_pos hb, if_pos hb, if_pos hb] at hstep
          have hok : H_ok N (S_fill h ah 8) := fun j hj => by rw [S_fill_in (by omega)]; exact hh j hj
          rw [if_pos hb, if_neg (by decide), nz_n, noteFor_n n hN hiN hok (hle i hiN), bs, nextDraw_n n hd, bs, within_n, bs, sto_n (by omega) (by decide), bs, ld_n (by omega) (by decide), bs, ld_n (by omega) (by decide), bs]
          dsimp only
          simp only [S_fill_in (f := h) (g := ah) (show i < 8 by omega)]
          have en : S_note le (S_nz T) (S_fill p ap 8) (S_fill h ah 8) o i = S_note le (S_nz T) p h o i := by
            obtain ⟨a, ha, ea⟩ := hh i hiN
            unfold S_note
            rw [S_fill_in (show i < 8 by omega), ea]
            by_cases e8 : a = 8
            · subst e8
              rw [if_pos (show nI 8 = (8 : Int32) from rfl), if_pos (show nI 8 = (8 : Int32) from rfl)]
            · by_cases e9 : a = 9
              · subst e9
                rfl
              · rw [nI_clamp (by omega), S_fill_in (by omega)]
          rw [en]
          rw [S_fill_up' (show S_within (S_note le (S_nz T) p h o i + (if dr = true then S_draw z (S_dn dr T k0 i) else 0)) = S_np dr z T k0 le (S_nz T) p h o i from by unfold S_np; rw [if_pos hb])]
          by_cases h9 : h i = 9
          · rw [if_pos h9, bs]
            rw [if_pos h9] at hstep
            exact hstep
          · rw [if_neg h9, bs]
            rw [if_neg h9] at hstep
            exact hstep
        · rw [if_neg hb, if_neg hb, if_neg hb, S_fill_keep (f := S_np dr z T k0 le (S_nz T) p h o) (g := p) (i := i) (by unfold S_np; rw [if_neg hb])] at hstep
          rw [if_neg hb, if_pos rfl, bs]
          exact hstep
  have e := loop n 0 (Nat.zero_le _) (by omega)
  rw [S_fill_0] at e
  rw [show L_X4_letTune_35 n st draws z (nI N) lean needs (nI T) (nI (S_ones T 8)) (o, t, S_fill p ap 8, S_fill h ah 8) n 0 0 0 k0 p = _ from e, bs]
  dsimp only
  have ej : (if S_frm h T N = 0 then some o else Option.bind (F_X5_within n (o + slip)) fun r => some r) = some (if S_frm h T N = 0 then o else S_within (o + slip)) := by
    by_cases h0 : S_frm h T N = 0
    · rw [if_pos h0, if_pos h0]
    · rw [if_neg h0, if_neg h0, within_n, bs]
  rw [ej, bs, letPass_n hn hN, bs, S_fill_warm]
/-- the groups, one behind the other: the state, and the seconds in all -/
def S_rnd (N : Nat) (kind needs group : Nat → Int32) (slip warmth : Int32) (le h : Nat → Int32) (dr : Bool) (z : Int32) (a : ST) : Nat → ST × Int32
  | 0 => (a, 0)
  | g + 1 => (S_tune N kind needs slip warmth le h dr z (S_set (P_grp group (nI g)) N) (S_rnd N kind needs group slip warmth le h dr z a g).1, (S_rnd N kind needs group slip warmth le h dr z a g).2 + S_secs N kind needs (S_set (P_grp group (nI g)) N))
theorem letGroups_n {n : Nat} (hn : 300 ≤ n) {N : Nat} (hN : N ≤ 8) {kind lean needs group le h : Nat → Int32} {slip warmth st draws z : Int32} {dr : Bool} (hh : H_ok N h) (hle : ∀ i, i < N → le i = if nI i = st then 0 else lean i - 3) (hd : D_ok dr draws) (a : ST) (ap ah : Nat → Int32) (ao at' : Int32) :
    ∃ (bo bt' : Int32) (bp bh : Nat → Int32), F_X4_letGroupsTune n ap ah ao at' st draws z a.2.2.2 (nI N) kind lean needs group slip warmth a.1 h a.2.1 a.2.2.1 =
      some ((S_rnd N kind needs group slip warmth le h dr z a 5).2, (S_rnd N kind needs group slip warmth le h dr z a 5).1.2.2.2, bo, bt', bp, bh, (S_rnd N kind needs group slip warmth le h dr z a 5).1.2.1, (S_rnd N kind needs group slip warmth le h dr z a 5).1.2.2.1, (S_rnd N kind needs group slip warmth le h dr z a 5).1.1) := by
  have loop : ∀ k g, g ≤ 5 → 5 - g < k → ∀ (ap ah : Nat → Int32) (ao at' : Int32), ∃ (bo bt' : Int32) (bp bh : Nat → Int32), L_X4_letGroupsTune_5 n st draws z (nI N) kind lean needs group slip warmth h k (S_rnd N kind needs group slip warmth le h dr z a g).2 (nI g) (S_rnd N kind needs group slip warmth le h dr z a g).1.2.2.2 ao at' ap ah (S_rnd N kind needs group slip warmth le h dr z a g).1.2.1 (S_rnd N kind needs group slip warmth le h dr z a g).1.2.2.1 (S_rnd N kind needs group slip warmth le h dr z a g).1.1
      = some ((S_rnd N kind needs group slip warmth le h dr z a 5).2, nI 5, (S_rnd N kind needs group slip warmth le h dr z a 5).1.2.2.2, bo, bt', bp, bh, (S_rnd N kind needs group slip warmth le h dr z a 5).1.2.1, (S_rnd N kind needs group slip warmth le h dr z a 5).1.2.2.1, (S_rnd N kind needs group slip warmth le h dr z a 5).1.1) := by
    intro k
    induction k with
    | zero => intro g _ h; omega
    | succ k ih =>
      intro g hg hk ap ah ao at'
      rw [L_X4_letGroupsTune_5]
      by_cases hq : 5 ≤ g
      · obtain rfl : g = 5 := by omega
        rw [if_pos (by decide)]
        exact ⟨_, _, _, _, rfl⟩
      · have hlt := S_set_lt (P_grp group (nI g)) N
        have h2 := two8 hN
        rw [if_neg (show ¬ (5 : Int32) ≤ nI g from nI_ge (b := 5) (by omega) (by decide)), desksOfGroup_n hn hN, bs, letTune_n hn hN (by omega) hh hle hd, bs]
        dsimp only
        rw [nI_1]
        exact ih (g + 1) (by omega) (by omega) _ _ _ _
  obtain ⟨bo, bt', bp, bh, e⟩ := loop n 0 (Nat.zero_le _) (by omega) ap ah ao at'
  refine ⟨bo, bt', bp, bh, ?_⟩
  unfold F_X4_letGroupsTune
  rw [show L_X4_letGroupsTune_5 n st draws z (nI N) kind lean needs group slip warmth h n 0 0 a.2.2.2 ao at' ap ah a.2.1 a.2.2.1 a.1 = _ from e]
  rfl
/-! how many twos are heard -/
def S_abs (x : Int32) : Int32 := if 0 ≤ x then x else -x
theorem abs_n (x : Int32) : (if 0 ≤ x then x else 0 - x) = S_abs x := by
  unfold S_abs
  rw [show (0 : Int32) - x = -x from by rw [Int32.sub_eq_add_neg, Int32.zero_add]]
def S_c (p : Nat → Int32) (un : Int32) (i j : Nat) : Nat := if S_abs (p i - p j) ≤ un then 0 else 1
/-- of i, with those of i+1 .. j-1 -/
def S_in (p : Nat → Int32) (un : Int32) (i : Nat) : Nat → Nat
  | 0 => 0
  | j + 1 => S_in p un i j + (if i < j then S_c p un i j else 0)
def S_up (p : Nat → Int32) (un : Int32) (N : Nat) : Nat → Nat
  | 0 => 0
  | i + 1 => S_up p un N i + S_in p un i N
theorem S_in_le (p : Nat → Int32) (un : Int32) (i : Nat) : ∀ j, S_in p un i j ≤ j
  | 0 => Nat.le_refl _
  | j + 1 => by
    have := S_in_le p un i j
    rw [S_in]
    have : S_c p un i j ≤ 1 := by unfold S_c; split <;> omega
    split <;> omega
theorem S_in_low (p : Nat → Int32) (un : Int32) (i : Nat) : ∀ j, j ≤ i + 1 → S_in p un i j = 0
  | 0, _ => rfl
  | j + 1, h => by rw [S_in, S_in_low p un i j (by omega), if_neg (by omega)]
theorem S_up_le (p : Nat → Int32) (un : Int32) {N : Nat} (hN : N ≤ 8) : ∀ i, S_up p un N i ≤ 8 * i
  | 0 => Nat.le_refl _
  | i + 1 => by
    have := S_up_le p un hN i
    have := S_in_le p un i N
    rw [S_up]
    omega
theorem twosHeard_n {n : Nat} (hn : 300 ≤ n) {N : Nat} (hN : N ≤ 8) (p : Nat → Int32) (un : Int32) : F_X2_twosHeard n p (nI N) un = some (nI (S_up p un N N)) := by
  have inner : ∀ i, i < N → ∀ k j b, j ≤ N → i < j → N - j < k → L_X2_twosHeard_17 p (nI N) un (nI i) k (nI (b + S_in p un i j)) (nI j) = some (nI (b + S_in p un i N), nI N) := by
    intro i hi k
    induction k with
    | zero => intro j b _ _ h; omega
    | succ k ih =>
      intro j b hj hij hk
      rw [L_X2_twosHeard_17]
      by_cases hq : N ≤ j
      · obtain rfl : j = N := by omega
        rw [if_pos (nI_le (Nat.le_refl _) (by omega))]
      · rw [if_neg (nI_ge (by omega) (by omega)), ld_n (by omega) (by decide), bs, ld_n (by omega) (by decide), bs, abs_n]
        have hstep := ih (j + 1) b (by omega) (by omega) (by omega)
        rw [S_in, if_pos hij, ← nI_1 j] at hstep
        by_cases hc : S_abs (p i - p j) ≤ un
        · rw [if_pos hc, bs]
          rw [show S_c p un i j = 0 from by unfold S_c; rw [if_pos hc]] at hstep
          exact hstep
        · rw [if_neg hc, bs, nI_1]
          rw [show S_c p un i j = 1 from by unfold S_c; rw [if_neg hc]] at hstep
          exact hstep
  have loop : ∀ k i, i ≤ N → N - i < k → L_X2_twosHeard_4 n p (nI N) un k (nI (S_up p un N i)) (nI i) = some (nI (S_up p un N N), nI N) := by
    intro k
    induction k with
    | zero => intro i _ h; omega
    | succ k ih =>
      intro i hi hk
      rw [L_X2_twosHeard_4]
      by_cases hq : N ≤ i
      · obtain rfl : i = N := by omega
        rw [if_pos (nI_le (Nat.le_refl _) (by omega))]
      · have e := inner i (by omega) n (i + 1) (S_up p un N i) (by omega) (by omega) (by omega)
        rw [S_in_low p un i (i + 1) (Nat.le_refl _), Nat.add_zero] at e
        rw [if_neg (nI_ge (by omega) (by omega)), nI_1, e, bs]
        exact ih (i + 1) (by omega) (by omega)
  unfold F_X2_twosHeard
  have e : L_X2_twosHeard_4 n p (nI N) un n 0 0 = _ := loop n 0 (Nat.zero_le _) (by omega)
  rw [e]
  rfl
