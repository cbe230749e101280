/-! The reference's Model: its trial as plain functions (w: what the text tells; d: the states; the trial begins at 198). -/
def PT (d : Nat → Int32) : Nat → Int32 := fun k => if k < 8 then d (198 + k) else 0
def HT (d : Nat → Int32) : Nat → Int32 := fun k => d (208 + k)
def S_put (d p : Nat → Int32) (o t : Int32) : Nat → Int32 := fun j => if 198 ≤ j ∧ j < 206 then p (j - 198) else if j = 206 then o else if j = 207 then t else d j
theorem PT_in {d : Nat → Int32} {k : Nat} (h : k < 8) : PT d k = d (198 + k) := by unfold PT; rw [if_pos h]
theorem put_p {d p : Nat → Int32} {o t : Int32} {k : Nat} (h : k < 8) : S_put d p o t (198 + k) = p k := by
  unfold S_put
  rw [if_pos (by omega), Nat.add_sub_cancel_left]
theorem put_o (d p : Nat → Int32) (o t : Int32) : S_put d p o t 206 = o := by
  unfold S_put
  rw [if_neg (by omega), if_pos rfl]
theorem put_t (d p : Nat → Int32) (o t : Int32) : S_put d p o t 207 = t := by
  unfold S_put
  rw [if_neg (by omega), if_neg (by omega), if_pos rfl]
theorem put_hi {d p : Nat → Int32} {o t : Int32} {j : Nat} (h : 208 ≤ j) : S_put d p o t j = d j := by
  unfold S_put
  rw [if_neg (by omega), if_neg (by omega), if_neg (by omega)]
theorem put_lo {d p : Nat → Int32} {o t : Int32} {j : Nat} (h : j < 198) : S_put d p o t j = d j := by
  unfold S_put
  rw [if_neg (by omega), if_neg (by omega), if_neg (by omega)]
theorem put_HT (d p : Nat → Int32) (o t : Int32) : HT (S_put d p o t) = HT d := by
  funext k
  exact put_hi (by omega)
theorem put_PT {d p : Nat → Int32} {o t : Int32} (h : ∀ k, 8 ≤ k → p k = 0) : PT (S_put d p o t) = p := by
  funext k
  unfold PT
  by_cases hk : k < 8
  · rw [if_pos hk, put_p hk]
  · rw [if_neg hk, h k (by omega)]
theorem put_put (d p q : Nat → Int32) (o t o2 t2 : Int32) : S_put (S_put d p o t) q o2 t2 = S_put d q o2 t2 := by
  funext j
  simp only [S_put]
  by_cases h1 : 198 ≤ j ∧ j < 206
  · simp only [if_pos h1]
  · simp only [if_neg h1]
    by_cases h2 : j = 206
    · simp only [if_pos h2]
    · simp only [if_neg h2]
      by_cases h3 : j = 207
      · simp only [if_pos h3]
      · simp only [if_neg h3]
theorem put_self (d : Nat → Int32) : S_put d (PT d) (d 206) (d 207) = d := by
  funext j
  unfold S_put
  by_cases h1 : 198 ≤ j ∧ j < 206
  · rw [if_pos h1, PT_in (by omega), show 198 + (j - 198) = j from by omega]
  · rw [if_neg h1]
    by_cases h2 : j = 206
    · rw [if_pos h2, h2]
    · rw [if_neg h2]
      by_cases h3 : j = 207
      · rw [if_pos h3, h3]
      · rw [if_neg h3]
theorem upd_put_p {d p : Nat → Int32} {o t x : Int32} {k : Nat} (h : k < 8) : upd (S_put d p o t) (198 + k) x = S_put d (upd p k x) o t := by
  funext j
  unfold upd S_put
  by_cases e : j = 198 + k
  · subst e
    rw [if_pos rfl, if_pos (by omega)]
    show x = if 198 + k - 198 = k then x else p (198 + k - 198)
    rw [if_pos (by omega)]
  · rw [if_neg e]
    by_cases h1 : 198 ≤ j ∧ j < 206
    · rw [if_pos h1, if_pos h1]
      show p (j - 198) = if j - 198 = k then x else p (j - 198)
      rw [if_neg (by omega)]
    · rw [if_neg h1, if_neg h1]
theorem upd_put_o (d p : Nat → Int32) (o t x : Int32) : upd (S_put d p o t) 206 x = S_put d p x t := by
  funext j
  unfold upd S_put
  by_cases e : j = 206
  · subst e
    rw [if_pos rfl, if_neg (by omega), if_pos rfl]
  · rw [if_neg e]
    by_cases h1 : 198 ≤ j ∧ j < 206
    · rw [if_pos h1, if_pos h1]
    · rw [if_neg h1, if_neg h1, if_neg e, if_neg e]
theorem upd_put_t (d p : Nat → Int32) (o t x : Int32) : upd (S_put d p o t) 207 x = S_put d p o x := by
  funext j
  unfold upd S_put
  by_cases e : j = 207
  · subst e
    rw [if_pos rfl, if_neg (by omega), if_neg (by omega), if_pos rfl]
  · rw [if_neg e]
    by_cases h1 : 198 ≤ j ∧ j < 206
    · rw [if_pos h1, if_pos h1]
    · rw [if_neg h1, if_neg h1]
      by_cases h2 : j = 206
      · rw [if_pos h2, if_pos h2]
      · rw [if_neg h2, if_neg h2, if_neg e, if_neg e]
theorem upd_t (d : Nat → Int32) (x : Int32) : upd d 207 x = S_put d (PT d) (d 206) x := by
  have h := upd_put_t d (PT d) (d 206) (d 207) x
  rw [put_self] at h
  exact h
theorem upd_upd (f : Nat → Int32) (i : Nat) (x y : Int32) : upd (upd f i x) i y = upd f i y := by
  funext j
  unfold upd
  by_cases e : j = i
  · rw [if_pos e, if_pos e]
  · rw [if_neg e, if_neg e, if_neg e]
theorem upd_at (f : Nat → Int32) (i : Nat) (x : Int32) : upd f i x i = x := by unfold upd; rw [if_pos rfl]
theorem fill_0 {f p : Nat → Int32} {N : Nat} (hN : N ≤ 8) (h : ∀ k, 8 ≤ k → p k = 0) : ∀ k, 8 ≤ k → S_fill f p N k = 0 := fun k hk => by rw [S_fill_out (by omega)]; exact h k hk
theorem PT_0 (d : Nat → Int32) : ∀ k, 8 ≤ k → PT d k = 0 := fun k hk => by unfold PT; rw [if_neg (by omega)]
/-! what the text tells: its parts -/
def W_kind (w : Nat → Int32) : Nat → Int32 := fun i => w (1 + i)
def W_lean (w : Nat → Int32) : Nat → Int32 := fun i => w (9 + i)
def W_needs (w : Nat → Int32) : Nat → Int32 := fun i => w (17 + i)
def W_hears (w : Nat → Int32) : Nat → Int32 := fun i => w (25 + i)
def W_group (w : Nat → Int32) : Nat → Int32 := fun i => w (33 + i)
def W_first (w : Nat → Int32) : Nat → Int32 := fun i => w (41 + i)
theorem open6_n {n : Nat} (hn : 300 ≤ n) {w : Nat → Int32} {m N : Nat} (hN : N ≤ 8) (hw : w 0 = nI N) (hm : m < 2 ^ 31) : F_X6_open n w (nI m) = some (nI (S_set (P_open (W_kind w) m) N)) := by
  have loop : ∀ k i, i ≤ N → N - i < k → L_X6_open_4 n w (nI m) k (nI (S_set (P_open (W_kind w) m) i)) (nI i) = some (nI (S_set (P_open (W_kind w) m) N), nI N) := by
    intro k
    induction k with
    | zero => intro i _ h; omega
    | succ k ih =>
      intro i hi hk
      rw [L_X6_open_4, show ld w 106 (0 : Int32) = some (w 0) from ld_n (i := 0) (by decide) (by decide), bs, hw]
      by_cases h : N ≤ i
      · obtain rfl : i = N := by omega
        rw [if_pos (nI_le (Nat.le_refl _) (by omega))]
      · rw [if_neg (nI_ge (by omega) (by omega)), has_n n hm (by omega), bs]
        have hstep := ih (i + 1) (by omega) (by omega)
        rw [S_set, ← nI_1] at hstep
        have hlt := S_set_lt (P_open (W_kind w) m) i
        by_cases hb : bt m i = true
        · rw [if_pos hb, if_neg (by decide), show (1 : Int32) + nI i = nI (1 + i) from nI_add 1 i, ld_n (by omega) (by decide), bs]
          by_cases hk2 : w (1 + i) = 2
          · rw [if_pos hk2, bs, show nI (S_set (P_open (W_kind w) m) i) ||| (0 : Int32) = nI (S_set (P_open (W_kind w) m) i) from Int32.or_zero]
            rw [if_neg (by simp [P_open, W_kind, hk2])] at hstep
            exact hstep
          · rw [if_neg hk2, bs, shl1 (by omega), orb hlt]
            rw [if_pos (by simp [P_open, W_kind, hb, hk2])] at hstep
            exact hstep
        · rw [if_neg hb, if_pos rfl, bs, show nI (S_set (P_open (W_kind w) m) i) ||| (0 : Int32) = nI (S_set (P_open (W_kind w) m) i) from Int32.or_zero]
          rw [if_neg (by simp [P_open, hb])] at hstep
          exact hstep
  unfold F_X6_open
  have e : L_X6_open_4 n w (nI m) n 0 0 = some (nI (S_set (P_open (W_kind w) m) N), nI N) := loop n 0 (Nat.zero_le _) (by omega)
  rw [e]
  rfl
theorem groupSet6_n {n : Nat} (hn : 300 ≤ n) {w : Nat → Int32} {g : Int32} {N : Nat} (hN : N ≤ 8) (hw : w 0 = nI N) : F_X6_groupSet n w g = some (nI (S_set (P_grp (W_group w) g) N)) := by
  have loop : ∀ k i, i ≤ N → N - i < k → L_X6_groupSet_4 w g k (nI (S_set (P_grp (W_group w) g) i)) (nI i) = some (nI (S_set (P_grp (W_group w) g) N), nI N) := by
    intro k
    induction k with
    | zero => intro i _ h; omega
    | succ k ih =>
      intro i hi hk
      rw [L_X6_groupSet_4, show ld w 106 (0 : Int32) = some (w 0) from ld_n (i := 0) (by decide) (by decide), bs, hw]
      by_cases h : N ≤ i
      · obtain rfl : i = N := by omega
        rw [if_pos (nI_le (Nat.le_refl _) (by omega))]
      · rw [if_neg (nI_ge (by omega) (by omega)), show (33 : Int32) + nI i = nI (33 + i) from nI_add 33 i, ld_n (by omega) (by decide), bs]
        have hstep := ih (i + 1) (by omega) (by omega)
        rw [S_set, ← nI_1] at hstep
        have hlt := S_set_lt (P_grp (W_group w) g) i
        by_cases h0 : w (33 + i) = g
        · rw [if_pos h0, bs, shl1 (by omega), orb hlt]
          rw [if_pos (by simp [P_grp, W_group, h0])] at hstep
          exact hstep
        · rw [if_neg h0, bs, show nI (S_set (P_grp (W_group w) g) i) ||| (0 : Int32) = nI (S_set (P_grp (W_group w) g) i) from Int32.or_zero]
          rw [if_neg (by simp [P_grp, W_group, h0])] at hstep
          exact hstep
  unfold F_X6_groupSet
  have e : L_X6_groupSet_4 w g n 0 0 = some (nI (S_set (P_grp (W_group w) g) N), nI N) := loop n 0 (Nat.zero_le _) (by omega)
  rw [e]
  rfl
theorem ones6_n {n : Nat} (hn : 300 ≤ n) {m : Nat} (hm : m < 2 ^ 31) : F_X6_ones n (nI m) = some (nI (S_ones m 8)) := by
  have loop : ∀ k i, i ≤ 8 → 8 - i < k → L_X6_ones_4 (nI m) k (nI (S_ones m i)) (nI i) = some (nI (S_ones m 8), nI 8) := by
    intro k
    induction k with
    | zero => intro i _ h; omega
    | succ k ih =>
      intro i hi hk
      rw [L_X6_ones_4]
      by_cases h : 8 ≤ i
      · obtain rfl : i = 8 := by omega
        rw [if_pos (by decide)]
      · rw [if_neg (show ¬ (8 : Int32) ≤ nI i from nI_ge (b := 8) (by omega) (by decide)), bitI hm (by omega), nI_add, nI_1]
        exact ih (i + 1) (by omega) (by omega)
  unfold F_X6_ones
  have e : L_X6_ones_4 (nI m) n 0 0 = _ := loop n 0 (Nat.zero_le _) (by omega)
  rw [e]
  rfl
theorem warms6_n {n : Nat} (hn : 300 ≤ n) {w d : Nat → Int32} {N : Nat} (hN : N ≤ 8) (hw : w 0 = nI N) (deg : Int32) : F_X6_warms n w d deg = some (S_put d (S_fill (S_warm (W_kind w) deg (PT d)) (PT d) N) (d 206) (d 207)) := by
  have loop : ∀ k i, i ≤ N → N - i < k → L_X6_warms_2 n w deg k (nI i) (S_put d (S_fill (S_warm (W_kind w) deg (PT d)) (PT d) i) (d 206) (d 207)) = some (nI N, S_put d (S_fill (S_warm (W_kind w) deg (PT d)) (PT d) N) (d 206) (d 207)) := by
    intro k
    induction k with
    | zero => intro i _ h; omega
    | succ k ih =>
      intro i hi hk
      rw [L_X6_warms_2, show ld w 106 (0 : Int32) = some (w 0) from ld_n (i := 0) (by decide) (by decide), bs, hw]
      by_cases h : N ≤ i
      · obtain rfl : i = N := by omega
        rw [if_pos (nI_le (Nat.le_refl _) (by omega))]
      · rw [if_neg (nI_ge (by omega) (by omega)), show (1 : Int32) + nI i = nI (1 + i) from nI_add 1 i, ld_n (by omega) (by decide), bs, bs, bs]
        have ej : (if w (1 + i) = 0 then some (-1 : Int32) else if w (1 + i) = 1 then some 1 else if w (1 + i) = 3 then some (-2) else some 0) = some (S_hpd (W_kind w i)) := by
          unfold S_hpd W_kind
          by_cases h0 : w (1 + i) = 0
          · rw [if_pos h0, if_pos h0]
          · rw [if_neg h0, if_neg h0]
            by_cases h1 : w (1 + i) = 1
            · rw [if_pos h1, if_pos h1]
            · rw [if_neg h1, if_neg h1]
              by_cases h3 : w (1 + i) = 3
              · rw [if_pos h3, if_pos h3]
              · rw [if_neg h3, if_neg h3]
        rw [ej, bs, show (198 : Int32) + nI i = nI (198 + i) from nI_add 198 i, ld_n (by omega) (by decide), bs, within6_n, bs, sto_n (by omega) (by decide), bs, put_p (by omega), S_fill_out (Nat.le_refl i), upd_put_p (by omega), S_fill_up' (by unfold S_warm; rw [Int32.mul_comm]), nI_1]
        exact ih (i + 1) (by omega) (by omega)
  unfold F_X6_warms
  have e := loop n 0 (Nat.zero_le _) (by omega)
  rw [S_fill_0, put_self] at e
  rw [show L_X6_warms_2 n w deg n 0 d = _ from e]
  rfl
theorem passes6_n {n : Nat} (hn : 300 ≤ n) {w d : Nat → Int32} {N : Nat} (hN : N ≤ 8) (hw : w 0 = nI N) (x : Int32) : F_X6_passes n w d x = some (S_put d (S_fill (S_warm (W_kind w) (S_deg (w 51) (d 207) x) (PT d)) (PT d) N) (d 206) (d 207 + x)) := by
  unfold F_X6_passes
  rw [show ld d 216 (207 : Int32) = some (d 207) from ld_n (i := 207) (by decide) (by decide), bs, bs, show sto d 216 (207 : Int32) (d 207 + x) = some (upd d 207 (d 207 + x)) from sto_n (i := 207) (by decide) (by decide), bs, show ld w 106 (51 : Int32) = some (w 51) from ld_n (i := 51) (by decide) (by decide), bs, upd_t, show ld (S_put d (PT d) (d 206) (d 207 + x)) 216 (207 : Int32) = some (S_put d (PT d) (d 206) (d 207 + x) 207) from ld_n (i := 207) (by decide) (by decide), bs, put_t, warms6_n hn hN hw, bs, put_t, put_o, put_put, put_PT (PT_0 d)]
  unfold S_deg
  rw [Int32.mul_comm]
theorem S_frm01 (h : Nat → Int32) (T : Nat) : ∀ i, S_frm h T i = 0 ∨ S_frm h T i = 1
  | 0 => Or.inl rfl
  | i + 1 => by
    rw [S_frm]
    split
    · split
      · exact Or.inr rfl
      · exact S_frm01 h T i
    · exact S_frm01 h T i
theorem nz6_n (T : Nat) (n : Nat) (hn : 300 ≤ n) (hT : T < 2 ^ 31) : (if nI (S_ones T 8) ≤ 0 then some (0 : Int32) else Option.bind (F_X6_ones n (nI T)) fun r => some ((r - 1) / 2)) = some (S_nz T) := by
  rw [ones6_n hn hT, bs]
  have key : ∀ c, c ≤ 8 → (if nI c ≤ 0 then some (0 : Int32) else some ((nI c - 1) / 2)) = some (nI ((c - 1) / 2)) := by decide +kernel
  exact key _ (S_ones_le T 8)
theorem tunes6_n {n : Nat} (hn : 300 ≤ n) {N : Nat} (hN : N ≤ 8) {w d le th : Nat → Int32} (hw : w 0 = nI N) {draws k0 : Int32} {dr : Bool} {m : Nat} (hm : m < 2 ^ 31) (hh : H_ok N (HT d)) (hd : dr = decide (0 ≤ draws)) (ho : S_ok (d 206)) :
    ∃ th', F_X6_tunes n w d th le draws k0 (nI m) = some (S_secs N (W_kind w) (W_needs w) m, (S_tune N (W_kind w) (W_needs w) (w 50) (w 51) le (HT d) dr draws m (PT d, d 206, d 207, k0)).2.2.2,
      S_put d (S_tune N (W_kind w) (W_needs w) (w 50) (w 51) le (HT d) dr draws m (PT d, d 206, d 207, k0)).1 (S_tune N (W_kind w) (W_needs w) (w 50) (w 51) le (HT d) dr draws m (PT d, d 206, d 207, k0)).2.1 (S_tune N (W_kind w) (W_needs w) (w 50) (w 51) le (HT d) dr draws m (PT d, d 206, d 207, k0)).2.2.1, th') := by
  unfold F_X6_tunes
  rw [open6_n hn hN hw hm, bs]
  have hT := S_set_lt (P_open (W_kind w) m) N
  have hT2 := two8 hN
  have hbt : ∀ i, bt (S_set (P_open (W_kind w) m) N) i = true → i < N := fun i => bt_in
  simp only [S_tune, S_secs]
  generalize S_set (P_open (W_kind w) m) N = T at hT hbt ⊢
  rw [ones6_n hn (by omega), bs]
  have enz := nz6_n T n hn (by omega)
  rw [ones6_n hn (by omega)] at enz
  rw [enz, bs]
  have loop : ∀ k i, i ≤ N → N - i < k → L_X6_tunes_35 n w d le draws (nI T) (S_nz T) k (S_slow (W_needs w) T i) (S_frm (HT d) T i) (nI i) (S_fill (S_np dr draws T k0 le (S_nz T) (PT d) (HT d) (d 206)) th i) (S_dn dr T k0 i)
      = some (S_slow (W_needs w) T N, S_frm (HT d) T N, nI N, S_fill (S_np dr draws T k0 le (S_nz T) (PT d) (HT d) (d 206)) th N, S_dn dr T k0 N) := by
    intro k
    induction k with
    | zero => intro i _ h; omega
    | succ k ih =>
      intro i hi hk
      rw [L_X6_tunes_35, show ld w 106 (0 : Int32) = some (w 0) from ld_n (i := 0) (by decide) (by decide), bs, hw]
      by_cases hq : N ≤ i
      · obtain rfl : i = N := by omega
        rw [if_pos (nI_le (Nat.le_refl _) (by omega))]
      · have hiN : i < N := by omega
        rw [if_neg (nI_ge (by omega) (by omega)), show (198 : Int32) + nI i = nI (198 + i) from nI_add 198 i, ld_n (by omega) (by decide), bs, sto_n (by omega) (by decide), bs, has_n n (by omega) (by omega), bs]
        have hstep := ih (i + 1) (by omega) (by omega)
        rw [S_slow, S_frm, S_dn, ← S_fill_up, ← nI_1] at hstep
        by_cases hb : bt T i = true
        · rw [if_pos hb, if_pos hb, if_pos hb] at hstep
          obtain ⟨a, ha, ea⟩ := hh i hiN
          have ea : d (208 + i) = nI a := ea
          have enp : S_np dr draws T k0 le (S_nz T) (PT d) (HT d) (d 206) i = S_within (S_note le (S_nz T) (PT d) (HT d) (d 206) i + (if dr = true then S_draw draws (S_dn dr T k0 i) else 0)) := by
            unfold S_np
            rw [if_pos hb]
          rw [if_pos hb, if_neg (by decide), show (208 : Int32) + nI i = nI (208 + i) from nI_add 208 i, ld_n (by omega) (by decide), bs, ea]
          have e1 : (if nI a < (8 : Int32) then some (nI a) else some (8 : Int32)) = some (nI (if a < 8 then a else 8)) := by
            by_cases c : a < 8
            · rw [if_pos (show nI a < (8 : Int32) from nI_lt (b := 8) c (by decide)), if_pos c]
            · rw [if_neg (show ¬ nI a < (8 : Int32) from nI_nlt (b := 8) (by omega) (by omega)), if_neg c]
              rfl
          have e2 : 198 + (if a < 8 then a else 8) < 216 := by split <;> omega
          rw [e1, bs, show (198 : Int32) + nI (if a < 8 then a else 8) = nI (198 + (if a < 8 then a else 8)) from nI_add 198 _, ld_n e2 (by decide), bs]
          have e3 : (if nI a = (8 : Int32) then some (0 : Int32) else Option.bind (ld le 8 (nI i)) fun v => some ((d (198 + (if a < 8 then a else 8)) + v) + S_nz T)) = some (S_note le (S_nz T) (PT d) (HT d) (d 206) i) := by
            unfold S_note HT
            rw [ea]
            by_cases c8 : a = 8
            · subst c8
              rw [if_pos (show nI 8 = (8 : Int32) from rfl), if_pos (show nI 8 = (8 : Int32) from rfl)]
            · have cn : ¬ nI a = (8 : Int32) := nI_ne (b := 8) (by omega) (by decide) c8
              rw [if_neg cn, if_neg cn, ld_n (by omega) (by decide), bs]
              by_cases c9 : a = 9
              · subst c9
                rfl
              · have cm : ¬ nI a = (9 : Int32) := nI_ne (b := 9) (by omega) (by decide) c9
                rw [if_neg cm, nI_clamp (by omega), PT_in (by omega), if_pos (show a < 8 by omega)]
          rw [e3, bs, sto_n (by omega) (by decide), bs, upd_upd, ld_n (by omega) (by decide), bs, upd_at]
          have e4 : (if 0 ≤ draws then Option.bind (F_X6_drawNext n draws (S_dn dr T k0 i)) fun r => some (r.1, r.2) else some ((0 : Int32), S_dn dr T k0 i)) = some (if dr = true then S_draw draws (S_dn dr T k0 i) else 0, if dr = true then S_dn dr T k0 i + 1 else S_dn dr T k0 i) := by
            rw [drawNext_n, bs]
            by_cases c : 0 ≤ draws
            · have : dr = true := by rw [hd]; exact decide_eq_true c
              rw [if_pos c, if_pos this, if_pos this]
            · have : ¬ dr = true := by rw [hd]; simpa using c
              rw [if_neg c, if_neg this, if_neg this]
          rw [e4, bs, within6_n, bs, sto_n (by omega) (by decide), bs, upd_upd, show (17 : Int32) + nI i = nI (17 + i) from nI_add 17 i, ld_n (by omega) (by decide), bs, bs]
          have e5 : (if w (17 + i) ≤ S_slow (W_needs w) T i then some (S_slow (W_needs w) T i) else some (w (17 + i))) = some (if S_slow (W_needs w) T i < W_needs w i then W_needs w i else S_slow (W_needs w) T i) := by
            show (if W_needs w i ≤ _ then _ else some (W_needs w i)) = _
            by_cases c : W_needs w i ≤ S_slow (W_needs w) T i
            · rw [if_pos c, if_neg (by rw [fa_lt]; rw [fa_le] at c; omega)]
            · rw [if_neg c, if_pos (by rw [fa_lt]; rw [fa_le] at c; omega)]
          rw [e5, bs]
          have e6 : (if S_frm (HT d) T i = 0 then (if nI a = (9 : Int32) then some (1 : Int32) else some 0) else some 1) = some (if HT d i = 9 then 1 else S_frm (HT d) T i) := by
            unfold HT
            rw [ea]
            rcases S_frm01 (HT d) T i with c | c
            · unfold HT at c
              rw [c, if_pos rfl]
              by_cases c9 : nI a = (9 : Int32)
              · rw [if_pos c9, if_pos c9]
              · rw [if_neg c9, if_neg c9]
            · unfold HT at c
              rw [c, if_neg (by decide)]
              split <;> rfl
          rw [e6, bs, bs]
          rw [enp] at hstep
          exact hstep
        · rw [if_neg hb, if_neg hb, if_neg hb] at hstep
          rw [if_neg hb, if_pos rfl, bs]
          rw [show S_np dr draws T k0 le (S_nz T) (PT d) (HT d) (d 206) i = d (198 + i) from by unfold S_np; rw [if_neg hb, PT_in (by omega)]] at hstep
          exact hstep
  have e := loop n 0 (Nat.zero_le _) (by omega)
  rw [S_fill_0] at e
  rw [show L_X6_tunes_35 n w d le draws (nI T) (S_nz T) n 0 0 0 th k0 = _ from e, bs]
  have loop2 : ∀ k i, i ≤ N → N - i < k → L_X6_tunes_234 w (S_slow (W_needs w) T N, S_frm (HT d) T N, nI N, S_fill (S_np dr draws T k0 le (S_nz T) (PT d) (HT d) (d 206)) th N, S_dn dr T k0 N) k (nI i) (S_put d (S_fill (S_np dr draws T k0 le (S_nz T) (PT d) (HT d) (d 206)) (PT d) i) (d 206) (d 207))
      = some (nI N, S_put d (S_fill (S_np dr draws T k0 le (S_nz T) (PT d) (HT d) (d 206)) (PT d) N) (d 206) (d 207)) := by
    intro k
    induction k with
    | zero => intro i _ h; omega
    | succ k ih =>
      intro i hi hk
      rw [L_X6_tunes_234, show ld w 106 (0 : Int32) = some (w 0) from ld_n (i := 0) (by decide) (by decide), bs, hw]
      by_cases hq : N ≤ i
      · obtain rfl : i = N := by omega
        rw [if_pos (nI_le (Nat.le_refl _) (by omega))]
      · rw [if_neg (nI_ge (by omega) (by omega)), ld_n (by omega) (by decide), bs, show (198 : Int32) + nI i = nI (198 + i) from nI_add 198 i, sto_n (by omega) (by decide), bs, upd_put_p (by omega), nI_1]
        dsimp only
        rw [S_fill_in (show i < N by omega), S_fill_up]
        exact ih (i + 1) (by omega) (by omega)
  have e2 := loop2 n 0 (Nat.zero_le _) (by omega)
  rw [S_fill_0, put_self] at e2
  rw [show L_X6_tunes_234 w (S_slow (W_needs w) T N, S_frm (HT d) T N, nI N, S_fill (S_np dr draws T k0 le (S_nz T) (PT d) (HT d) (d 206)) th N, S_dn dr T k0 N) n 0 d = _ from e2, bs]
  dsimp only
  rw [show ld (S_put d (S_fill (S_np dr draws T k0 le (S_nz T) (PT d) (HT d) (d 206)) (PT d) N) (d 206) (d 207)) 216 (206 : Int32) = some (d 206) from by rw [show (206 : Int32) = nI 206 from rfl, ld_n (by decide) (by decide), put_o], bs]
  have e7 : (if S_frm (HT d) T N = 0 then some (0 : Int32) else Option.bind (ld w 106 50) fun v => some v) = some (if S_frm (HT d) T N = 0 then 0 else w 50) := by
    rw [show ld w 106 (50 : Int32) = some (w 50) from ld_n (i := 50) (by decide) (by decide), bs]
    split <;> rfl
  rw [e7, bs, within6_n, bs]
  have e8 : S_within (d 206 + (if S_frm (HT d) T N = 0 then 0 else w 50)) = if S_frm (HT d) T N = 0 then d 206 else S_within (d 206 + w 50) := by
    split
    · rw [Int32.add_zero, within_id ho]
    · rfl
  have hz : ∀ k, 8 ≤ k → S_fill (S_np dr draws T k0 le (S_nz T) (PT d) (HT d) (d 206)) (PT d) N k = 0 := fill_0 hN (PT_0 d)
  rw [e8, show sto (S_put d (S_fill (S_np dr draws T k0 le (S_nz T) (PT d) (HT d) (d 206)) (PT d) N) (d 206) (d 207)) 216 (206 : Int32) (if S_frm (HT d) T N = 0 then d 206 else S_within (d 206 + w 50)) = some _ from sto_n (i := 206) (by decide) (by decide), bs, upd_put_o, passes6_n hn hN hw, bs, put_o, put_t, put_put, put_PT hz, S_fill_warm]
  exact ⟨_, rfl⟩
