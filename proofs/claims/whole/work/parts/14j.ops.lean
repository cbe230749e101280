/-! The shelves of the class: what is put, what is taken. -/
def setF (f : Nat → Nat → Int32) (x : Nat) (g : Nat → Int32) : Nat → Nat → Int32 := fun j => if j = x then g else f j
theorem put8_n {n : Nat} (hn : 300 ≤ n) (P H : Nat → Nat → Int32) (O T : Nat → Int32) {x u : Nat} (hx : x < 8) (hu : u ≤ 8) (p h : Nat → Int32) (o t : Int32) :
    F_X1_put_c8 n (P 0) (H 0) (O 0) (T 0) (P 1) (H 1) (O 1) (T 1) (P 2) (H 2) (O 2) (T 2) (P 3) (H 3) (O 3) (T 3) (P 4) (H 4) (O 4) (T 4) (P 5) (H 5) (O 5) (T 5) (P 6) (H 6) (O 6) (T 6) (P 7) (H 7) (O 7) (T 7) (nI x) (nI u) p h o t = some (nI ((x + 1) % 8), nI (if u = 8 then 8 else u + 1), (upd O x o) 0, (upd T x t) 0, (setF P x (S_fill p (P x) 8)) 0, (setF H x (S_fill h (H x) 8)) 0, (upd O x o) 1, (upd T x t) 1, (setF P x (S_fill p (P x) 8)) 1, (setF H x (S_fill h (H x) 8)) 1, (upd O x o) 2, (upd T x t) 2, (setF P x (S_fill p (P x) 8)) 2, (setF H x (S_fill h (H x) 8)) 2, (upd O x o) 3, (upd T x t) 3, (setF P x (S_fill p (P x) 8)) 3, (setF H x (S_fill h (H x) 8)) 3, (upd O x o) 4, (upd T x t) 4, (setF P x (S_fill p (P x) 8)) 4, (setF H x (S_fill h (H x) 8)) 4, (upd O x o) 5, (upd T x t) 5, (setF P x (S_fill p (P x) 8)) 5, (setF H x (S_fill h (H x) 8)) 5, (upd O x o) 6, (upd T x t) 6, (setF P x (S_fill p (P x) 8)) 6, (setF H x (S_fill h (H x) 8)) 6, (upd O x o) 7, (upd T x t) 7, (setF P x (S_fill p (P x) 8)) 7, (setF H x (S_fill h (H x) 8)) 7) := by
  have e : (if (8 : Int32) < nI u + (1 : Int32) then (8 : Int32) else nI u + (1 : Int32)) = nI (if u = 8 then 8 else u + 1) := by
    rw [nI_1]
    by_cases c : u = 8
    · rw [if_pos c, if_pos (show (8 : Int32) < nI (u + 1) from nI_lt (a := 8) (by omega) (by omega))]
      rfl
    · rw [if_neg c, if_neg (show ¬ (8 : Int32) < nI (u + 1) from nI_nlt (a := 8) (by omega) (by omega))]
  unfold F_X1_put_c8
  rw [e]
  have cs : x = 0 ∨ x = 1 ∨ x = 2 ∨ x = 3 ∨ x = 4 ∨ x = 5 ∨ x = 6 ∨ x = 7 := by omega
  rcases cs with rfl | rfl | rfl | rfl | rfl | rfl | rfl | rfl
  · rw [if_pos (show nI 0 = (0 : Int32) from rfl), become_n hn, bs, if_neg (show ¬ (8 : Int32) ≤ nI 0 + 1 from by decide), bs]
    rfl
  · rw [if_neg (show ¬ nI 1 = (0 : Int32) from by decide), if_pos (show nI 1 = (1 : Int32) from rfl), become_n hn, bs, if_neg (show ¬ (8 : Int32) ≤ nI 1 + 1 from by decide), bs]
    rfl
  · rw [if_neg (show ¬ nI 2 = (0 : Int32) from by decide), if_neg (show ¬ nI 2 = (1 : Int32) from by decide), if_pos (show nI 2 = (2 : Int32) from rfl), become_n hn, bs, if_neg (show ¬ (8 : Int32) ≤ nI 2 + 1 from by decide), bs]
    rfl
  · rw [if_neg (show ¬ nI 3 = (0 : Int32) from by decide), if_neg (show ¬ nI 3 = (1 : Int32) from by decide), if_neg (show ¬ nI 3 = (2 : Int32) from by decide), if_pos (show nI 3 = (3 : Int32) from rfl), become_n hn, bs, if_neg (show ¬ (8 : Int32) ≤ nI 3 + 1 from by decide), bs]
    rfl
  · rw [if_neg (show ¬ nI 4 = (0 : Int32) from by decide), if_neg (show ¬ nI 4 = (1 : Int32) from by decide), if_neg (show ¬ nI 4 = (2 : Int32) from by decide), if_neg (show ¬ nI 4 = (3 : Int32) from by decide), if_pos (show nI 4 = (4 : Int32) from rfl), become_n hn, bs, if_neg (show ¬ (8 : Int32) ≤ nI 4 + 1 from by decide), bs]
    rfl
  · rw [if_neg (show ¬ nI 5 = (0 : Int32) from by decide), if_neg (show ¬ nI 5 = (1 : Int32) from by decide), if_neg (show ¬ nI 5 = (2 : Int32) from by decide), if_neg (show ¬ nI 5 = (3 : Int32) from by decide), if_neg (show ¬ nI 5 = (4 : Int32) from by decide), if_pos (show nI 5 = (5 : Int32) from rfl), become_n hn, bs, if_neg (show ¬ (8 : Int32) ≤ nI 5 + 1 from by decide), bs]
    rfl
  · rw [if_neg (show ¬ nI 6 = (0 : Int32) from by decide), if_neg (show ¬ nI 6 = (1 : Int32) from by decide), if_neg (show ¬ nI 6 = (2 : Int32) from by decide), if_neg (show ¬ nI 6 = (3 : Int32) from by decide), if_neg (show ¬ nI 6 = (4 : Int32) from by decide), if_neg (show ¬ nI 6 = (5 : Int32) from by decide), if_pos (show nI 6 = (6 : Int32) from rfl), become_n hn, bs, if_neg (show ¬ (8 : Int32) ≤ nI 6 + 1 from by decide), bs]
    rfl
  · rw [if_neg (show ¬ nI 7 = (0 : Int32) from by decide), if_neg (show ¬ nI 7 = (1 : Int32) from by decide), if_neg (show ¬ nI 7 = (2 : Int32) from by decide), if_neg (show ¬ nI 7 = (3 : Int32) from by decide), if_neg (show ¬ nI 7 = (4 : Int32) from by decide), if_neg (show ¬ nI 7 = (5 : Int32) from by decide), if_neg (show ¬ nI 7 = (6 : Int32) from by decide), if_pos (show nI 7 = (7 : Int32) from rfl), become_n hn, bs, if_pos (show (8 : Int32) ≤ nI 7 + 1 from by decide), bs]
    rfl
theorem take8_n {n : Nat} (hn : 300 ≤ n) (P H : Nat → Nat → Int32) (O T : Nat → Int32) {x u : Nat} (hx : x < 8) (hu : u ≤ 8) (h0 : 0 < u) (p h : Nat → Int32) (o t : Int32) :
    F_X1_takeInto_c8 n (P 0) (H 0) (O 0) (T 0) (P 1) (H 1) (O 1) (T 1) (P 2) (H 2) (O 2) (T 2) (P 3) (H 3) (O 3) (T 3) (P 4) (H 4) (O 4) (T 4) (P 5) (H 5) (O 5) (T 5) (P 6) (H 6) (O 6) (T 6) (P 7) (H 7) (O 7) (T 7) (nI x) (nI u) p h o t = some (1, nI ((x + 7) % 8), nI (u - 1), O ((x + 7) % 8), T ((x + 7) % 8), S_fill (P ((x + 7) % 8)) p 8, S_fill (H ((x + 7) % 8)) h 8) := by
  unfold F_X1_takeInto_c8
  rw [if_pos (show (0 : Int32) < nI u from nI_lt (a := 0) h0 (by omega)), nI_m1 h0]
  have cs : x = 0 ∨ x = 1 ∨ x = 2 ∨ x = 3 ∨ x = 4 ∨ x = 5 ∨ x = 6 ∨ x = 7 := by omega
  rcases cs with rfl | rfl | rfl | rfl | rfl | rfl | rfl | rfl
  · rw [if_pos (show nI 0 ≤ (0 : Int32) from by decide), bs, show (8 : Int32) - 1 = nI 7 from by decide, if_neg (show ¬ nI 7 = (0 : Int32) from by decide), if_neg (show ¬ nI 7 = (1 : Int32) from by decide), if_neg (show ¬ nI 7 = (2 : Int32) from by decide), if_neg (show ¬ nI 7 = (3 : Int32) from by decide), if_neg (show ¬ nI 7 = (4 : Int32) from by decide), if_neg (show ¬ nI 7 = (5 : Int32) from by decide), if_neg (show ¬ nI 7 = (6 : Int32) from by decide), if_pos (show nI 7 = (7 : Int32) from rfl), become_n hn, bs]
  · rw [if_neg (show ¬ nI 1 ≤ (0 : Int32) from by decide), bs, show nI 1 - 1 = nI 0 from by decide, if_pos (show nI 0 = (0 : Int32) from rfl), become_n hn, bs]
  · rw [if_neg (show ¬ nI 2 ≤ (0 : Int32) from by decide), bs, show nI 2 - 1 = nI 1 from by decide, if_neg (show ¬ nI 1 = (0 : Int32) from by decide), if_pos (show nI 1 = (1 : Int32) from rfl), become_n hn, bs]
  · rw [if_neg (show ¬ nI 3 ≤ (0 : Int32) from by decide), bs, show nI 3 - 1 = nI 2 from by decide, if_neg (show ¬ nI 2 = (0 : Int32) from by decide), if_neg (show ¬ nI 2 = (1 : Int32) from by decide), if_pos (show nI 2 = (2 : Int32) from rfl), become_n hn, bs]
  · rw [if_neg (show ¬ nI 4 ≤ (0 : Int32) from by decide), bs, show nI 4 - 1 = nI 3 from by decide, if_neg (show ¬ nI 3 = (0 : Int32) from by decide), if_neg (show ¬ nI 3 = (1 : Int32) from by decide), if_neg (show ¬ nI 3 = (2 : Int32) from by decide), if_pos (show nI 3 = (3 : Int32) from rfl), become_n hn, bs]
  · rw [if_neg (show ¬ nI 5 ≤ (0 : Int32) from by decide), bs, show nI 5 - 1 = nI 4 from by decide, if_neg (show ¬ nI 4 = (0 : Int32) from by decide), if_neg (show ¬ nI 4 = (1 : Int32) from by decide), if_neg (show ¬ nI 4 = (2 : Int32) from by decide), if_neg (show ¬ nI 4 = (3 : Int32) from by decide), if_pos (show nI 4 = (4 : Int32) from rfl), become_n hn, bs]
  · rw [if_neg (show ¬ nI 6 ≤ (0 : Int32) from by decide), bs, show nI 6 - 1 = nI 5 from by decide, if_neg (show ¬ nI 5 = (0 : Int32) from by decide), if_neg (show ¬ nI 5 = (1 : Int32) from by decide), if_neg (show ¬ nI 5 = (2 : Int32) from by decide), if_neg (show ¬ nI 5 = (3 : Int32) from by decide), if_neg (show ¬ nI 5 = (4 : Int32) from by decide), if_pos (show nI 5 = (5 : Int32) from rfl), become_n hn, bs]
  · rw [if_neg (show ¬ nI 7 ≤ (0 : Int32) from by decide), bs, show nI 7 - 1 = nI 6 from by decide, if_neg (show ¬ nI 6 = (0 : Int32) from by decide), if_neg (show ¬ nI 6 = (1 : Int32) from by decide), if_neg (show ¬ nI 6 = (2 : Int32) from by decide), if_neg (show ¬ nI 6 = (3 : Int32) from by decide), if_neg (show ¬ nI 6 = (4 : Int32) from by decide), if_neg (show ¬ nI 6 = (5 : Int32) from by decide), if_pos (show nI 6 = (6 : Int32) from rfl), become_n hn, bs]
theorem take8_0 {n : Nat} (P H : Nat → Nat → Int32) (O T : Nat → Int32) (x : Int32) (p h : Nat → Int32) (o t : Int32) :
    F_X1_takeInto_c8 n (P 0) (H 0) (O 0) (T 0) (P 1) (H 1) (O 1) (T 1) (P 2) (H 2) (O 2) (T 2) (P 3) (H 3) (O 3) (T 3) (P 4) (H 4) (O 4) (T 4) (P 5) (H 5) (O 5) (T 5) (P 6) (H 6) (O 6) (T 6) (P 7) (H 7) (O 7) (T 7) x (nI 0) p h o t = some (0, x, nI 0, o, t, p, h) := by
  unfold F_X1_takeInto_c8
  rw [if_neg (show ¬ (0 : Int32) < nI 0 from by decide)]
theorem put2_n {n : Nat} (hn : 300 ≤ n) (P H : Nat → Nat → Int32) (O T : Nat → Int32) {x u : Nat} (hx : x < 2) (hu : u ≤ 2) (p h : Nat → Int32) (o t : Int32) :
    F_X1_put_c2 n (P 0) (H 0) (O 0) (T 0) (P 1) (H 1) (O 1) (T 1) (nI x) (nI u) p h o t = some (nI ((x + 1) % 2), nI (if u = 2 then 2 else u + 1), (upd O x o) 0, (upd T x t) 0, (setF P x (S_fill p (P x) 8)) 0, (setF H x (S_fill h (H x) 8)) 0, (upd O x o) 1, (upd T x t) 1, (setF P x (S_fill p (P x) 8)) 1, (setF H x (S_fill h (H x) 8)) 1) := by
  have e : (if (2 : Int32) < nI u + (1 : Int32) then (2 : Int32) else nI u + (1 : Int32)) = nI (if u = 2 then 2 else u + 1) := by
    rw [nI_1]
    by_cases c : u = 2
    · rw [if_pos c, if_pos (show (2 : Int32) < nI (u + 1) from nI_lt (a := 2) (by omega) (by omega))]
      rfl
    · rw [if_neg c, if_neg (show ¬ (2 : Int32) < nI (u + 1) from nI_nlt (a := 2) (by omega) (by omega))]
  unfold F_X1_put_c2
  rw [e]
  have cs : x = 0 ∨ x = 1 := by omega
  rcases cs with rfl | rfl
  · rw [if_pos (show nI 0 = (0 : Int32) from rfl), become_n hn, bs, if_neg (show ¬ (2 : Int32) ≤ nI 0 + 1 from by decide), bs]
    rfl
  · rw [if_neg (show ¬ nI 1 = (0 : Int32) from by decide), if_pos (show nI 1 = (1 : Int32) from rfl), become_n hn, bs, if_pos (show (2 : Int32) ≤ nI 1 + 1 from by decide), bs]
    rfl
theorem take2_n {n : Nat} (hn : 300 ≤ n) (P H : Nat → Nat → Int32) (O T : Nat → Int32) {x u : Nat} (hx : x < 2) (hu : u ≤ 2) (h0 : 0 < u) (p h : Nat → Int32) (o t : Int32) :
    F_X1_takeInto_c2 n (P 0) (H 0) (O 0) (T 0) (P 1) (H 1) (O 1) (T 1) (nI x) (nI u) p h o t = some (1, nI ((x + 1) % 2), nI (u - 1), O ((x + 1) % 2), T ((x + 1) % 2), S_fill (P ((x + 1) % 2)) p 8, S_fill (H ((x + 1) % 2)) h 8) := by
  unfold F_X1_takeInto_c2
  rw [if_pos (show (0 : Int32) < nI u from nI_lt (a := 0) h0 (by omega)), nI_m1 h0]
  have cs : x = 0 ∨ x = 1 := by omega
  rcases cs with rfl | rfl
  · rw [if_pos (show nI 0 ≤ (0 : Int32) from by decide), bs, show (2 : Int32) - 1 = nI 1 from by decide, if_neg (show ¬ nI 1 = (0 : Int32) from by decide), if_pos (show nI 1 = (1 : Int32) from rfl), become_n hn, bs]
  · rw [if_neg (show ¬ nI 1 ≤ (0 : Int32) from by decide), bs, show nI 1 - 1 = nI 0 from by decide, if_pos (show nI 0 = (0 : Int32) from rfl), become_n hn, bs]
theorem take2_0 {n : Nat} (P H : Nat → Nat → Int32) (O T : Nat → Int32) (x : Int32) (p h : Nat → Int32) (o t : Int32) :
    F_X1_takeInto_c2 n (P 0) (H 0) (O 0) (T 0) (P 1) (H 1) (O 1) (T 1) x (nI 0) p h o t = some (0, x, nI 0, o, t, p, h) := by
  unfold F_X1_takeInto_c2
  rw [if_neg (show ¬ (0 : Int32) < nI 0 from by decide)]
/-! and of the Model's -/
theorem minds11_n {n : Nat} (hn : 300 ≤ n) (d : Nat → Int32) : L_X6_minds_11 n 0 d = some (nI 126, fun j => if 54 ≤ j ∧ j < 54 + 126 then d (j + 18) else d j) := by
  have loop : ∀ k i, i ≤ 126 → 126 - i < k → L_X6_minds_11 k (nI i) (fun j => if 54 ≤ j ∧ j < 54 + i then d (j + 18) else d j) = some (nI 126, fun j => if 54 ≤ j ∧ j < 54 + 126 then d (j + 18) else d j) := by
    intro k
    induction k with
    | zero => intro i _ h; omega
    | succ k ih =>
      intro i hi hk
      rw [L_X6_minds_11]
      by_cases q : 126 ≤ i
      · obtain rfl : i = 126 := by omega
        rw [if_pos (by decide)]
      · rw [if_neg (show ¬ (126 : Int32) ≤ nI i from nI_ge (b := 126) (by omega) (by decide)), show (54 : Int32) + nI i = nI (54 + i) from nI_add 54 i, show nI (54 + i) + (18 : Int32) = nI (54 + i + 18) from nI_add _ 18, ld_n (by omega) (by decide), bs, sto_n (by omega) (by decide), bs, nI_1]
        have e : upd (fun j => if 54 ≤ j ∧ j < 54 + i then d (j + 18) else d j) (54 + i) ((fun j => if 54 ≤ j ∧ j < 54 + i then d (j + 18) else d j) (54 + i + 18)) = fun j => if 54 ≤ j ∧ j < 54 + (i + 1) then d (j + 18) else d j := by
          funext j
          show (if j = 54 + i then (if 54 ≤ 54 + i + 18 ∧ 54 + i + 18 < 54 + i then d (54 + i + 18 + 18) else d (54 + i + 18)) else if 54 ≤ j ∧ j < 54 + i then d (j + 18) else d j) = if 54 ≤ j ∧ j < 54 + (i + 1) then d (j + 18) else d j
          by_cases c : j = 54 + i
          · subst c
            rw [if_pos rfl, if_neg (by omega), if_pos ⟨by omega, by omega⟩]
          · rw [if_neg c]
            by_cases c2 : 54 ≤ j ∧ j < 54 + i
            · rw [if_pos c2, if_pos ⟨c2.1, by omega⟩]
            · rw [if_neg c2, if_neg (fun q => c2 ⟨q.1, by omega⟩)]
        rw [e]
        exact ih (i + 1) (by omega) (by omega)
  have e := loop n 0 (by omega) (by omega)
  rw [show (fun j => if 54 ≤ j ∧ j < 54 + 0 then d (j + 18) else d j) = d from by funext j; rw [if_neg (by omega)]] at e
  exact e
/-- the 18 cells at a laid at b -/
def S_cp (a b : Nat) (d : Nat → Int32) (i : Nat) : Nat → Int32 := fun j => if b ≤ j ∧ j < b + i then d (a + (j - b)) else d j
theorem cp_0 (a b : Nat) (d : Nat → Int32) : S_cp a b d 0 = d := by
  funext j
  unfold S_cp
  rw [if_neg (by omega)]
theorem cp_step {a b i : Nat} (h : a + 18 ≤ b ∨ b + 18 ≤ a) (hi : i < 18) (d : Nat → Int32) : upd (S_cp a b d i) (b + i) (S_cp a b d i (a + i)) = S_cp a b d (i + 1) := by
  funext j
  show (if j = b + i then (if b ≤ a + i ∧ a + i < b + i then d (a + (a + i - b)) else d (a + i)) else if b ≤ j ∧ j < b + i then d (a + (j - b)) else d j) = if b ≤ j ∧ j < b + (i + 1) then d (a + (j - b)) else d j
  by_cases c : j = b + i
  · subst c
    rw [if_pos rfl, if_neg (by omega), if_pos ⟨by omega, by omega⟩, show b + i - b = i from by omega]
  · rw [if_neg c]
    by_cases c2 : b ≤ j ∧ j < b + i
    · rw [if_pos c2, if_pos ⟨c2.1, by omega⟩]
    · rw [if_neg c2, if_neg (fun q => c2 ⟨q.1, by omega⟩)]
theorem cp_in {a b j : Nat} (h : j < 18) (d : Nat → Int32) : S_cp a b d 18 (b + j) = d (a + j) := by
  unfold S_cp
  rw [if_pos ⟨by omega, by omega⟩, show b + j - b = j from by omega]
theorem cp_out {a b j : Nat} (h : j < b ∨ b + 18 ≤ j) (d : Nat → Int32) : S_cp a b d 18 j = d j := by
  unfold S_cp
  rw [if_neg (by omega)]
theorem minds56_n {n : Nat} (hn : 300 ≤ n) {v : Nat} (hv : v ≤ 7) {T2 : Int32 × (Nat → Int32)} (hT : T2.1 = nI v) (d : Nat → Int32) : L_X6_minds_56 T2 n 0 d = some (nI 18, S_cp (0) (54 + 18 * v) d 18) := by
  have loop : ∀ k i, i ≤ 18 → 18 - i < k → L_X6_minds_56 T2 k (nI i) (S_cp (0) (54 + 18 * v) d i) = some (nI 18, S_cp (0) (54 + 18 * v) d 18) := by
    intro k
    induction k with
    | zero => intro i _ h; omega
    | succ k ih =>
      intro i hi hk
      rw [L_X6_minds_56]
      by_cases q : 18 ≤ i
      · obtain rfl : i = 18 := by omega
        rw [if_pos (show (18 : Int32) ≤ nI 18 from by decide)]
      · rw [if_neg (show ¬ (18 : Int32) ≤ nI i from nI_ge (b := 18) (by omega) (by decide)), hT, show (18 : Int32) * nI v = nI (18 * v) from pk_mul 18 v, show (54 : Int32) + nI (18 * v) = nI (54 + 18 * v) from nI_add 54 _, nI_add, ld_n (by omega) (by decide), bs, sto_n (by omega) (by decide), bs, nI_1]
        have e := cp_step (a := 0) (b := 54 + 18 * v) (by omega) (show i < 18 by omega) d
        rw [Nat.zero_add] at e
        rw [e]
        exact ih (i + 1) (by omega) (by omega)
  have e := loop n 0 (by omega) (by omega)
  rw [cp_0] at e
  exact e
theorem keep13_n {n : Nat} (hn : 300 ≤ n) {v : Nat} (hv : v ≤ 1) (d : Nat → Int32) : L_X6_keep_13 (nI v) n 0 d = some (nI 18, S_cp (0) (18 + 18 * v) d 18) := by
  have loop : ∀ k i, i ≤ 18 → 18 - i < k → L_X6_keep_13 (nI v) k (nI i) (S_cp (0) (18 + 18 * v) d i) = some (nI 18, S_cp (0) (18 + 18 * v) d 18) := by
    intro k
    induction k with
    | zero => intro i _ h; omega
    | succ k ih =>
      intro i hi hk
      rw [L_X6_keep_13]
      by_cases q : 18 ≤ i
      · obtain rfl : i = 18 := by omega
        rw [if_pos (show (18 : Int32) ≤ nI 18 from by decide)]
      · rw [if_neg (show ¬ (18 : Int32) ≤ nI i from nI_ge (b := 18) (by omega) (by decide)), show (18 : Int32) * nI v = nI (18 * v) from pk_mul 18 v, show (18 : Int32) + nI (18 * v) = nI (18 + 18 * v) from nI_add 18 _, nI_add, ld_n (by omega) (by decide), bs, sto_n (by omega) (by decide), bs, nI_1]
        have e := cp_step (a := 0) (b := 18 + 18 * v) (by omega) (show i < 18 by omega) d
        rw [Nat.zero_add] at e
        rw [e]
        exact ih (i + 1) (by omega) (by omega)
  have e := loop n 0 (by omega) (by omega)
  rw [cp_0] at e
  exact e
theorem undo22_n {n : Nat} (hn : 300 ≤ n) {u : Nat} (h0 : 0 < u) (hu : u ≤ 8) (d : Nat → Int32) : L_X6_undo_22 (nI u) n 0 d = some (nI 18, S_cp (54 + 18 * (u - 1)) (0) d 18) := by
  have loop : ∀ k i, i ≤ 18 → 18 - i < k → L_X6_undo_22 (nI u) k (nI i) (S_cp (54 + 18 * (u - 1)) (0) d i) = some (nI 18, S_cp (54 + 18 * (u - 1)) (0) d 18) := by
    intro k
    induction k with
    | zero => intro i _ h; omega
    | succ k ih =>
      intro i hi hk
      rw [L_X6_undo_22]
      by_cases q : 18 ≤ i
      · obtain rfl : i = 18 := by omega
        rw [if_pos (show (18 : Int32) ≤ nI 18 from by decide)]
      · rw [if_neg (show ¬ (18 : Int32) ≤ nI i from nI_ge (b := 18) (by omega) (by decide)), nI_m1 h0, show (18 : Int32) * nI (u - 1) = nI (18 * (u - 1)) from pk_mul 18 _, show (54 : Int32) + nI (18 * (u - 1)) = nI (54 + 18 * (u - 1)) from nI_add 54 _, nI_add, ld_n (by omega) (by decide), bs, sto_n (by omega) (by decide), bs, nI_1]
        have e := cp_step (a := 54 + 18 * (u - 1)) (b := 0) (by omega) (show i < 18 by omega) d
        rw [Nat.zero_add] at e
        rw [e]
        exact ih (i + 1) (by omega) (by omega)
  have e := loop n 0 (by omega) (by omega)
  rw [cp_0] at e
  exact e
theorem back22_n {n : Nat} (hn : 300 ≤ n) {u : Nat} (h0 : 0 < u) (hu : u ≤ 2) (d : Nat → Int32) : L_X6_back_22 (nI u) n 0 d = some (nI 18, S_cp (18 + 18 * (u - 1)) (0) d 18) := by
  have loop : ∀ k i, i ≤ 18 → 18 - i < k → L_X6_back_22 (nI u) k (nI i) (S_cp (18 + 18 * (u - 1)) (0) d i) = some (nI 18, S_cp (18 + 18 * (u - 1)) (0) d 18) := by
    intro k
    induction k with
    | zero => intro i _ h; omega
    | succ k ih =>
      intro i hi hk
      rw [L_X6_back_22]
      by_cases q : 18 ≤ i
      · obtain rfl : i = 18 := by omega
        rw [if_pos (show (18 : Int32) ≤ nI 18 from by decide)]
      · rw [if_neg (show ¬ (18 : Int32) ≤ nI i from nI_ge (b := 18) (by omega) (by decide)), nI_m1 h0, show (18 : Int32) * nI (u - 1) = nI (18 * (u - 1)) from pk_mul 18 _, show (18 : Int32) + nI (18 * (u - 1)) = nI (18 + 18 * (u - 1)) from nI_add 18 _, nI_add, ld_n (by omega) (by decide), bs, sto_n (by omega) (by decide), bs, nI_1]
        have e := cp_step (a := 18 + 18 * (u - 1)) (b := 0) (by omega) (show i < 18 by omega) d
        rw [Nat.zero_add] at e
        rw [e]
        exact ih (i + 1) (by omega) (by omega)
  have e := loop n 0 (by omega) (by omega)
  rw [cp_0] at e
  exact e
/-- the cells after a deed is minded -/
def S_mind (d : Nat → Int32) (u : Nat) : Nat → Int32 := if u = 8 then S_cp 0 180 (fun j => if 54 ≤ j ∧ j < 54 + 126 then d (j + 18) else d j) 18 else S_cp 0 (54 + 18 * u) d 18
theorem minds6_n {n : Nat} (hn : 300 ≤ n) {u : Nat} (hu : u ≤ 8) (d : Nat → Int32) : F_X6_minds n d (nI u) = some (nI (if u = 8 then 8 else u + 1), S_mind d u) := by
  unfold F_X6_minds S_mind
  by_cases c : u = 8
  · subst c
    rw [if_pos (show nI 8 = (8 : Int32) from rfl), minds11_n hn]
    simp only [bs]
    rw [minds56_n hn (v := 7) (by decide) (show nI 8 - (1 : Int32) = nI 7 from by decide)]
    rfl
  · rw [if_neg (show ¬ nI u = (8 : Int32) from nI_ne (b := 8) (by omega) (by decide) c), if_neg c, if_neg c]
    simp only [bs]
    rw [minds56_n hn (v := u) (by omega) rfl]
    simp only [bs]
    rw [nI_1]
theorem mind_lo {d : Nat → Int32} {u j : Nat} (h : j < 54) : S_mind d u j = d j := by
  unfold S_mind
  split
  · rw [cp_out (by omega), if_neg (by omega)]
  · rw [cp_out (by omega)]
/-! both -/
theorem R_st.mv {N : Nat} (hN : N ≤ 8) {p h : Nat → Int32} {o t : Int32} {d d' : Nat → Int32} {b b' : Nat} (r : R_st N p h o t d b) (l : ∀ j, j < 18 → d' (b' + j) = d (b + j)) : R_st N p h o t d' b' :=
  ⟨fun i hi => by rw [l _ (by omega)]; exact r.1 i hi, fun i hi => by rw [l _ (by omega)]; exact r.2.1 i hi, by rw [l _ (by omega)]; exact r.2.2.1, by rw [l _ (by omega)]; exact r.2.2.2.1, r.2.2.2.2⟩
theorem R_st.fill {N : Nat} (hN : N ≤ 8) {p h : Nat → Int32} {o t : Int32} {d : Nat → Int32} {b : Nat} (r : R_st N p h o t d b) (q q2 : Nat → Int32) : R_st N (S_fill p q 8) (S_fill h q2 8) o t d b :=
  ⟨fun i hi => by rw [S_fill_in (by omega)]; exact r.1 i hi, fun i hi => by rw [S_fill_in (by omega)]; exact r.2.1 i hi, r.2.2.1, r.2.2.2.1, fun i hi => by rw [S_fill_in (by omega)]; exact r.2.2.2.2.1 i hi, r.2.2.2.2.2.1, fun i hi => by rw [S_fill_in (by omega)]; exact r.2.2.2.2.2.2 i hi⟩
/-- a shelf of M places, x next, u filled, and the Model's slots from B on -/
def R_sh (M B N : Nat) (P H : Nat → Nat → Int32) (O T : Nat → Int32) (x u : Nat) (d : Nat → Int32) : Prop :=
  x < M ∧ u ≤ M ∧ ∀ k, k < u → R_st N (P ((x + (M - 1) - k) % M)) (H ((x + (M - 1) - k) % M)) (O ((x + (M - 1) - k) % M)) (T ((x + (M - 1) - k) % M)) d (B + 18 * (u - 1 - k))
theorem R_sh.mv {M B N : Nat} (hN : N ≤ 8) {P H : Nat → Nat → Int32} {O T : Nat → Int32} {x u : Nat} {d d' : Nat → Int32} (r : R_sh M B N P H O T x u d) (l : ∀ j, B ≤ j → j < B + 18 * M → d' j = d j) : R_sh M B N P H O T x u d' :=
  ⟨r.1, r.2.1, fun k hk => (r.2.2 k hk).mv hN (fun j hj => by
    have := r.2.1
    exact l _ (by omega) (by
      have : 18 * (u - 1 - k) + 18 ≤ 18 * M := by omega
      omega))⟩
theorem R_sh.emp {M B N : Nat} {P H : Nat → Nat → Int32} {O T : Nat → Int32} {x : Nat} (hx : x < M) (d : Nat → Int32) : R_sh M B N P H O T x 0 d :=
  ⟨hx, Nat.zero_le _, fun k hk => absurd hk (Nat.not_lt_zero _)⟩
theorem R_sh.put {M B N : Nat} (hM : M = 8 ∨ M = 2) (hN : N ≤ 8) {P H : Nat → Nat → Int32} {O T : Nat → Int32} {x u : Nat} {d d' : Nat → Int32} (r : R_sh M B N P H O T x u d) {p h : Nat → Int32} {o t : Int32} {b : Nat} (s : R_st N p h o t d b)
    (l1 : ∀ j, j < 18 → d' (B + 18 * ((if u = M then M else u + 1) - 1) + j) = d (b + j)) (l2 : ∀ k, k < u → (u = M → k + 1 < M) → ∀ j, j < 18 → d' (B + 18 * ((if u = M then M else u + 1) - 1 - (k + 1)) + j) = d (B + 18 * (u - 1 - k) + j)) :
    R_sh M B N (setF P x (S_fill p (P x) 8)) (setF H x (S_fill h (H x) 8)) (upd O x o) (upd T x t) ((x + 1) % M) (if u = M then M else u + 1) d' := by
  obtain ⟨hx, hu, rk⟩ := r
  refine ⟨by rcases hM with rfl | rfl <;> omega, by split <;> omega, ?_⟩
  intro k hk
  cases k with
  | zero =>
    have e : ((x + 1) % M + (M - 1) - 0) % M = x := by rcases hM with rfl | rfl <;> omega
    rw [e]
    unfold setF upd
    rw [if_pos rfl, if_pos rfl, if_pos rfl, if_pos rfl]
    exact (s.fill hN _ _).mv hN l1
  | succ k =>
    have hku : k < u ∧ (u = M → k + 1 < M) := by split at hk <;> omega
    have e : ((x + 1) % M + (M - 1) - (k + 1)) % M = (x + (M - 1) - k) % M := by
      have : k + 1 < M := by split at hk <;> omega
      rcases hM with rfl | rfl <;> omega
    have ne : ¬ (x + (M - 1) - k) % M = x := by
      have : k + 1 < M := by split at hk <;> omega
      rcases hM with rfl | rfl <;> omega
    rw [e]
    unfold setF upd
    rw [if_neg ne, if_neg ne, if_neg ne, if_neg ne]
    exact (rk k hku.1).mv hN (l2 k hku.1 hku.2)
theorem R_sh.take {M B N : Nat} (hM : M = 8 ∨ M = 2) {P H : Nat → Nat → Int32} {O T : Nat → Int32} {x u : Nat} {d : Nat → Int32} (r : R_sh M B N P H O T x u d) (h0 : 0 < u) :
    R_sh M B N P H O T ((x + (M - 1)) % M) (u - 1) d ∧ R_st N (P ((x + (M - 1)) % M)) (H ((x + (M - 1)) % M)) (O ((x + (M - 1)) % M)) (T ((x + (M - 1)) % M)) d (B + 18 * (u - 1)) := by
  obtain ⟨hx, hu, rk⟩ := r
  refine ⟨⟨by rcases hM with rfl | rfl <;> omega, by omega, ?_⟩, rk 0 h0⟩
  intro k hk
  have e : ((x + (M - 1)) % M + (M - 1) - k) % M = (x + (M - 1) - (k + 1)) % M := by
    have : k + 1 < M := by omega
    rcases hM with rfl | rfl <;> omega
  have r2 := rk (k + 1) (by omega)
  rw [← e, show u - 1 - (k + 1) = u - 1 - 1 - k from by omega] at r2
  exact r2
theorem R_sh.mind {N : Nat} (hN : N ≤ 8) {P H : Nat → Nat → Int32} {O T : Nat → Int32} {x u : Nat} {d : Nat → Int32} (r : R_sh 8 54 N P H O T x u d) {p h : Nat → Int32} {o t : Int32} (s : R_st N p h o t d 0) :
    R_sh 8 54 N (setF P x (S_fill p (P x) 8)) (setF H x (S_fill h (H x) 8)) (upd O x o) (upd T x t) ((x + 1) % 8) (if u = 8 then 8 else u + 1) (S_mind d u) := by
  have hu := r.2.1
  refine r.put (Or.inl rfl) hN s ?_ ?_
  · intro j hj
    unfold S_mind
    by_cases c : u = 8
    · rw [if_pos c, if_pos c, show 54 + 18 * (8 - 1) + j = 180 + j from by omega, cp_in hj, if_neg (by omega)]
    · rw [if_neg c, if_neg c, show 54 + 18 * (u + 1 - 1) + j = 54 + 18 * u + j from by omega, cp_in hj]
  · intro k hk hk8 j hj
    unfold S_mind
    by_cases c : u = 8
    · subst c
      have := hk8 rfl
      rw [if_pos rfl, if_pos rfl, cp_out (by omega), if_pos ⟨by omega, by omega⟩, show 54 + 18 * (8 - 1 - (k + 1)) + j + 18 = 54 + 18 * (8 - 1 - k) + j from by omega]
    · rw [if_neg c, if_neg c, cp_out (by omega), show 54 + 18 * (u + 1 - 1 - (k + 1)) + j = 54 + 18 * (u - 1 - k) + j from by omega]
