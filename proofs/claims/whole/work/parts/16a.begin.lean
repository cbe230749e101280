/-! How both begin. -/
def S_first : List Nat := [100, 48, 44, 52, 44, 49, 48, 44, 57, 59, 100, 48, 44, 52, 44, 49, 48, 44, 48, 59, 100, 49, 44, 51, 44, 53, 44, 57, 59, 100, 50, 44, 51, 44, 49, 44, 57, 59, 100, 51, 44, 50, 44, 50, 48, 44, 49, 59, 112, 48, 44, 50, 53, 59, 112, 51, 44, 50, 50, 59, 103, 49, 44, 49, 59, 103, 52, 44, 50, 59, 111, 57, 44, 49, 59, 119, 49, 59, 104, 51, 59]
def S_text (f : Nat → Int32) : Nat → Int32 := fun i => if i < 81 then nI (S_first.getD i 0) else f i
def Z8 : Nat → Int32 := fun _ => 0
def S_chk : Bool := match F_X5_layText 300 (S_text Z8) (nI 81) Z8 0 Z8 Z8 Z8 Z8 Z8 Z8 0 0 0 0 Z8 Z8 Z8 Z8 Z8 Z8 Z8 Z8 0 0 0 0 0, F_X6_init 300 with
  | some (r, c5, pl, nm, desks, oboe, slip, warmth, unheard, kind, lean, needs, fh, group, fp, y0, y1, y2, y3, y4, y5, y6, y7, y8, y9, y10, o, t, p, h, uf, kf), some (u6, k6, g6, w, d) => (decide (r = 5 ∧ c5 = 0 ∧ uf = 0 ∧ kf = 0 ∧ u6 = 0 ∧ k6 = 0 ∧ g6 = 0) && (decide (desks = nI 5 ∧ w 0 = nI 5 ∧ slip = w 50 ∧ warmth = w 51 ∧ unheard = w 52) && (decide (o = d 8 ∧ t = d 9 ∧ -999 ≤ o.toInt ∧ o.toInt ≤ 999) && ((List.range 5).all (fun i => decide (kind i = w (1 + i) ∧ lean i = w (9 + i) ∧ needs i = w (17 + i) ∧ group i = w (33 + i))) && ((List.range 5).all (fun i => decide (p i = d i ∧ h i = d (10 + i))) && ((List.range 5).all (fun i => decide (-999 ≤ (p i).toInt ∧ (p i).toInt ≤ 999)) && (List.range 5).all (fun i => decide (h i = nI (h i).toNatClampNeg ∧ ((h i).toNatClampNeg < 5 ∨ (h i).toNatClampNeg = 8 ∨ (h i).toNatClampNeg = 9)))))))))
  | _, _ => false
theorem chk_ok : S_chk = true := by decide +kernel
theorem begin_both : ∃ pl nm desks oboe slip warmth unheard kind lean needs fh group fp y0 y1 y2 y3 y4 y5 y6 y7 y8 y9 y10 o t p h w d,
    F_X5_layText 300 (S_text Z8) (nI 81) Z8 0 Z8 Z8 Z8 Z8 Z8 Z8 0 0 0 0 Z8 Z8 Z8 Z8 Z8 Z8 Z8 Z8 0 0 0 0 0 = some (5, 0, pl, nm, desks, oboe, slip, warmth, unheard, kind, lean, needs, fh, group, fp, y0, y1, y2, y3, y4, y5, y6, y7, y8, y9, y10, o, t, p, h, 0, 0) ∧
    F_X6_init 300 = some (0, 0, 0, w, d) ∧ R_hall 5 w desks kind lean needs group slip warmth unheard ∧ R_st 5 p h o t d 0 := by
  have c := chk_ok
  unfold S_chk at c
  rcases hA : F_X5_layText 300 (S_text Z8) (nI 81) Z8 0 Z8 Z8 Z8 Z8 Z8 Z8 0 0 0 0 Z8 Z8 Z8 Z8 Z8 Z8 Z8 Z8 0 0 0 0 0 with _ | ⟨r, c5, pl, nm, desks, oboe, slip, warmth, unheard, kind, lean, needs, fh, group, fp, y0, y1, y2, y3, y4, y5, y6, y7, y8, y9, y10, o, t, p, h, uf, kf⟩
  · rw [hA] at c
    cases c
  · rcases hB : F_X6_init 300 with _ | ⟨u6, k6, g6, w, d⟩
    · rw [hA, hB] at c
      cases c
    · rw [hA, hB] at c
      replace c : (decide (r = 5 ∧ c5 = 0 ∧ uf = 0 ∧ kf = 0 ∧ u6 = 0 ∧ k6 = 0 ∧ g6 = 0) && (decide (desks = nI 5 ∧ w 0 = nI 5 ∧ slip = w 50 ∧ warmth = w 51 ∧ unheard = w 52) && (decide (o = d 8 ∧ t = d 9 ∧ -999 ≤ o.toInt ∧ o.toInt ≤ 999) && ((List.range 5).all (fun i => decide (kind i = w (1 + i) ∧ lean i = w (9 + i) ∧ needs i = w (17 + i) ∧ group i = w (33 + i))) && ((List.range 5).all (fun i => decide (p i = d i ∧ h i = d (10 + i))) && ((List.range 5).all (fun i => decide (-999 ≤ (p i).toInt ∧ (p i).toInt ≤ 999)) && (List.range 5).all (fun i => decide (h i = nI (h i).toNatClampNeg ∧ ((h i).toNatClampNeg < 5 ∨ (h i).toNatClampNeg = 8 ∨ (h i).toNatClampNeg = 9))))))))) = true := c
      obtain ⟨c0, k0v⟩ := Bool.and_eq_true_iff.mp c
      obtain ⟨c1, k1v⟩ := Bool.and_eq_true_iff.mp k0v
      obtain ⟨c2, k2v⟩ := Bool.and_eq_true_iff.mp k1v
      obtain ⟨c3, k3v⟩ := Bool.and_eq_true_iff.mp k2v
      obtain ⟨c4, k4v⟩ := Bool.and_eq_true_iff.mp k3v
      obtain ⟨c5', k5v⟩ := Bool.and_eq_true_iff.mp k4v
      obtain ⟨rfl, rfl, rfl, rfl, rfl, rfl, rfl⟩ := of_decide_eq_true c0
      obtain ⟨ed, hw, es, ew, eu⟩ := of_decide_eq_true c1
      obtain ⟨eo, et, o1, o2⟩ := of_decide_eq_true c2
      have f3 := fun i (hi : i < 5) => of_decide_eq_true (List.all_eq_true.mp c3 i (List.mem_range.mpr hi))
      have f4 := fun i (hi : i < 5) => of_decide_eq_true (List.all_eq_true.mp c4 i (List.mem_range.mpr hi))
      have f5 := fun i (hi : i < 5) => of_decide_eq_true (List.all_eq_true.mp c5' i (List.mem_range.mpr hi))
      have f6 := fun i (hi : i < 5) => of_decide_eq_true (List.all_eq_true.mp k5v i (List.mem_range.mpr hi))
      refine ⟨pl, nm, desks, oboe, slip, warmth, unheard, kind, lean, needs, fh, group, fp, y0, y1, y2, y3, y4, y5, y6, y7, y8, y9, y10, o, t, p, h, w, d, rfl, rfl, ?_, ?_⟩
      · exact ⟨by decide, by decide, ed, hw, fun i hi => (f3 i hi).1, fun i hi => (f3 i hi).2.1, fun i hi => (f3 i hi).2.2.1, fun i hi => (f3 i hi).2.2.2, es, ew, eu⟩
      · exact ⟨fun i hi => by rw [Nat.zero_add]; exact (f4 i hi).1, fun i hi => by rw [Nat.zero_add]; exact (f4 i hi).2, by rw [Nat.zero_add]; exact eo, by rw [Nat.zero_add]; exact et, f5, ⟨o1, o2⟩, fun i hi => ⟨_, (f6 i hi).1, (f6 i hi).2⟩⟩
