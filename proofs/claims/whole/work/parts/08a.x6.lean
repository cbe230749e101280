def rm_X6_begins : Room := { frames := 0, cells := 0, slots := 0, locals := 0 }
set_option maxRecDepth 100000 in
set_option maxHeartbeats 8000000 in
theorem c_X6_begins (l : Launch) (dC : Nat → ClassId) (dI : Nat → Nat → Nat) (cI cS : ClassId) (n sz : Nat) (a_m : Nat) (a_m_w : Nat) (a_m_d : Nat) (a_m_text : Nat) (a_m_numbers : Nat) (a_m_then : Nat) (a_m_leans : Nat) (a_m_heardSet : Nat) (a_m_heardSum : Nat) (m_w : Nat → Int32) (m_undoes : Int32) (m_kept : Int32) (m_texted : Int32) (m_at : Int32) (m_draws : Int32) (m_drawn : Int32) (m_heards : Int32) (res : (Nat → Int32))  (h : F_X6_begins n m_w = some res) : Met l yX6_begins wsX6_begins rm_X6_begins (va_Pc [.ref a_m] (PRE (dC, dI) vwCl [(cI, .int), (cS, .object "RoundOfTheA$State")] sz [(a_m, .inr (6, [.ref a_m_w, .ref a_m_d, .int m_undoes, .int m_kept, .ref a_m_text, .int m_texted, .int m_at, .ref a_m_numbers, .ref a_m_then, .ref a_m_leans, .int m_draws, .int m_drawn, .int m_heards, .ref a_m_heardSet, .ref a_m_heardSum])), (a_m_w, .inl (cI, 106, .inl m_w))])) (va_Qv (fun _ : Unit => True) (fun u t => POST (dC, dI) vwCl [(a_m, .inr (6, [.ref a_m_w, .ref a_m_d, .int m_undoes, .int m_kept, .ref a_m_text, .int m_texted, .int m_at, .ref a_m_numbers, .ref a_m_then, .ref a_m_leans, .int m_draws, .int m_drawn, .int m_heards, .ref a_m_heardSet, .ref a_m_heardSum])), (a_m_w, .inl (cI, 106, .inl res))] (va_A [(a_m, .inr (6, [.ref a_m_w, .ref a_m_d, .int m_undoes, .int m_kept, .ref a_m_text, .int m_texted, .int m_at, .ref a_m_numbers, .ref a_m_then, .ref a_m_leans, .int m_draws, .int m_drawn, .int m_heards, .ref a_m_heardSet, .ref a_m_heardSum])), (a_m_w, .inl (cI, 106, .inl m_w))] sz) t) (va_A [(a_m, .inr (6, [.ref a_m_w, .ref a_m_d, .int m_undoes, .int m_kept, .ref a_m_text, .int m_texted, .int m_at, .ref a_m_numbers, .ref a_m_then, .ref a_m_leans, .int m_draws, .int m_drawn, .int m_heards, .ref a_m_heardSet, .ref a_m_heardSum])), (a_m_w, .inl (cI, 106, .inl m_w))] sz)) 0 0 (va_A [(a_m, .inr (6, [.ref a_m_w, .ref a_m_d, .int m_undoes, .int m_kept, .ref a_m_text, .int m_texted, .int m_at, .ref a_m_numbers, .ref a_m_then, .ref a_m_leans, .int m_draws, .int m_drawn, .int m_heards, .ref a_m_heardSet, .ref a_m_heardSum])), (a_m_w, .inl (cI, 106, .inl m_w))] sz) := by
  refine Met.ofW (cc := cX6_begins) (maxL := 2) (ret := none) (by decide) rfl ?_
  intro p e s m args below meth c s₁ B hml hv
  obtain ⟨rfl, hsz, hN, hP, hK, hD0⟩ := hv
  have hx := B.exec
  have hb := B.bytes
  have hr := B.returns
  have hts := atoms_spec (ws := wsX6_begins) B.pre
  have hown : s.vm.findClass RX6 = some m.cls := findClass_of_methodNamed B.named
  have hlocks := B.notSynchronized
  subst hsz
  have hD := hD0.self (sz := s.heap.size)
  generalize hAe : va_A [(a_m, .inr (6, [.ref a_m_w, .ref a_m_d, .int m_undoes, .int m_kept, .ref a_m_text, .int m_texted, .int m_at, .ref a_m_numbers, .ref a_m_then, .ref a_m_leans, .int m_draws, .int m_drawn, .int m_heards, .ref a_m_heardSet, .ref a_m_heardSum])), (a_m_w, .inl (cI, 106, .inl m_w))] s.heap.size = A at hD ⊢
  have hA : ∀ q : Nat, s.heap.size ≤ q → A q := fun q h => by rw [← hAe]; exact Or.inr h
  have hS : va_S A s.heap s.heap [] := va_S.rf
  generalize hQe : MQ below _ _ s _ _ A = QQ
  have hl := lv_entry ([.ref a_m]) (n := 2) (Nat.le_of_ble_eq_true rfl)
  rw [lg_entry_eq]
  generalize (lg_sl ([.ref a_m]) ++ List.replicate (2 - (lg_sl ([.ref a_m])).length) Slot.unset).toArray = ls at hl ⊢
  have hl : lv_has ls 2 [(0, .ref a_m)] := hl
  have f_7 := hts (.fieldLink RX6 7 "RoundOfTheAModel" "w" "[I") (by decide +kernel)
  have in_X6 := (by decide +kernel : ∀ w ∈ wsX60, w ∈ wsX6_begins)
  rw [F_X6_begins] at h
  refine lv_iconst (v := (0 : Int32)) hx hb dX6_begins_0 (by decide) ?_
  refine lv_istore_n (lv' := [(1, .int (0 : Int32)), (0, .ref a_m)]) hx hb dX6_begins_1 rfl hl (by decide) rfl (fun ls hl => ?_)
  obtain ⟨j2725, hjj2725, h⟩ := ob h
  have Jj2725 : ∀ (H : Heap) (locs : List Loc), va_P (dC, dI) vwCl [(a_m, .inr (6, [.ref a_m_w, .ref a_m_d, .int m_undoes, .int m_kept, .ref a_m_text, .int m_texted, .int m_at, .ref a_m_numbers, .ref a_m_then, .ref a_m_leans, .int m_draws, .int m_drawn, .int m_heards, .ref a_m_heardSet, .ref a_m_heardSum])), (a_m_w, .inl (cI, 106, .inl j2725.2))] H → va_D A [(a_m, .inr (6, [.ref a_m_w, .ref a_m_d, .int m_undoes, .int m_kept, .ref a_m_text, .int m_texted, .int m_at, .ref a_m_numbers, .ref a_m_then, .ref a_m_leans, .int m_draws, .int m_drawn, .int m_heards, .ref a_m_heardSet, .ref a_m_heardSum])), (a_m_w, .inl (cI, 106, .inl j2725.2))] → va_S A s.heap H locs → ∀ ls : Array Slot, lv_has ls 2 [(0, .ref a_m), (1, .int j2725.1)] → W p l e (headSpec wsX6_begins rm_X6_begins).room s m ([.ref a_m] : List Value).toArray below meth c H locs 0 0 QQ (F0 m 24 ls []) := by
    intro H locs hP hD hS ls hl
    refine lv_aload_n hx hb dX6_begins_24 rfl (lv_at hl 0 rfl) ?_
    refine va_get (D := (dC, dI)) (ci := 6) (v := .ref a_m_w) (C := RX6) (T := TX6) (N := 15) hx hb hts in_X6 hown hK hP 0 rfl rfl 0 (by decide) f_7 (fun _ h9 => h9) rfl dX6_begins_25 ?_
    refine lv_bipush (v := (102 : Int32)) hx hb dX6_begins_28 (by decide) ?_
    refine lv_bipush (v := (9 : Int32)) hx hb dX6_begins_30 (by decide) ?_
    obtain ⟨g2727, hg2727, h⟩ := ob h
    refine k_st hx hb hK hP hD hS 1 0 rfl rfl hg2727 dX6_begins_32 (ws' := [(a_m, .inr (6, [.ref a_m_w, .ref a_m_d, .int m_undoes, .int m_kept, .ref a_m_text, .int m_texted, .int m_at, .ref a_m_numbers, .ref a_m_then, .ref a_m_leans, .int m_draws, .int m_drawn, .int m_heards, .ref a_m_heardSet, .ref a_m_heardSum])), (a_m_w, .inl (cI, 106, .inl g2727))]) rfl (fun H locs hP hD hS => ?_)
    refine lv_aload_n hx hb dX6_begins_33 rfl (lv_at hl 0 rfl) ?_
    refine va_get (D := (dC, dI)) (ci := 6) (v := .ref a_m_w) (C := RX6) (T := TX6) (N := 15) hx hb hts in_X6 hown hK hP 0 rfl rfl 0 (by decide) f_7 (fun _ h9 => h9) rfl dX6_begins_34 ?_
    refine lv_bipush (v := (104 : Int32)) hx hb dX6_begins_37 (by decide) ?_
    refine lv_iconst (v := (1 : Int32)) hx hb dX6_begins_39 (by decide) ?_
    obtain ⟨g2728, hg2728, h⟩ := ob h
    refine k_st hx hb hK hP hD hS 1 0 rfl rfl hg2728 dX6_begins_40 (ws' := [(a_m, .inr (6, [.ref a_m_w, .ref a_m_d, .int m_undoes, .int m_kept, .ref a_m_text, .int m_texted, .int m_at, .ref a_m_numbers, .ref a_m_then, .ref a_m_leans, .int m_draws, .int m_drawn, .int m_heards, .ref a_m_heardSet, .ref a_m_heardSum])), (a_m_w, .inl (cI, 106, .inl g2728))]) rfl (fun H locs hP hD hS => ?_)
    refine lv_aload_n hx hb dX6_begins_41 rfl (lv_at hl 0 rfl) ?_
    refine va_get (D := (dC, dI)) (ci := 6) (v := .ref a_m_w) (C := RX6) (T := TX6) (N := 15) hx hb hts in_X6 hown hK hP 0 rfl rfl 0 (by decide) f_7 (fun _ h9 => h9) rfl dX6_begins_42 ?_
    refine lv_bipush (v := (105 : Int32)) hx hb dX6_begins_45 (by decide) ?_
    refine lv_iconst (v := (3 : Int32)) hx hb dX6_begins_47 (by decide) ?_
    obtain ⟨g2729, hg2729, h⟩ := ob h
    refine k_st hx hb hK hP hD hS 1 0 rfl rfl hg2729 dX6_begins_48 (ws' := [(a_m, .inr (6, [.ref a_m_w, .ref a_m_d, .int m_undoes, .int m_kept, .ref a_m_text, .int m_texted, .int m_at, .ref a_m_numbers, .ref a_m_then, .ref a_m_leans, .int m_draws, .int m_drawn, .int m_heards, .ref a_m_heardSet, .ref a_m_heardSum])), (a_m_w, .inl (cI, 106, .inl g2729))]) rfl (fun H locs hP hD hS => ?_)
    obtain rfl := Option.some.inj h
    subst hQe
    exact W.vret hx hb hr (fun t ht hW => ⟨⟨(), rfl, trivial, ⟨by rw [ht]; exact hP, hD⟩⟩, hS.F ht⟩) hS.2.2 dX6_begins_49
  have K2 : ∀ (k : Nat) (y1_2 : Int32) (m_wv_2 : Nat → Int32), L_X6_begins_2 k y1_2 m_wv_2 = some j2725 → ∀ (H : Heap) (locs : List Loc), va_P (dC, dI) vwCl [(a_m, .inr (6, [.ref a_m_w, .ref a_m_d, .int m_undoes, .int m_kept, .ref a_m_text, .int m_texted, .int m_at, .ref a_m_numbers, .ref a_m_then, .ref a_m_leans, .int m_draws, .int m_drawn, .int m_heards, .ref a_m_heardSet, .ref a_m_heardSum])), (a_m_w, .inl (cI, 106, .inl m_wv_2))] H → va_D A [(a_m, .inr (6, [.ref a_m_w, .ref a_m_d, .int m_undoes, .int m_kept, .ref a_m_text, .int m_texted, .int m_at, .ref a_m_numbers, .ref a_m_then, .ref a_m_leans, .int m_draws, .int m_drawn, .int m_heards, .ref a_m_heardSet, .ref a_m_heardSum])), (a_m_w, .inl (cI, 106, .inl m_wv_2))] → va_S A s.heap H locs → ∀ ls : Array Slot, lv_has ls 2 [(0, .ref a_m), (1, .int y1_2)] → W p l e (headSpec wsX6_begins rm_X6_begins).room s m ([.ref a_m] : List Value).toArray below meth c H locs 0 0 QQ (F0 m 2 ls []) := by
    intro k
    induction k with
    | zero =>
      intro y1_2 m_wv_2 h
      rw [L_X6_begins_2] at h
      cases h
    | succ k ih =>
      intro y1_2 m_wv_2 h H locs hP hD hS ls hl
      rw [L_X6_begins_2] at h
      refine lv_iload_n hx hb dX6_begins_2 rfl (lv_at hl 1 rfl) ?_
      refine lv_bipush (v := (53 : Int32)) hx hb dX6_begins_3 (by decide) ?_
      refine lv_icmp_ge (tgt := 24) hx hb dX6_begins_5 (by decide) (fun c_5 => ?_) (fun c_5 => ?_)
      · have h := (if_pos c_5).symm.trans h
        obtain rfl := Option.some.inj h
        exact Jj2725 _ _ hP hD hS _ hl
      · have h := (if_neg c_5).symm.trans h
        refine lv_aload_n hx hb dX6_begins_8 rfl (lv_at hl 0 rfl) ?_
        refine va_get (D := (dC, dI)) (ci := 6) (v := .ref a_m_w) (C := RX6) (T := TX6) (N := 15) hx hb hts in_X6 hown hK hP 0 rfl rfl 0 (by decide) f_7 (fun _ h9 => h9) rfl dX6_begins_9 ?_
        refine lv_bipush (v := (53 : Int32)) hx hb dX6_begins_12 (by decide) ?_
        refine lv_iload_n hx hb dX6_begins_14 rfl (lv_at hl 1 rfl) ?_
        refine lv_iadd hx hb dX6_begins_15 ?_
        refine lv_iconst (v := (0 : Int32)) hx hb dX6_begins_16 (by decide) ?_
        obtain ⟨g2726, hg2726, h⟩ := ob h
        refine k_st hx hb hK hP hD hS 1 0 rfl rfl hg2726 dX6_begins_17 (ws' := [(a_m, .inr (6, [.ref a_m_w, .ref a_m_d, .int m_undoes, .int m_kept, .ref a_m_text, .int m_texted, .int m_at, .ref a_m_numbers, .ref a_m_then, .ref a_m_leans, .int m_draws, .int m_drawn, .int m_heards, .ref a_m_heardSet, .ref a_m_heardSum])), (a_m_w, .inl (cI, 106, .inl g2726))]) rfl (fun H locs hP hD hS => ?_)
        refine lv_iinc (v := (y1_2 + (1 : Int32))) (lv' := [(1, .int (y1_2 + (1 : Int32))), (0, .ref a_m)]) hx hb dX6_begins_18 hl (k := 1) rfl rfl (by decide) rfl (fun ls hl => ?_)
        refine lv_goto (tgt := 2) hx hb dX6_begins_21 (by decide) ?_
        exact ih _ _ h _ _ hP hD hS _ (lv_sub hl [1, 0] rfl)
  exact K2 n (0 : Int32) m_w hjj2725 _ _ hP hD hS _ (lv_sub hl [1, 0] rfl)
def rm_X6_adds : Room := { frames := 0, cells := 0, slots := 0, locals := 0 }
set_option maxRecDepth 100000 in
set_option maxHeartbeats 8000000 in
theorem c_X6_adds (l : Launch) (dC : Nat → ClassId) (dI : Nat → Nat → Nat) (cI cS : ClassId) (n sz : Nat) (a_m : Nat) (a_m_w : Nat) (a_m_d : Nat) (a_m_text : Nat) (a_m_numbers : Nat) (a_m_then : Nat) (a_m_leans : Nat) (a_m_heardSet : Nat) (a_m_heardSum : Nat) (m_w : Nat → Int32) (m_undoes : Int32) (m_kept : Int32) (m_texted : Int32) (m_at : Int32) (m_draws : Int32) (m_drawn : Int32) (m_heards : Int32) (x1 : Int32) (x2 : Int32) (x3 : Int32) (x4 : Int32) (res : Int32 × (Nat → Int32))  (h : F_X6_adds n m_w x1 x2 x3 x4 = some res) : Met l yX6_adds wsX6_adds rm_X6_adds (va_Pc [.ref a_m, .int x1, .int x2, .int x3, .int x4] (PRE (dC, dI) vwCl [(cI, .int), (cS, .object "RoundOfTheA$State")] sz [(a_m, .inr (6, [.ref a_m_w, .ref a_m_d, .int m_undoes, .int m_kept, .ref a_m_text, .int m_texted, .int m_at, .ref a_m_numbers, .ref a_m_then, .ref a_m_leans, .int m_draws, .int m_drawn, .int m_heards, .ref a_m_heardSet, .ref a_m_heardSum])), (a_m_w, .inl (cI, 106, .inl m_w))])) (va_Qi (fun (r : Int32) (_ : Unit) => r = res.1) (fun u t => POST (dC, dI) vwCl [(a_m, .inr (6, [.ref a_m_w, .ref a_m_d, .int m_undoes, .int m_kept, .ref a_m_text, .int m_texted, .int m_at, .ref a_m_numbers, .ref a_m_then, .ref a_m_leans, .int m_draws, .int m_drawn, .int m_heards, .ref a_m_heardSet, .ref a_m_heardSum])), (a_m_w, .inl (cI, 106, .inl res.2))] (va_A [(a_m, .inr (6, [.ref a_m_w, .ref a_m_d, .int m_undoes, .int m_kept, .ref a_m_text, .int m_texted, .int m_at, .ref a_m_numbers, .ref a_m_then, .ref a_m_leans, .int m_draws, .int m_drawn, .int m_heards, .ref a_m_heardSet, .ref a_m_heardSum])), (a_m_w, .inl (cI, 106, .inl m_w))] sz) t) (va_A [(a_m, .inr (6, [.ref a_m_w, .ref a_m_d, .int m_undoes, .int m_kept, .ref a_m_text, .int m_texted, .int m_at, .ref a_m_numbers, .ref a_m_then, .ref a_m_leans, .int m_draws, .int m_drawn, .int m_heards, .ref a_m_heardSet, .ref a_m_heardSum])), (a_m_w, .inl (cI, 106, .inl m_w))] sz)) 0 0 (va_A [(a_m, .inr (6, [.ref a_m_w, .ref a_m_d, .int m_undoes, .int m_kept, .ref a_m_text, .int m_texted, .int m_at, .ref a_m_numbers, .ref a_m_then, .ref a_m_leans, .int m_draws, .int m_drawn, .int m_heards, .ref a_m_heardSet, .ref a_m_heardSum])), (a_m_w, .inl (cI, 106, .inl m_w))] sz) := by
  refine Met.ofW (cc := cX6_adds) (maxL := 6) (ret := (some .boolean)) (by decide) rfl ?_
  intro p e s m args below meth c s₁ B hml hv
  obtain ⟨rfl, hsz, hN, hP, hK, hD0⟩ := hv
  have hx := B.exec
  have hb := B.bytes
  have hr := B.returns
  have hts := atoms_spec (ws := wsX6_adds) B.pre
  have hown : s.vm.findClass RX6 = some m.cls := findClass_of_methodNamed B.named
  have hlocks := B.notSynchronized
  subst hsz
  have hD := hD0.self (sz := s.heap.size)
  generalize hAe : va_A [(a_m, .inr (6, [.ref a_m_w, .ref a_m_d, .int m_undoes, .int m_kept, .ref a_m_text, .int m_texted, .int m_at, .ref a_m_numbers, .ref a_m_then, .ref a_m_leans, .int m_draws, .int m_drawn, .int m_heards, .ref a_m_heardSet, .ref a_m_heardSum])), (a_m_w, .inl (cI, 106, .inl m_w))] s.heap.size = A at hD ⊢
  have hA : ∀ q : Nat, s.heap.size ≤ q → A q := fun q h => by rw [← hAe]; exact Or.inr h
  have hS : va_S A s.heap s.heap [] := va_S.rf
  generalize hQe : MQ below _ _ s _ _ A = QQ
  have hl := lv_entry ([.ref a_m, .int x1, .int x2, .int x3, .int x4]) (n := 6) (Nat.le_of_ble_eq_true rfl)
  rw [lg_entry_eq]
  generalize (lg_sl ([.ref a_m, .int x1, .int x2, .int x3, .int x4]) ++ List.replicate (6 - (lg_sl ([.ref a_m, .int x1, .int x2, .int x3, .int x4])).length) Slot.unset).toArray = ls at hl ⊢
  have hl : lv_has ls 6 [(0, .ref a_m), (1, .int x1), (2, .int x2), (3, .int x3), (4, .int x4)] := hl
  have f_7 := hts (.fieldLink RX6 7 "RoundOfTheAModel" "w" "[I") (by decide +kernel)
  have in_X6 := (by decide +kernel : ∀ w ∈ wsX60, w ∈ wsX6_adds)
  rw [F_X6_adds] at h
  refine lv_aload_n hx hb dX6_adds_0 rfl (lv_at hl 0 rfl) ?_
  refine va_get (D := (dC, dI)) (ci := 6) (v := .ref a_m_w) (C := RX6) (T := TX6) (N := 15) hx hb hts in_X6 hown hK hP 0 rfl rfl 0 (by decide) f_7 (fun _ h9 => h9) rfl dX6_adds_1 ?_
  refine lv_bipush (v := (53 : Int32)) hx hb dX6_adds_4 (by decide) ?_
  obtain ⟨v2741, hv2741, h⟩ := ob h
  refine k_ld hx hb hK hP 1 0 rfl rfl hv2741 dX6_adds_6 ?_
  refine lv_istore (lv' := [(5, .int v2741), (0, .ref a_m), (1, .int x1), (2, .int x2), (3, .int x3), (4, .int x4)]) hx hb dX6_adds_7 hl (by decide) rfl (fun ls hl => ?_)
  refine lv_iload hx hb dX6_adds_9 (lv_at hl 0 rfl) ?_
  refine lv_bipush (v := (8 : Int32)) hx hb dX6_adds_11 (by decide) ?_
  refine lv_icmp_ne (tgt := 18) hx hb dX6_adds_13 (by decide) (fun c_13 => ?_) (fun c_13 => ?_)
  · have h := (if_neg c_13).symm.trans h
    refine lv_aload_n hx hb dX6_adds_18 rfl (lv_at hl 1 rfl) ?_
    refine va_get (D := (dC, dI)) (ci := 6) (v := .ref a_m_w) (C := RX6) (T := TX6) (N := 15) hx hb hts in_X6 hown hK hP 0 rfl rfl 0 (by decide) f_7 (fun _ h9 => h9) rfl dX6_adds_19 ?_
    refine lv_bipush (v := (54 : Int32)) hx hb dX6_adds_22 (by decide) ?_
    refine lv_iload hx hb dX6_adds_24 (lv_at hl 0 rfl) ?_
    refine lv_iadd hx hb dX6_adds_26 ?_
    refine lv_iload_n hx hb dX6_adds_27 rfl (lv_at hl 2 rfl) ?_
    obtain ⟨g2742, hg2742, h⟩ := ob h
    refine k_st hx hb hK hP hD hS 1 0 rfl rfl hg2742 dX6_adds_28 (ws' := [(a_m, .inr (6, [.ref a_m_w, .ref a_m_d, .int m_undoes, .int m_kept, .ref a_m_text, .int m_texted, .int m_at, .ref a_m_numbers, .ref a_m_then, .ref a_m_leans, .int m_draws, .int m_drawn, .int m_heards, .ref a_m_heardSet, .ref a_m_heardSum])), (a_m_w, .inl (cI, 106, .inl g2742))]) rfl (fun H locs hP hD hS => ?_)
    refine lv_aload_n hx hb dX6_adds_29 rfl (lv_at hl 1 rfl) ?_
    refine va_get (D := (dC, dI)) (ci := 6) (v := .ref a_m_w) (C := RX6) (T := TX6) (N := 15) hx hb hts in_X6 hown hK hP 0 rfl rfl 0 (by decide) f_7 (fun _ h9 => h9) rfl dX6_adds_30 ?_
    refine lv_bipush (v := (62 : Int32)) hx hb dX6_adds_33 (by decide) ?_
    refine lv_iload hx hb dX6_adds_35 (lv_at hl 0 rfl) ?_
    refine lv_iadd hx hb dX6_adds_37 ?_
    refine lv_iload_n hx hb dX6_adds_38 rfl (lv_at hl 3 rfl) ?_
    obtain ⟨g2743, hg2743, h⟩ := ob h
    refine k_st hx hb hK hP hD hS 1 0 rfl rfl hg2743 dX6_adds_39 (ws' := [(a_m, .inr (6, [.ref a_m_w, .ref a_m_d, .int m_undoes, .int m_kept, .ref a_m_text, .int m_texted, .int m_at, .ref a_m_numbers, .ref a_m_then, .ref a_m_leans, .int m_draws, .int m_drawn, .int m_heards, .ref a_m_heardSet, .ref a_m_heardSum])), (a_m_w, .inl (cI, 106, .inl g2743))]) rfl (fun H locs hP hD hS => ?_)
    refine lv_aload_n hx hb dX6_adds_40 rfl (lv_at hl 1 rfl) ?_
    refine va_get (D := (dC, dI)) (ci := 6) (v := .ref a_m_w) (C := RX6) (T := TX6) (N := 15) hx hb hts in_X6 hown hK hP 0 rfl rfl 0 (by decide) f_7 (fun _ h9 => h9) rfl dX6_adds_41 ?_
    refine lv_bipush (v := (70 : Int32)) hx hb dX6_adds_44 (by decide) ?_
    refine lv_iload hx hb dX6_adds_46 (lv_at hl 0 rfl) ?_
    refine lv_iadd hx hb dX6_adds_48 ?_
    refine lv_iload_n hx hb dX6_adds_49 rfl (lv_at hl 4 rfl) ?_
    obtain ⟨g2744, hg2744, h⟩ := ob h
    refine k_st hx hb hK hP hD hS 1 0 rfl rfl hg2744 dX6_adds_50 (ws' := [(a_m, .inr (6, [.ref a_m_w, .ref a_m_d, .int m_undoes, .int m_kept, .ref a_m_text, .int m_texted, .int m_at, .ref a_m_numbers, .ref a_m_then, .ref a_m_leans, .int m_draws, .int m_drawn, .int m_heards, .ref a_m_heardSet, .ref a_m_heardSum])), (a_m_w, .inl (cI, 106, .inl g2744))]) rfl (fun H locs hP hD hS => ?_)
    refine lv_aload_n hx hb dX6_adds_51 rfl (lv_at hl 1 rfl) ?_
    refine va_get (D := (dC, dI)) (ci := 6) (v := .ref a_m_w) (C := RX6) (T := TX6) (N := 15) hx hb hts in_X6 hown hK hP 0 rfl rfl 0 (by decide) f_7 (fun _ h9 => h9) rfl dX6_adds_52 ?_
    refine lv_bipush (v := (78 : Int32)) hx hb dX6_adds_55 (by decide) ?_
    refine lv_iload hx hb dX6_adds_57 (lv_at hl 0 rfl) ?_
    refine lv_iadd hx hb dX6_adds_59 ?_
    refine lv_iload hx hb dX6_adds_60 (lv_at hl 5 rfl) ?_
    obtain ⟨g2745, hg2745, h⟩ := ob h
    refine k_st hx hb hK hP hD hS 1 0 rfl rfl hg2745 dX6_adds_62 (ws' := [(a_m, .inr (6, [.ref a_m_w, .ref a_m_d, .int m_undoes, .int m_kept, .ref a_m_text, .int m_texted, .int m_at, .ref a_m_numbers, .ref a_m_then, .ref a_m_leans, .int m_draws, .int m_drawn, .int m_heards, .ref a_m_heardSet, .ref a_m_heardSum])), (a_m_w, .inl (cI, 106, .inl g2745))]) rfl (fun H locs hP hD hS => ?_)
    refine lv_aload_n hx hb dX6_adds_63 rfl (lv_at hl 1 rfl) ?_
    refine va_get (D := (dC, dI)) (ci := 6) (v := .ref a_m_w) (C := RX6) (T := TX6) (N := 15) hx hb hts in_X6 hown hK hP 0 rfl rfl 0 (by decide) f_7 (fun _ h9 => h9) rfl dX6_adds_64 ?_
    refine lv_bipush (v := (86 : Int32)) hx hb dX6_adds_67 (by decide) ?_
    refine lv_iload hx hb dX6_adds_69 (lv_at hl 0 rfl) ?_
    refine lv_iadd hx hb dX6_adds_71 ?_
    refine lv_iconst (v := (0 : Int32)) hx hb dX6_adds_72 (by decide) ?_
    obtain ⟨g2746, hg2746, h⟩ := ob h
    refine k_st hx hb hK hP hD hS 1 0 rfl rfl hg2746 dX6_adds_73 (ws' := [(a_m, .inr (6, [.ref a_m_w, .ref a_m_d, .int m_undoes, .int m_kept, .ref a_m_text, .int m_texted, .int m_at, .ref a_m_numbers, .ref a_m_then, .ref a_m_leans, .int m_draws, .int m_drawn, .int m_heards, .ref a_m_heardSet, .ref a_m_heardSum])), (a_m_w, .inl (cI, 106, .inl g2746))]) rfl (fun H locs hP hD hS => ?_)
    refine lv_aload_n hx hb dX6_adds_74 rfl (lv_at hl 1 rfl) ?_
    refine va_get (D := (dC, dI)) (ci := 6) (v := .ref a_m_w) (C := RX6) (T := TX6) (N := 15) hx hb hts in_X6 hown hK hP 0 rfl rfl 0 (by decide) f_7 (fun _ h9 => h9) rfl dX6_adds_75 ?_
    refine lv_bipush (v := (94 : Int32)) hx hb dX6_adds_78 (by decide) ?_
    refine lv_iload hx hb dX6_adds_80 (lv_at hl 0 rfl) ?_
    refine lv_iadd hx hb dX6_adds_82 ?_
    refine lv_bipush (v := (20 : Int32)) hx hb dX6_adds_83 (by decide) ?_
    obtain ⟨g2747, hg2747, h⟩ := ob h
    refine k_st hx hb hK hP hD hS 1 0 rfl rfl hg2747 dX6_adds_85 (ws' := [(a_m, .inr (6, [.ref a_m_w, .ref a_m_d, .int m_undoes, .int m_kept, .ref a_m_text, .int m_texted, .int m_at, .ref a_m_numbers, .ref a_m_then, .ref a_m_leans, .int m_draws, .int m_drawn, .int m_heards, .ref a_m_heardSet, .ref a_m_heardSum])), (a_m_w, .inl (cI, 106, .inl g2747))]) rfl (fun H locs hP hD hS => ?_)
    refine lv_aload_n hx hb dX6_adds_86 rfl (lv_at hl 1 rfl) ?_
    refine va_get (D := (dC, dI)) (ci := 6) (v := .ref a_m_w) (C := RX6) (T := TX6) (N := 15) hx hb hts in_X6 hown hK hP 0 rfl rfl 0 (by decide) f_7 (fun _ h9 => h9) rfl dX6_adds_87 ?_
    refine lv_bipush (v := (53 : Int32)) hx hb dX6_adds_90 (by decide) ?_
    refine lv_dup2_11 hx hb dX6_adds_92 rfl rfl ?_
    obtain ⟨v2748, hv2748, h⟩ := ob h
    refine k_ld hx hb hK hP 1 0 rfl rfl hv2748 dX6_adds_93 ?_
    refine lv_iconst (v := (1 : Int32)) hx hb dX6_adds_94 (by decide) ?_
    refine lv_iadd hx hb dX6_adds_95 ?_
    obtain ⟨g2749, hg2749, h⟩ := ob h
    refine k_st hx hb hK hP hD hS 1 0 rfl rfl hg2749 dX6_adds_96 (ws' := [(a_m, .inr (6, [.ref a_m_w, .ref a_m_d, .int m_undoes, .int m_kept, .ref a_m_text, .int m_texted, .int m_at, .ref a_m_numbers, .ref a_m_then, .ref a_m_leans, .int m_draws, .int m_drawn, .int m_heards, .ref a_m_heardSet, .ref a_m_heardSum])), (a_m_w, .inl (cI, 106, .inl g2749))]) rfl (fun H locs hP hD hS => ?_)
    refine lv_iconst (v := (1 : Int32)) hx hb dX6_adds_97 (by decide) ?_
    obtain rfl := Option.some.inj h
    subst hQe
    exact W.zret (v := (1 : Int32)) (ty := .boolean) hx hb hr rfl (fun t ht hW => ⟨⟨(1 : Int32), (), rfl, rfl, ⟨by rw [ht]; exact hP, hD⟩⟩, hS.F ht⟩) hS.2.2 dX6_adds_98
  · have h := (if_pos c_13).symm.trans h
    refine lv_iconst (v := (0 : Int32)) hx hb dX6_adds_16 (by decide) ?_
    obtain rfl := Option.some.inj h
    subst hQe
    exact W.zret (v := (0 : Int32)) (ty := .boolean) hx hb hr rfl (fun t ht hW => ⟨⟨(0 : Int32), (), rfl, rfl, ⟨by rw [ht]; exact hP, hD⟩⟩, hS.F ht⟩) hS.2.2 dX6_adds_17
def rm_X6_comes : Room := { frames := 0, cells := 0, slots := 0, locals := 0 }
set_option maxRecDepth 100000 in
set_option maxHeartbeats 8000000 in
theorem c_X6_comes (l : Launch) (dC : Nat → ClassId) (dI : Nat → Nat → Nat) (cI cS : ClassId) (n sz : Nat) (a_m : Nat) (a_m_w : Nat) (a_m_d : Nat) (a_m_text : Nat) (a_m_numbers : Nat) (a_m_then : Nat) (a_m_leans : Nat) (a_m_heardSet : Nat) (a_m_heardSum : Nat) (m_w : Nat → Int32) (m_d : Nat → Int32) (m_undoes : Int32) (m_kept : Int32) (m_texted : Int32) (m_at : Int32) (m_draws : Int32) (m_drawn : Int32) (m_heards : Int32) (res : Int32 × Int32 × Int32 × (Nat → Int32) × (Nat → Int32))  (h : F_X6_comes n m_w m_d = some res) : Met l yX6_comes wsX6_comes rm_X6_comes (va_Pc [.ref a_m] (PRE (dC, dI) vwCl [(cI, .int), (cS, .object "RoundOfTheA$State")] sz [(a_m, .inr (6, [.ref a_m_w, .ref a_m_d, .int m_undoes, .int m_kept, .ref a_m_text, .int m_texted, .int m_at, .ref a_m_numbers, .ref a_m_then, .ref a_m_leans, .int m_draws, .int m_drawn, .int m_heards, .ref a_m_heardSet, .ref a_m_heardSum])), (a_m_w, .inl (cI, 106, .inl m_w)), (a_m_d, .inl (cI, 216, .inl m_d))])) (va_Qv (fun _ : Unit => True) (fun u t => POST (dC, dI) vwCl [(a_m, .inr (6, [.ref a_m_w, .ref a_m_d, .int res.1, .int res.2.1, .ref a_m_text, .int m_texted, .int m_at, .ref a_m_numbers, .ref a_m_then, .ref a_m_leans, .int m_draws, .int m_drawn, .int res.2.2.1, .ref a_m_heardSet, .ref a_m_heardSum])), (a_m_w, .inl (cI, 106, .inl res.2.2.2.1)), (a_m_d, .inl (cI, 216, .inl res.2.2.2.2))] (va_A [(a_m, .inr (6, [.ref a_m_w, .ref a_m_d, .int m_undoes, .int m_kept, .ref a_m_text, .int m_texted, .int m_at, .ref a_m_numbers, .ref a_m_then, .ref a_m_leans, .int m_draws, .int m_drawn, .int m_heards, .ref a_m_heardSet, .ref a_m_heardSum])), (a_m_w, .inl (cI, 106, .inl m_w)), (a_m_d, .inl (cI, 216, .inl m_d))] sz) t) (va_A [(a_m, .inr (6, [.ref a_m_w, .ref a_m_d, .int m_undoes, .int m_kept, .ref a_m_text, .int m_texted, .int m_at, .ref a_m_numbers, .ref a_m_then, .ref a_m_leans, .int m_draws, .int m_drawn, .int m_heards, .ref a_m_heardSet, .ref a_m_heardSum])), (a_m_w, .inl (cI, 106, .inl m_w)), (a_m_d, .inl (cI, 216, .inl m_d))] sz)) 0 0 (va_A [(a_m, .inr (6, [.ref a_m_w, .ref a_m_d, .int m_undoes, .int m_kept, .ref a_m_text, .int m_texted, .int m_at, .ref a_m_numbers, .ref a_m_then, .ref a_m_leans, .int m_draws, .int m_drawn, .int m_heards, .ref a_m_heardSet, .ref a_m_heardSum])), (a_m_w, .inl (cI, 106, .inl m_w)), (a_m_d, .inl (cI, 216, .inl m_d))] sz) := by
  refine Met.ofW (cc := cX6_comes) (maxL := 2) (ret := none) (by decide) rfl ?_
  intro p e s m args below meth c s₁ B hml hv
  obtain ⟨rfl, hsz, hN, hP, hK, hD0⟩ := hv
  have hx := B.exec
  have hb := B.bytes
  have hr := B.returns
  have hts := atoms_spec (ws := wsX6_comes) B.pre
  have hown : s.vm.findClass RX6 = some m.cls := findClass_of_methodNamed B.named
  have hlocks := B.notSynchronized
  subst hsz
  have hD := hD0.self (sz := s.heap.size)
  generalize hAe : va_A [(a_m, .inr (6, [.ref a_m_w, .ref a_m_d, .int m_undoes, .int m_kept, .ref a_m_text, .int m_texted, .int m_at, .ref a_m_numbers, .ref a_m_then, .ref a_m_leans, .int m_draws, .int m_drawn, .int m_heards, .ref a_m_heardSet, .ref a_m_heardSum])), (a_m_w, .inl (cI, 106, .inl m_w)), (a_m_d, .inl (cI, 216, .inl m_d))] s.heap.size = A at hD ⊢
  have hA : ∀ q : Nat, s.heap.size ≤ q → A q := fun q h => by rw [← hAe]; exact Or.inr h
  have hS : va_S A s.heap s.heap [] := va_S.rf
  generalize hQe : MQ below _ _ s _ _ A = QQ
  have hl := lv_entry ([.ref a_m]) (n := 2) (Nat.le_of_ble_eq_true rfl)
  rw [lg_entry_eq]
  generalize (lg_sl ([.ref a_m]) ++ List.replicate (2 - (lg_sl ([.ref a_m])).length) Slot.unset).toArray = ls at hl ⊢
  have hl : lv_has ls 2 [(0, .ref a_m)] := hl
  have f_7 := hts (.fieldLink RX6 7 "RoundOfTheAModel" "w" "[I") (by decide +kernel)
  have in_X6 := (by decide +kernel : ∀ w ∈ wsX60, w ∈ wsX6_comes)
  have f_13 := hts (.fieldLink RX6 13 "RoundOfTheAModel" "d" "[I") (by decide +kernel)
  have f_44 := hts (.fieldLink RX6 44 "RoundOfTheAModel" "undoes" "I") (by decide +kernel)
  have f_48 := hts (.fieldLink RX6 48 "RoundOfTheAModel" "kept" "I") (by decide +kernel)
  have f_51 := hts (.fieldLink RX6 51 "RoundOfTheAModel" "heards" "I") (by decide +kernel)
  rw [F_X6_comes] at h
  refine lv_iconst (v := (0 : Int32)) hx hb dX6_comes_0 (by decide) ?_
  refine lv_istore_n (lv' := [(1, .int (0 : Int32)), (0, .ref a_m)]) hx hb dX6_comes_1 rfl hl (by decide) rfl (fun ls hl => ?_)
  obtain ⟨j2798, hjj2798, h⟩ := ob h
  have Jj2798 : ∀ (H : Heap) (locs : List Loc), va_P (dC, dI) vwCl [(a_m, .inr (6, [.ref a_m_w, .ref a_m_d, .int m_undoes, .int m_kept, .ref a_m_text, .int m_texted, .int m_at, .ref a_m_numbers, .ref a_m_then, .ref a_m_leans, .int m_draws, .int m_drawn, .int m_heards, .ref a_m_heardSet, .ref a_m_heardSum])), (a_m_w, .inl (cI, 106, .inl j2798.2)), (a_m_d, .inl (cI, 216, .inl m_d))] H → va_D A [(a_m, .inr (6, [.ref a_m_w, .ref a_m_d, .int m_undoes, .int m_kept, .ref a_m_text, .int m_texted, .int m_at, .ref a_m_numbers, .ref a_m_then, .ref a_m_leans, .int m_draws, .int m_drawn, .int m_heards, .ref a_m_heardSet, .ref a_m_heardSum])), (a_m_w, .inl (cI, 106, .inl j2798.2)), (a_m_d, .inl (cI, 216, .inl m_d))] → va_S A s.heap H locs → ∀ ls : Array Slot, lv_has ls 2 [(0, .ref a_m), (1, .int j2798.1)] → W p l e (headSpec wsX6_comes rm_X6_comes).room s m ([.ref a_m] : List Value).toArray below meth c H locs 0 0 QQ (F0 m 29 ls []) := by
    intro H locs hP hD hS ls hl
    refine lv_iconst (v := (0 : Int32)) hx hb dX6_comes_29 (by decide) ?_
    refine lv_istore_n (lv' := [(1, .int (0 : Int32)), (0, .ref a_m)]) hx hb dX6_comes_30 rfl hl (by decide) rfl (fun ls hl => ?_)
    obtain ⟨j2811, hjj2811, h⟩ := ob h
    have Jj2811 : ∀ (H : Heap) (locs : List Loc), va_P (dC, dI) vwCl [(a_m, .inr (6, [.ref a_m_w, .ref a_m_d, .int m_undoes, .int m_kept, .ref a_m_text, .int m_texted, .int m_at, .ref a_m_numbers, .ref a_m_then, .ref a_m_leans, .int m_draws, .int m_drawn, .int m_heards, .ref a_m_heardSet, .ref a_m_heardSum])), (a_m_w, .inl (cI, 106, .inl j2798.2)), (a_m_d, .inl (cI, 216, .inl j2811.2))] H → va_D A [(a_m, .inr (6, [.ref a_m_w, .ref a_m_d, .int m_undoes, .int m_kept, .ref a_m_text, .int m_texted, .int m_at, .ref a_m_numbers, .ref a_m_then, .ref a_m_leans, .int m_draws, .int m_drawn, .int m_heards, .ref a_m_heardSet, .ref a_m_heardSum])), (a_m_w, .inl (cI, 106, .inl j2798.2)), (a_m_d, .inl (cI, 216, .inl j2811.2))] → va_S A s.heap H locs → ∀ ls : Array Slot, lv_has ls 2 [(0, .ref a_m), (1, .int j2811.1)] → W p l e (headSpec wsX6_comes rm_X6_comes).room s m ([.ref a_m] : List Value).toArray below meth c H locs 0 0 QQ (F0 m 81 ls []) := by
      intro H locs hP hD hS ls hl
      refine lv_aload_n hx hb dX6_comes_81 rfl (lv_at hl 0 rfl) ?_
      refine va_get (D := (dC, dI)) (ci := 6) (v := .ref a_m_d) (C := RX6) (T := TX6) (N := 15) hx hb hts in_X6 hown hK hP 0 rfl rfl 1 (by decide) f_13 (fun _ h9 => h9) rfl dX6_comes_82 ?_
      refine lv_bipush (v := (8 : Int32)) hx hb dX6_comes_85 (by decide) ?_
      refine lv_aload_n hx hb dX6_comes_87 rfl (lv_at hl 0 rfl) ?_
      refine va_get (D := (dC, dI)) (ci := 6) (v := .ref a_m_w) (C := RX6) (T := TX6) (N := 15) hx hb hts in_X6 hown hK hP 0 rfl rfl 0 (by decide) f_7 (fun _ h9 => h9) rfl dX6_comes_88 ?_
      refine lv_bipush (v := (49 : Int32)) hx hb dX6_comes_91 (by decide) ?_
      obtain ⟨v2816, hv2816, h⟩ := ob h
      refine k_ld hx hb hK hP 1 0 rfl rfl hv2816 dX6_comes_93 ?_
      refine lv_bipush (v := (9 : Int32)) hx hb dX6_comes_94 (by decide) ?_
      refine lv_isub hx hb dX6_comes_96 ?_
      obtain ⟨g2817, hg2817, h⟩ := ob h
      refine k_st hx hb hK hP hD hS 2 0 rfl rfl hg2817 dX6_comes_97 (ws' := [(a_m, .inr (6, [.ref a_m_w, .ref a_m_d, .int m_undoes, .int m_kept, .ref a_m_text, .int m_texted, .int m_at, .ref a_m_numbers, .ref a_m_then, .ref a_m_leans, .int m_draws, .int m_drawn, .int m_heards, .ref a_m_heardSet, .ref a_m_heardSum])), (a_m_w, .inl (cI, 106, .inl j2798.2)), (a_m_d, .inl (cI, 216, .inl g2817))]) rfl (fun H locs hP hD hS => ?_)
      refine lv_aload_n hx hb dX6_comes_98 rfl (lv_at hl 0 rfl) ?_
      refine va_get (D := (dC, dI)) (ci := 6) (v := .ref a_m_d) (C := RX6) (T := TX6) (N := 15) hx hb hts in_X6 hown hK hP 0 rfl rfl 1 (by decide) f_13 (fun _ h9 => h9) rfl dX6_comes_99 ?_
      refine lv_bipush (v := (9 : Int32)) hx hb dX6_comes_102 (by decide) ?_
      refine lv_iconst (v := (0 : Int32)) hx hb dX6_comes_104 (by decide) ?_
      obtain ⟨g2818, hg2818, h⟩ := ob h
      refine k_st hx hb hK hP hD hS 2 0 rfl rfl hg2818 dX6_comes_105 (ws' := [(a_m, .inr (6, [.ref a_m_w, .ref a_m_d, .int m_undoes, .int m_kept, .ref a_m_text, .int m_texted, .int m_at, .ref a_m_numbers, .ref a_m_then, .ref a_m_leans, .int m_draws, .int m_drawn, .int m_heards, .ref a_m_heardSet, .ref a_m_heardSum])), (a_m_w, .inl (cI, 106, .inl j2798.2)), (a_m_d, .inl (cI, 216, .inl g2818))]) rfl (fun H locs hP hD hS => ?_)
      refine lv_aload_n hx hb dX6_comes_106 rfl (lv_at hl 0 rfl) ?_
      refine lv_iconst (v := (0 : Int32)) hx hb dX6_comes_107 (by decide) ?_
      refine va_put (D := (dC, dI)) (ci := 6) (v := .int (0 : Int32)) (ty := .int) (C := RX6) (T := TX6) (N := 15) hx hb hts in_X6 tyX6 tyX6_ok nmX6 hown hK hP hD hS 0 rfl rfl 2 (by decide) f_44 (fun _ h9 => h9) rfl (by decide +kernel) rfl rfl (Nat.le_of_ble_eq_true rfl) dX6_comes_108 (fun H locs hP hD hS => ?_)
      have hP : va_P (dC, dI) vwCl [(a_m, .inr (6, [.ref a_m_w, .ref a_m_d, .int (0 : Int32), .int m_kept, .ref a_m_text, .int m_texted, .int m_at, .ref a_m_numbers, .ref a_m_then, .ref a_m_leans, .int m_draws, .int m_drawn, .int m_heards, .ref a_m_heardSet, .ref a_m_heardSum])), (a_m_w, .inl (cI, 106, .inl j2798.2)), (a_m_d, .inl (cI, 216, .inl g2818))] H := hP
      have hD : va_D A [(a_m, .inr (6, [.ref a_m_w, .ref a_m_d, .int (0 : Int32), .int m_kept, .ref a_m_text, .int m_texted, .int m_at, .ref a_m_numbers, .ref a_m_then, .ref a_m_leans, .int m_draws, .int m_drawn, .int m_heards, .ref a_m_heardSet, .ref a_m_heardSum])), (a_m_w, .inl (cI, 106, .inl j2798.2)), (a_m_d, .inl (cI, 216, .inl g2818))] := hD
      refine lv_aload_n hx hb dX6_comes_111 rfl (lv_at hl 0 rfl) ?_
      refine lv_iconst (v := (0 : Int32)) hx hb dX6_comes_112 (by decide) ?_
      refine va_put (D := (dC, dI)) (ci := 6) (v := .int (0 : Int32)) (ty := .int) (C := RX6) (T := TX6) (N := 15) hx hb hts in_X6 tyX6 tyX6_ok nmX6 hown hK hP hD hS 0 rfl rfl 3 (by decide) f_48 (fun _ h9 => h9) rfl (by decide +kernel) rfl rfl (Nat.le_of_ble_eq_true rfl) dX6_comes_113 (fun H locs hP hD hS => ?_)
      have hP : va_P (dC, dI) vwCl [(a_m, .inr (6, [.ref a_m_w, .ref a_m_d, .int (0 : Int32), .int (0 : Int32), .ref a_m_text, .int m_texted, .int m_at, .ref a_m_numbers, .ref a_m_then, .ref a_m_leans, .int m_draws, .int m_drawn, .int m_heards, .ref a_m_heardSet, .ref a_m_heardSum])), (a_m_w, .inl (cI, 106, .inl j2798.2)), (a_m_d, .inl (cI, 216, .inl g2818))] H := hP
      have hD : va_D A [(a_m, .inr (6, [.ref a_m_w, .ref a_m_d, .int (0 : Int32), .int (0 : Int32), .ref a_m_text, .int m_texted, .int m_at, .ref a_m_numbers, .ref a_m_then, .ref a_m_leans, .int m_draws, .int m_drawn, .int m_heards, .ref a_m_heardSet, .ref a_m_heardSum])), (a_m_w, .inl (cI, 106, .inl j2798.2)), (a_m_d, .inl (cI, 216, .inl g2818))] := hD
      refine lv_aload_n hx hb dX6_comes_116 rfl (lv_at hl 0 rfl) ?_
      refine lv_iconst (v := (0 : Int32)) hx hb dX6_comes_117 (by decide) ?_
      refine va_put (D := (dC, dI)) (ci := 6) (v := .int (0 : Int32)) (ty := .int) (C := RX6) (T := TX6) (N := 15) hx hb hts in_X6 tyX6 tyX6_ok nmX6 hown hK hP hD hS 0 rfl rfl 12 (by decide) f_51 (fun _ h9 => h9) rfl (by decide +kernel) rfl rfl (Nat.le_of_ble_eq_true rfl) dX6_comes_118 (fun H locs hP hD hS => ?_)
      have hP : va_P (dC, dI) vwCl [(a_m, .inr (6, [.ref a_m_w, .ref a_m_d, .int (0 : Int32), .int (0 : Int32), .ref a_m_text, .int m_texted, .int m_at, .ref a_m_numbers, .ref a_m_then, .ref a_m_leans, .int m_draws, .int m_drawn, .int (0 : Int32), .ref a_m_heardSet, .ref a_m_heardSum])), (a_m_w, .inl (cI, 106, .inl j2798.2)), (a_m_d, .inl (cI, 216, .inl g2818))] H := hP
      have hD : va_D A [(a_m, .inr (6, [.ref a_m_w, .ref a_m_d, .int (0 : Int32), .int (0 : Int32), .ref a_m_text, .int m_texted, .int m_at, .ref a_m_numbers, .ref a_m_then, .ref a_m_leans, .int m_draws, .int m_drawn, .int (0 : Int32), .ref a_m_heardSet, .ref a_m_heardSum])), (a_m_w, .inl (cI, 106, .inl j2798.2)), (a_m_d, .inl (cI, 216, .inl g2818))] := hD
      obtain rfl := Option.some.inj h
      subst hQe
      exact W.vret hx hb hr (fun t ht hW => ⟨⟨(), rfl, trivial, ⟨by rw [ht]; exact hP, hD⟩⟩, hS.F ht⟩) hS.2.2 dX6_comes_121
    have K31 : ∀ (k : Nat) (y1_31 : Int32) (m_dv_31 : Nat → Int32), L_X6_comes_31 j2798 k y1_31 m_dv_31 = some j2811 → ∀ (H : Heap) (locs : List Loc), va_P (dC, dI) vwCl [(a_m, .inr (6, [.ref a_m_w, .ref a_m_d, .int m_undoes, .int m_kept, .ref a_m_text, .int m_texted, .int m_at, .ref a_m_numbers, .ref a_m_then, .ref a_m_leans, .int m_draws, .int m_drawn, .int m_heards, .ref a_m_heardSet, .ref a_m_heardSum])), (a_m_w, .inl (cI, 106, .inl j2798.2)), (a_m_d, .inl (cI, 216, .inl m_dv_31))] H → va_D A [(a_m, .inr (6, [.ref a_m_w, .ref a_m_d, .int m_undoes, .int m_kept, .ref a_m_text, .int m_texted, .int m_at, .ref a_m_numbers, .ref a_m_then, .ref a_m_leans, .int m_draws, .int m_drawn, .int m_heards, .ref a_m_heardSet, .ref a_m_heardSum])), (a_m_w, .inl (cI, 106, .inl j2798.2)), (a_m_d, .inl (cI, 216, .inl m_dv_31))] → va_S A s.heap H locs → ∀ ls : Array Slot, lv_has ls 2 [(0, .ref a_m), (1, .int y1_31)] → W p l e (headSpec wsX6_comes rm_X6_comes).room s m ([.ref a_m] : List Value).toArray below meth c H locs 0 0 QQ (F0 m 31 ls []) := by
      intro k
      induction k with
      | zero =>
        intro y1_31 m_dv_31 h
        rw [L_X6_comes_31] at h
        cases h
      | succ k ih =>
        intro y1_31 m_dv_31 h H locs hP hD hS ls hl
        rw [L_X6_comes_31] at h
        refine lv_iload_n hx hb dX6_comes_31 rfl (lv_at hl 1 rfl) ?_
        refine lv_bipush (v := (8 : Int32)) hx hb dX6_comes_32 (by decide) ?_
        refine lv_icmp_ge (tgt := 81) hx hb dX6_comes_34 (by decide) (fun c_34 => ?_) (fun c_34 => ?_)
        · have h := (if_pos c_34).symm.trans h
          obtain rfl := Option.some.inj h
          exact Jj2811 _ _ hP hD hS _ hl
        · have h := (if_neg c_34).symm.trans h
          refine lv_aload_n hx hb dX6_comes_37 rfl (lv_at hl 0 rfl) ?_
          refine va_get (D := (dC, dI)) (ci := 6) (v := .ref a_m_d) (C := RX6) (T := TX6) (N := 15) hx hb hts in_X6 hown hK hP 0 rfl rfl 1 (by decide) f_13 (fun _ h9 => h9) rfl dX6_comes_38 ?_
          refine lv_iconst (v := (0 : Int32)) hx hb dX6_comes_41 (by decide) ?_
          refine lv_iload_n hx hb dX6_comes_42 rfl (lv_at hl 1 rfl) ?_
          refine lv_iadd hx hb dX6_comes_43 ?_
          refine lv_aload_n hx hb dX6_comes_44 rfl (lv_at hl 0 rfl) ?_
          refine va_get (D := (dC, dI)) (ci := 6) (v := .ref a_m_w) (C := RX6) (T := TX6) (N := 15) hx hb hts in_X6 hown hK hP 0 rfl rfl 0 (by decide) f_7 (fun _ h9 => h9) rfl dX6_comes_45 ?_
          refine lv_bipush (v := (41 : Int32)) hx hb dX6_comes_48 (by decide) ?_
          refine lv_iload_n hx hb dX6_comes_50 rfl (lv_at hl 1 rfl) ?_
          refine lv_iadd hx hb dX6_comes_51 ?_
          obtain ⟨v2812, hv2812, h⟩ := ob h
          refine k_ld hx hb hK hP 1 0 rfl rfl hv2812 dX6_comes_52 ?_
          refine lv_bipush (v := (20 : Int32)) hx hb dX6_comes_53 (by decide) ?_
          refine lv_isub hx hb dX6_comes_55 ?_
          obtain ⟨g2813, hg2813, h⟩ := ob h
          refine k_st hx hb hK hP hD hS 2 0 rfl rfl hg2813 dX6_comes_56 (ws' := [(a_m, .inr (6, [.ref a_m_w, .ref a_m_d, .int m_undoes, .int m_kept, .ref a_m_text, .int m_texted, .int m_at, .ref a_m_numbers, .ref a_m_then, .ref a_m_leans, .int m_draws, .int m_drawn, .int m_heards, .ref a_m_heardSet, .ref a_m_heardSum])), (a_m_w, .inl (cI, 106, .inl j2798.2)), (a_m_d, .inl (cI, 216, .inl g2813))]) rfl (fun H locs hP hD hS => ?_)
          refine lv_aload_n hx hb dX6_comes_57 rfl (lv_at hl 0 rfl) ?_
          refine va_get (D := (dC, dI)) (ci := 6) (v := .ref a_m_d) (C := RX6) (T := TX6) (N := 15) hx hb hts in_X6 hown hK hP 0 rfl rfl 1 (by decide) f_13 (fun _ h9 => h9) rfl dX6_comes_58 ?_
          refine lv_bipush (v := (10 : Int32)) hx hb dX6_comes_61 (by decide) ?_
          refine lv_iload_n hx hb dX6_comes_63 rfl (lv_at hl 1 rfl) ?_
          refine lv_iadd hx hb dX6_comes_64 ?_
          refine lv_aload_n hx hb dX6_comes_65 rfl (lv_at hl 0 rfl) ?_
          refine va_get (D := (dC, dI)) (ci := 6) (v := .ref a_m_w) (C := RX6) (T := TX6) (N := 15) hx hb hts in_X6 hown hK hP 0 rfl rfl 0 (by decide) f_7 (fun _ h9 => h9) rfl dX6_comes_66 ?_
          refine lv_bipush (v := (25 : Int32)) hx hb dX6_comes_69 (by decide) ?_
          refine lv_iload_n hx hb dX6_comes_71 rfl (lv_at hl 1 rfl) ?_
          refine lv_iadd hx hb dX6_comes_72 ?_
          obtain ⟨v2814, hv2814, h⟩ := ob h
          refine k_ld hx hb hK hP 1 0 rfl rfl hv2814 dX6_comes_73 ?_
          obtain ⟨g2815, hg2815, h⟩ := ob h
          refine k_st hx hb hK hP hD hS 2 0 rfl rfl hg2815 dX6_comes_74 (ws' := [(a_m, .inr (6, [.ref a_m_w, .ref a_m_d, .int m_undoes, .int m_kept, .ref a_m_text, .int m_texted, .int m_at, .ref a_m_numbers, .ref a_m_then, .ref a_m_leans, .int m_draws, .int m_drawn, .int m_heards, .ref a_m_heardSet, .ref a_m_heardSum])), (a_m_w, .inl (cI, 106, .inl j2798.2)), (a_m_d, .inl (cI, 216, .inl g2815))]) rfl (fun H locs hP hD hS => ?_)
          refine lv_iinc (v := (y1_31 + (1 : Int32))) (lv' := [(1, .int (y1_31 + (1 : Int32))), (0, .ref a_m)]) hx hb dX6_comes_75 hl (k := 1) rfl rfl (by decide) rfl (fun ls hl => ?_)
          refine lv_goto (tgt := 31) hx hb dX6_comes_78 (by decide) ?_
          exact ih _ _ h _ _ hP hD hS _ (lv_sub hl [1, 0] rfl)
    exact K31 n (0 : Int32) m_d hjj2811 _ _ hP hD hS _ (lv_sub hl [1, 0] rfl)
  have K2 : ∀ (k : Nat) (y1_2 : Int32) (m_wv_2 : Nat → Int32), L_X6_comes_2 k y1_2 m_wv_2 = some j2798 → ∀ (H : Heap) (locs : List Loc), va_P (dC, dI) vwCl [(a_m, .inr (6, [.ref a_m_w, .ref a_m_d, .int m_undoes, .int m_kept, .ref a_m_text, .int m_texted, .int m_at, .ref a_m_numbers, .ref a_m_then, .ref a_m_leans, .int m_draws, .int m_drawn, .int m_heards, .ref a_m_heardSet, .ref a_m_heardSum])), (a_m_w, .inl (cI, 106, .inl m_wv_2)), (a_m_d, .inl (cI, 216, .inl m_d))] H → va_D A [(a_m, .inr (6, [.ref a_m_w, .ref a_m_d, .int m_undoes, .int m_kept, .ref a_m_text, .int m_texted, .int m_at, .ref a_m_numbers, .ref a_m_then, .ref a_m_leans, .int m_draws, .int m_drawn, .int m_heards, .ref a_m_heardSet, .ref a_m_heardSum])), (a_m_w, .inl (cI, 106, .inl m_wv_2)), (a_m_d, .inl (cI, 216, .inl m_d))] → va_S A s.heap H locs → ∀ ls : Array Slot, lv_has ls 2 [(0, .ref a_m), (1, .int y1_2)] → W p l e (headSpec wsX6_comes rm_X6_comes).room s m ([.ref a_m] : List Value).toArray below meth c H locs 0 0 QQ (F0 m 2 ls []) := by
    intro k
    induction k with
    | zero =>
      intro y1_2 m_wv_2 h
      rw [L_X6_comes_2] at h
      cases h
    | succ k ih =>
      intro y1_2 m_wv_2 h H locs hP hD hS ls hl
      rw [L_X6_comes_2] at h
      refine lv_iload_n hx hb dX6_comes_2 rfl (lv_at hl 1 rfl) ?_
      refine lv_bipush (v := (53 : Int32)) hx hb dX6_comes_3 (by decide) ?_
      refine lv_icmp_ge (tgt := 29) hx hb dX6_comes_5 (by decide) (fun c_5 => ?_) (fun c_5 => ?_)
      · have h := (if_pos c_5).symm.trans h
        obtain rfl := Option.some.inj h
        exact Jj2798 _ _ hP hD hS _ hl
      · have h := (if_neg c_5).symm.trans h
        refine lv_aload_n hx hb dX6_comes_8 rfl (lv_at hl 0 rfl) ?_
        refine va_get (D := (dC, dI)) (ci := 6) (v := .ref a_m_w) (C := RX6) (T := TX6) (N := 15) hx hb hts in_X6 hown hK hP 0 rfl rfl 0 (by decide) f_7 (fun _ h9 => h9) rfl dX6_comes_9 ?_
        refine lv_iload_n hx hb dX6_comes_12 rfl (lv_at hl 1 rfl) ?_
        refine lv_aload_n hx hb dX6_comes_13 rfl (lv_at hl 0 rfl) ?_
        refine va_get (D := (dC, dI)) (ci := 6) (v := .ref a_m_w) (C := RX6) (T := TX6) (N := 15) hx hb hts in_X6 hown hK hP 0 rfl rfl 0 (by decide) f_7 (fun _ h9 => h9) rfl dX6_comes_14 ?_
        refine lv_bipush (v := (53 : Int32)) hx hb dX6_comes_17 (by decide) ?_
        refine lv_iload_n hx hb dX6_comes_19 rfl (lv_at hl 1 rfl) ?_
        refine lv_iadd hx hb dX6_comes_20 ?_
        obtain ⟨v2799, hv2799, h⟩ := ob h
        refine k_ld hx hb hK hP 1 0 rfl rfl hv2799 dX6_comes_21 ?_
        obtain ⟨g2800, hg2800, h⟩ := ob h
        refine k_st hx hb hK hP hD hS 1 0 rfl rfl hg2800 dX6_comes_22 (ws' := [(a_m, .inr (6, [.ref a_m_w, .ref a_m_d, .int m_undoes, .int m_kept, .ref a_m_text, .int m_texted, .int m_at, .ref a_m_numbers, .ref a_m_then, .ref a_m_leans, .int m_draws, .int m_drawn, .int m_heards, .ref a_m_heardSet, .ref a_m_heardSum])), (a_m_w, .inl (cI, 106, .inl g2800)), (a_m_d, .inl (cI, 216, .inl m_d))]) rfl (fun H locs hP hD hS => ?_)
        refine lv_iinc (v := (y1_2 + (1 : Int32))) (lv' := [(1, .int (y1_2 + (1 : Int32))), (0, .ref a_m)]) hx hb dX6_comes_23 hl (k := 1) rfl rfl (by decide) rfl (fun ls hl => ?_)
        refine lv_goto (tgt := 2) hx hb dX6_comes_26 (by decide) ?_
        exact ih _ _ h _ _ hP hD hS _ (lv_sub hl [1, 0] rfl)
  exact K2 n (0 : Int32) m_w hjj2798 _ _ hP hD hS _ (lv_sub hl [1, 0] rfl)
def rm_X6_init : Room := { frames := 1, cells := 8, slots := 558, locals := 25 }
set_option maxRecDepth 100000 in
set_option maxHeartbeats 8000000 in
theorem c_X6_init (l : Launch) (dC : Nat → ClassId) (dI : Nat → Nat → Nat) (cI cS : ClassId) (n sz : Nat) (a_m : Nat) (res : Int32 × Int32 × Int32 × (Nat → Int32) × (Nat → Int32))  (h : F_X6_init n = some res) : Met l yX6_init wsX6_init rm_X6_init (va_Pc [.ref a_m] (PRE (dC, dI) vwCl [(cI, .int), (cS, .object "RoundOfTheA$State")] sz [(a_m, .inr (6, [.null, .null, .int (0 : Int32), .int (0 : Int32), .null, .int (0 : Int32), .int (0 : Int32), .null, .null, .null, .int (0 : Int32), .int (0 : Int32), .int (0 : Int32), .null, .null]))])) (va_Qv (fun _ : Nat × Nat × Nat × Nat × Nat × Nat × Nat × Nat => True) (fun u t => POST (dC, dI) vwCl [(a_m, .inr (6, [.ref u.1, .ref u.2.1, .int res.1, .int res.2.1, .ref u.2.2.1, .int (0 : Int32), .int (0 : Int32), .ref u.2.2.2.1, .ref u.2.2.2.2.1, .ref u.2.2.2.2.2.1, .int (0 : Int32), .int (0 : Int32), .int res.2.2.1, .ref u.2.2.2.2.2.2.1, .ref u.2.2.2.2.2.2.2])), (u.1, .inl (cI, 106, .inl res.2.2.2.1)), (u.2.1, .inl (cI, 216, .inl res.2.2.2.2)), (u.2.2.1, .inl (cI, 200, .inl (fun _ => 0))), (u.2.2.2.1, .inl (cI, 4, .inl (fun _ => 0))), (u.2.2.2.2.1, .inl (cI, 8, .inl (fun _ => 0))), (u.2.2.2.2.2.1, .inl (cI, 8, .inl (fun _ => 0))), (u.2.2.2.2.2.2.1, .inl (cI, 8, .inl (fun _ => 0))), (u.2.2.2.2.2.2.2, .inl (cI, 8, .inl (fun _ => 0)))] (va_A [(a_m, .inr (6, [.null, .null, .int (0 : Int32), .int (0 : Int32), .null, .int (0 : Int32), .int (0 : Int32), .null, .null, .null, .int (0 : Int32), .int (0 : Int32), .int (0 : Int32), .null, .null]))] sz) t) (va_A [(a_m, .inr (6, [.null, .null, .int (0 : Int32), .int (0 : Int32), .null, .int (0 : Int32), .int (0 : Int32), .null, .null, .null, .int (0 : Int32), .int (0 : Int32), .int (0 : Int32), .null, .null]))] sz)) 8 558 (va_A [(a_m, .inr (6, [.null, .null, .int (0 : Int32), .int (0 : Int32), .null, .int (0 : Int32), .int (0 : Int32), .null, .null, .null, .int (0 : Int32), .int (0 : Int32), .int (0 : Int32), .null, .null]))] sz) := by
  refine Met.ofW (cc := cX6_init) (maxL := 1) (ret := none) (by decide) rfl ?_
  intro p e s m args below meth c s₁ B hml hv
  obtain ⟨rfl, hsz, hN, hP, hK, hD0⟩ := hv
  have hx := B.exec
  have hb := B.bytes
  have hr := B.returns
  have hts := atoms_spec (ws := wsX6_init) B.pre
  have hown : s.vm.findClass RX6 = some m.cls := findClass_of_methodNamed B.named
  have hlocks := B.notSynchronized
  have hin : meth.name = "<init>" := (name_of_methodNamed B.named B.method).1
  subst hsz
  have hD := hD0.self (sz := s.heap.size)
  generalize hAe : va_A [(a_m, .inr (6, [.null, .null, .int (0 : Int32), .int (0 : Int32), .null, .int (0 : Int32), .int (0 : Int32), .null, .null, .null, .int (0 : Int32), .int (0 : Int32), .int (0 : Int32), .null, .null]))] s.heap.size = A at hD ⊢
  have hA : ∀ q : Nat, s.heap.size ≤ q → A q := fun q h => by rw [← hAe]; exact Or.inr h
  have hS : va_S A s.heap s.heap [] := va_S.rf
  generalize hQe : MQ below _ _ s _ _ A = QQ
  have hl := lv_entry ([.ref a_m]) (n := 1) (Nat.le_of_ble_eq_true rfl)
  rw [lg_entry_eq]
  generalize (lg_sl ([.ref a_m]) ++ List.replicate (1 - (lg_sl ([.ref a_m])).length) Slot.unset).toArray = ls at hl ⊢
  have hl : lv_has ls 1 [(0, .ref a_m)] := hl
  have m_1 := hts (.methodLink RX6 1 objectInit) (by decide +kernel)
  have m_oi := hts (.instanceMethod objectInit) (by decide +kernel)
  have m_oc := hts (.code objectInit ⟨#[0xb1]⟩ 1 none) (by decide +kernel)
  have k_ai := hts (.arrayClass .int) (by decide +kernel)
  have f_7 := hts (.fieldLink RX6 7 "RoundOfTheAModel" "w" "[I") (by decide +kernel)
  have in_X6 := (by decide +kernel : ∀ w ∈ wsX60, w ∈ wsX6_init)
  have f_13 := hts (.fieldLink RX6 13 "RoundOfTheAModel" "d" "[I") (by decide +kernel)
  have f_16 := hts (.fieldLink RX6 16 "RoundOfTheAModel" "text" "[I") (by decide +kernel)
  have f_19 := hts (.fieldLink RX6 19 "RoundOfTheAModel" "numbers" "[I") (by decide +kernel)
  have f_22 := hts (.fieldLink RX6 22 "RoundOfTheAModel" "then" "[I") (by decide +kernel)
  have f_25 := hts (.fieldLink RX6 25 "RoundOfTheAModel" "leans" "[I") (by decide +kernel)
  have f_28 := hts (.fieldLink RX6 28 "RoundOfTheAModel" "heardSet" "[I") (by decide +kernel)
  have f_31 := hts (.fieldLink RX6 31 "RoundOfTheAModel" "heardSum" "[I") (by decide +kernel)
  rw [F_X6_init] at h
  refine lv_aload_n hx hb dX6_init_0 rfl (lv_at hl 0 rfl) ?_
  refine W.objInit hx hb hown m_1 m_oi m_oc rfl (by rw [hml]; exact hl.1) rfl dX6_init_1 (Nat.le_of_ble_eq_true rfl) (Nat.le_of_ble_eq_true rfl) ?_
  refine W.eq (g2 := F0 m 4 ls []) rfl ?_
  refine lv_aload_n hx hb dX6_init_4 rfl (lv_at hl 0 rfl) ?_
  refine lv_bipush (v := (106 : Int32)) hx hb dX6_init_5 (by decide) ?_
  refine k_newa hx hb k_ai hK hP hD hS hA 0 rfl (N' := 106) (by decide) (by decide) (Nat.le_of_ble_eq_true rfl) (Nat.le_of_ble_eq_true rfl) (Nat.le_of_ble_eq_true rfl) dX6_init_7 (fun q2848 H hP hD hS => ?_)
  refine W.widen (k := 1) (n := 106) (Nat.le_of_ble_eq_true rfl) (Nat.le_of_ble_eq_true rfl) ?_
  have hP : va_P (dC, dI) vwCl [(a_m, .inr (6, [.null, .null, .int (0 : Int32), .int (0 : Int32), .null, .int (0 : Int32), .int (0 : Int32), .null, .null, .null, .int (0 : Int32), .int (0 : Int32), .int (0 : Int32), .null, .null])), (q2848, .inl (cI, 106, .inl (fun _ => 0)))] H := hP
  have hD : va_D A [(a_m, .inr (6, [.null, .null, .int (0 : Int32), .int (0 : Int32), .null, .int (0 : Int32), .int (0 : Int32), .null, .null, .null, .int (0 : Int32), .int (0 : Int32), .int (0 : Int32), .null, .null])), (q2848, .inl (cI, 106, .inl (fun _ => 0)))] := hD
  refine va_putF (D := (dC, dI)) (ci := 6) (v := .ref q2848) (ty := (tyX6 0)) (C := RX6) (T := TX6) (N := 15) hx hb hts in_X6 tyX6 tyX6_ok nmX6 hown hK hP hD hS 0 rfl rfl 0 (by decide) f_7 (fun _ h9 => h9) rfl hin rfl (by decide +kernel) rfl rfl (Nat.le_of_ble_eq_true rfl) dX6_init_9 (fun H locs hP hD hS => ?_)
  have hP : va_P (dC, dI) vwCl [(a_m, .inr (6, [.ref q2848, .null, .int (0 : Int32), .int (0 : Int32), .null, .int (0 : Int32), .int (0 : Int32), .null, .null, .null, .int (0 : Int32), .int (0 : Int32), .int (0 : Int32), .null, .null])), (q2848, .inl (cI, 106, .inl (fun _ => 0)))] H := hP
  have hD : va_D A [(a_m, .inr (6, [.ref q2848, .null, .int (0 : Int32), .int (0 : Int32), .null, .int (0 : Int32), .int (0 : Int32), .null, .null, .null, .int (0 : Int32), .int (0 : Int32), .int (0 : Int32), .null, .null])), (q2848, .inl (cI, 106, .inl (fun _ => 0)))] := hD
  refine lv_aload_n hx hb dX6_init_12 rfl (lv_at hl 0 rfl) ?_
  refine lv_sipush (v := (216 : Int32)) hx hb dX6_init_13 (by decide) ?_
  refine k_newa hx hb k_ai hK hP hD hS hA 0 rfl (N' := 216) (by decide) (by decide) (Nat.le_of_ble_eq_true rfl) (Nat.le_of_ble_eq_true rfl) (Nat.le_of_ble_eq_true rfl) dX6_init_16 (fun q2849 H hP hD hS => ?_)
  refine W.widen (k := 2) (n := 322) (Nat.le_of_ble_eq_true rfl) (Nat.le_of_ble_eq_true rfl) ?_
  have hP : va_P (dC, dI) vwCl [(a_m, .inr (6, [.ref q2848, .null, .int (0 : Int32), .int (0 : Int32), .null, .int (0 : Int32), .int (0 : Int32), .null, .null, .null, .int (0 : Int32), .int (0 : Int32), .int (0 : Int32), .null, .null])), (q2848, .inl (cI, 106, .inl (fun _ => 0))), (q2849, .inl (cI, 216, .inl (fun _ => 0)))] H := hP
  have hD : va_D A [(a_m, .inr (6, [.ref q2848, .null, .int (0 : Int32), .int (0 : Int32), .null, .int (0 : Int32), .int (0 : Int32), .null, .null, .null, .int (0 : Int32), .int (0 : Int32), .int (0 : Int32), .null, .null])), (q2848, .inl (cI, 106, .inl (fun _ => 0))), (q2849, .inl (cI, 216, .inl (fun _ => 0)))] := hD
  refine va_putF (D := (dC, dI)) (ci := 6) (v := .ref q2849) (ty := (tyX6 1)) (C := RX6) (T := TX6) (N := 15) hx hb hts in_X6 tyX6 tyX6_ok nmX6 hown hK hP hD hS 0 rfl rfl 1 (by decide) f_13 (fun _ h9 => h9) rfl hin rfl (by decide +kernel) rfl rfl (Nat.le_of_ble_eq_true rfl) dX6_init_18 (fun H locs hP hD hS => ?_)
  have hP : va_P (dC, dI) vwCl [(a_m, .inr (6, [.ref q2848, .ref q2849, .int (0 : Int32), .int (0 : Int32), .null, .int (0 : Int32), .int (0 : Int32), .null, .null, .null, .int (0 : Int32), .int (0 : Int32), .int (0 : Int32), .null, .null])), (q2848, .inl (cI, 106, .inl (fun _ => 0))), (q2849, .inl (cI, 216, .inl (fun _ => 0)))] H := hP
  have hD : va_D A [(a_m, .inr (6, [.ref q2848, .ref q2849, .int (0 : Int32), .int (0 : Int32), .null, .int (0 : Int32), .int (0 : Int32), .null, .null, .null, .int (0 : Int32), .int (0 : Int32), .int (0 : Int32), .null, .null])), (q2848, .inl (cI, 106, .inl (fun _ => 0))), (q2849, .inl (cI, 216, .inl (fun _ => 0)))] := hD
  refine lv_aload_n hx hb dX6_init_21 rfl (lv_at hl 0 rfl) ?_
  refine lv_sipush (v := (200 : Int32)) hx hb dX6_init_22 (by decide) ?_
  refine k_newa hx hb k_ai hK hP hD hS hA 0 rfl (N' := 200) (by decide) (by decide) (Nat.le_of_ble_eq_true rfl) (Nat.le_of_ble_eq_true rfl) (Nat.le_of_ble_eq_true rfl) dX6_init_25 (fun q2850 H hP hD hS => ?_)
  refine W.widen (k := 3) (n := 522) (Nat.le_of_ble_eq_true rfl) (Nat.le_of_ble_eq_true rfl) ?_
  have hP : va_P (dC, dI) vwCl [(a_m, .inr (6, [.ref q2848, .ref q2849, .int (0 : Int32), .int (0 : Int32), .null, .int (0 : Int32), .int (0 : Int32), .null, .null, .null, .int (0 : Int32), .int (0 : Int32), .int (0 : Int32), .null, .null])), (q2848, .inl (cI, 106, .inl (fun _ => 0))), (q2849, .inl (cI, 216, .inl (fun _ => 0))), (q2850, .inl (cI, 200, .inl (fun _ => 0)))] H := hP
  have hD : va_D A [(a_m, .inr (6, [.ref q2848, .ref q2849, .int (0 : Int32), .int (0 : Int32), .null, .int (0 : Int32), .int (0 : Int32), .null, .null, .null, .int (0 : Int32), .int (0 : Int32), .int (0 : Int32), .null, .null])), (q2848, .inl (cI, 106, .inl (fun _ => 0))), (q2849, .inl (cI, 216, .inl (fun _ => 0))), (q2850, .inl (cI, 200, .inl (fun _ => 0)))] := hD
  refine va_putF (D := (dC, dI)) (ci := 6) (v := .ref q2850) (ty := (tyX6 4)) (C := RX6) (T := TX6) (N := 15) hx hb hts in_X6 tyX6 tyX6_ok nmX6 hown hK hP hD hS 0 rfl rfl 4 (by decide) f_16 (fun _ h9 => h9) rfl hin rfl (by decide +kernel) rfl rfl (Nat.le_of_ble_eq_true rfl) dX6_init_27 (fun H locs hP hD hS => ?_)
  have hP : va_P (dC, dI) vwCl [(a_m, .inr (6, [.ref q2848, .ref q2849, .int (0 : Int32), .int (0 : Int32), .ref q2850, .int (0 : Int32), .int (0 : Int32), .null, .null, .null, .int (0 : Int32), .int (0 : Int32), .int (0 : Int32), .null, .null])), (q2848, .inl (cI, 106, .inl (fun _ => 0))), (q2849, .inl (cI, 216, .inl (fun _ => 0))), (q2850, .inl (cI, 200, .inl (fun _ => 0)))] H := hP
  have hD : va_D A [(a_m, .inr (6, [.ref q2848, .ref q2849, .int (0 : Int32), .int (0 : Int32), .ref q2850, .int (0 : Int32), .int (0 : Int32), .null, .null, .null, .int (0 : Int32), .int (0 : Int32), .int (0 : Int32), .null, .null])), (q2848, .inl (cI, 106, .inl (fun _ => 0))), (q2849, .inl (cI, 216, .inl (fun _ => 0))), (q2850, .inl (cI, 200, .inl (fun _ => 0)))] := hD
  refine lv_aload_n hx hb dX6_init_30 rfl (lv_at hl 0 rfl) ?_
  refine lv_iconst (v := (4 : Int32)) hx hb dX6_init_31 (by decide) ?_
  refine k_newa hx hb k_ai hK hP hD hS hA 0 rfl (N' := 4) (by decide) (by decide) (Nat.le_of_ble_eq_true rfl) (Nat.le_of_ble_eq_true rfl) (Nat.le_of_ble_eq_true rfl) dX6_init_32 (fun q2851 H hP hD hS => ?_)
  refine W.widen (k := 4) (n := 526) (Nat.le_of_ble_eq_true rfl) (Nat.le_of_ble_eq_true rfl) ?_
  have hP : va_P (dC, dI) vwCl [(a_m, .inr (6, [.ref q2848, .ref q2849, .int (0 : Int32), .int (0 : Int32), .ref q2850, .int (0 : Int32), .int (0 : Int32), .null, .null, .null, .int (0 : Int32), .int (0 : Int32), .int (0 : Int32), .null, .null])), (q2848, .inl (cI, 106, .inl (fun _ => 0))), (q2849, .inl (cI, 216, .inl (fun _ => 0))), (q2850, .inl (cI, 200, .inl (fun _ => 0))), (q2851, .inl (cI, 4, .inl (fun _ => 0)))] H := hP
  have hD : va_D A [(a_m, .inr (6, [.ref q2848, .ref q2849, .int (0 : Int32), .int (0 : Int32), .ref q2850, .int (0 : Int32), .int (0 : Int32), .null, .null, .null, .int (0 : Int32), .int (0 : Int32), .int (0 : Int32), .null, .null])), (q2848, .inl (cI, 106, .inl (fun _ => 0))), (q2849, .inl (cI, 216, .inl (fun _ => 0))), (q2850, .inl (cI, 200, .inl (fun _ => 0))), (q2851, .inl (cI, 4, .inl (fun _ => 0)))] := hD
  refine va_putF (D := (dC, dI)) (ci := 6) (v := .ref q2851) (ty := (tyX6 7)) (C := RX6) (T := TX6) (N := 15) hx hb hts in_X6 tyX6 tyX6_ok nmX6 hown hK hP hD hS 0 rfl rfl 7 (by decide) f_19 (fun _ h9 => h9) rfl hin rfl (by decide +kernel) rfl rfl (Nat.le_of_ble_eq_true rfl) dX6_init_34 (fun H locs hP hD hS => ?_)
  have hP : va_P (dC, dI) vwCl [(a_m, .inr (6, [.ref q2848, .ref q2849, .int (0 : Int32), .int (0 : Int32), .ref q2850, .int (0 : Int32), .int (0 : Int32), .ref q2851, .null, .null, .int (0 : Int32), .int (0 : Int32), .int (0 : Int32), .null, .null])), (q2848, .inl (cI, 106, .inl (fun _ => 0))), (q2849, .inl (cI, 216, .inl (fun _ => 0))), (q2850, .inl (cI, 200, .inl (fun _ => 0))), (q2851, .inl (cI, 4, .inl (fun _ => 0)))] H := hP
  have hD : va_D A [(a_m, .inr (6, [.ref q2848, .ref q2849, .int (0 : Int32), .int (0 : Int32), .ref q2850, .int (0 : Int32), .int (0 : Int32), .ref q2851, .null, .null, .int (0 : Int32), .int (0 : Int32), .int (0 : Int32), .null, .null])), (q2848, .inl (cI, 106, .inl (fun _ => 0))), (q2849, .inl (cI, 216, .inl (fun _ => 0))), (q2850, .inl (cI, 200, .inl (fun _ => 0))), (q2851, .inl (cI, 4, .inl (fun _ => 0)))] := hD
  refine lv_aload_n hx hb dX6_init_37 rfl (lv_at hl 0 rfl) ?_
  refine lv_bipush (v := (8 : Int32)) hx hb dX6_init_38 (by decide) ?_
  refine k_newa hx hb k_ai hK hP hD hS hA 0 rfl (N' := 8) (by decide) (by decide) (Nat.le_of_ble_eq_true rfl) (Nat.le_of_ble_eq_true rfl) (Nat.le_of_ble_eq_true rfl) dX6_init_40 (fun q2852 H hP hD hS => ?_)
  refine W.widen (k := 5) (n := 534) (Nat.le_of_ble_eq_true rfl) (Nat.le_of_ble_eq_true rfl) ?_
  have hP : va_P (dC, dI) vwCl [(a_m, .inr (6, [.ref q2848, .ref q2849, .int (0 : Int32), .int (0 : Int32), .ref q2850, .int (0 : Int32), .int (0 : Int32), .ref q2851, .null, .null, .int (0 : Int32), .int (0 : Int32), .int (0 : Int32), .null, .null])), (q2848, .inl (cI, 106, .inl (fun _ => 0))), (q2849, .inl (cI, 216, .inl (fun _ => 0))), (q2850, .inl (cI, 200, .inl (fun _ => 0))), (q2851, .inl (cI, 4, .inl (fun _ => 0))), (q2852, .inl (cI, 8, .inl (fun _ => 0)))] H := hP
  have hD : va_D A [(a_m, .inr (6, [.ref q2848, .ref q2849, .int (0 : Int32), .int (0 : Int32), .ref q2850, .int (0 : Int32), .int (0 : Int32), .ref q2851, .null, .null, .int (0 : Int32), .int (0 : Int32), .int (0 : Int32), .null, .null])), (q2848, .inl (cI, 106, .inl (fun _ => 0))), (q2849, .inl (cI, 216, .inl (fun _ => 0))), (q2850, .inl (cI, 200, .inl (fun _ => 0))), (q2851, .inl (cI, 4, .inl (fun _ => 0))), (q2852, .inl (cI, 8, .inl (fun _ => 0)))] := hD
  refine va_putF (D := (dC, dI)) (ci := 6) (v := .ref q2852) (ty := (tyX6 8)) (C := RX6) (T := TX6) (N := 15) hx hb hts in_X6 tyX6 tyX6_ok nmX6 hown hK hP hD hS 0 rfl rfl 8 (by decide) f_22 (fun _ h9 => h9) rfl hin rfl (by decide +kernel) rfl rfl (Nat.le_of_ble_eq_true rfl) dX6_init_42 (fun H locs hP hD hS => ?_)
  have hP : va_P (dC, dI) vwCl [(a_m, .inr (6, [.ref q2848, .ref q2849, .int (0 : Int32), .int (0 : Int32), .ref q2850, .int (0 : Int32), .int (0 : Int32), .ref q2851, .ref q2852, .null, .int (0 : Int32), .int (0 : Int32), .int (0 : Int32), .null, .null])), (q2848, .inl (cI, 106, .inl (fun _ => 0))), (q2849, .inl (cI, 216, .inl (fun _ => 0))), (q2850, .inl (cI, 200, .inl (fun _ => 0))), (q2851, .inl (cI, 4, .inl (fun _ => 0))), (q2852, .inl (cI, 8, .inl (fun _ => 0)))] H := hP
  have hD : va_D A [(a_m, .inr (6, [.ref q2848, .ref q2849, .int (0 : Int32), .int (0 : Int32), .ref q2850, .int (0 : Int32), .int (0 : Int32), .ref q2851, .ref q2852, .null, .int (0 : Int32), .int (0 : Int32), .int (0 : Int32), .null, .null])), (q2848, .inl (cI, 106, .inl (fun _ => 0))), (q2849, .inl (cI, 216, .inl (fun _ => 0))), (q2850, .inl (cI, 200, .inl (fun _ => 0))), (q2851, .inl (cI, 4, .inl (fun _ => 0))), (q2852, .inl (cI, 8, .inl (fun _ => 0)))] := hD
  refine lv_aload_n hx hb dX6_init_45 rfl (lv_at hl 0 rfl) ?_
  refine lv_bipush (v := (8 : Int32)) hx hb dX6_init_46 (by decide) ?_
  refine k_newa hx hb k_ai hK hP hD hS hA 0 rfl (N' := 8) (by decide) (by decide) (Nat.le_of_ble_eq_true rfl) (Nat.le_of_ble_eq_true rfl) (Nat.le_of_ble_eq_true rfl) dX6_init_48 (fun q2853 H hP hD hS => ?_)
  refine W.widen (k := 6) (n := 542) (Nat.le_of_ble_eq_true rfl) (Nat.le_of_ble_eq_true rfl) ?_
  have hP : va_P (dC, dI) vwCl [(a_m, .inr (6, [.ref q2848, .ref q2849, .int (0 : Int32), .int (0 : Int32), .ref q2850, .int (0 : Int32), .int (0 : Int32), .ref q2851, .ref q2852, .null, .int (0 : Int32), .int (0 : Int32), .int (0 : Int32), .null, .null])), (q2848, .inl (cI, 106, .inl (fun _ => 0))), (q2849, .inl (cI, 216, .inl (fun _ => 0))), (q2850, .inl (cI, 200, .inl (fun _ => 0))), (q2851, .inl (cI, 4, .inl (fun _ => 0))), (q2852, .inl (cI, 8, .inl (fun _ => 0))), (q2853, .inl (cI, 8, .inl (fun _ => 0)))] H := hP
  have hD : va_D A [(a_m, .inr (6, [.ref q2848, .ref q2849, .int (0 : Int32), .int (0 : Int32), .ref q2850, .int (0 : Int32), .int (0 : Int32), .ref q2851, .ref q2852, .null, .int (0 : Int32), .int (0 : Int32), .int (0 : Int32), .null, .null])), (q2848, .inl (cI, 106, .inl (fun _ => 0))), (q2849, .inl (cI, 216, .inl (fun _ => 0))), (q2850, .inl (cI, 200, .inl (fun _ => 0))), (q2851, .inl (cI, 4, .inl (fun _ => 0))), (q2852, .inl (cI, 8, .inl (fun _ => 0))), (q2853, .inl (cI, 8, .inl (fun _ => 0)))] := hD
  refine va_putF (D := (dC, dI)) (ci := 6) (v := .ref q2853) (ty := (tyX6 9)) (C := RX6) (T := TX6) (N := 15) hx hb hts in_X6 tyX6 tyX6_ok nmX6 hown hK hP hD hS 0 rfl rfl 9 (by decide) f_25 (fun _ h9 => h9) rfl hin rfl (by decide +kernel) rfl rfl (Nat.le_of_ble_eq_true rfl) dX6_init_50 (fun H locs hP hD hS => ?_)
  have hP : va_P (dC, dI) vwCl [(a_m, .inr (6, [.ref q2848, .ref q2849, .int (0 : Int32), .int (0 : Int32), .ref q2850, .int (0 : Int32), .int (0 : Int32), .ref q2851, .ref q2852, .ref q2853, .int (0 : Int32), .int (0 : Int32), .int (0 : Int32), .null, .null])), (q2848, .inl (cI, 106, .inl (fun _ => 0))), (q2849, .inl (cI, 216, .inl (fun _ => 0))), (q2850, .inl (cI, 200, .inl (fun _ => 0))), (q2851, .inl (cI, 4, .inl (fun _ => 0))), (q2852, .inl (cI, 8, .inl (fun _ => 0))), (q2853, .inl (cI, 8, .inl (fun _ => 0)))] H := hP
  have hD : va_D A [(a_m, .inr (6, [.ref q2848, .ref q2849, .int (0 : Int32), .int (0 : Int32), .ref q2850, .int (0 : Int32), .int (0 : Int32), .ref q2851, .ref q2852, .ref q2853, .int (0 : Int32), .int (0 : Int32), .int (0 : Int32), .null, .null])), (q2848, .inl (cI, 106, .inl (fun _ => 0))), (q2849, .inl (cI, 216, .inl (fun _ => 0))), (q2850, .inl (cI, 200, .inl (fun _ => 0))), (q2851, .inl (cI, 4, .inl (fun _ => 0))), (q2852, .inl (cI, 8, .inl (fun _ => 0))), (q2853, .inl (cI, 8, .inl (fun _ => 0)))] := hD
  refine lv_aload_n hx hb dX6_init_53 rfl (lv_at hl 0 rfl) ?_
  refine lv_bipush (v := (8 : Int32)) hx hb dX6_init_54 (by decide) ?_
  refine k_newa hx hb k_ai hK hP hD hS hA 0 rfl (N' := 8) (by decide) (by decide) (Nat.le_of_ble_eq_true rfl) (Nat.le_of_ble_eq_true rfl) (Nat.le_of_ble_eq_true rfl) dX6_init_56 (fun q2854 H hP hD hS => ?_)
  refine W.widen (k := 7) (n := 550) (Nat.le_of_ble_eq_true rfl) (Nat.le_of_ble_eq_true rfl) ?_
  have hP : va_P (dC, dI) vwCl [(a_m, .inr (6, [.ref q2848, .ref q2849, .int (0 : Int32), .int (0 : Int32), .ref q2850, .int (0 : Int32), .int (0 : Int32), .ref q2851, .ref q2852, .ref q2853, .int (0 : Int32), .int (0 : Int32), .int (0 : Int32), .null, .null])), (q2848, .inl (cI, 106, .inl (fun _ => 0))), (q2849, .inl (cI, 216, .inl (fun _ => 0))), (q2850, .inl (cI, 200, .inl (fun _ => 0))), (q2851, .inl (cI, 4, .inl (fun _ => 0))), (q2852, .inl (cI, 8, .inl (fun _ => 0))), (q2853, .inl (cI, 8, .inl (fun _ => 0))), (q2854, .inl (cI, 8, .inl (fun _ => 0)))] H := hP
  have hD : va_D A [(a_m, .inr (6, [.ref q2848, .ref q2849, .int (0 : Int32), .int (0 : Int32), .ref q2850, .int (0 : Int32), .int (0 : Int32), .ref q2851, .ref q2852, .ref q2853, .int (0 : Int32), .int (0 : Int32), .int (0 : Int32), .null, .null])), (q2848, .inl (cI, 106, .inl (fun _ => 0))), (q2849, .inl (cI, 216, .inl (fun _ => 0))), (q2850, .inl (cI, 200, .inl (fun _ => 0))), (q2851, .inl (cI, 4, .inl (fun _ => 0))), (q2852, .inl (cI, 8, .inl (fun _ => 0))), (q2853, .inl (cI, 8, .inl (fun _ => 0))), (q2854, .inl (cI, 8, .inl (fun _ => 0)))] := hD
  refine va_putF (D := (dC, dI)) (ci := 6) (v := .ref q2854) (ty := (tyX6 13)) (C := RX6) (T := TX6) (N := 15) hx hb hts in_X6 tyX6 tyX6_ok nmX6 hown hK hP hD hS 0 rfl rfl 13 (by decide) f_28 (fun _ h9 => h9) rfl hin rfl (by decide +kernel) rfl rfl (Nat.le_of_ble_eq_true rfl) dX6_init_58 (fun H locs hP hD hS => ?_)
  have hP : va_P (dC, dI) vwCl [(a_m, .inr (6, [.ref q2848, .ref q2849, .int (0 : Int32), .int (0 : Int32), .ref q2850, .int (0 : Int32), .int (0 : Int32), .ref q2851, .ref q2852, .ref q2853, .int (0 : Int32), .int (0 : Int32), .int (0 : Int32), .ref q2854, .null])), (q2848, .inl (cI, 106, .inl (fun _ => 0))), (q2849, .inl (cI, 216, .inl (fun _ => 0))), (q2850, .inl (cI, 200, .inl (fun _ => 0))), (q2851, .inl (cI, 4, .inl (fun _ => 0))), (q2852, .inl (cI, 8, .inl (fun _ => 0))), (q2853, .inl (cI, 8, .inl (fun _ => 0))), (q2854, .inl (cI, 8, .inl (fun _ => 0)))] H := hP
  have hD : va_D A [(a_m, .inr (6, [.ref q2848, .ref q2849, .int (0 : Int32), .int (0 : Int32), .ref q2850, .int (0 : Int32), .int (0 : Int32), .ref q2851, .ref q2852, .ref q2853, .int (0 : Int32), .int (0 : Int32), .int (0 : Int32), .ref q2854, .null])), (q2848, .inl (cI, 106, .inl (fun _ => 0))), (q2849, .inl (cI, 216, .inl (fun _ => 0))), (q2850, .inl (cI, 200, .inl (fun _ => 0))), (q2851, .inl (cI, 4, .inl (fun _ => 0))), (q2852, .inl (cI, 8, .inl (fun _ => 0))), (q2853, .inl (cI, 8, .inl (fun _ => 0))), (q2854, .inl (cI, 8, .inl (fun _ => 0)))] := hD
  refine lv_aload_n hx hb dX6_init_61 rfl (lv_at hl 0 rfl) ?_
  refine lv_bipush (v := (8 : Int32)) hx hb dX6_init_62 (by decide) ?_
  refine k_newa hx hb k_ai hK hP hD hS hA 0 rfl (N' := 8) (by decide) (by decide) (Nat.le_of_ble_eq_true rfl) (Nat.le_of_ble_eq_true rfl) (Nat.le_of_ble_eq_true rfl) dX6_init_64 (fun q2855 H hP hD hS => ?_)
  refine W.widen (k := 8) (n := 558) (Nat.le_of_ble_eq_true rfl) (Nat.le_of_ble_eq_true rfl) ?_
  have hP : va_P (dC, dI) vwCl [(a_m, .inr (6, [.ref q2848, .ref q2849, .int (0 : Int32), .int (0 : Int32), .ref q2850, .int (0 : Int32), .int (0 : Int32), .ref q2851, .ref q2852, .ref q2853, .int (0 : Int32), .int (0 : Int32), .int (0 : Int32), .ref q2854, .null])), (q2848, .inl (cI, 106, .inl (fun _ => 0))), (q2849, .inl (cI, 216, .inl (fun _ => 0))), (q2850, .inl (cI, 200, .inl (fun _ => 0))), (q2851, .inl (cI, 4, .inl (fun _ => 0))), (q2852, .inl (cI, 8, .inl (fun _ => 0))), (q2853, .inl (cI, 8, .inl (fun _ => 0))), (q2854, .inl (cI, 8, .inl (fun _ => 0))), (q2855, .inl (cI, 8, .inl (fun _ => 0)))] H := hP
  have hD : va_D A [(a_m, .inr (6, [.ref q2848, .ref q2849, .int (0 : Int32), .int (0 : Int32), .ref q2850, .int (0 : Int32), .int (0 : Int32), .ref q2851, .ref q2852, .ref q2853, .int (0 : Int32), .int (0 : Int32), .int (0 : Int32), .ref q2854, .null])), (q2848, .inl (cI, 106, .inl (fun _ => 0))), (q2849, .inl (cI, 216, .inl (fun _ => 0))), (q2850, .inl (cI, 200, .inl (fun _ => 0))), (q2851, .inl (cI, 4, .inl (fun _ => 0))), (q2852, .inl (cI, 8, .inl (fun _ => 0))), (q2853, .inl (cI, 8, .inl (fun _ => 0))), (q2854, .inl (cI, 8, .inl (fun _ => 0))), (q2855, .inl (cI, 8, .inl (fun _ => 0)))] := hD
  refine va_putF (D := (dC, dI)) (ci := 6) (v := .ref q2855) (ty := (tyX6 14)) (C := RX6) (T := TX6) (N := 15) hx hb hts in_X6 tyX6 tyX6_ok nmX6 hown hK hP hD hS 0 rfl rfl 14 (by decide) f_31 (fun _ h9 => h9) rfl hin rfl (by decide +kernel) rfl rfl (Nat.le_of_ble_eq_true rfl) dX6_init_66 (fun H locs hP hD hS => ?_)
  have hP : va_P (dC, dI) vwCl [(a_m, .inr (6, [.ref q2848, .ref q2849, .int (0 : Int32), .int (0 : Int32), .ref q2850, .int (0 : Int32), .int (0 : Int32), .ref q2851, .ref q2852, .ref q2853, .int (0 : Int32), .int (0 : Int32), .int (0 : Int32), .ref q2854, .ref q2855])), (q2848, .inl (cI, 106, .inl (fun _ => 0))), (q2849, .inl (cI, 216, .inl (fun _ => 0))), (q2850, .inl (cI, 200, .inl (fun _ => 0))), (q2851, .inl (cI, 4, .inl (fun _ => 0))), (q2852, .inl (cI, 8, .inl (fun _ => 0))), (q2853, .inl (cI, 8, .inl (fun _ => 0))), (q2854, .inl (cI, 8, .inl (fun _ => 0))), (q2855, .inl (cI, 8, .inl (fun _ => 0)))] H := hP
  have hD : va_D A [(a_m, .inr (6, [.ref q2848, .ref q2849, .int (0 : Int32), .int (0 : Int32), .ref q2850, .int (0 : Int32), .int (0 : Int32), .ref q2851, .ref q2852, .ref q2853, .int (0 : Int32), .int (0 : Int32), .int (0 : Int32), .ref q2854, .ref q2855])), (q2848, .inl (cI, 106, .inl (fun _ => 0))), (q2849, .inl (cI, 216, .inl (fun _ => 0))), (q2850, .inl (cI, 200, .inl (fun _ => 0))), (q2851, .inl (cI, 4, .inl (fun _ => 0))), (q2852, .inl (cI, 8, .inl (fun _ => 0))), (q2853, .inl (cI, 8, .inl (fun _ => 0))), (q2854, .inl (cI, 8, .inl (fun _ => 0))), (q2855, .inl (cI, 8, .inl (fun _ => 0)))] := hD
  refine lv_aload_n hx hb dX6_init_69 rfl (lv_at hl 0 rfl) ?_
  obtain ⟨r2856, hr2856, h⟩ := ob h
  refine k_Vv (As := []) (rest := []) (wr := [(q2849, .inl (cI, 216, .inl (fun _ => 0))), (q2850, .inl (cI, 200, .inl (fun _ => 0))), (q2851, .inl (cI, 4, .inl (fun _ => 0))), (q2852, .inl (cI, 8, .inl (fun _ => 0))), (q2853, .inl (cI, 8, .inl (fun _ => 0))), (q2854, .inl (cI, 8, .inl (fun _ => 0))), (q2855, .inl (cI, 8, .inl (fun _ => 0)))]) (c_X6_begins l dC dI cI cS n _ a_m q2848 q2849 q2850 q2851 q2852 q2853 q2854 q2855 (fun _ => 0) (0 : Int32) (0 : Int32) (0 : Int32) (0 : Int32) (0 : Int32) (0 : Int32) (0 : Int32) r2856 hr2856) ⟨hx, hb, hml, hown, hts⟩ (cwV 0 hts gX6_init_X6_begins rfl rfl rfl (by decide +kernel) ⟨(Nat.le_of_ble_eq_true rfl), (Nat.le_of_ble_eq_true rfl)⟩) hN hK hP hD hS hA [0, 1] [2, 3, 4, 5, 6, 7, 8] rfl rfl (by decide) (by decide) (by decide) rfl rfl rfl hl.1 rfl (Nat.le_of_ble_eq_true rfl) dX6_init_70 ⟨(Nat.le_of_ble_eq_true rfl), (Nat.le_of_ble_eq_true rfl)⟩ (fun u2857 H locs _ hP hD hS => ?_)
  have hP : va_P (dC, dI) vwCl [(q2849, .inl (cI, 216, .inl (fun _ => 0))), (q2850, .inl (cI, 200, .inl (fun _ => 0))), (q2851, .inl (cI, 4, .inl (fun _ => 0))), (q2852, .inl (cI, 8, .inl (fun _ => 0))), (q2853, .inl (cI, 8, .inl (fun _ => 0))), (q2854, .inl (cI, 8, .inl (fun _ => 0))), (q2855, .inl (cI, 8, .inl (fun _ => 0))), (a_m, .inr (6, [.ref q2848, .ref q2849, .int (0 : Int32), .int (0 : Int32), .ref q2850, .int (0 : Int32), .int (0 : Int32), .ref q2851, .ref q2852, .ref q2853, .int (0 : Int32), .int (0 : Int32), .int (0 : Int32), .ref q2854, .ref q2855])), (q2848, .inl (cI, 106, .inl r2856))] H := hP
  have hD : va_D A [(q2849, .inl (cI, 216, .inl (fun _ => 0))), (q2850, .inl (cI, 200, .inl (fun _ => 0))), (q2851, .inl (cI, 4, .inl (fun _ => 0))), (q2852, .inl (cI, 8, .inl (fun _ => 0))), (q2853, .inl (cI, 8, .inl (fun _ => 0))), (q2854, .inl (cI, 8, .inl (fun _ => 0))), (q2855, .inl (cI, 8, .inl (fun _ => 0))), (a_m, .inr (6, [.ref q2848, .ref q2849, .int (0 : Int32), .int (0 : Int32), .ref q2850, .int (0 : Int32), .int (0 : Int32), .ref q2851, .ref q2852, .ref q2853, .int (0 : Int32), .int (0 : Int32), .int (0 : Int32), .ref q2854, .ref q2855])), (q2848, .inl (cI, 106, .inl r2856))] := hD
  refine lv_aload_n hx hb dX6_init_73 rfl (lv_at hl 0 rfl) ?_
  refine lv_iconst (v := (0 : Int32)) hx hb dX6_init_74 (by decide) ?_
  refine lv_iconst (v := (4 : Int32)) hx hb dX6_init_75 (by decide) ?_
  refine lv_bipush (v := (10 : Int32)) hx hb dX6_init_76 (by decide) ?_
  refine lv_bipush (v := (9 : Int32)) hx hb dX6_init_78 (by decide) ?_
  obtain ⟨r2858, hr2858, h⟩ := ob h
  refine k_Vi (As := [.int (0 : Int32), .int (4 : Int32), .int (10 : Int32), .int (9 : Int32)]) (rest := []) (wr := [(q2849, .inl (cI, 216, .inl (fun _ => 0))), (q2850, .inl (cI, 200, .inl (fun _ => 0))), (q2851, .inl (cI, 4, .inl (fun _ => 0))), (q2852, .inl (cI, 8, .inl (fun _ => 0))), (q2853, .inl (cI, 8, .inl (fun _ => 0))), (q2854, .inl (cI, 8, .inl (fun _ => 0))), (q2855, .inl (cI, 8, .inl (fun _ => 0)))]) (c_X6_adds l dC dI cI cS n _ a_m q2848 q2849 q2850 q2851 q2852 q2853 q2854 q2855 r2856 (0 : Int32) (0 : Int32) (0 : Int32) (0 : Int32) (0 : Int32) (0 : Int32) (0 : Int32) (0 : Int32) (4 : Int32) (10 : Int32) (9 : Int32) r2858 hr2858) (fun _ _ q => q) ⟨hx, hb, hml, hown, hts⟩ (cwV 4 hts gX6_init_X6_adds rfl rfl rfl (by decide +kernel) ⟨(Nat.le_of_ble_eq_true rfl), (Nat.le_of_ble_eq_true rfl)⟩) hN hK hP hD hS hA [7, 8] [0, 1, 2, 3, 4, 5, 6] rfl rfl (by decide) (by decide) (by decide) rfl rfl rfl hl.1 rfl (Nat.le_of_ble_eq_true rfl) dX6_init_80 ⟨(Nat.le_of_ble_eq_true rfl), (Nat.le_of_ble_eq_true rfl)⟩ (fun u2859 H locs _ hP hD hS => ?_)
  have hP : va_P (dC, dI) vwCl [(q2849, .inl (cI, 216, .inl (fun _ => 0))), (q2850, .inl (cI, 200, .inl (fun _ => 0))), (q2851, .inl (cI, 4, .inl (fun _ => 0))), (q2852, .inl (cI, 8, .inl (fun _ => 0))), (q2853, .inl (cI, 8, .inl (fun _ => 0))), (q2854, .inl (cI, 8, .inl (fun _ => 0))), (q2855, .inl (cI, 8, .inl (fun _ => 0))), (a_m, .inr (6, [.ref q2848, .ref q2849, .int (0 : Int32), .int (0 : Int32), .ref q2850, .int (0 : Int32), .int (0 : Int32), .ref q2851, .ref q2852, .ref q2853, .int (0 : Int32), .int (0 : Int32), .int (0 : Int32), .ref q2854, .ref q2855])), (q2848, .inl (cI, 106, .inl r2858.2))] H := hP
  have hD : va_D A [(q2849, .inl (cI, 216, .inl (fun _ => 0))), (q2850, .inl (cI, 200, .inl (fun _ => 0))), (q2851, .inl (cI, 4, .inl (fun _ => 0))), (q2852, .inl (cI, 8, .inl (fun _ => 0))), (q2853, .inl (cI, 8, .inl (fun _ => 0))), (q2854, .inl (cI, 8, .inl (fun _ => 0))), (q2855, .inl (cI, 8, .inl (fun _ => 0))), (a_m, .inr (6, [.ref q2848, .ref q2849, .int (0 : Int32), .int (0 : Int32), .ref q2850, .int (0 : Int32), .int (0 : Int32), .ref q2851, .ref q2852, .ref q2853, .int (0 : Int32), .int (0 : Int32), .int (0 : Int32), .ref q2854, .ref q2855])), (q2848, .inl (cI, 106, .inl r2858.2))] := hD
  refine lv_pop hx hb dX6_init_83 rfl ?_
  refine lv_aload_n hx hb dX6_init_84 rfl (lv_at hl 0 rfl) ?_
  refine lv_iconst (v := (0 : Int32)) hx hb dX6_init_85 (by decide) ?_
  refine lv_iconst (v := (4 : Int32)) hx hb dX6_init_86 (by decide) ?_
  refine lv_bipush (v := (10 : Int32)) hx hb dX6_init_87 (by decide) ?_
  refine lv_iconst (v := (0 : Int32)) hx hb dX6_init_89 (by decide) ?_
  obtain ⟨r2860, hr2860, h⟩ := ob h
  refine k_Vi (As := [.int (0 : Int32), .int (4 : Int32), .int (10 : Int32), .int (0 : Int32)]) (rest := []) (wr := [(q2849, .inl (cI, 216, .inl (fun _ => 0))), (q2850, .inl (cI, 200, .inl (fun _ => 0))), (q2851, .inl (cI, 4, .inl (fun _ => 0))), (q2852, .inl (cI, 8, .inl (fun _ => 0))), (q2853, .inl (cI, 8, .inl (fun _ => 0))), (q2854, .inl (cI, 8, .inl (fun _ => 0))), (q2855, .inl (cI, 8, .inl (fun _ => 0)))]) (c_X6_adds l dC dI cI cS n _ a_m q2848 q2849 q2850 q2851 q2852 q2853 q2854 q2855 r2858.2 (0 : Int32) (0 : Int32) (0 : Int32) (0 : Int32) (0 : Int32) (0 : Int32) (0 : Int32) (0 : Int32) (4 : Int32) (10 : Int32) (0 : Int32) r2860 hr2860) (fun _ _ q => q) ⟨hx, hb, hml, hown, hts⟩ (cwV 4 hts gX6_init_X6_adds rfl rfl rfl (by decide +kernel) ⟨(Nat.le_of_ble_eq_true rfl), (Nat.le_of_ble_eq_true rfl)⟩) hN hK hP hD hS hA [7, 8] [0, 1, 2, 3, 4, 5, 6] rfl rfl (by decide) (by decide) (by decide) rfl rfl rfl hl.1 rfl (Nat.le_of_ble_eq_true rfl) dX6_init_90 ⟨(Nat.le_of_ble_eq_true rfl), (Nat.le_of_ble_eq_true rfl)⟩ (fun u2861 H locs _ hP hD hS => ?_)
  have hP : va_P (dC, dI) vwCl [(q2849, .inl (cI, 216, .inl (fun _ => 0))), (q2850, .inl (cI, 200, .inl (fun _ => 0))), (q2851, .inl (cI, 4, .inl (fun _ => 0))), (q2852, .inl (cI, 8, .inl (fun _ => 0))), (q2853, .inl (cI, 8, .inl (fun _ => 0))), (q2854, .inl (cI, 8, .inl (fun _ => 0))), (q2855, .inl (cI, 8, .inl (fun _ => 0))), (a_m, .inr (6, [.ref q2848, .ref q2849, .int (0 : Int32), .int (0 : Int32), .ref q2850, .int (0 : Int32), .int (0 : Int32), .ref q2851, .ref q2852, .ref q2853, .int (0 : Int32), .int (0 : Int32), .int (0 : Int32), .ref q2854, .ref q2855])), (q2848, .inl (cI, 106, .inl r2860.2))] H := hP
  have hD : va_D A [(q2849, .inl (cI, 216, .inl (fun _ => 0))), (q2850, .inl (cI, 200, .inl (fun _ => 0))), (q2851, .inl (cI, 4, .inl (fun _ => 0))), (q2852, .inl (cI, 8, .inl (fun _ => 0))), (q2853, .inl (cI, 8, .inl (fun _ => 0))), (q2854, .inl (cI, 8, .inl (fun _ => 0))), (q2855, .inl (cI, 8, .inl (fun _ => 0))), (a_m, .inr (6, [.ref q2848, .ref q2849, .int (0 : Int32), .int (0 : Int32), .ref q2850, .int (0 : Int32), .int (0 : Int32), .ref q2851, .ref q2852, .ref q2853, .int (0 : Int32), .int (0 : Int32), .int (0 : Int32), .ref q2854, .ref q2855])), (q2848, .inl (cI, 106, .inl r2860.2))] := hD
  refine lv_pop hx hb dX6_init_93 rfl ?_
  refine lv_aload_n hx hb dX6_init_94 rfl (lv_at hl 0 rfl) ?_
  refine lv_iconst (v := (1 : Int32)) hx hb dX6_init_95 (by decide) ?_
  refine lv_iconst (v := (3 : Int32)) hx hb dX6_init_96 (by decide) ?_
  refine lv_iconst (v := (5 : Int32)) hx hb dX6_init_97 (by decide) ?_
  refine lv_bipush (v := (9 : Int32)) hx hb dX6_init_98 (by decide) ?_
  obtain ⟨r2862, hr2862, h⟩ := ob h
  refine k_Vi (As := [.int (1 : Int32), .int (3 : Int32), .int (5 : Int32), .int (9 : Int32)]) (rest := []) (wr := [(q2849, .inl (cI, 216, .inl (fun _ => 0))), (q2850, .inl (cI, 200, .inl (fun _ => 0))), (q2851, .inl (cI, 4, .inl (fun _ => 0))), (q2852, .inl (cI, 8, .inl (fun _ => 0))), (q2853, .inl (cI, 8, .inl (fun _ => 0))), (q2854, .inl (cI, 8, .inl (fun _ => 0))), (q2855, .inl (cI, 8, .inl (fun _ => 0)))]) (c_X6_adds l dC dI cI cS n _ a_m q2848 q2849 q2850 q2851 q2852 q2853 q2854 q2855 r2860.2 (0 : Int32) (0 : Int32) (0 : Int32) (0 : Int32) (0 : Int32) (0 : Int32) (0 : Int32) (1 : Int32) (3 : Int32) (5 : Int32) (9 : Int32) r2862 hr2862) (fun _ _ q => q) ⟨hx, hb, hml, hown, hts⟩ (cwV 4 hts gX6_init_X6_adds rfl rfl rfl (by decide +kernel) ⟨(Nat.le_of_ble_eq_true rfl), (Nat.le_of_ble_eq_true rfl)⟩) hN hK hP hD hS hA [7, 8] [0, 1, 2, 3, 4, 5, 6] rfl rfl (by decide) (by decide) (by decide) rfl rfl rfl hl.1 rfl (Nat.le_of_ble_eq_true rfl) dX6_init_100 ⟨(Nat.le_of_ble_eq_true rfl), (Nat.le_of_ble_eq_true rfl)⟩ (fun u2863 H locs _ hP hD hS => ?_)
  have hP : va_P (dC, dI) vwCl [(q2849, .inl (cI, 216, .inl (fun _ => 0))), (q2850, .inl (cI, 200, .inl (fun _ => 0))), (q2851, .inl (cI, 4, .inl (fun _ => 0))), (q2852, .inl (cI, 8, .inl (fun _ => 0))), (q2853, .inl (cI, 8, .inl (fun _ => 0))), (q2854, .inl (cI, 8, .inl (fun _ => 0))), (q2855, .inl (cI, 8, .inl (fun _ => 0))), (a_m, .inr (6, [.ref q2848, .ref q2849, .int (0 : Int32), .int (0 : Int32), .ref q2850, .int (0 : Int32), .int (0 : Int32), .ref q2851, .ref q2852, .ref q2853, .int (0 : Int32), .int (0 : Int32), .int (0 : Int32), .ref q2854, .ref q2855])), (q2848, .inl (cI, 106, .inl r2862.2))] H := hP
  have hD : va_D A [(q2849, .inl (cI, 216, .inl (fun _ => 0))), (q2850, .inl (cI, 200, .inl (fun _ => 0))), (q2851, .inl (cI, 4, .inl (fun _ => 0))), (q2852, .inl (cI, 8, .inl (fun _ => 0))), (q2853, .inl (cI, 8, .inl (fun _ => 0))), (q2854, .inl (cI, 8, .inl (fun _ => 0))), (q2855, .inl (cI, 8, .inl (fun _ => 0))), (a_m, .inr (6, [.ref q2848, .ref q2849, .int (0 : Int32), .int (0 : Int32), .ref q2850, .int (0 : Int32), .int (0 : Int32), .ref q2851, .ref q2852, .ref q2853, .int (0 : Int32), .int (0 : Int32), .int (0 : Int32), .ref q2854, .ref q2855])), (q2848, .inl (cI, 106, .inl r2862.2))] := hD
  refine lv_pop hx hb dX6_init_103 rfl ?_
  refine lv_aload_n hx hb dX6_init_104 rfl (lv_at hl 0 rfl) ?_
  refine lv_iconst (v := (2 : Int32)) hx hb dX6_init_105 (by decide) ?_
  refine lv_iconst (v := (3 : Int32)) hx hb dX6_init_106 (by decide) ?_
  refine lv_iconst (v := (1 : Int32)) hx hb dX6_init_107 (by decide) ?_
  refine lv_bipush (v := (9 : Int32)) hx hb dX6_init_108 (by decide) ?_
  obtain ⟨r2864, hr2864, h⟩ := ob h
  refine k_Vi (As := [.int (2 : Int32), .int (3 : Int32), .int (1 : Int32), .int (9 : Int32)]) (rest := []) (wr := [(q2849, .inl (cI, 216, .inl (fun _ => 0))), (q2850, .inl (cI, 200, .inl (fun _ => 0))), (q2851, .inl (cI, 4, .inl (fun _ => 0))), (q2852, .inl (cI, 8, .inl (fun _ => 0))), (q2853, .inl (cI, 8, .inl (fun _ => 0))), (q2854, .inl (cI, 8, .inl (fun _ => 0))), (q2855, .inl (cI, 8, .inl (fun _ => 0)))]) (c_X6_adds l dC dI cI cS n _ a_m q2848 q2849 q2850 q2851 q2852 q2853 q2854 q2855 r2862.2 (0 : Int32) (0 : Int32) (0 : Int32) (0 : Int32) (0 : Int32) (0 : Int32) (0 : Int32) (2 : Int32) (3 : Int32) (1 : Int32) (9 : Int32) r2864 hr2864) (fun _ _ q => q) ⟨hx, hb, hml, hown, hts⟩ (cwV 4 hts gX6_init_X6_adds rfl rfl rfl (by decide +kernel) ⟨(Nat.le_of_ble_eq_true rfl), (Nat.le_of_ble_eq_true rfl)⟩) hN hK hP hD hS hA [7, 8] [0, 1, 2, 3, 4, 5, 6] rfl rfl (by decide) (by decide) (by decide) rfl rfl rfl hl.1 rfl (Nat.le_of_ble_eq_true rfl) dX6_init_110 ⟨(Nat.le_of_ble_eq_true rfl), (Nat.le_of_ble_eq_true rfl)⟩ (fun u2865 H locs _ hP hD hS => ?_)
  have hP : va_P (dC, dI) vwCl [(q2849, .inl (cI, 216, .inl (fun _ => 0))), (q2850, .inl (cI, 200, .inl (fun _ => 0))), (q2851, .inl (cI, 4, .inl (fun _ => 0))), (q2852, .inl (cI, 8, .inl (fun _ => 0))), (q2853, .inl (cI, 8, .inl (fun _ => 0))), (q2854, .inl (cI, 8, .inl (fun _ => 0))), (q2855, .inl (cI, 8, .inl (fun _ => 0))), (a_m, .inr (6, [.ref q2848, .ref q2849, .int (0 : Int32), .int (0 : Int32), .ref q2850, .int (0 : Int32), .int (0 : Int32), .ref q2851, .ref q2852, .ref q2853, .int (0 : Int32), .int (0 : Int32), .int (0 : Int32), .ref q2854, .ref q2855])), (q2848, .inl (cI, 106, .inl r2864.2))] H := hP
  have hD : va_D A [(q2849, .inl (cI, 216, .inl (fun _ => 0))), (q2850, .inl (cI, 200, .inl (fun _ => 0))), (q2851, .inl (cI, 4, .inl (fun _ => 0))), (q2852, .inl (cI, 8, .inl (fun _ => 0))), (q2853, .inl (cI, 8, .inl (fun _ => 0))), (q2854, .inl (cI, 8, .inl (fun _ => 0))), (q2855, .inl (cI, 8, .inl (fun _ => 0))), (a_m, .inr (6, [.ref q2848, .ref q2849, .int (0 : Int32), .int (0 : Int32), .ref q2850, .int (0 : Int32), .int (0 : Int32), .ref q2851, .ref q2852, .ref q2853, .int (0 : Int32), .int (0 : Int32), .int (0 : Int32), .ref q2854, .ref q2855])), (q2848, .inl (cI, 106, .inl r2864.2))] := hD
  refine lv_pop hx hb dX6_init_113 rfl ?_
  refine lv_aload_n hx hb dX6_init_114 rfl (lv_at hl 0 rfl) ?_
  refine lv_iconst (v := (3 : Int32)) hx hb dX6_init_115 (by decide) ?_
  refine lv_iconst (v := (2 : Int32)) hx hb dX6_init_116 (by decide) ?_
  refine lv_bipush (v := (20 : Int32)) hx hb dX6_init_117 (by decide) ?_
  refine lv_iconst (v := (1 : Int32)) hx hb dX6_init_119 (by decide) ?_
  obtain ⟨r2866, hr2866, h⟩ := ob h
  refine k_Vi (As := [.int (3 : Int32), .int (2 : Int32), .int (20 : Int32), .int (1 : Int32)]) (rest := []) (wr := [(q2849, .inl (cI, 216, .inl (fun _ => 0))), (q2850, .inl (cI, 200, .inl (fun _ => 0))), (q2851, .inl (cI, 4, .inl (fun _ => 0))), (q2852, .inl (cI, 8, .inl (fun _ => 0))), (q2853, .inl (cI, 8, .inl (fun _ => 0))), (q2854, .inl (cI, 8, .inl (fun _ => 0))), (q2855, .inl (cI, 8, .inl (fun _ => 0)))]) (c_X6_adds l dC dI cI cS n _ a_m q2848 q2849 q2850 q2851 q2852 q2853 q2854 q2855 r2864.2 (0 : Int32) (0 : Int32) (0 : Int32) (0 : Int32) (0 : Int32) (0 : Int32) (0 : Int32) (3 : Int32) (2 : Int32) (20 : Int32) (1 : Int32) r2866 hr2866) (fun _ _ q => q) ⟨hx, hb, hml, hown, hts⟩ (cwV 4 hts gX6_init_X6_adds rfl rfl rfl (by decide +kernel) ⟨(Nat.le_of_ble_eq_true rfl), (Nat.le_of_ble_eq_true rfl)⟩) hN hK hP hD hS hA [7, 8] [0, 1, 2, 3, 4, 5, 6] rfl rfl (by decide) (by decide) (by decide) rfl rfl rfl hl.1 rfl (Nat.le_of_ble_eq_true rfl) dX6_init_120 ⟨(Nat.le_of_ble_eq_true rfl), (Nat.le_of_ble_eq_true rfl)⟩ (fun u2867 H locs _ hP hD hS => ?_)
  have hP : va_P (dC, dI) vwCl [(q2849, .inl (cI, 216, .inl (fun _ => 0))), (q2850, .inl (cI, 200, .inl (fun _ => 0))), (q2851, .inl (cI, 4, .inl (fun _ => 0))), (q2852, .inl (cI, 8, .inl (fun _ => 0))), (q2853, .inl (cI, 8, .inl (fun _ => 0))), (q2854, .inl (cI, 8, .inl (fun _ => 0))), (q2855, .inl (cI, 8, .inl (fun _ => 0))), (a_m, .inr (6, [.ref q2848, .ref q2849, .int (0 : Int32), .int (0 : Int32), .ref q2850, .int (0 : Int32), .int (0 : Int32), .ref q2851, .ref q2852, .ref q2853, .int (0 : Int32), .int (0 : Int32), .int (0 : Int32), .ref q2854, .ref q2855])), (q2848, .inl (cI, 106, .inl r2866.2))] H := hP
  have hD : va_D A [(q2849, .inl (cI, 216, .inl (fun _ => 0))), (q2850, .inl (cI, 200, .inl (fun _ => 0))), (q2851, .inl (cI, 4, .inl (fun _ => 0))), (q2852, .inl (cI, 8, .inl (fun _ => 0))), (q2853, .inl (cI, 8, .inl (fun _ => 0))), (q2854, .inl (cI, 8, .inl (fun _ => 0))), (q2855, .inl (cI, 8, .inl (fun _ => 0))), (a_m, .inr (6, [.ref q2848, .ref q2849, .int (0 : Int32), .int (0 : Int32), .ref q2850, .int (0 : Int32), .int (0 : Int32), .ref q2851, .ref q2852, .ref q2853, .int (0 : Int32), .int (0 : Int32), .int (0 : Int32), .ref q2854, .ref q2855])), (q2848, .inl (cI, 106, .inl r2866.2))] := hD
  refine lv_pop hx hb dX6_init_123 rfl ?_
  refine lv_aload_n hx hb dX6_init_124 rfl (lv_at hl 0 rfl) ?_
  refine va_get (D := (dC, dI)) (ci := 6) (v := .ref q2848) (C := RX6) (T := TX6) (N := 15) hx hb hts in_X6 hown hK hP 7 rfl rfl 0 (by decide) f_7 (fun _ h9 => h9) rfl dX6_init_125 ?_
  refine lv_bipush (v := (94 : Int32)) hx hb dX6_init_128 (by decide) ?_
  refine lv_bipush (v := (25 : Int32)) hx hb dX6_init_130 (by decide) ?_
  obtain ⟨g2868, hg2868, h⟩ := ob h
  refine k_st hx hb hK hP hD hS 8 0 rfl rfl hg2868 dX6_init_132 (ws' := [(q2849, .inl (cI, 216, .inl (fun _ => 0))), (q2850, .inl (cI, 200, .inl (fun _ => 0))), (q2851, .inl (cI, 4, .inl (fun _ => 0))), (q2852, .inl (cI, 8, .inl (fun _ => 0))), (q2853, .inl (cI, 8, .inl (fun _ => 0))), (q2854, .inl (cI, 8, .inl (fun _ => 0))), (q2855, .inl (cI, 8, .inl (fun _ => 0))), (a_m, .inr (6, [.ref q2848, .ref q2849, .int (0 : Int32), .int (0 : Int32), .ref q2850, .int (0 : Int32), .int (0 : Int32), .ref q2851, .ref q2852, .ref q2853, .int (0 : Int32), .int (0 : Int32), .int (0 : Int32), .ref q2854, .ref q2855])), (q2848, .inl (cI, 106, .inl g2868))]) rfl (fun H locs hP hD hS => ?_)
  refine lv_aload_n hx hb dX6_init_133 rfl (lv_at hl 0 rfl) ?_
  refine va_get (D := (dC, dI)) (ci := 6) (v := .ref q2848) (C := RX6) (T := TX6) (N := 15) hx hb hts in_X6 hown hK hP 7 rfl rfl 0 (by decide) f_7 (fun _ h9 => h9) rfl dX6_init_134 ?_
  refine lv_bipush (v := (97 : Int32)) hx hb dX6_init_137 (by decide) ?_
  refine lv_bipush (v := (22 : Int32)) hx hb dX6_init_139 (by decide) ?_
  obtain ⟨g2869, hg2869, h⟩ := ob h
  refine k_st hx hb hK hP hD hS 8 0 rfl rfl hg2869 dX6_init_141 (ws' := [(q2849, .inl (cI, 216, .inl (fun _ => 0))), (q2850, .inl (cI, 200, .inl (fun _ => 0))), (q2851, .inl (cI, 4, .inl (fun _ => 0))), (q2852, .inl (cI, 8, .inl (fun _ => 0))), (q2853, .inl (cI, 8, .inl (fun _ => 0))), (q2854, .inl (cI, 8, .inl (fun _ => 0))), (q2855, .inl (cI, 8, .inl (fun _ => 0))), (a_m, .inr (6, [.ref q2848, .ref q2849, .int (0 : Int32), .int (0 : Int32), .ref q2850, .int (0 : Int32), .int (0 : Int32), .ref q2851, .ref q2852, .ref q2853, .int (0 : Int32), .int (0 : Int32), .int (0 : Int32), .ref q2854, .ref q2855])), (q2848, .inl (cI, 106, .inl g2869))]) rfl (fun H locs hP hD hS => ?_)
  refine lv_aload_n hx hb dX6_init_142 rfl (lv_at hl 0 rfl) ?_
  refine va_get (D := (dC, dI)) (ci := 6) (v := .ref q2848) (C := RX6) (T := TX6) (N := 15) hx hb hts in_X6 hown hK hP 7 rfl rfl 0 (by decide) f_7 (fun _ h9 => h9) rfl dX6_init_143 ?_
  refine lv_bipush (v := (87 : Int32)) hx hb dX6_init_146 (by decide) ?_
  refine lv_iconst (v := (1 : Int32)) hx hb dX6_init_148 (by decide) ?_
  obtain ⟨g2870, hg2870, h⟩ := ob h
  refine k_st hx hb hK hP hD hS 8 0 rfl rfl hg2870 dX6_init_149 (ws' := [(q2849, .inl (cI, 216, .inl (fun _ => 0))), (q2850, .inl (cI, 200, .inl (fun _ => 0))), (q2851, .inl (cI, 4, .inl (fun _ => 0))), (q2852, .inl (cI, 8, .inl (fun _ => 0))), (q2853, .inl (cI, 8, .inl (fun _ => 0))), (q2854, .inl (cI, 8, .inl (fun _ => 0))), (q2855, .inl (cI, 8, .inl (fun _ => 0))), (a_m, .inr (6, [.ref q2848, .ref q2849, .int (0 : Int32), .int (0 : Int32), .ref q2850, .int (0 : Int32), .int (0 : Int32), .ref q2851, .ref q2852, .ref q2853, .int (0 : Int32), .int (0 : Int32), .int (0 : Int32), .ref q2854, .ref q2855])), (q2848, .inl (cI, 106, .inl g2870))]) rfl (fun H locs hP hD hS => ?_)
  refine lv_aload_n hx hb dX6_init_150 rfl (lv_at hl 0 rfl) ?_
  refine va_get (D := (dC, dI)) (ci := 6) (v := .ref q2848) (C := RX6) (T := TX6) (N := 15) hx hb hts in_X6 hown hK hP 7 rfl rfl 0 (by decide) f_7 (fun _ h9 => h9) rfl dX6_init_151 ?_
  refine lv_bipush (v := (90 : Int32)) hx hb dX6_init_154 (by decide) ?_
  refine lv_iconst (v := (2 : Int32)) hx hb dX6_init_156 (by decide) ?_
  obtain ⟨g2871, hg2871, h⟩ := ob h
  refine k_st hx hb hK hP hD hS 8 0 rfl rfl hg2871 dX6_init_157 (ws' := [(q2849, .inl (cI, 216, .inl (fun _ => 0))), (q2850, .inl (cI, 200, .inl (fun _ => 0))), (q2851, .inl (cI, 4, .inl (fun _ => 0))), (q2852, .inl (cI, 8, .inl (fun _ => 0))), (q2853, .inl (cI, 8, .inl (fun _ => 0))), (q2854, .inl (cI, 8, .inl (fun _ => 0))), (q2855, .inl (cI, 8, .inl (fun _ => 0))), (a_m, .inr (6, [.ref q2848, .ref q2849, .int (0 : Int32), .int (0 : Int32), .ref q2850, .int (0 : Int32), .int (0 : Int32), .ref q2851, .ref q2852, .ref q2853, .int (0 : Int32), .int (0 : Int32), .int (0 : Int32), .ref q2854, .ref q2855])), (q2848, .inl (cI, 106, .inl g2871))]) rfl (fun H locs hP hD hS => ?_)
  refine lv_aload_n hx hb dX6_init_158 rfl (lv_at hl 0 rfl) ?_
  refine va_get (D := (dC, dI)) (ci := 6) (v := .ref q2848) (C := RX6) (T := TX6) (N := 15) hx hb hts in_X6 hown hK hP 7 rfl rfl 0 (by decide) f_7 (fun _ h9 => h9) rfl dX6_init_159 ?_
  refine lv_bipush (v := (103 : Int32)) hx hb dX6_init_162 (by decide) ?_
  refine lv_iconst (v := (1 : Int32)) hx hb dX6_init_164 (by decide) ?_
  obtain ⟨g2872, hg2872, h⟩ := ob h
  refine k_st hx hb hK hP hD hS 8 0 rfl rfl hg2872 dX6_init_165 (ws' := [(q2849, .inl (cI, 216, .inl (fun _ => 0))), (q2850, .inl (cI, 200, .inl (fun _ => 0))), (q2851, .inl (cI, 4, .inl (fun _ => 0))), (q2852, .inl (cI, 8, .inl (fun _ => 0))), (q2853, .inl (cI, 8, .inl (fun _ => 0))), (q2854, .inl (cI, 8, .inl (fun _ => 0))), (q2855, .inl (cI, 8, .inl (fun _ => 0))), (a_m, .inr (6, [.ref q2848, .ref q2849, .int (0 : Int32), .int (0 : Int32), .ref q2850, .int (0 : Int32), .int (0 : Int32), .ref q2851, .ref q2852, .ref q2853, .int (0 : Int32), .int (0 : Int32), .int (0 : Int32), .ref q2854, .ref q2855])), (q2848, .inl (cI, 106, .inl g2872))]) rfl (fun H locs hP hD hS => ?_)
  refine lv_aload_n hx hb dX6_init_166 rfl (lv_at hl 0 rfl) ?_
  obtain ⟨r2873, hr2873, h⟩ := ob h
  refine k_Vv (As := []) (rest := []) (wr := [(q2850, .inl (cI, 200, .inl (fun _ => 0))), (q2851, .inl (cI, 4, .inl (fun _ => 0))), (q2852, .inl (cI, 8, .inl (fun _ => 0))), (q2853, .inl (cI, 8, .inl (fun _ => 0))), (q2854, .inl (cI, 8, .inl (fun _ => 0))), (q2855, .inl (cI, 8, .inl (fun _ => 0)))]) (c_X6_comes l dC dI cI cS n _ a_m q2848 q2849 q2850 q2851 q2852 q2853 q2854 q2855 g2872 (fun _ => 0) (0 : Int32) (0 : Int32) (0 : Int32) (0 : Int32) (0 : Int32) (0 : Int32) (0 : Int32) r2873 hr2873) ⟨hx, hb, hml, hown, hts⟩ (cwV 0 hts gX6_init_X6_comes rfl rfl rfl (by decide +kernel) ⟨(Nat.le_of_ble_eq_true rfl), (Nat.le_of_ble_eq_true rfl)⟩) hN hK hP hD hS hA [7, 8, 0] [1, 2, 3, 4, 5, 6] rfl rfl (by decide) (by decide) (by decide) rfl rfl rfl hl.1 rfl (Nat.le_of_ble_eq_true rfl) dX6_init_167 ⟨(Nat.le_of_ble_eq_true rfl), (Nat.le_of_ble_eq_true rfl)⟩ (fun u2874 H locs _ hP hD hS => ?_)
  have hP : va_P (dC, dI) vwCl [(q2850, .inl (cI, 200, .inl (fun _ => 0))), (q2851, .inl (cI, 4, .inl (fun _ => 0))), (q2852, .inl (cI, 8, .inl (fun _ => 0))), (q2853, .inl (cI, 8, .inl (fun _ => 0))), (q2854, .inl (cI, 8, .inl (fun _ => 0))), (q2855, .inl (cI, 8, .inl (fun _ => 0))), (a_m, .inr (6, [.ref q2848, .ref q2849, .int r2873.1, .int r2873.2.1, .ref q2850, .int (0 : Int32), .int (0 : Int32), .ref q2851, .ref q2852, .ref q2853, .int (0 : Int32), .int (0 : Int32), .int r2873.2.2.1, .ref q2854, .ref q2855])), (q2848, .inl (cI, 106, .inl r2873.2.2.2.1)), (q2849, .inl (cI, 216, .inl r2873.2.2.2.2))] H := hP
  have hD : va_D A [(q2850, .inl (cI, 200, .inl (fun _ => 0))), (q2851, .inl (cI, 4, .inl (fun _ => 0))), (q2852, .inl (cI, 8, .inl (fun _ => 0))), (q2853, .inl (cI, 8, .inl (fun _ => 0))), (q2854, .inl (cI, 8, .inl (fun _ => 0))), (q2855, .inl (cI, 8, .inl (fun _ => 0))), (a_m, .inr (6, [.ref q2848, .ref q2849, .int r2873.1, .int r2873.2.1, .ref q2850, .int (0 : Int32), .int (0 : Int32), .ref q2851, .ref q2852, .ref q2853, .int (0 : Int32), .int (0 : Int32), .int r2873.2.2.1, .ref q2854, .ref q2855])), (q2848, .inl (cI, 106, .inl r2873.2.2.2.1)), (q2849, .inl (cI, 216, .inl r2873.2.2.2.2))] := hD
  obtain rfl := Option.some.inj h
  subst hQe
  refine W.widen (k := 8) (n := 558) (Nat.le_of_ble_eq_true rfl) (Nat.le_of_ble_eq_true rfl) ?_
  exact W.vret hx hb hr (fun t ht hW => ⟨⟨(q2848, q2849, q2850, q2851, q2852, q2853, q2854, q2855), rfl, trivial, ⟨by rw [ht]; exact hP.sub [6, 7, 8, 0, 1, 2, 3, 4, 5] rfl, hD.sub [6, 7, 8, 0, 1, 2, 3, 4, 5] (by decide +kernel) rfl⟩⟩, hS.F ht⟩) hS.2.2 dX6_init_170
def rm_X6_in : Room := { frames := 0, cells := 0, slots := 0, locals := 0 }
set_option maxRecDepth 100000 in
set_option maxHeartbeats 8000000 in
theorem c_X6_in (l : Launch) (dC : Nat → ClassId) (dI : Nat → Nat → Nat) (cI cS : ClassId) (n sz : Nat) (x0 : Int64) (x2 : Int64) (x4 : Int64) (res : Int32)  (h : F_X6_in n x0 x2 x4 = some res) : Met l yX6_in wsX6_in rm_X6_in (va_Pc [.long x0, .long x2, .long x4] (PRE (dC, dI) vwCl [(cI, .int), (cS, .object "RoundOfTheA$State")] sz [])) (va_Qi (fun (r : Int32) (_ : Unit) => r = res) (fun u t => POST (dC, dI) vwCl [] (va_A [] sz) t) (va_A [] sz)) 0 0 (va_A [] sz) := by
  refine Met.ofW (cc := cX6_in) (maxL := 6) (ret := (some .boolean)) (by decide) rfl ?_
  intro p e s m args below meth c s₁ B hml hv
  obtain ⟨rfl, hsz, hN, hP, hK, hD0⟩ := hv
  have hx := B.exec
  have hb := B.bytes
  have hr := B.returns
  have hts := atoms_spec (ws := wsX6_in) B.pre
  have hown : s.vm.findClass RX6 = some m.cls := findClass_of_methodNamed B.named
  have hlocks := B.notSynchronized
  subst hsz
  have hD := hD0.self (sz := s.heap.size)
  generalize hAe : va_A [] s.heap.size = A at hD ⊢
  have hA : ∀ q : Nat, s.heap.size ≤ q → A q := fun q h => by rw [← hAe]; exact Or.inr h
  have hS : va_S A s.heap s.heap [] := va_S.rf
  generalize hQe : MQ below _ _ s _ _ A = QQ
  have hl := lv_entry ([.long x0, .long x2, .long x4]) (n := 6) (Nat.le_of_ble_eq_true rfl)
  rw [lg_entry_eq]
  generalize (lg_sl ([.long x0, .long x2, .long x4]) ++ List.replicate (6 - (lg_sl ([.long x0, .long x2, .long x4])).length) Slot.unset).toArray = ls at hl ⊢
  have hl : lv_has ls 6 [(0, .long x0), (2, .long x2), (4, .long x4)] := hl
  rw [F_X6_in] at h
  refine lv_lload_n hx hb dX6_in_0 rfl (lv_at hl 0 rfl) ?_
  refine lv_lload_n hx hb dX6_in_1 rfl (lv_at hl 1 rfl) ?_
  refine W.lcmp hx hb dX6_in_2 ?_
  refine lv_if_lt (tgt := 17) hx hb dX6_in_3 (by decide) (fun c_3 => ?_) (fun c_3 => ?_)
  · have h := (if_pos c_3).symm.trans h
    refine lv_iconst (v := (0 : Int32)) hx hb dX6_in_17 (by decide) ?_
    obtain rfl := Option.some.inj h
    subst hQe
    exact W.zret (v := (0 : Int32)) (ty := .boolean) hx hb hr rfl (fun t ht hW => ⟨⟨(0 : Int32), (), rfl, rfl, ⟨by rw [ht]; exact hP, hD⟩⟩, hS.F ht⟩) hS.2.2 dX6_in_18
  · have h := (if_neg c_3).symm.trans h
    refine lv_lload_n hx hb dX6_in_6 rfl (lv_at hl 0 rfl) ?_
    refine lv_lload hx hb dX6_in_7 (lv_at hl 2 rfl) ?_
    refine W.lcmp hx hb dX6_in_9 ?_
    refine lv_if_gt (tgt := 17) hx hb dX6_in_10 (by decide) (fun c_10 => ?_) (fun c_10 => ?_)
    · have h := (if_pos c_10).symm.trans h
      refine lv_iconst (v := (0 : Int32)) hx hb dX6_in_17 (by decide) ?_
      obtain rfl := Option.some.inj h
      subst hQe
      exact W.zret (v := (0 : Int32)) (ty := .boolean) hx hb hr rfl (fun t ht hW => ⟨⟨(0 : Int32), (), rfl, rfl, ⟨by rw [ht]; exact hP, hD⟩⟩, hS.F ht⟩) hS.2.2 dX6_in_18
    · have h := (if_neg c_10).symm.trans h
      refine lv_iconst (v := (1 : Int32)) hx hb dX6_in_13 (by decide) ?_
      refine lv_goto (tgt := 18) hx hb dX6_in_14 (by decide) ?_
      obtain rfl := Option.some.inj h
      subst hQe
      exact W.zret (v := (1 : Int32)) (ty := .boolean) hx hb hr rfl (fun t ht hW => ⟨⟨(1 : Int32), (), rfl, rfl, ⟨by rw [ht]; exact hP, hD⟩⟩, hS.F ht⟩) hS.2.2 dX6_in_18
def rm_X6_has : Room := { frames := 0, cells := 0, slots := 0, locals := 0 }
set_option maxRecDepth 100000 in
set_option maxHeartbeats 8000000 in
theorem c_X6_has (l : Launch) (dC : Nat → ClassId) (dI : Nat → Nat → Nat) (cI cS : ClassId) (n sz : Nat) (x0 : Int32) (x1 : Int32) (res : Int32)  (h : F_X6_has n x0 x1 = some res) : Met l yX6_has wsX6_has rm_X6_has (va_Pc [.int x0, .int x1] (PRE (dC, dI) vwCl [(cI, .int), (cS, .object "RoundOfTheA$State")] sz [])) (va_Qi (fun (r : Int32) (_ : Unit) => r = res) (fun u t => POST (dC, dI) vwCl [] (va_A [] sz) t) (va_A [] sz)) 0 0 (va_A [] sz) := by
  refine Met.ofW (cc := cX6_has) (maxL := 2) (ret := (some .boolean)) (by decide) rfl ?_
  intro p e s m args below meth c s₁ B hml hv
  obtain ⟨rfl, hsz, hN, hP, hK, hD0⟩ := hv
  have hx := B.exec
  have hb := B.bytes
  have hr := B.returns
  have hts := atoms_spec (ws := wsX6_has) B.pre
  have hown : s.vm.findClass RX6 = some m.cls := findClass_of_methodNamed B.named
  have hlocks := B.notSynchronized
  subst hsz
  have hD := hD0.self (sz := s.heap.size)
  generalize hAe : va_A [] s.heap.size = A at hD ⊢
  have hA : ∀ q : Nat, s.heap.size ≤ q → A q := fun q h => by rw [← hAe]; exact Or.inr h
  have hS : va_S A s.heap s.heap [] := va_S.rf
  generalize hQe : MQ below _ _ s _ _ A = QQ
  have hl := lv_entry ([.int x0, .int x1]) (n := 2) (Nat.le_of_ble_eq_true rfl)
  rw [lg_entry_eq]
  generalize (lg_sl ([.int x0, .int x1]) ++ List.replicate (2 - (lg_sl ([.int x0, .int x1])).length) Slot.unset).toArray = ls at hl ⊢
  have hl : lv_has ls 2 [(0, .int x0), (1, .int x1)] := hl
  rw [F_X6_has] at h
  refine lv_iload_n hx hb dX6_has_0 rfl (lv_at hl 0 rfl) ?_
  refine lv_iload_n hx hb dX6_has_1 rfl (lv_at hl 1 rfl) ?_
  refine lv_ishr hx hb dX6_has_2 ?_
  refine lv_iconst (v := (1 : Int32)) hx hb dX6_has_3 (by decide) ?_
  refine lv_iand hx hb dX6_has_4 ?_
  refine lv_iconst (v := (1 : Int32)) hx hb dX6_has_5 (by decide) ?_
  refine lv_icmp_ne (tgt := 13) hx hb dX6_has_6 (by decide) (fun c_6 => ?_) (fun c_6 => ?_)
  · have h := (if_neg c_6).symm.trans h
    refine lv_iconst (v := (0 : Int32)) hx hb dX6_has_13 (by decide) ?_
    obtain rfl := Option.some.inj h
    subst hQe
    exact W.zret (v := (0 : Int32)) (ty := .boolean) hx hb hr rfl (fun t ht hW => ⟨⟨(0 : Int32), (), rfl, rfl, ⟨by rw [ht]; exact hP, hD⟩⟩, hS.F ht⟩) hS.2.2 dX6_has_14
  · have h := (if_pos c_6).symm.trans h
    refine lv_iconst (v := (1 : Int32)) hx hb dX6_has_9 (by decide) ?_
    refine lv_goto (tgt := 14) hx hb dX6_has_10 (by decide) ?_
    obtain rfl := Option.some.inj h
    subst hQe
    exact W.zret (v := (1 : Int32)) (ty := .boolean) hx hb hr rfl (fun t ht hW => ⟨⟨(1 : Int32), (), rfl, rfl, ⟨by rw [ht]; exact hP, hD⟩⟩, hS.F ht⟩) hS.2.2 dX6_has_14
def rm_X6_plain : Room := { frames := 0, cells := 0, slots := 0, locals := 0 }
set_option maxRecDepth 100000 in
set_option maxHeartbeats 8000000 in
theorem c_X6_plain (l : Launch) (dC : Nat → ClassId) (dI : Nat → Nat → Nat) (cI cS : ClassId) (n sz : Nat) (x0 : Int32) (res : Int32)  (h : F_X6_plain n x0 = some res) : Met l yX6_plain wsX6_plain rm_X6_plain (va_Pc [.int x0] (PRE (dC, dI) vwCl [(cI, .int), (cS, .object "RoundOfTheA$State")] sz [])) (va_Qi (fun (r : Int32) (_ : Unit) => r = res) (fun u t => POST (dC, dI) vwCl [] (va_A [] sz) t) (va_A [] sz)) 0 0 (va_A [] sz) := by
  refine Met.ofW (cc := cX6_plain) (maxL := 1) (ret := (some .int)) (by decide) rfl ?_
  intro p e s m args below meth c s₁ B hml hv
  obtain ⟨rfl, hsz, hN, hP, hK, hD0⟩ := hv
  have hx := B.exec
  have hb := B.bytes
  have hr := B.returns
  have hts := atoms_spec (ws := wsX6_plain) B.pre
  have hown : s.vm.findClass RX6 = some m.cls := findClass_of_methodNamed B.named
  have hlocks := B.notSynchronized
  subst hsz
  have hD := hD0.self (sz := s.heap.size)
  generalize hAe : va_A [] s.heap.size = A at hD ⊢
  have hA : ∀ q : Nat, s.heap.size ≤ q → A q := fun q h => by rw [← hAe]; exact Or.inr h
  have hS : va_S A s.heap s.heap [] := va_S.rf
  generalize hQe : MQ below _ _ s _ _ A = QQ
  have hl := lv_entry ([.int x0]) (n := 1) (Nat.le_of_ble_eq_true rfl)
  rw [lg_entry_eq]
  generalize (lg_sl ([.int x0]) ++ List.replicate (1 - (lg_sl ([.int x0])).length) Slot.unset).toArray = ls at hl ⊢
  have hl : lv_has ls 1 [(0, .int x0)] := hl
  rw [F_X6_plain] at h
  refine lv_iload_n hx hb dX6_plain_0 rfl (lv_at hl 0 rfl) ?_
  refine lv_if_ge (tgt := 9) hx hb dX6_plain_1 (by decide) (fun c_1 => ?_) (fun c_1 => ?_)
  · have h := (if_pos c_1).symm.trans h
    refine lv_iload_n hx hb dX6_plain_9 rfl (lv_at hl 0 rfl) ?_
    obtain rfl := Option.some.inj h
    subst hQe
    exact W.iret (v := x0) hx hb hr (fun t ht hW => ⟨⟨x0, (), rfl, rfl, ⟨by rw [ht]; exact hP, hD⟩⟩, hS.F ht⟩) hS.2.2 dX6_plain_10
  · have h := (if_neg c_1).symm.trans h
    refine lv_iload_n hx hb dX6_plain_4 rfl (lv_at hl 0 rfl) ?_
    refine lv_ineg hx hb dX6_plain_5 ?_
    refine lv_goto (tgt := 10) hx hb dX6_plain_6 (by decide) ?_
    obtain rfl := Option.some.inj h
    subst hQe
    exact W.iret (v := (-x0)) hx hb hr (fun t ht hW => ⟨⟨(-x0), (), rfl, rfl, ⟨by rw [ht]; exact hP, hD⟩⟩, hS.F ht⟩) hS.2.2 dX6_plain_10
def rm_X6_within : Room := { frames := 0, cells := 0, slots := 0, locals := 0 }
set_option maxRecDepth 100000 in
set_option maxHeartbeats 8000000 in
theorem c_X6_within (l : Launch) (dC : Nat → ClassId) (dI : Nat → Nat → Nat) (cI cS : ClassId) (n sz : Nat) (x0 : Int32) (res : Int32)  (h : F_X6_within n x0 = some res) : Met l yX6_within wsX6_within rm_X6_within (va_Pc [.int x0] (PRE (dC, dI) vwCl [(cI, .int), (cS, .object "RoundOfTheA$State")] sz [])) (va_Qi (fun (r : Int32) (_ : Unit) => r = res) (fun u t => POST (dC, dI) vwCl [] (va_A [] sz) t) (va_A [] sz)) 0 0 (va_A [] sz) := by
  refine Met.ofW (cc := cX6_within) (maxL := 1) (ret := (some .int)) (by decide) rfl ?_
  intro p e s m args below meth c s₁ B hml hv
  obtain ⟨rfl, hsz, hN, hP, hK, hD0⟩ := hv
  have hx := B.exec
  have hb := B.bytes
  have hr := B.returns
  have hts := atoms_spec (ws := wsX6_within) B.pre
  have hown : s.vm.findClass RX6 = some m.cls := findClass_of_methodNamed B.named
  have hlocks := B.notSynchronized
  subst hsz
  have hD := hD0.self (sz := s.heap.size)
  generalize hAe : va_A [] s.heap.size = A at hD ⊢
  have hA : ∀ q : Nat, s.heap.size ≤ q → A q := fun q h => by rw [← hAe]; exact Or.inr h
  have hS : va_S A s.heap s.heap [] := va_S.rf
  generalize hQe : MQ below _ _ s _ _ A = QQ
  have hl := lv_entry ([.int x0]) (n := 1) (Nat.le_of_ble_eq_true rfl)
  rw [lg_entry_eq]
  generalize (lg_sl ([.int x0]) ++ List.replicate (1 - (lg_sl ([.int x0])).length) Slot.unset).toArray = ls at hl ⊢
  have hl : lv_has ls 1 [(0, .int x0)] := hl
  rw [F_X6_within] at h
  refine lv_iload_n hx hb dX6_within_0 rfl (lv_at hl 0 rfl) ?_
  refine lv_sipush (v := (999 : Int32)) hx hb dX6_within_1 (by decide) ?_
  refine lv_icmp_le (tgt := 13) hx hb dX6_within_4 (by decide) (fun c_4 => ?_) (fun c_4 => ?_)
  · have h := (if_pos c_4).symm.trans h
    refine lv_iload_n hx hb dX6_within_13 rfl (lv_at hl 0 rfl) ?_
    refine lv_sipush (v := (-999 : Int32)) hx hb dX6_within_14 (by decide) ?_
    refine lv_icmp_ge (tgt := 26) hx hb dX6_within_17 (by decide) (fun c_17 => ?_) (fun c_17 => ?_)
    · have h := (if_pos c_17).symm.trans h
      refine lv_iload_n hx hb dX6_within_26 rfl (lv_at hl 0 rfl) ?_
      obtain rfl := Option.some.inj h
      subst hQe
      exact W.iret (v := x0) hx hb hr (fun t ht hW => ⟨⟨x0, (), rfl, rfl, ⟨by rw [ht]; exact hP, hD⟩⟩, hS.F ht⟩) hS.2.2 dX6_within_27
    · have h := (if_neg c_17).symm.trans h
      refine lv_sipush (v := (-999 : Int32)) hx hb dX6_within_20 (by decide) ?_
      refine lv_goto (tgt := 27) hx hb dX6_within_23 (by decide) ?_
      obtain rfl := Option.some.inj h
      subst hQe
      exact W.iret (v := (-999 : Int32)) hx hb hr (fun t ht hW => ⟨⟨(-999 : Int32), (), rfl, rfl, ⟨by rw [ht]; exact hP, hD⟩⟩, hS.F ht⟩) hS.2.2 dX6_within_27
  · have h := (if_neg c_4).symm.trans h
    refine lv_sipush (v := (999 : Int32)) hx hb dX6_within_7 (by decide) ?_
    refine lv_goto (tgt := 27) hx hb dX6_within_10 (by decide) ?_
    obtain rfl := Option.some.inj h
    subst hQe
    exact W.iret (v := (999 : Int32)) hx hb hr (fun t ht hW => ⟨⟨(999 : Int32), (), rfl, rfl, ⟨by rw [ht]; exact hP, hD⟩⟩, hS.F ht⟩) hS.2.2 dX6_within_27
def rm_X6_ones : Room := { frames := 0, cells := 0, slots := 0, locals := 0 }
set_option maxRecDepth 100000 in
set_option maxHeartbeats 8000000 in
theorem c_X6_ones (l : Launch) (dC : Nat → ClassId) (dI : Nat → Nat → Nat) (cI cS : ClassId) (n sz : Nat) (x0 : Int32) (res : Int32)  (h : F_X6_ones n x0 = some res) : Met l yX6_ones wsX6_ones rm_X6_ones (va_Pc [.int x0] (PRE (dC, dI) vwCl [(cI, .int), (cS, .object "RoundOfTheA$State")] sz [])) (va_Qi (fun (r : Int32) (_ : Unit) => r = res) (fun u t => POST (dC, dI) vwCl [] (va_A [] sz) t) (va_A [] sz)) 0 0 (va_A [] sz) := by
  refine Met.ofW (cc := cX6_ones) (maxL := 3) (ret := (some .int)) (by decide) rfl ?_
  intro p e s m args below meth c s₁ B hml hv
  obtain ⟨rfl, hsz, hN, hP, hK, hD0⟩ := hv
  have hx := B.exec
  have hb := B.bytes
  have hr := B.returns
  have hts := atoms_spec (ws := wsX6_ones) B.pre
  have hown : s.vm.findClass RX6 = some m.cls := findClass_of_methodNamed B.named
  have hlocks := B.notSynchronized
  subst hsz
  have hD := hD0.self (sz := s.heap.size)
  generalize hAe : va_A [] s.heap.size = A at hD ⊢
  have hA : ∀ q : Nat, s.heap.size ≤ q → A q := fun q h => by rw [← hAe]; exact Or.inr h
  have hS : va_S A s.heap s.heap [] := va_S.rf
  generalize hQe : MQ below _ _ s _ _ A = QQ
  have hl := lv_entry ([.int x0]) (n := 3) (Nat.le_of_ble_eq_true rfl)
  rw [lg_entry_eq]
  generalize (lg_sl ([.int x0]) ++ List.replicate (3 - (lg_sl ([.int x0])).length) Slot.unset).toArray = ls at hl ⊢
  have hl : lv_has ls 3 [(0, .int x0)] := hl
  rw [F_X6_ones] at h
  refine lv_iconst (v := (0 : Int32)) hx hb dX6_ones_0 (by decide) ?_
  refine lv_istore_n (lv' := [(1, .int (0 : Int32)), (0, .int x0)]) hx hb dX6_ones_1 rfl hl (by decide) rfl (fun ls hl => ?_)
  refine lv_iconst (v := (0 : Int32)) hx hb dX6_ones_2 (by decide) ?_
  refine lv_istore_n (lv' := [(2, .int (0 : Int32)), (1, .int (0 : Int32)), (0, .int x0)]) hx hb dX6_ones_3 rfl hl (by decide) rfl (fun ls hl => ?_)
  obtain ⟨j2880, hjj2880, h⟩ := ob h
  have Jj2880 : ∀ (H : Heap) (locs : List Loc), va_P (dC, dI) vwCl [] H → va_D A [] → va_S A s.heap H locs → ∀ ls : Array Slot, lv_has ls 3 [(0, .int x0), (1, .int j2880.1), (2, .int j2880.2)] → W p l e (headSpec wsX6_ones rm_X6_ones).room s m ([.int x0] : List Value).toArray below meth c H locs 0 0 QQ (F0 m 24 ls []) := by
    intro H locs hP hD hS ls hl
    refine lv_iload_n hx hb dX6_ones_24 rfl (lv_at hl 1 rfl) ?_
    obtain rfl := Option.some.inj h
    subst hQe
    exact W.iret (v := j2880.1) hx hb hr (fun t ht hW => ⟨⟨j2880.1, (), rfl, rfl, ⟨by rw [ht]; exact hP, hD⟩⟩, hS.F ht⟩) hS.2.2 dX6_ones_25
  have K4 : ∀ (k : Nat) (y1_4 : Int32) (y2_4 : Int32), L_X6_ones_4 x0 k y1_4 y2_4 = some j2880 → ∀ (H : Heap) (locs : List Loc), va_P (dC, dI) vwCl [] H → va_D A [] → va_S A s.heap H locs → ∀ ls : Array Slot, lv_has ls 3 [(0, .int x0), (1, .int y1_4), (2, .int y2_4)] → W p l e (headSpec wsX6_ones rm_X6_ones).room s m ([.int x0] : List Value).toArray below meth c H locs 0 0 QQ (F0 m 4 ls []) := by
    intro k
    induction k with
    | zero =>
      intro y1_4 y2_4 h
      rw [L_X6_ones_4] at h
      cases h
    | succ k ih =>
      intro y1_4 y2_4 h H locs hP hD hS ls hl
      rw [L_X6_ones_4] at h
      refine lv_iload_n hx hb dX6_ones_4 rfl (lv_at hl 2 rfl) ?_
      refine lv_bipush (v := (8 : Int32)) hx hb dX6_ones_5 (by decide) ?_
      refine lv_icmp_ge (tgt := 24) hx hb dX6_ones_7 (by decide) (fun c_7 => ?_) (fun c_7 => ?_)
      · have h := (if_pos c_7).symm.trans h
        obtain rfl := Option.some.inj h
        exact Jj2880 _ _ hP hD hS _ hl
      · have h := (if_neg c_7).symm.trans h
        refine lv_iload_n hx hb dX6_ones_10 rfl (lv_at hl 1 rfl) ?_
        refine lv_iload_n hx hb dX6_ones_11 rfl (lv_at hl 0 rfl) ?_
        refine lv_iload_n hx hb dX6_ones_12 rfl (lv_at hl 2 rfl) ?_
        refine lv_ishr hx hb dX6_ones_13 ?_
        refine lv_iconst (v := (1 : Int32)) hx hb dX6_ones_14 (by decide) ?_
        refine lv_iand hx hb dX6_ones_15 ?_
        refine lv_iadd hx hb dX6_ones_16 ?_
        refine lv_istore_n (lv' := [(1, .int (y1_4 + ((x0 >>> (y2_4 &&& 31)) &&& (1 : Int32)))), (0, .int x0), (2, .int y2_4)]) hx hb dX6_ones_17 rfl hl (by decide) rfl (fun ls hl => ?_)
        refine lv_iinc (v := (y2_4 + (1 : Int32))) (lv' := [(2, .int (y2_4 + (1 : Int32))), (1, .int (y1_4 + ((x0 >>> (y2_4 &&& 31)) &&& (1 : Int32)))), (0, .int x0)]) hx hb dX6_ones_18 hl (k := 2) rfl rfl (by decide) rfl (fun ls hl => ?_)
        refine lv_goto (tgt := 4) hx hb dX6_ones_21 (by decide) ?_
        exact ih _ _ h _ _ hP hD hS _ (lv_sub hl [2, 1, 0] rfl)
  exact K4 n (0 : Int32) (0 : Int32) hjj2880 _ _ hP hD hS _ (lv_sub hl [2, 1, 0] rfl)
def rm_X6_write : Room := { frames := 1, cells := 0, slots := 0, locals := 25 }
set_option maxRecDepth 100000 in
set_option maxHeartbeats 8000000 in
theorem c_X6_write (l : Launch) (dC : Nat → ClassId) (dI : Nat → Nat → Nat) (cI cS : ClassId) (n sz : Nat) (a_m : Nat) (a_m_w : Nat) (a_m_d : Nat) (a_m_text : Nat) (a_m_numbers : Nat) (a_m_then : Nat) (a_m_leans : Nat) (a_m_heardSet : Nat) (a_m_heardSum : Nat) (m_undoes : Int32) (m_kept : Int32) (m_text : Nat → Int32) (m_texted : Int32) (m_at : Int32) (m_draws : Int32) (m_drawn : Int32) (m_heards : Int32) (x1 : Int32) (res : Int32 × Int32 × (Nat → Int32))  (h : F_X6_write n m_text m_texted x1 = some res) : Met l yX6_write wsX6_write rm_X6_write (va_Pc [.ref a_m, .int x1] (PRE (dC, dI) vwCl [(cI, .int), (cS, .object "RoundOfTheA$State")] sz [(a_m, .inr (6, [.ref a_m_w, .ref a_m_d, .int m_undoes, .int m_kept, .ref a_m_text, .int m_texted, .int m_at, .ref a_m_numbers, .ref a_m_then, .ref a_m_leans, .int m_draws, .int m_drawn, .int m_heards, .ref a_m_heardSet, .ref a_m_heardSum])), (a_m_text, .inl (cI, 200, .inl m_text))])) (va_Qi (fun (r : Int32) (_ : Unit) => r = res.1) (fun u t => POST (dC, dI) vwCl [(a_m, .inr (6, [.ref a_m_w, .ref a_m_d, .int m_undoes, .int m_kept, .ref a_m_text, .int res.2.1, .int m_at, .ref a_m_numbers, .ref a_m_then, .ref a_m_leans, .int m_draws, .int m_drawn, .int m_heards, .ref a_m_heardSet, .ref a_m_heardSum])), (a_m_text, .inl (cI, 200, .inl res.2.2))] (va_A [(a_m, .inr (6, [.ref a_m_w, .ref a_m_d, .int m_undoes, .int m_kept, .ref a_m_text, .int m_texted, .int m_at, .ref a_m_numbers, .ref a_m_then, .ref a_m_leans, .int m_draws, .int m_drawn, .int m_heards, .ref a_m_heardSet, .ref a_m_heardSum])), (a_m_text, .inl (cI, 200, .inl m_text))] sz) t) (va_A [(a_m, .inr (6, [.ref a_m_w, .ref a_m_d, .int m_undoes, .int m_kept, .ref a_m_text, .int m_texted, .int m_at, .ref a_m_numbers, .ref a_m_then, .ref a_m_leans, .int m_draws, .int m_drawn, .int m_heards, .ref a_m_heardSet, .ref a_m_heardSum])), (a_m_text, .inl (cI, 200, .inl m_text))] sz)) 0 0 (va_A [(a_m, .inr (6, [.ref a_m_w, .ref a_m_d, .int m_undoes, .int m_kept, .ref a_m_text, .int m_texted, .int m_at, .ref a_m_numbers, .ref a_m_then, .ref a_m_leans, .int m_draws, .int m_drawn, .int m_heards, .ref a_m_heardSet, .ref a_m_heardSum])), (a_m_text, .inl (cI, 200, .inl m_text))] sz) := by
  refine Met.ofW (cc := cX6_write) (maxL := 2) (ret := (some .int)) (by decide) rfl ?_
  intro p e s m args below meth c s₁ B hml hv
  obtain ⟨rfl, hsz, hN, hP, hK, hD0⟩ := hv
  have hx := B.exec
  have hb := B.bytes
  have hr := B.returns
  have hts := atoms_spec (ws := wsX6_write) B.pre
  have hown : s.vm.findClass RX6 = some m.cls := findClass_of_methodNamed B.named
  have hlocks := B.notSynchronized
  subst hsz
  have hD := hD0.self (sz := s.heap.size)
  generalize hAe : va_A [(a_m, .inr (6, [.ref a_m_w, .ref a_m_d, .int m_undoes, .int m_kept, .ref a_m_text, .int m_texted, .int m_at, .ref a_m_numbers, .ref a_m_then, .ref a_m_leans, .int m_draws, .int m_drawn, .int m_heards, .ref a_m_heardSet, .ref a_m_heardSum])), (a_m_text, .inl (cI, 200, .inl m_text))] s.heap.size = A at hD ⊢
  have hA : ∀ q : Nat, s.heap.size ≤ q → A q := fun q h => by rw [← hAe]; exact Or.inr h
  have hS : va_S A s.heap s.heap [] := va_S.rf
  generalize hQe : MQ below _ _ s _ _ A = QQ
  have hl := lv_entry ([.ref a_m, .int x1]) (n := 2) (Nat.le_of_ble_eq_true rfl)
  rw [lg_entry_eq]
  generalize (lg_sl ([.ref a_m, .int x1]) ++ List.replicate (2 - (lg_sl ([.ref a_m, .int x1])).length) Slot.unset).toArray = ls at hl ⊢
  have hl : lv_has ls 2 [(0, .ref a_m), (1, .int x1)] := hl
  have k_54 := hts (.constantLong RX6 54 (32)) (by decide +kernel)
  have k_56 := hts (.constantLong RX6 56 (126)) (by decide +kernel)
  have f_62 := hts (.fieldLink RX6 62 "RoundOfTheAModel" "texted" "I") (by decide +kernel)
  have in_X6 := (by decide +kernel : ∀ w ∈ wsX60, w ∈ wsX6_write)
  have f_16 := hts (.fieldLink RX6 16 "RoundOfTheAModel" "text" "[I") (by decide +kernel)
  rw [F_X6_write] at h
  refine lv_iload_n hx hb dX6_write_0 rfl (lv_at hl 1 rfl) ?_
  refine lv_i2l (v := (Int32.toInt64 x1)) hx hb dX6_write_1 rfl ?_
  refine lv_ldc2 (v := (32 : Int64)) hx hb hown k_54 dX6_write_2 ?_
  refine lv_ldc2 (v := (126 : Int64)) hx hb hown k_56 dX6_write_5 ?_
  obtain ⟨r2884, hr2884, h⟩ := ob h
  refine k_Si (As := [.long (Int32.toInt64 x1), .long (32 : Int64), .long (126 : Int64)]) (rest := []) (c_X6_in l dC dI cI cS n _ (Int32.toInt64 x1) (32 : Int64) (126 : Int64) r2884 hr2884) (fun _ _ q => q) ⟨hx, hb, hml, hown, hts⟩ (va_cwS 3 hts gX6_write_X6_in rfl rfl rfl (by decide +kernel) ⟨(Nat.le_of_ble_eq_true rfl), (Nat.le_of_ble_eq_true rfl)⟩) hN hK hP hD hS hA rfl hl.1 rfl (Nat.le_of_ble_eq_true rfl) dX6_write_8 ⟨(Nat.le_of_ble_eq_true rfl), (Nat.le_of_ble_eq_true rfl)⟩ (fun H locs hP hD hS => ?_)
  refine lv_if_ne (tgt := 16) hx hb dX6_write_11 (by decide) (fun c_11 => ?_) (fun c_11 => ?_)
  · have h := (if_neg c_11).symm.trans h
    refine lv_aload_n hx hb dX6_write_16 rfl (lv_at hl 0 rfl) ?_
    refine va_get (D := (dC, dI)) (ci := 6) (v := .int m_texted) (C := RX6) (T := TX6) (N := 15) hx hb hts in_X6 hown hK hP 0 rfl rfl 5 (by decide) f_62 (fun _ h9 => h9) rfl dX6_write_17 ?_
    refine lv_sipush (v := (200 : Int32)) hx hb dX6_write_20 (by decide) ?_
    refine lv_icmp_ne (tgt := 29) hx hb dX6_write_23 (by decide) (fun c_23 => ?_) (fun c_23 => ?_)
    · have h := (if_neg c_23).symm.trans h
      refine lv_aload_n hx hb dX6_write_29 rfl (lv_at hl 0 rfl) ?_
      refine va_get (D := (dC, dI)) (ci := 6) (v := .ref a_m_text) (C := RX6) (T := TX6) (N := 15) hx hb hts in_X6 hown hK hP 0 rfl rfl 4 (by decide) f_16 (fun _ h9 => h9) rfl dX6_write_30 ?_
      refine lv_aload_n hx hb dX6_write_33 rfl (lv_at hl 0 rfl) ?_
      refine va_get (D := (dC, dI)) (ci := 6) (v := .int m_texted) (C := RX6) (T := TX6) (N := 15) hx hb hts in_X6 hown hK hP 0 rfl rfl 5 (by decide) f_62 (fun _ h9 => h9) rfl dX6_write_34 ?_
      refine lv_iload_n hx hb dX6_write_37 rfl (lv_at hl 1 rfl) ?_
      obtain ⟨g2886, hg2886, h⟩ := ob h
      refine k_st hx hb hK hP hD hS 1 0 rfl rfl hg2886 dX6_write_38 (ws' := [(a_m, .inr (6, [.ref a_m_w, .ref a_m_d, .int m_undoes, .int m_kept, .ref a_m_text, .int m_texted, .int m_at, .ref a_m_numbers, .ref a_m_then, .ref a_m_leans, .int m_draws, .int m_drawn, .int m_heards, .ref a_m_heardSet, .ref a_m_heardSum])), (a_m_text, .inl (cI, 200, .inl g2886))]) rfl (fun H locs hP hD hS => ?_)
      refine lv_aload_n hx hb dX6_write_39 rfl (lv_at hl 0 rfl) ?_
      refine lv_dup hx hb dX6_write_40 rfl ?_
      refine va_get (D := (dC, dI)) (ci := 6) (v := .int m_texted) (C := RX6) (T := TX6) (N := 15) hx hb hts in_X6 hown hK hP 0 rfl rfl 5 (by decide) f_62 (fun _ h9 => h9) rfl dX6_write_41 ?_
      refine lv_iconst (v := (1 : Int32)) hx hb dX6_write_44 (by decide) ?_
      refine lv_iadd hx hb dX6_write_45 ?_
      refine va_put (D := (dC, dI)) (ci := 6) (v := .int (m_texted + (1 : Int32))) (ty := .int) (C := RX6) (T := TX6) (N := 15) hx hb hts in_X6 tyX6 tyX6_ok nmX6 hown hK hP hD hS 0 rfl rfl 5 (by decide) f_62 (fun _ h9 => h9) rfl (by decide +kernel) rfl rfl (Nat.le_of_ble_eq_true rfl) dX6_write_46 (fun H locs hP hD hS => ?_)
      have hP : va_P (dC, dI) vwCl [(a_m, .inr (6, [.ref a_m_w, .ref a_m_d, .int m_undoes, .int m_kept, .ref a_m_text, .int (m_texted + (1 : Int32)), .int m_at, .ref a_m_numbers, .ref a_m_then, .ref a_m_leans, .int m_draws, .int m_drawn, .int m_heards, .ref a_m_heardSet, .ref a_m_heardSum])), (a_m_text, .inl (cI, 200, .inl g2886))] H := hP
      have hD : va_D A [(a_m, .inr (6, [.ref a_m_w, .ref a_m_d, .int m_undoes, .int m_kept, .ref a_m_text, .int (m_texted + (1 : Int32)), .int m_at, .ref a_m_numbers, .ref a_m_then, .ref a_m_leans, .int m_draws, .int m_drawn, .int m_heards, .ref a_m_heardSet, .ref a_m_heardSum])), (a_m_text, .inl (cI, 200, .inl g2886))] := hD
      refine lv_aload_n hx hb dX6_write_49 rfl (lv_at hl 0 rfl) ?_
      refine va_get (D := (dC, dI)) (ci := 6) (v := .int (m_texted + (1 : Int32))) (C := RX6) (T := TX6) (N := 15) hx hb hts in_X6 hown hK hP 0 rfl rfl 5 (by decide) f_62 (fun _ h9 => h9) rfl dX6_write_50 ?_
      obtain rfl := Option.some.inj h
      subst hQe
      exact W.iret (v := (m_texted + (1 : Int32))) hx hb hr (fun t ht hW => ⟨⟨(m_texted + (1 : Int32)), (), rfl, rfl, ⟨by rw [ht]; exact hP, hD⟩⟩, hS.F ht⟩) hS.2.2 dX6_write_53
    · have h := (if_pos c_23).symm.trans h
      refine lv_bipush (v := (-3 : Int32)) hx hb dX6_write_26 (by decide) ?_
      obtain rfl := Option.some.inj h
      subst hQe
      exact W.iret (v := (-3 : Int32)) hx hb hr (fun t ht hW => ⟨⟨(-3 : Int32), (), rfl, rfl, ⟨by rw [ht]; exact hP, hD⟩⟩, hS.F ht⟩) hS.2.2 dX6_write_28
  · have h := (if_pos c_11).symm.trans h
    refine lv_iconst (v := (-1 : Int32)) hx hb dX6_write_14 (by decide) ?_
    obtain rfl := Option.some.inj h
    subst hQe
    exact W.iret (v := (-1 : Int32)) hx hb hr (fun t ht hW => ⟨⟨(-1 : Int32), (), rfl, rfl, ⟨by rw [ht]; exact hP, hD⟩⟩, hS.F ht⟩) hS.2.2 dX6_write_15
def rm_X6_wipe : Room := { frames := 0, cells := 0, slots := 0, locals := 0 }
set_option maxRecDepth 100000 in
set_option maxHeartbeats 8000000 in
theorem c_X6_wipe (l : Launch) (dC : Nat → ClassId) (dI : Nat → Nat → Nat) (cI cS : ClassId) (n sz : Nat) (a_m : Nat) (a_m_w : Nat) (a_m_d : Nat) (a_m_text : Nat) (a_m_numbers : Nat) (a_m_then : Nat) (a_m_leans : Nat) (a_m_heardSet : Nat) (a_m_heardSum : Nat) (m_undoes : Int32) (m_kept : Int32) (m_texted : Int32) (m_at : Int32) (m_draws : Int32) (m_drawn : Int32) (m_heards : Int32) (res : Int32 × Int32)  (h : F_X6_wipe n m_texted = some res) : Met l yX6_wipe wsX6_wipe rm_X6_wipe (va_Pc [.ref a_m] (PRE (dC, dI) vwCl [(cI, .int), (cS, .object "RoundOfTheA$State")] sz [(a_m, .inr (6, [.ref a_m_w, .ref a_m_d, .int m_undoes, .int m_kept, .ref a_m_text, .int m_texted, .int m_at, .ref a_m_numbers, .ref a_m_then, .ref a_m_leans, .int m_draws, .int m_drawn, .int m_heards, .ref a_m_heardSet, .ref a_m_heardSum]))])) (va_Qi (fun (r : Int32) (_ : Unit) => r = res.1) (fun u t => POST (dC, dI) vwCl [(a_m, .inr (6, [.ref a_m_w, .ref a_m_d, .int m_undoes, .int m_kept, .ref a_m_text, .int res.2, .int m_at, .ref a_m_numbers, .ref a_m_then, .ref a_m_leans, .int m_draws, .int m_drawn, .int m_heards, .ref a_m_heardSet, .ref a_m_heardSum]))] (va_A [(a_m, .inr (6, [.ref a_m_w, .ref a_m_d, .int m_undoes, .int m_kept, .ref a_m_text, .int m_texted, .int m_at, .ref a_m_numbers, .ref a_m_then, .ref a_m_leans, .int m_draws, .int m_drawn, .int m_heards, .ref a_m_heardSet, .ref a_m_heardSum]))] sz) t) (va_A [(a_m, .inr (6, [.ref a_m_w, .ref a_m_d, .int m_undoes, .int m_kept, .ref a_m_text, .int m_texted, .int m_at, .ref a_m_numbers, .ref a_m_then, .ref a_m_leans, .int m_draws, .int m_drawn, .int m_heards, .ref a_m_heardSet, .ref a_m_heardSum]))] sz)) 0 0 (va_A [(a_m, .inr (6, [.ref a_m_w, .ref a_m_d, .int m_undoes, .int m_kept, .ref a_m_text, .int m_texted, .int m_at, .ref a_m_numbers, .ref a_m_then, .ref a_m_leans, .int m_draws, .int m_drawn, .int m_heards, .ref a_m_heardSet, .ref a_m_heardSum]))] sz) := by
  refine Met.ofW (cc := cX6_wipe) (maxL := 2) (ret := (some .int)) (by decide) rfl ?_
  intro p e s m args below meth c s₁ B hml hv
  obtain ⟨rfl, hsz, hN, hP, hK, hD0⟩ := hv
  have hx := B.exec
  have hb := B.bytes
  have hr := B.returns
  have hts := atoms_spec (ws := wsX6_wipe) B.pre
  have hown : s.vm.findClass RX6 = some m.cls := findClass_of_methodNamed B.named
  have hlocks := B.notSynchronized
  subst hsz
  have hD := hD0.self (sz := s.heap.size)
  generalize hAe : va_A [(a_m, .inr (6, [.ref a_m_w, .ref a_m_d, .int m_undoes, .int m_kept, .ref a_m_text, .int m_texted, .int m_at, .ref a_m_numbers, .ref a_m_then, .ref a_m_leans, .int m_draws, .int m_drawn, .int m_heards, .ref a_m_heardSet, .ref a_m_heardSum]))] s.heap.size = A at hD ⊢
  have hA : ∀ q : Nat, s.heap.size ≤ q → A q := fun q h => by rw [← hAe]; exact Or.inr h
  have hS : va_S A s.heap s.heap [] := va_S.rf
  generalize hQe : MQ below _ _ s _ _ A = QQ
  have hl := lv_entry ([.ref a_m]) (n := 2) (Nat.le_of_ble_eq_true rfl)
  rw [lg_entry_eq]
  generalize (lg_sl ([.ref a_m]) ++ List.replicate (2 - (lg_sl ([.ref a_m])).length) Slot.unset).toArray = ls at hl ⊢
  have hl : lv_has ls 2 [(0, .ref a_m)] := hl
  have f_62 := hts (.fieldLink RX6 62 "RoundOfTheAModel" "texted" "I") (by decide +kernel)
  have in_X6 := (by decide +kernel : ∀ w ∈ wsX60, w ∈ wsX6_wipe)
  rw [F_X6_wipe] at h
  refine lv_aload_n hx hb dX6_wipe_0 rfl (lv_at hl 0 rfl) ?_
  refine va_get (D := (dC, dI)) (ci := 6) (v := .int m_texted) (C := RX6) (T := TX6) (N := 15) hx hb hts in_X6 hown hK hP 0 rfl rfl 5 (by decide) f_62 (fun _ h9 => h9) rfl dX6_wipe_1 ?_
  refine lv_istore_n (lv' := [(1, .int m_texted), (0, .ref a_m)]) hx hb dX6_wipe_4 rfl hl (by decide) rfl (fun ls hl => ?_)
  refine lv_aload_n hx hb dX6_wipe_5 rfl (lv_at hl 1 rfl) ?_
  refine lv_iconst (v := (0 : Int32)) hx hb dX6_wipe_6 (by decide) ?_
  refine va_put (D := (dC, dI)) (ci := 6) (v := .int (0 : Int32)) (ty := .int) (C := RX6) (T := TX6) (N := 15) hx hb hts in_X6 tyX6 tyX6_ok nmX6 hown hK hP hD hS 0 rfl rfl 5 (by decide) f_62 (fun _ h9 => h9) rfl (by decide +kernel) rfl rfl (Nat.le_of_ble_eq_true rfl) dX6_wipe_7 (fun H locs hP hD hS => ?_)
  have hP : va_P (dC, dI) vwCl [(a_m, .inr (6, [.ref a_m_w, .ref a_m_d, .int m_undoes, .int m_kept, .ref a_m_text, .int (0 : Int32), .int m_at, .ref a_m_numbers, .ref a_m_then, .ref a_m_leans, .int m_draws, .int m_drawn, .int m_heards, .ref a_m_heardSet, .ref a_m_heardSum]))] H := hP
  have hD : va_D A [(a_m, .inr (6, [.ref a_m_w, .ref a_m_d, .int m_undoes, .int m_kept, .ref a_m_text, .int (0 : Int32), .int m_at, .ref a_m_numbers, .ref a_m_then, .ref a_m_leans, .int m_draws, .int m_drawn, .int m_heards, .ref a_m_heardSet, .ref a_m_heardSum]))] := hD
  refine lv_iload_n hx hb dX6_wipe_10 rfl (lv_at hl 0 rfl) ?_
  obtain rfl := Option.some.inj h
  subst hQe
  exact W.iret (v := m_texted) hx hb hr (fun t ht hW => ⟨⟨m_texted, (), rfl, rfl, ⟨by rw [ht]; exact hP, hD⟩⟩, hS.F ht⟩) hS.2.2 dX6_wipe_11
def rm_X6_letterAt : Room := { frames := 0, cells := 0, slots := 0, locals := 0 }
set_option maxRecDepth 100000 in
set_option maxHeartbeats 8000000 in
theorem c_X6_letterAt (l : Launch) (dC : Nat → ClassId) (dI : Nat → Nat → Nat) (cI cS : ClassId) (n sz : Nat) (a_m : Nat) (a_m_w : Nat) (a_m_d : Nat) (a_m_text : Nat) (a_m_numbers : Nat) (a_m_then : Nat) (a_m_leans : Nat) (a_m_heardSet : Nat) (a_m_heardSum : Nat) (m_undoes : Int32) (m_kept : Int32) (m_text : Nat → Int32) (m_texted : Int32) (m_at : Int32) (m_draws : Int32) (m_drawn : Int32) (m_heards : Int32) (x1 : Int32) (res : Int32)  (h : F_X6_letterAt n m_text m_texted x1 = some res) : Met l yX6_letterAt wsX6_letterAt rm_X6_letterAt (va_Pc [.ref a_m, .int x1] (PRE (dC, dI) vwCl [(cI, .int), (cS, .object "RoundOfTheA$State")] sz [(a_m, .inr (6, [.ref a_m_w, .ref a_m_d, .int m_undoes, .int m_kept, .ref a_m_text, .int m_texted, .int m_at, .ref a_m_numbers, .ref a_m_then, .ref a_m_leans, .int m_draws, .int m_drawn, .int m_heards, .ref a_m_heardSet, .ref a_m_heardSum])), (a_m_text, .inl (cI, 200, .inl m_text))])) (va_Qi (fun (r : Int32) (_ : Unit) => r = res) (fun u t => POST (dC, dI) vwCl [(a_m, .inr (6, [.ref a_m_w, .ref a_m_d, .int m_undoes, .int m_kept, .ref a_m_text, .int m_texted, .int m_at, .ref a_m_numbers, .ref a_m_then, .ref a_m_leans, .int m_draws, .int m_drawn, .int m_heards, .ref a_m_heardSet, .ref a_m_heardSum])), (a_m_text, .inl (cI, 200, .inl m_text))] (va_A [(a_m, .inr (6, [.ref a_m_w, .ref a_m_d, .int m_undoes, .int m_kept, .ref a_m_text, .int m_texted, .int m_at, .ref a_m_numbers, .ref a_m_then, .ref a_m_leans, .int m_draws, .int m_drawn, .int m_heards, .ref a_m_heardSet, .ref a_m_heardSum])), (a_m_text, .inl (cI, 200, .inl m_text))] sz) t) (va_A [(a_m, .inr (6, [.ref a_m_w, .ref a_m_d, .int m_undoes, .int m_kept, .ref a_m_text, .int m_texted, .int m_at, .ref a_m_numbers, .ref a_m_then, .ref a_m_leans, .int m_draws, .int m_drawn, .int m_heards, .ref a_m_heardSet, .ref a_m_heardSum])), (a_m_text, .inl (cI, 200, .inl m_text))] sz)) 0 0 (va_A [(a_m, .inr (6, [.ref a_m_w, .ref a_m_d, .int m_undoes, .int m_kept, .ref a_m_text, .int m_texted, .int m_at, .ref a_m_numbers, .ref a_m_then, .ref a_m_leans, .int m_draws, .int m_drawn, .int m_heards, .ref a_m_heardSet, .ref a_m_heardSum])), (a_m_text, .inl (cI, 200, .inl m_text))] sz) := by
  refine Met.ofW (cc := cX6_letterAt) (maxL := 2) (ret := (some .int)) (by decide) rfl ?_
  intro p e s m args below meth c s₁ B hml hv
  obtain ⟨rfl, hsz, hN, hP, hK, hD0⟩ := hv
  have hx := B.exec
  have hb := B.bytes
  have hr := B.returns
  have hts := atoms_spec (ws := wsX6_letterAt) B.pre
  have hown : s.vm.findClass RX6 = some m.cls := findClass_of_methodNamed B.named
  have hlocks := B.notSynchronized
  subst hsz
  have hD := hD0.self (sz := s.heap.size)
  generalize hAe : va_A [(a_m, .inr (6, [.ref a_m_w, .ref a_m_d, .int m_undoes, .int m_kept, .ref a_m_text, .int m_texted, .int m_at, .ref a_m_numbers, .ref a_m_then, .ref a_m_leans, .int m_draws, .int m_drawn, .int m_heards, .ref a_m_heardSet, .ref a_m_heardSum])), (a_m_text, .inl (cI, 200, .inl m_text))] s.heap.size = A at hD ⊢
  have hA : ∀ q : Nat, s.heap.size ≤ q → A q := fun q h => by rw [← hAe]; exact Or.inr h
  have hS : va_S A s.heap s.heap [] := va_S.rf
  generalize hQe : MQ below _ _ s _ _ A = QQ
  have hl := lv_entry ([.ref a_m, .int x1]) (n := 2) (Nat.le_of_ble_eq_true rfl)
  rw [lg_entry_eq]
  generalize (lg_sl ([.ref a_m, .int x1]) ++ List.replicate (2 - (lg_sl ([.ref a_m, .int x1])).length) Slot.unset).toArray = ls at hl ⊢
  have hl : lv_has ls 2 [(0, .ref a_m), (1, .int x1)] := hl
  have f_62 := hts (.fieldLink RX6 62 "RoundOfTheAModel" "texted" "I") (by decide +kernel)
  have in_X6 := (by decide +kernel : ∀ w ∈ wsX60, w ∈ wsX6_letterAt)
  have f_16 := hts (.fieldLink RX6 16 "RoundOfTheAModel" "text" "[I") (by decide +kernel)
  rw [F_X6_letterAt] at h
  refine lv_iload_n hx hb dX6_letterAt_0 rfl (lv_at hl 1 rfl) ?_
  refine lv_aload_n hx hb dX6_letterAt_1 rfl (lv_at hl 0 rfl) ?_
  refine va_get (D := (dC, dI)) (ci := 6) (v := .int m_texted) (C := RX6) (T := TX6) (N := 15) hx hb hts in_X6 hown hK hP 0 rfl rfl 5 (by decide) f_62 (fun _ h9 => h9) rfl dX6_letterAt_2 ?_
  refine lv_icmp_ge (tgt := 17) hx hb dX6_letterAt_5 (by decide) (fun c_5 => ?_) (fun c_5 => ?_)
  · have h := (if_pos c_5).symm.trans h
    refine lv_iconst (v := (-1 : Int32)) hx hb dX6_letterAt_17 (by decide) ?_
    obtain rfl := Option.some.inj h
    subst hQe
    exact W.iret (v := (-1 : Int32)) hx hb hr (fun t ht hW => ⟨⟨(-1 : Int32), (), rfl, rfl, ⟨by rw [ht]; exact hP, hD⟩⟩, hS.F ht⟩) hS.2.2 dX6_letterAt_18
  · have h := (if_neg c_5).symm.trans h
    refine lv_aload_n hx hb dX6_letterAt_8 rfl (lv_at hl 0 rfl) ?_
    refine va_get (D := (dC, dI)) (ci := 6) (v := .ref a_m_text) (C := RX6) (T := TX6) (N := 15) hx hb hts in_X6 hown hK hP 0 rfl rfl 4 (by decide) f_16 (fun _ h9 => h9) rfl dX6_letterAt_9 ?_
    refine lv_iload_n hx hb dX6_letterAt_12 rfl (lv_at hl 1 rfl) ?_
    obtain ⟨v2888, hv2888, h⟩ := ob h
    refine k_ld hx hb hK hP 1 0 rfl rfl hv2888 dX6_letterAt_13 ?_
    refine lv_goto (tgt := 18) hx hb dX6_letterAt_14 (by decide) ?_
    obtain rfl := Option.some.inj h
    subst hQe
    exact W.iret (v := v2888) hx hb hr (fun t ht hW => ⟨⟨v2888, (), rfl, rfl, ⟨by rw [ht]; exact hP, hD⟩⟩, hS.F ht⟩) hS.2.2 dX6_letterAt_18
def rm_X6_takesNumbers : Room := { frames := 1, cells := 0, slots := 0, locals := 25 }
set_option maxRecDepth 100000 in
set_option maxHeartbeats 8000000 in
theorem c_X6_takesNumbers (l : Launch) (dC : Nat → ClassId) (dI : Nat → Nat → Nat) (cI cS : ClassId) (n sz : Nat) (a_m : Nat) (a_m_w : Nat) (a_m_d : Nat) (a_m_text : Nat) (a_m_numbers : Nat) (a_m_then : Nat) (a_m_leans : Nat) (a_m_heardSet : Nat) (a_m_heardSum : Nat) (m_undoes : Int32) (m_kept : Int32) (m_text : Nat → Int32) (m_texted : Int32) (m_at : Int32) (m_numbers : Nat → Int32) (m_draws : Int32) (m_drawn : Int32) (m_heards : Int32) (x1 : Int32) (res : Int32 × Int32 × (Nat → Int32))  (h : F_X6_takesNumbers n m_text m_texted m_at m_numbers x1 = some res) : Met l yX6_takesNumbers wsX6_takesNumbers rm_X6_takesNumbers (va_Pc [.ref a_m, .int x1] (PRE (dC, dI) vwCl [(cI, .int), (cS, .object "RoundOfTheA$State")] sz [(a_m, .inr (6, [.ref a_m_w, .ref a_m_d, .int m_undoes, .int m_kept, .ref a_m_text, .int m_texted, .int m_at, .ref a_m_numbers, .ref a_m_then, .ref a_m_leans, .int m_draws, .int m_drawn, .int m_heards, .ref a_m_heardSet, .ref a_m_heardSum])), (a_m_text, .inl (cI, 200, .inl m_text)), (a_m_numbers, .inl (cI, 4, .inl m_numbers))])) (va_Qi (fun (r : Int32) (_ : Unit) => r = res.1) (fun u t => POST (dC, dI) vwCl [(a_m, .inr (6, [.ref a_m_w, .ref a_m_d, .int m_undoes, .int m_kept, .ref a_m_text, .int m_texted, .int res.2.1, .ref a_m_numbers, .ref a_m_then, .ref a_m_leans, .int m_draws, .int m_drawn, .int m_heards, .ref a_m_heardSet, .ref a_m_heardSum])), (a_m_text, .inl (cI, 200, .inl m_text)), (a_m_numbers, .inl (cI, 4, .inl res.2.2))] (va_A [(a_m, .inr (6, [.ref a_m_w, .ref a_m_d, .int m_undoes, .int m_kept, .ref a_m_text, .int m_texted, .int m_at, .ref a_m_numbers, .ref a_m_then, .ref a_m_leans, .int m_draws, .int m_drawn, .int m_heards, .ref a_m_heardSet, .ref a_m_heardSum])), (a_m_text, .inl (cI, 200, .inl m_text)), (a_m_numbers, .inl (cI, 4, .inl m_numbers))] sz) t) (va_A [(a_m, .inr (6, [.ref a_m_w, .ref a_m_d, .int m_undoes, .int m_kept, .ref a_m_text, .int m_texted, .int m_at, .ref a_m_numbers, .ref a_m_then, .ref a_m_leans, .int m_draws, .int m_drawn, .int m_heards, .ref a_m_heardSet, .ref a_m_heardSum])), (a_m_text, .inl (cI, 200, .inl m_text)), (a_m_numbers, .inl (cI, 4, .inl m_numbers))] sz)) 0 0 (va_A [(a_m, .inr (6, [.ref a_m_w, .ref a_m_d, .int m_undoes, .int m_kept, .ref a_m_text, .int m_texted, .int m_at, .ref a_m_numbers, .ref a_m_then, .ref a_m_leans, .int m_draws, .int m_drawn, .int m_heards, .ref a_m_heardSet, .ref a_m_heardSum])), (a_m_text, .inl (cI, 200, .inl m_text)), (a_m_numbers, .inl (cI, 4, .inl m_numbers))] sz) := by
  refine Met.ofW (cc := cX6_takesNumbers) (maxL := 5) (ret := (some .boolean)) (by decide) rfl ?_
  intro p e s m args below meth c s₁ B hml hv
  obtain ⟨rfl, hsz, hN, hP, hK, hD0⟩ := hv
  have hx := B.exec
  have hb := B.bytes
  have hr := B.returns
  have hts := atoms_spec (ws := wsX6_takesNumbers) B.pre
  have hown : s.vm.findClass RX6 = some m.cls := findClass_of_methodNamed B.named
  have hlocks := B.notSynchronized
  subst hsz
  have hD := hD0.self (sz := s.heap.size)
  generalize hAe : va_A [(a_m, .inr (6, [.ref a_m_w, .ref a_m_d, .int m_undoes, .int m_kept, .ref a_m_text, .int m_texted, .int m_at, .ref a_m_numbers, .ref a_m_then, .ref a_m_leans, .int m_draws, .int m_drawn, .int m_heards, .ref a_m_heardSet, .ref a_m_heardSum])), (a_m_text, .inl (cI, 200, .inl m_text)), (a_m_numbers, .inl (cI, 4, .inl m_numbers))] s.heap.size = A at hD ⊢
  have hA : ∀ q : Nat, s.heap.size ≤ q → A q := fun q h => by rw [← hAe]; exact Or.inr h
  have hS : va_S A s.heap s.heap [] := va_S.rf
  generalize hQe : MQ below _ _ s _ _ A = QQ
  have hl := lv_entry ([.ref a_m, .int x1]) (n := 5) (Nat.le_of_ble_eq_true rfl)
  rw [lg_entry_eq]
  generalize (lg_sl ([.ref a_m, .int x1]) ++ List.replicate (5 - (lg_sl ([.ref a_m, .int x1])).length) Slot.unset).toArray = ls at hl ⊢
  have hl : lv_has ls 5 [(0, .ref a_m), (1, .int x1)] := hl
  have f_65 := hts (.fieldLink RX6 65 "RoundOfTheAModel" "at" "I") (by decide +kernel)
  have in_X6 := (by decide +kernel : ∀ w ∈ wsX60, w ∈ wsX6_takesNumbers)
  have k_72 := hts (.constantLong RX6 72 (48)) (by decide +kernel)
  have k_74 := hts (.constantLong RX6 74 (57)) (by decide +kernel)
  have f_19 := hts (.fieldLink RX6 19 "RoundOfTheAModel" "numbers" "[I") (by decide +kernel)
  rw [F_X6_takesNumbers] at h
  refine lv_iconst (v := (0 : Int32)) hx hb dX6_takesNumbers_0 (by decide) ?_
  refine lv_istore_n (lv' := [(2, .int (0 : Int32)), (0, .ref a_m), (1, .int x1)]) hx hb dX6_takesNumbers_1 rfl hl (by decide) rfl (fun ls hl => ?_)
  have K2 : ∀ (k : Nat) (y2_2 : Int32) (m_6v_2 : Int32) (m_numbersv_2 : Nat → Int32), L_X6_takesNumbers_2 n m_text m_texted x1 k y2_2 m_6v_2 m_numbersv_2 = some res → ∀ (H : Heap) (locs : List Loc), va_P (dC, dI) vwCl [(a_m, .inr (6, [.ref a_m_w, .ref a_m_d, .int m_undoes, .int m_kept, .ref a_m_text, .int m_texted, .int m_6v_2, .ref a_m_numbers, .ref a_m_then, .ref a_m_leans, .int m_draws, .int m_drawn, .int m_heards, .ref a_m_heardSet, .ref a_m_heardSum])), (a_m_text, .inl (cI, 200, .inl m_text)), (a_m_numbers, .inl (cI, 4, .inl m_numbersv_2))] H → va_D A [(a_m, .inr (6, [.ref a_m_w, .ref a_m_d, .int m_undoes, .int m_kept, .ref a_m_text, .int m_texted, .int m_6v_2, .ref a_m_numbers, .ref a_m_then, .ref a_m_leans, .int m_draws, .int m_drawn, .int m_heards, .ref a_m_heardSet, .ref a_m_heardSum])), (a_m_text, .inl (cI, 200, .inl m_text)), (a_m_numbers, .inl (cI, 4, .inl m_numbersv_2))] → va_S A s.heap H locs → ∀ ls : Array Slot, lv_has ls 5 [(0, .ref a_m), (1, .int x1), (2, .int y2_2)] → W p l e (headSpec wsX6_takesNumbers rm_X6_takesNumbers).room s m ([.ref a_m, .int x1] : List Value).toArray below meth c H locs 0 0 QQ (F0 m 2 ls []) := by
    intro k
    induction k with
    | zero =>
      intro y2_2 m_6v_2 m_numbersv_2 h
      rw [L_X6_takesNumbers_2] at h
      cases h
    | succ k ih =>
      intro y2_2 m_6v_2 m_numbersv_2 h H locs hP hD hS ls hl
      rw [L_X6_takesNumbers_2] at h
      refine lv_iload_n hx hb dX6_takesNumbers_2 rfl (lv_at hl 2 rfl) ?_
      refine lv_iload_n hx hb dX6_takesNumbers_3 rfl (lv_at hl 1 rfl) ?_
      refine lv_icmp_ge (tgt := 127) hx hb dX6_takesNumbers_4 (by decide) (fun c_4 => ?_) (fun c_4 => ?_)
      · have h := (if_pos c_4).symm.trans h
        refine lv_iconst (v := (1 : Int32)) hx hb dX6_takesNumbers_127 (by decide) ?_
        obtain rfl := Option.some.inj h
        subst hQe
        exact W.zret (v := (1 : Int32)) (ty := .boolean) hx hb hr rfl (fun t ht hW => ⟨⟨(1 : Int32), (), rfl, rfl, ⟨by rw [ht]; exact hP, hD⟩⟩, hS.F ht⟩) hS.2.2 dX6_takesNumbers_128
      · have h := (if_neg c_4).symm.trans h
        refine lv_iconst (v := (0 : Int32)) hx hb dX6_takesNumbers_7 (by decide) ?_
        refine lv_istore_n (lv' := [(3, .int (0 : Int32)), (0, .ref a_m), (1, .int x1), (2, .int y2_2)]) hx hb dX6_takesNumbers_8 rfl hl (by decide) rfl (fun ls hl => ?_)
        refine lv_iconst (v := (0 : Int32)) hx hb dX6_takesNumbers_9 (by decide) ?_
        refine lv_istore (lv' := [(4, .int (0 : Int32)), (3, .int (0 : Int32)), (0, .ref a_m), (1, .int x1), (2, .int y2_2)]) hx hb dX6_takesNumbers_10 hl (by decide) rfl (fun ls hl => ?_)
        obtain ⟨j3040, hjj3040, h⟩ := ob h
        have Jj3040 : ∀ (H : Heap) (locs : List Loc), va_P (dC, dI) vwCl [(a_m, .inr (6, [.ref a_m_w, .ref a_m_d, .int m_undoes, .int m_kept, .ref a_m_text, .int m_texted, .int j3040.2.2, .ref a_m_numbers, .ref a_m_then, .ref a_m_leans, .int m_draws, .int m_drawn, .int m_heards, .ref a_m_heardSet, .ref a_m_heardSum])), (a_m_text, .inl (cI, 200, .inl m_text)), (a_m_numbers, .inl (cI, 4, .inl m_numbersv_2))] H → va_D A [(a_m, .inr (6, [.ref a_m_w, .ref a_m_d, .int m_undoes, .int m_kept, .ref a_m_text, .int m_texted, .int j3040.2.2, .ref a_m_numbers, .ref a_m_then, .ref a_m_leans, .int m_draws, .int m_drawn, .int m_heards, .ref a_m_heardSet, .ref a_m_heardSum])), (a_m_text, .inl (cI, 200, .inl m_text)), (a_m_numbers, .inl (cI, 4, .inl m_numbersv_2))] → va_S A s.heap H locs → ∀ ls : Array Slot, lv_has ls 5 [(0, .ref a_m), (1, .int x1), (2, .int y2_2), (3, .int j3040.1), (4, .int j3040.2.1)] → W p l e (headSpec wsX6_takesNumbers rm_X6_takesNumbers).room s m ([.ref a_m, .int x1] : List Value).toArray below meth c H locs 0 0 QQ (F0 m 72 ls []) := by
          intro H locs hP hD hS ls hl
          refine lv_iload hx hb dX6_takesNumbers_72 (lv_at hl 4 rfl) ?_
          refine lv_if_eq (tgt := 102) hx hb dX6_takesNumbers_74 (by decide) (fun c_74 => ?_) (fun c_74 => ?_)
          · have h := (if_pos c_74).symm.trans h
            refine lv_iconst (v := (0 : Int32)) hx hb dX6_takesNumbers_102 (by decide) ?_
            obtain rfl := Option.some.inj h
            subst hQe
            exact W.zret (v := (0 : Int32)) (ty := .boolean) hx hb hr rfl (fun t ht hW => ⟨⟨(0 : Int32), (), rfl, rfl, ⟨by rw [ht]; exact hP, hD⟩⟩, hS.F ht⟩) hS.2.2 dX6_takesNumbers_103
          · have h := (if_neg c_74).symm.trans h
            refine lv_aload_n hx hb dX6_takesNumbers_77 rfl (lv_at hl 0 rfl) ?_
            refine lv_aload_n hx hb dX6_takesNumbers_78 rfl (lv_at hl 0 rfl) ?_
            refine va_get (D := (dC, dI)) (ci := 6) (v := .int j3040.2.2) (C := RX6) (T := TX6) (N := 15) hx hb hts in_X6 hown hK hP 0 rfl rfl 6 (by decide) f_65 (fun _ h9 => h9) rfl dX6_takesNumbers_79 ?_
            obtain ⟨r3047, hr3047, h⟩ := ob h
            refine k_Vi (As := [.int j3040.2.2]) (rest := []) (wr := [(a_m_numbers, .inl (cI, 4, .inl m_numbersv_2))]) (c_X6_letterAt l dC dI cI cS n _ a_m a_m_w a_m_d a_m_text a_m_numbers a_m_then a_m_leans a_m_heardSet a_m_heardSum m_undoes m_kept m_text m_texted j3040.2.2 m_draws m_drawn m_heards j3040.2.2 r3047 hr3047) (fun _ _ q => q) ⟨hx, hb, hml, hown, hts⟩ (cwV 1 hts gX6_takesNumbers_X6_letterAt rfl rfl rfl (by decide +kernel) ⟨(Nat.le_of_ble_eq_true rfl), (Nat.le_of_ble_eq_true rfl)⟩) hN hK hP hD hS hA [0, 1] [2] rfl rfl (by decide) (by decide) (by decide) rfl rfl rfl hl.1 rfl (Nat.le_of_ble_eq_true rfl) dX6_takesNumbers_82 ⟨(Nat.le_of_ble_eq_true rfl), (Nat.le_of_ble_eq_true rfl)⟩ (fun u3048 H locs _ hP hD hS => ?_)
            have hP : va_P (dC, dI) vwCl [(a_m_numbers, .inl (cI, 4, .inl m_numbersv_2)), (a_m, .inr (6, [.ref a_m_w, .ref a_m_d, .int m_undoes, .int m_kept, .ref a_m_text, .int m_texted, .int j3040.2.2, .ref a_m_numbers, .ref a_m_then, .ref a_m_leans, .int m_draws, .int m_drawn, .int m_heards, .ref a_m_heardSet, .ref a_m_heardSum])), (a_m_text, .inl (cI, 200, .inl m_text))] H := hP
            have hD : va_D A [(a_m_numbers, .inl (cI, 4, .inl m_numbersv_2)), (a_m, .inr (6, [.ref a_m_w, .ref a_m_d, .int m_undoes, .int m_kept, .ref a_m_text, .int m_texted, .int j3040.2.2, .ref a_m_numbers, .ref a_m_then, .ref a_m_leans, .int m_draws, .int m_drawn, .int m_heards, .ref a_m_heardSet, .ref a_m_heardSum])), (a_m_text, .inl (cI, 200, .inl m_text))] := hD
            refine lv_iload_n hx hb dX6_takesNumbers_85 rfl (lv_at hl 2 rfl) ?_
            refine lv_iload_n hx hb dX6_takesNumbers_86 rfl (lv_at hl 1 rfl) ?_
            refine lv_iconst (v := (1 : Int32)) hx hb dX6_takesNumbers_87 (by decide) ?_
            refine lv_isub hx hb dX6_takesNumbers_88 ?_
            obtain ⟨j3049, hjj3049, h⟩ := ob h
            have Jj3049 : ∀ (H : Heap) (locs : List Loc), va_P (dC, dI) vwCl [(a_m_numbers, .inl (cI, 4, .inl m_numbersv_2)), (a_m, .inr (6, [.ref a_m_w, .ref a_m_d, .int m_undoes, .int m_kept, .ref a_m_text, .int m_texted, .int j3040.2.2, .ref a_m_numbers, .ref a_m_then, .ref a_m_leans, .int m_draws, .int m_drawn, .int m_heards, .ref a_m_heardSet, .ref a_m_heardSum])), (a_m_text, .inl (cI, 200, .inl m_text))] H → va_D A [(a_m_numbers, .inl (cI, 4, .inl m_numbersv_2)), (a_m, .inr (6, [.ref a_m_w, .ref a_m_d, .int m_undoes, .int m_kept, .ref a_m_text, .int m_texted, .int j3040.2.2, .ref a_m_numbers, .ref a_m_then, .ref a_m_leans, .int m_draws, .int m_drawn, .int m_heards, .ref a_m_heardSet, .ref a_m_heardSum])), (a_m_text, .inl (cI, 200, .inl m_text))] → va_S A s.heap H locs → ∀ ls : Array Slot, lv_has ls 5 [(0, .ref a_m), (1, .int x1), (2, .int y2_2), (3, .int j3040.1), (4, .int j3040.2.1)] → W p l e (headSpec wsX6_takesNumbers rm_X6_takesNumbers).room s m ([.ref a_m, .int x1] : List Value).toArray below meth c H locs 0 0 QQ (F0 m 99 ls [.int j3049, .int r3047]) := by
              intro H locs hP hD hS ls hl
              refine lv_icmp_eq (tgt := 104) hx hb dX6_takesNumbers_99 (by decide) (fun c_99 => ?_) (fun c_99 => ?_)
              · have h := (if_pos c_99).symm.trans h
                refine lv_aload_n hx hb dX6_takesNumbers_104 rfl (lv_at hl 0 rfl) ?_
                refine lv_dup hx hb dX6_takesNumbers_105 rfl ?_
                refine va_get (D := (dC, dI)) (ci := 6) (v := .int j3040.2.2) (C := RX6) (T := TX6) (N := 15) hx hb hts in_X6 hown hK hP 1 rfl rfl 6 (by decide) f_65 (fun _ h9 => h9) rfl dX6_takesNumbers_106 ?_
                refine lv_iconst (v := (1 : Int32)) hx hb dX6_takesNumbers_109 (by decide) ?_
                refine lv_iadd hx hb dX6_takesNumbers_110 ?_
                refine va_put (D := (dC, dI)) (ci := 6) (v := .int (j3040.2.2 + (1 : Int32))) (ty := .int) (C := RX6) (T := TX6) (N := 15) hx hb hts in_X6 tyX6 tyX6_ok nmX6 hown hK hP hD hS 1 rfl rfl 6 (by decide) f_65 (fun _ h9 => h9) rfl (by decide +kernel) rfl rfl (Nat.le_of_ble_eq_true rfl) dX6_takesNumbers_111 (fun H locs hP hD hS => ?_)
                have hP : va_P (dC, dI) vwCl [(a_m_numbers, .inl (cI, 4, .inl m_numbersv_2)), (a_m, .inr (6, [.ref a_m_w, .ref a_m_d, .int m_undoes, .int m_kept, .ref a_m_text, .int m_texted, .int (j3040.2.2 + (1 : Int32)), .ref a_m_numbers, .ref a_m_then, .ref a_m_leans, .int m_draws, .int m_drawn, .int m_heards, .ref a_m_heardSet, .ref a_m_heardSum])), (a_m_text, .inl (cI, 200, .inl m_text))] H := hP
                have hD : va_D A [(a_m_numbers, .inl (cI, 4, .inl m_numbersv_2)), (a_m, .inr (6, [.ref a_m_w, .ref a_m_d, .int m_undoes, .int m_kept, .ref a_m_text, .int m_texted, .int (j3040.2.2 + (1 : Int32)), .ref a_m_numbers, .ref a_m_then, .ref a_m_leans, .int m_draws, .int m_drawn, .int m_heards, .ref a_m_heardSet, .ref a_m_heardSum])), (a_m_text, .inl (cI, 200, .inl m_text))] := hD
                refine lv_aload_n hx hb dX6_takesNumbers_114 rfl (lv_at hl 0 rfl) ?_
                refine va_get (D := (dC, dI)) (ci := 6) (v := .ref a_m_numbers) (C := RX6) (T := TX6) (N := 15) hx hb hts in_X6 hown hK hP 1 rfl rfl 7 (by decide) f_19 (fun _ h9 => h9) rfl dX6_takesNumbers_115 ?_
                refine lv_iload_n hx hb dX6_takesNumbers_118 rfl (lv_at hl 2 rfl) ?_
                refine lv_iload_n hx hb dX6_takesNumbers_119 rfl (lv_at hl 3 rfl) ?_
                obtain ⟨g3050, hg3050, h⟩ := ob h
                refine k_st hx hb hK hP hD hS 0 0 rfl rfl hg3050 dX6_takesNumbers_120 (ws' := [(a_m_numbers, .inl (cI, 4, .inl g3050)), (a_m, .inr (6, [.ref a_m_w, .ref a_m_d, .int m_undoes, .int m_kept, .ref a_m_text, .int m_texted, .int (j3040.2.2 + (1 : Int32)), .ref a_m_numbers, .ref a_m_then, .ref a_m_leans, .int m_draws, .int m_drawn, .int m_heards, .ref a_m_heardSet, .ref a_m_heardSum])), (a_m_text, .inl (cI, 200, .inl m_text))]) rfl (fun H locs hP hD hS => ?_)
                refine lv_iinc (v := (y2_2 + (1 : Int32))) (lv' := [(2, .int (y2_2 + (1 : Int32))), (0, .ref a_m), (1, .int x1), (3, .int j3040.1), (4, .int j3040.2.1)]) hx hb dX6_takesNumbers_121 hl (k := 2) rfl rfl (by decide) rfl (fun ls hl => ?_)
                refine lv_goto (tgt := 2) hx hb dX6_takesNumbers_124 (by decide) ?_
                exact ih _ _ _ h _ _ (hP.sub [1, 2, 0] rfl) (hD.sub [1, 2, 0] (by decide +kernel) rfl) hS _ (lv_sub hl [1, 2, 0] rfl)
              · have h := (if_neg c_99).symm.trans h
                refine lv_iconst (v := (0 : Int32)) hx hb dX6_takesNumbers_102 (by decide) ?_
                obtain rfl := Option.some.inj h
                subst hQe
                exact W.zret (v := (0 : Int32)) (ty := .boolean) hx hb hr rfl (fun t ht hW => ⟨⟨(0 : Int32), (), rfl, rfl, ⟨by rw [ht]; exact hP.sub [1, 2, 0] rfl, hD.sub [1, 2, 0] (by decide +kernel) rfl⟩⟩, hS.F ht⟩) hS.2.2 dX6_takesNumbers_103
            refine lv_icmp_ge (tgt := 97) hx hb dX6_takesNumbers_89 (by decide) (fun c_89 => ?_) (fun c_89 => ?_)
            · have h := (if_pos c_89).symm.trans hjj3049
              refine lv_bipush (v := (59 : Int32)) hx hb dX6_takesNumbers_97 (by decide) ?_
              obtain rfl := Option.some.inj h
              exact Jj3049 _ _ hP hD hS _ hl
            · have h := (if_neg c_89).symm.trans hjj3049
              refine lv_bipush (v := (44 : Int32)) hx hb dX6_takesNumbers_92 (by decide) ?_
              refine lv_goto (tgt := 99) hx hb dX6_takesNumbers_94 (by decide) ?_
              obtain rfl := Option.some.inj h
              exact Jj3049 _ _ hP hD hS _ hl
        have K12 : ∀ (k : Nat) (y3_12 : Int32) (y4_12 : Int32) (m_6v_12 : Int32), L_X6_takesNumbers_12 n m_text m_texted k y3_12 y4_12 m_6v_12 = some j3040 → ∀ (H : Heap) (locs : List Loc), va_P (dC, dI) vwCl [(a_m, .inr (6, [.ref a_m_w, .ref a_m_d, .int m_undoes, .int m_kept, .ref a_m_text, .int m_texted, .int m_6v_12, .ref a_m_numbers, .ref a_m_then, .ref a_m_leans, .int m_draws, .int m_drawn, .int m_heards, .ref a_m_heardSet, .ref a_m_heardSum])), (a_m_text, .inl (cI, 200, .inl m_text)), (a_m_numbers, .inl (cI, 4, .inl m_numbersv_2))] H → va_D A [(a_m, .inr (6, [.ref a_m_w, .ref a_m_d, .int m_undoes, .int m_kept, .ref a_m_text, .int m_texted, .int m_6v_12, .ref a_m_numbers, .ref a_m_then, .ref a_m_leans, .int m_draws, .int m_drawn, .int m_heards, .ref a_m_heardSet, .ref a_m_heardSum])), (a_m_text, .inl (cI, 200, .inl m_text)), (a_m_numbers, .inl (cI, 4, .inl m_numbersv_2))] → va_S A s.heap H locs → ∀ ls : Array Slot, lv_has ls 5 [(0, .ref a_m), (1, .int x1), (2, .int y2_2), (3, .int y3_12), (4, .int y4_12)] → W p l e (headSpec wsX6_takesNumbers rm_X6_takesNumbers).room s m ([.ref a_m, .int x1] : List Value).toArray below meth c H locs 0 0 QQ (F0 m 12 ls []) := by
          intro k
          induction k with
          | zero =>
            intro y3_12 y4_12 m_6v_12 h
            rw [L_X6_takesNumbers_12] at h
            cases h
          | succ k ih =>
            intro y3_12 y4_12 m_6v_12 h H locs hP hD hS ls hl
            rw [L_X6_takesNumbers_12] at h
            refine lv_aload_n hx hb dX6_takesNumbers_12 rfl (lv_at hl 0 rfl) ?_
            refine lv_aload_n hx hb dX6_takesNumbers_13 rfl (lv_at hl 0 rfl) ?_
            refine va_get (D := (dC, dI)) (ci := 6) (v := .int m_6v_12) (C := RX6) (T := TX6) (N := 15) hx hb hts in_X6 hown hK hP 0 rfl rfl 6 (by decide) f_65 (fun _ h9 => h9) rfl dX6_takesNumbers_14 ?_
            obtain ⟨r3041, hr3041, h⟩ := ob h
            refine k_Vi (As := [.int m_6v_12]) (rest := []) (wr := [(a_m_numbers, .inl (cI, 4, .inl m_numbersv_2))]) (c_X6_letterAt l dC dI cI cS n _ a_m a_m_w a_m_d a_m_text a_m_numbers a_m_then a_m_leans a_m_heardSet a_m_heardSum m_undoes m_kept m_text m_texted m_6v_12 m_draws m_drawn m_heards m_6v_12 r3041 hr3041) (fun _ _ q => q) ⟨hx, hb, hml, hown, hts⟩ (cwV 1 hts gX6_takesNumbers_X6_letterAt rfl rfl rfl (by decide +kernel) ⟨(Nat.le_of_ble_eq_true rfl), (Nat.le_of_ble_eq_true rfl)⟩) hN hK hP hD hS hA [0, 1] [2] rfl rfl (by decide) (by decide) (by decide) rfl rfl rfl hl.1 rfl (Nat.le_of_ble_eq_true rfl) dX6_takesNumbers_17 ⟨(Nat.le_of_ble_eq_true rfl), (Nat.le_of_ble_eq_true rfl)⟩ (fun u3042 H locs _ hP hD hS => ?_)
            have hP : va_P (dC, dI) vwCl [(a_m_numbers, .inl (cI, 4, .inl m_numbersv_2)), (a_m, .inr (6, [.ref a_m_w, .ref a_m_d, .int m_undoes, .int m_kept, .ref a_m_text, .int m_texted, .int m_6v_12, .ref a_m_numbers, .ref a_m_then, .ref a_m_leans, .int m_draws, .int m_drawn, .int m_heards, .ref a_m_heardSet, .ref a_m_heardSum])), (a_m_text, .inl (cI, 200, .inl m_text))] H := hP
            have hD : va_D A [(a_m_numbers, .inl (cI, 4, .inl m_numbersv_2)), (a_m, .inr (6, [.ref a_m_w, .ref a_m_d, .int m_undoes, .int m_kept, .ref a_m_text, .int m_texted, .int m_6v_12, .ref a_m_numbers, .ref a_m_then, .ref a_m_leans, .int m_draws, .int m_drawn, .int m_heards, .ref a_m_heardSet, .ref a_m_heardSum])), (a_m_text, .inl (cI, 200, .inl m_text))] := hD
            refine lv_i2l (v := (Int32.toInt64 r3041)) hx hb dX6_takesNumbers_20 rfl ?_
            refine lv_ldc2 (v := (48 : Int64)) hx hb hown k_72 dX6_takesNumbers_21 ?_
            refine lv_ldc2 (v := (57 : Int64)) hx hb hown k_74 dX6_takesNumbers_24 ?_
            obtain ⟨r3043, hr3043, h⟩ := ob h
            refine k_Si (As := [.long (Int32.toInt64 r3041), .long (48 : Int64), .long (57 : Int64)]) (rest := []) (c_X6_in l dC dI cI cS n _ (Int32.toInt64 r3041) (48 : Int64) (57 : Int64) r3043 hr3043) (fun _ _ q => q) ⟨hx, hb, hml, hown, hts⟩ (va_cwS 3 hts gX6_takesNumbers_X6_in rfl rfl rfl (by decide +kernel) ⟨(Nat.le_of_ble_eq_true rfl), (Nat.le_of_ble_eq_true rfl)⟩) hN hK hP hD hS hA rfl hl.1 rfl (Nat.le_of_ble_eq_true rfl) dX6_takesNumbers_27 ⟨(Nat.le_of_ble_eq_true rfl), (Nat.le_of_ble_eq_true rfl)⟩ (fun H locs hP hD hS => ?_)
            refine lv_if_eq (tgt := 72) hx hb dX6_takesNumbers_30 (by decide) (fun c_30 => ?_) (fun c_30 => ?_)
            · have h := (if_pos c_30).symm.trans h
              obtain rfl := Option.some.inj h
              exact Jj3040 _ _ (hP.sub [1, 2, 0] rfl) (hD.sub [1, 2, 0] (by decide +kernel) rfl) hS _ hl
            · have h := (if_neg c_30).symm.trans h
              refine lv_iload hx hb dX6_takesNumbers_33 (lv_at hl 4 rfl) ?_
              refine lv_iconst (v := (2 : Int32)) hx hb dX6_takesNumbers_35 (by decide) ?_
              refine lv_icmp_ge (tgt := 72) hx hb dX6_takesNumbers_36 (by decide) (fun c_36 => ?_) (fun c_36 => ?_)
              · have h := (if_pos c_36).symm.trans h
                obtain rfl := Option.some.inj h
                exact Jj3040 _ _ (hP.sub [1, 2, 0] rfl) (hD.sub [1, 2, 0] (by decide +kernel) rfl) hS _ hl
              · have h := (if_neg c_36).symm.trans h
                refine lv_bipush (v := (10 : Int32)) hx hb dX6_takesNumbers_39 (by decide) ?_
                refine lv_iload_n hx hb dX6_takesNumbers_41 rfl (lv_at hl 3 rfl) ?_
                refine lv_imul hx hb dX6_takesNumbers_42 ?_
                refine lv_aload_n hx hb dX6_takesNumbers_43 rfl (lv_at hl 0 rfl) ?_
                refine lv_aload_n hx hb dX6_takesNumbers_44 rfl (lv_at hl 0 rfl) ?_
                refine va_get (D := (dC, dI)) (ci := 6) (v := .int m_6v_12) (C := RX6) (T := TX6) (N := 15) hx hb hts in_X6 hown hK hP 1 rfl rfl 6 (by decide) f_65 (fun _ h9 => h9) rfl dX6_takesNumbers_45 ?_
                obtain ⟨r3045, hr3045, h⟩ := ob h
                refine k_Vi (As := [.int m_6v_12]) (rest := [.int ((10 : Int32) * y3_12)]) (wr := [(a_m_numbers, .inl (cI, 4, .inl m_numbersv_2))]) (c_X6_letterAt l dC dI cI cS n _ a_m a_m_w a_m_d a_m_text a_m_numbers a_m_then a_m_leans a_m_heardSet a_m_heardSum m_undoes m_kept m_text m_texted m_6v_12 m_draws m_drawn m_heards m_6v_12 r3045 hr3045) (fun _ _ q => q) ⟨hx, hb, hml, hown, hts⟩ (cwV 1 hts gX6_takesNumbers_X6_letterAt rfl rfl rfl (by decide +kernel) ⟨(Nat.le_of_ble_eq_true rfl), (Nat.le_of_ble_eq_true rfl)⟩) hN hK hP hD hS hA [1, 2] [0] rfl rfl (by decide) (by decide) (by decide) rfl rfl rfl hl.1 rfl (Nat.le_of_ble_eq_true rfl) dX6_takesNumbers_48 ⟨(Nat.le_of_ble_eq_true rfl), (Nat.le_of_ble_eq_true rfl)⟩ (fun u3046 H locs _ hP hD hS => ?_)
                have hP : va_P (dC, dI) vwCl [(a_m_numbers, .inl (cI, 4, .inl m_numbersv_2)), (a_m, .inr (6, [.ref a_m_w, .ref a_m_d, .int m_undoes, .int m_kept, .ref a_m_text, .int m_texted, .int m_6v_12, .ref a_m_numbers, .ref a_m_then, .ref a_m_leans, .int m_draws, .int m_drawn, .int m_heards, .ref a_m_heardSet, .ref a_m_heardSum])), (a_m_text, .inl (cI, 200, .inl m_text))] H := hP
                have hD : va_D A [(a_m_numbers, .inl (cI, 4, .inl m_numbersv_2)), (a_m, .inr (6, [.ref a_m_w, .ref a_m_d, .int m_undoes, .int m_kept, .ref a_m_text, .int m_texted, .int m_6v_12, .ref a_m_numbers, .ref a_m_then, .ref a_m_leans, .int m_draws, .int m_drawn, .int m_heards, .ref a_m_heardSet, .ref a_m_heardSum])), (a_m_text, .inl (cI, 200, .inl m_text))] := hD
                refine lv_iadd hx hb dX6_takesNumbers_51 ?_
                refine lv_bipush (v := (48 : Int32)) hx hb dX6_takesNumbers_52 (by decide) ?_
                refine lv_isub hx hb dX6_takesNumbers_54 ?_
                refine lv_istore_n (lv' := [(3, .int ((((10 : Int32) * y3_12) + r3045) - (48 : Int32))), (0, .ref a_m), (1, .int x1), (2, .int y2_2), (4, .int y4_12)]) hx hb dX6_takesNumbers_55 rfl hl (by decide) rfl (fun ls hl => ?_)
                refine lv_aload_n hx hb dX6_takesNumbers_56 rfl (lv_at hl 1 rfl) ?_
                refine lv_dup hx hb dX6_takesNumbers_57 rfl ?_
                refine va_get (D := (dC, dI)) (ci := 6) (v := .int m_6v_12) (C := RX6) (T := TX6) (N := 15) hx hb hts in_X6 hown hK hP 1 rfl rfl 6 (by decide) f_65 (fun _ h9 => h9) rfl dX6_takesNumbers_58 ?_
                refine lv_iconst (v := (1 : Int32)) hx hb dX6_takesNumbers_61 (by decide) ?_
                refine lv_iadd hx hb dX6_takesNumbers_62 ?_
                refine va_put (D := (dC, dI)) (ci := 6) (v := .int (m_6v_12 + (1 : Int32))) (ty := .int) (C := RX6) (T := TX6) (N := 15) hx hb hts in_X6 tyX6 tyX6_ok nmX6 hown hK hP hD hS 1 rfl rfl 6 (by decide) f_65 (fun _ h9 => h9) rfl (by decide +kernel) rfl rfl (Nat.le_of_ble_eq_true rfl) dX6_takesNumbers_63 (fun H locs hP hD hS => ?_)
                have hP : va_P (dC, dI) vwCl [(a_m_numbers, .inl (cI, 4, .inl m_numbersv_2)), (a_m, .inr (6, [.ref a_m_w, .ref a_m_d, .int m_undoes, .int m_kept, .ref a_m_text, .int m_texted, .int (m_6v_12 + (1 : Int32)), .ref a_m_numbers, .ref a_m_then, .ref a_m_leans, .int m_draws, .int m_drawn, .int m_heards, .ref a_m_heardSet, .ref a_m_heardSum])), (a_m_text, .inl (cI, 200, .inl m_text))] H := hP
                have hD : va_D A [(a_m_numbers, .inl (cI, 4, .inl m_numbersv_2)), (a_m, .inr (6, [.ref a_m_w, .ref a_m_d, .int m_undoes, .int m_kept, .ref a_m_text, .int m_texted, .int (m_6v_12 + (1 : Int32)), .ref a_m_numbers, .ref a_m_then, .ref a_m_leans, .int m_draws, .int m_drawn, .int m_heards, .ref a_m_heardSet, .ref a_m_heardSum])), (a_m_text, .inl (cI, 200, .inl m_text))] := hD
                refine lv_iinc (v := (y4_12 + (1 : Int32))) (lv' := [(4, .int (y4_12 + (1 : Int32))), (3, .int ((((10 : Int32) * y3_12) + r3045) - (48 : Int32))), (0, .ref a_m), (1, .int x1), (2, .int y2_2)]) hx hb dX6_takesNumbers_66 hl (k := 4) rfl rfl (by decide) rfl (fun ls hl => ?_)
                refine lv_goto (tgt := 12) hx hb dX6_takesNumbers_69 (by decide) ?_
                exact ih _ _ _ h _ _ (hP.sub [1, 2, 0] rfl) (hD.sub [1, 2, 0] (by decide +kernel) rfl) hS _ (lv_sub hl [2, 3, 4, 1, 0] rfl)
        exact K12 n (0 : Int32) (0 : Int32) m_6v_2 hjj3040 _ _ hP hD hS _ (lv_sub hl [2, 3, 4, 1, 0] rfl)
  exact K2 n (0 : Int32) m_at m_numbers h _ _ hP hD hS _ (lv_sub hl [1, 2, 0] rfl)
def rm_X6_isTold : Room := { frames := 1, cells := 0, slots := 0, locals := 25 }
set_option maxRecDepth 100000 in
set_option maxHeartbeats 8000000 in
theorem c_X6_isTold (l : Launch) (dC : Nat → ClassId) (dI : Nat → Nat → Nat) (cI cS : ClassId) (n sz : Nat) (a_m : Nat) (a_m_w : Nat) (a_m_d : Nat) (a_m_text : Nat) (a_m_numbers : Nat) (a_m_then : Nat) (a_m_leans : Nat) (a_m_heardSet : Nat) (a_m_heardSum : Nat) (m_w : Nat → Int32) (m_undoes : Int32) (m_kept : Int32) (m_texted : Int32) (m_at : Int32) (m_draws : Int32) (m_drawn : Int32) (m_heards : Int32) (x1 : Int32) (res : Int32)  (h : F_X6_isTold n m_w x1 = some res) : Met l yX6_isTold wsX6_isTold rm_X6_isTold (va_Pc [.ref a_m, .int x1] (PRE (dC, dI) vwCl [(cI, .int), (cS, .object "RoundOfTheA$State")] sz [(a_m, .inr (6, [.ref a_m_w, .ref a_m_d, .int m_undoes, .int m_kept, .ref a_m_text, .int m_texted, .int m_at, .ref a_m_numbers, .ref a_m_then, .ref a_m_leans, .int m_draws, .int m_drawn, .int m_heards, .ref a_m_heardSet, .ref a_m_heardSum])), (a_m_w, .inl (cI, 106, .inl m_w))])) (va_Qi (fun (r : Int32) (_ : Unit) => r = res) (fun u t => POST (dC, dI) vwCl [(a_m, .inr (6, [.ref a_m_w, .ref a_m_d, .int m_undoes, .int m_kept, .ref a_m_text, .int m_texted, .int m_at, .ref a_m_numbers, .ref a_m_then, .ref a_m_leans, .int m_draws, .int m_drawn, .int m_heards, .ref a_m_heardSet, .ref a_m_heardSum])), (a_m_w, .inl (cI, 106, .inl m_w))] (va_A [(a_m, .inr (6, [.ref a_m_w, .ref a_m_d, .int m_undoes, .int m_kept, .ref a_m_text, .int m_texted, .int m_at, .ref a_m_numbers, .ref a_m_then, .ref a_m_leans, .int m_draws, .int m_drawn, .int m_heards, .ref a_m_heardSet, .ref a_m_heardSum])), (a_m_w, .inl (cI, 106, .inl m_w))] sz) t) (va_A [(a_m, .inr (6, [.ref a_m_w, .ref a_m_d, .int m_undoes, .int m_kept, .ref a_m_text, .int m_texted, .int m_at, .ref a_m_numbers, .ref a_m_then, .ref a_m_leans, .int m_draws, .int m_drawn, .int m_heards, .ref a_m_heardSet, .ref a_m_heardSum])), (a_m_w, .inl (cI, 106, .inl m_w))] sz)) 0 0 (va_A [(a_m, .inr (6, [.ref a_m_w, .ref a_m_d, .int m_undoes, .int m_kept, .ref a_m_text, .int m_texted, .int m_at, .ref a_m_numbers, .ref a_m_then, .ref a_m_leans, .int m_draws, .int m_drawn, .int m_heards, .ref a_m_heardSet, .ref a_m_heardSum])), (a_m_w, .inl (cI, 106, .inl m_w))] sz) := by
  refine Met.ofW (cc := cX6_isTold) (maxL := 2) (ret := (some .boolean)) (by decide) rfl ?_
  intro p e s m args below meth c s₁ B hml hv
  obtain ⟨rfl, hsz, hN, hP, hK, hD0⟩ := hv
  have hx := B.exec
  have hb := B.bytes
  have hr := B.returns
  have hts := atoms_spec (ws := wsX6_isTold) B.pre
  have hown : s.vm.findClass RX6 = some m.cls := findClass_of_methodNamed B.named
  have hlocks := B.notSynchronized
  subst hsz
  have hD := hD0.self (sz := s.heap.size)
  generalize hAe : va_A [(a_m, .inr (6, [.ref a_m_w, .ref a_m_d, .int m_undoes, .int m_kept, .ref a_m_text, .int m_texted, .int m_at, .ref a_m_numbers, .ref a_m_then, .ref a_m_leans, .int m_draws, .int m_drawn, .int m_heards, .ref a_m_heardSet, .ref a_m_heardSum])), (a_m_w, .inl (cI, 106, .inl m_w))] s.heap.size = A at hD ⊢
  have hA : ∀ q : Nat, s.heap.size ≤ q → A q := fun q h => by rw [← hAe]; exact Or.inr h
  have hS : va_S A s.heap s.heap [] := va_S.rf
  generalize hQe : MQ below _ _ s _ _ A = QQ
  have hl := lv_entry ([.ref a_m, .int x1]) (n := 2) (Nat.le_of_ble_eq_true rfl)
  rw [lg_entry_eq]
  generalize (lg_sl ([.ref a_m, .int x1]) ++ List.replicate (2 - (lg_sl ([.ref a_m, .int x1])).length) Slot.unset).toArray = ls at hl ⊢
  have hl : lv_has ls 2 [(0, .ref a_m), (1, .int x1)] := hl
  have f_7 := hts (.fieldLink RX6 7 "RoundOfTheAModel" "w" "[I") (by decide +kernel)
  have in_X6 := (by decide +kernel : ∀ w ∈ wsX60, w ∈ wsX6_isTold)
  rw [F_X6_isTold] at h
  refine lv_iload_n hx hb dX6_isTold_0 rfl (lv_at hl 1 rfl) ?_
  refine lv_i2l (v := (Int32.toInt64 x1)) hx hb dX6_isTold_1 rfl ?_
  refine lv_lconst (v := (0 : Int64)) hx hb dX6_isTold_2 (by decide) ?_
  refine lv_aload_n hx hb dX6_isTold_3 rfl (lv_at hl 0 rfl) ?_
  refine va_get (D := (dC, dI)) (ci := 6) (v := .ref a_m_w) (C := RX6) (T := TX6) (N := 15) hx hb hts in_X6 hown hK hP 0 rfl rfl 0 (by decide) f_7 (fun _ h9 => h9) rfl dX6_isTold_4 ?_
  refine lv_bipush (v := (53 : Int32)) hx hb dX6_isTold_7 (by decide) ?_
  obtain ⟨v3054, hv3054, h⟩ := ob h
  refine k_ld hx hb hK hP 1 0 rfl rfl hv3054 dX6_isTold_9 ?_
  refine lv_iconst (v := (1 : Int32)) hx hb dX6_isTold_10 (by decide) ?_
  refine lv_isub hx hb dX6_isTold_11 ?_
  refine lv_i2l (v := (Int32.toInt64 (v3054 - (1 : Int32)))) hx hb dX6_isTold_12 rfl ?_
  obtain ⟨r3055, hr3055, h⟩ := ob h
  refine k_Si (As := [.long (Int32.toInt64 x1), .long (0 : Int64), .long (Int32.toInt64 (v3054 - (1 : Int32)))]) (rest := []) (c_X6_in l dC dI cI cS n _ (Int32.toInt64 x1) (0 : Int64) (Int32.toInt64 (v3054 - (1 : Int32))) r3055 hr3055) (fun _ _ q => q) ⟨hx, hb, hml, hown, hts⟩ (va_cwS 3 hts gX6_isTold_X6_in rfl rfl rfl (by decide +kernel) ⟨(Nat.le_of_ble_eq_true rfl), (Nat.le_of_ble_eq_true rfl)⟩) hN hK hP hD hS hA rfl hl.1 rfl (Nat.le_of_ble_eq_true rfl) dX6_isTold_13 ⟨(Nat.le_of_ble_eq_true rfl), (Nat.le_of_ble_eq_true rfl)⟩ (fun H locs hP hD hS => ?_)
  obtain ⟨u3057, hu3057, h⟩ := ob h
  obtain rfl := Option.some.inj h
  subst hQe
  exact W.zret (v := r3055) (ty := .boolean) hx hb hr (zb_some hu3057) (fun t ht hW => ⟨⟨r3055, (), rfl, rfl, ⟨by rw [ht]; exact hP, hD⟩⟩, hS.F ht⟩) hS.2.2 dX6_isTold_16
def rm_X6_takesItem : Room := { frames := 2, cells := 0, slots := 0, locals := 49 }
set_option maxRecDepth 100000 in
set_option maxHeartbeats 8000000 in
theorem c_X6_takesItem (l : Launch) (dC : Nat → ClassId) (dI : Nat → Nat → Nat) (cI cS : ClassId) (n sz : Nat) (a_m : Nat) (a_m_w : Nat) (a_m_d : Nat) (a_m_text : Nat) (a_m_numbers : Nat) (a_m_then : Nat) (a_m_leans : Nat) (a_m_heardSet : Nat) (a_m_heardSum : Nat) (m_w : Nat → Int32) (m_undoes : Int32) (m_kept : Int32) (m_text : Nat → Int32) (m_texted : Int32) (m_at : Int32) (m_numbers : Nat → Int32) (m_draws : Int32) (m_drawn : Int32) (m_heards : Int32) (res : Int32 × Int32 × (Nat → Int32) × (Nat → Int32))  (h : F_X6_takesItem n m_w m_text m_texted m_at m_numbers = some res) : Met l yX6_takesItem wsX6_takesItem rm_X6_takesItem (va_Pc [.ref a_m] (PRE (dC, dI) vwCl [(cI, .int), (cS, .object "RoundOfTheA$State")] sz [(a_m, .inr (6, [.ref a_m_w, .ref a_m_d, .int m_undoes, .int m_kept, .ref a_m_text, .int m_texted, .int m_at, .ref a_m_numbers, .ref a_m_then, .ref a_m_leans, .int m_draws, .int m_drawn, .int m_heards, .ref a_m_heardSet, .ref a_m_heardSum])), (a_m_w, .inl (cI, 106, .inl m_w)), (a_m_text, .inl (cI, 200, .inl m_text)), (a_m_numbers, .inl (cI, 4, .inl m_numbers))])) (va_Qi (fun (r : Int32) (_ : Unit) => r = res.1) (fun u t => POST (dC, dI) vwCl [(a_m, .inr (6, [.ref a_m_w, .ref a_m_d, .int m_undoes, .int m_kept, .ref a_m_text, .int m_texted, .int res.2.1, .ref a_m_numbers, .ref a_m_then, .ref a_m_leans, .int m_draws, .int m_drawn, .int m_heards, .ref a_m_heardSet, .ref a_m_heardSum])), (a_m_w, .inl (cI, 106, .inl res.2.2.1)), (a_m_text, .inl (cI, 200, .inl m_text)), (a_m_numbers, .inl (cI, 4, .inl res.2.2.2))] (va_A [(a_m, .inr (6, [.ref a_m_w, .ref a_m_d, .int m_undoes, .int m_kept, .ref a_m_text, .int m_texted, .int m_at, .ref a_m_numbers, .ref a_m_then, .ref a_m_leans, .int m_draws, .int m_drawn, .int m_heards, .ref a_m_heardSet, .ref a_m_heardSum])), (a_m_w, .inl (cI, 106, .inl m_w)), (a_m_text, .inl (cI, 200, .inl m_text)), (a_m_numbers, .inl (cI, 4, .inl m_numbers))] sz) t) (va_A [(a_m, .inr (6, [.ref a_m_w, .ref a_m_d, .int m_undoes, .int m_kept, .ref a_m_text, .int m_texted, .int m_at, .ref a_m_numbers, .ref a_m_then, .ref a_m_leans, .int m_draws, .int m_drawn, .int m_heards, .ref a_m_heardSet, .ref a_m_heardSum])), (a_m_w, .inl (cI, 106, .inl m_w)), (a_m_text, .inl (cI, 200, .inl m_text)), (a_m_numbers, .inl (cI, 4, .inl m_numbers))] sz)) 0 0 (va_A [(a_m, .inr (6, [.ref a_m_w, .ref a_m_d, .int m_undoes, .int m_kept, .ref a_m_text, .int m_texted, .int m_at, .ref a_m_numbers, .ref a_m_then, .ref a_m_leans, .int m_draws, .int m_drawn, .int m_heards, .ref a_m_heardSet, .ref a_m_heardSum])), (a_m_w, .inl (cI, 106, .inl m_w)), (a_m_text, .inl (cI, 200, .inl m_text)), (a_m_numbers, .inl (cI, 4, .inl m_numbers))] sz) := by
  refine Met.ofW (cc := cX6_takesItem) (maxL := 7) (ret := (some .boolean)) (by decide) rfl ?_
  intro p e s m args below meth c s₁ B hml hv
  obtain ⟨rfl, hsz, hN, hP, hK, hD0⟩ := hv
  have hx := B.exec
  have hb := B.bytes
  have hr := B.returns
  have hts := atoms_spec (ws := wsX6_takesItem) B.pre
  have hown : s.vm.findClass RX6 = some m.cls := findClass_of_methodNamed B.named
  have hlocks := B.notSynchronized
  subst hsz
  have hD := hD0.self (sz := s.heap.size)
  generalize hAe : va_A [(a_m, .inr (6, [.ref a_m_w, .ref a_m_d, .int m_undoes, .int m_kept, .ref a_m_text, .int m_texted, .int m_at, .ref a_m_numbers, .ref a_m_then, .ref a_m_leans, .int m_draws, .int m_drawn, .int m_heards, .ref a_m_heardSet, .ref a_m_heardSum])), (a_m_w, .inl (cI, 106, .inl m_w)), (a_m_text, .inl (cI, 200, .inl m_text)), (a_m_numbers, .inl (cI, 4, .inl m_numbers))] s.heap.size = A at hD ⊢
  have hA : ∀ q : Nat, s.heap.size ≤ q → A q := fun q h => by rw [← hAe]; exact Or.inr h
  have hS : va_S A s.heap s.heap [] := va_S.rf
  generalize hQe : MQ below _ _ s _ _ A = QQ
  have hl := lv_entry ([.ref a_m]) (n := 7) (Nat.le_of_ble_eq_true rfl)
  rw [lg_entry_eq]
  generalize (lg_sl ([.ref a_m]) ++ List.replicate (7 - (lg_sl ([.ref a_m])).length) Slot.unset).toArray = ls at hl ⊢
  have hl : lv_has ls 7 [(0, .ref a_m)] := hl
  have f_65 := hts (.fieldLink RX6 65 "RoundOfTheAModel" "at" "I") (by decide +kernel)
  have in_X6 := (by decide +kernel : ∀ w ∈ wsX60, w ∈ wsX6_takesItem)
  have f_19 := hts (.fieldLink RX6 19 "RoundOfTheAModel" "numbers" "[I") (by decide +kernel)
  have k_80 := hts (.constantLong RX6 80 (60)) (by decide +kernel)
  have f_7 := hts (.fieldLink RX6 7 "RoundOfTheAModel" "w" "[I") (by decide +kernel)
  have k_85 := hts (.constantLong RX6 85 (20)) (by decide +kernel)
  rw [F_X6_takesItem] at h
  refine lv_aload_n hx hb dX6_takesItem_0 rfl (lv_at hl 0 rfl) ?_
  refine lv_aload_n hx hb dX6_takesItem_1 rfl (lv_at hl 0 rfl) ?_
  refine va_get (D := (dC, dI)) (ci := 6) (v := .int m_at) (C := RX6) (T := TX6) (N := 15) hx hb hts in_X6 hown hK hP 0 rfl rfl 6 (by decide) f_65 (fun _ h9 => h9) rfl dX6_takesItem_2 ?_
  obtain ⟨r3139, hr3139, h⟩ := ob h
  refine k_Vi (As := [.int m_at]) (rest := []) (wr := [(a_m_w, .inl (cI, 106, .inl m_w)), (a_m_numbers, .inl (cI, 4, .inl m_numbers))]) (c_X6_letterAt l dC dI cI cS n _ a_m a_m_w a_m_d a_m_text a_m_numbers a_m_then a_m_leans a_m_heardSet a_m_heardSum m_undoes m_kept m_text m_texted m_at m_draws m_drawn m_heards m_at r3139 hr3139) (fun _ _ q => q) ⟨hx, hb, hml, hown, hts⟩ (cwV 1 hts gX6_takesItem_X6_letterAt rfl rfl rfl (by decide +kernel) ⟨(Nat.le_of_ble_eq_true rfl), (Nat.le_of_ble_eq_true rfl)⟩) hN hK hP hD hS hA [0, 2] [1, 3] rfl rfl (by decide) (by decide) (by decide) rfl rfl rfl hl.1 rfl (Nat.le_of_ble_eq_true rfl) dX6_takesItem_5 ⟨(Nat.le_of_ble_eq_true rfl), (Nat.le_of_ble_eq_true rfl)⟩ (fun u3140 H locs _ hP hD hS => ?_)
  have hP : va_P (dC, dI) vwCl [(a_m_w, .inl (cI, 106, .inl m_w)), (a_m_numbers, .inl (cI, 4, .inl m_numbers)), (a_m, .inr (6, [.ref a_m_w, .ref a_m_d, .int m_undoes, .int m_kept, .ref a_m_text, .int m_texted, .int m_at, .ref a_m_numbers, .ref a_m_then, .ref a_m_leans, .int m_draws, .int m_drawn, .int m_heards, .ref a_m_heardSet, .ref a_m_heardSum])), (a_m_text, .inl (cI, 200, .inl m_text))] H := hP
  have hD : va_D A [(a_m_w, .inl (cI, 106, .inl m_w)), (a_m_numbers, .inl (cI, 4, .inl m_numbers)), (a_m, .inr (6, [.ref a_m_w, .ref a_m_d, .int m_undoes, .int m_kept, .ref a_m_text, .int m_texted, .int m_at, .ref a_m_numbers, .ref a_m_then, .ref a_m_leans, .int m_draws, .int m_drawn, .int m_heards, .ref a_m_heardSet, .ref a_m_heardSum])), (a_m_text, .inl (cI, 200, .inl m_text))] := hD
  refine lv_istore_n (lv' := [(1, .int r3139), (0, .ref a_m)]) hx hb dX6_takesItem_8 rfl hl (by decide) rfl (fun ls hl => ?_)
  refine lv_aload_n hx hb dX6_takesItem_9 rfl (lv_at hl 1 rfl) ?_
  refine lv_dup hx hb dX6_takesItem_10 rfl ?_
  refine va_get (D := (dC, dI)) (ci := 6) (v := .int m_at) (C := RX6) (T := TX6) (N := 15) hx hb hts in_X6 hown hK hP 2 rfl rfl 6 (by decide) f_65 (fun _ h9 => h9) rfl dX6_takesItem_11 ?_
  refine lv_iconst (v := (1 : Int32)) hx hb dX6_takesItem_14 (by decide) ?_
  refine lv_iadd hx hb dX6_takesItem_15 ?_
  refine va_put (D := (dC, dI)) (ci := 6) (v := .int (m_at + (1 : Int32))) (ty := .int) (C := RX6) (T := TX6) (N := 15) hx hb hts in_X6 tyX6 tyX6_ok nmX6 hown hK hP hD hS 2 rfl rfl 6 (by decide) f_65 (fun _ h9 => h9) rfl (by decide +kernel) rfl rfl (Nat.le_of_ble_eq_true rfl) dX6_takesItem_16 (fun H locs hP hD hS => ?_)
  have hP : va_P (dC, dI) vwCl [(a_m_w, .inl (cI, 106, .inl m_w)), (a_m_numbers, .inl (cI, 4, .inl m_numbers)), (a_m, .inr (6, [.ref a_m_w, .ref a_m_d, .int m_undoes, .int m_kept, .ref a_m_text, .int m_texted, .int (m_at + (1 : Int32)), .ref a_m_numbers, .ref a_m_then, .ref a_m_leans, .int m_draws, .int m_drawn, .int m_heards, .ref a_m_heardSet, .ref a_m_heardSum])), (a_m_text, .inl (cI, 200, .inl m_text))] H := hP
  have hD : va_D A [(a_m_w, .inl (cI, 106, .inl m_w)), (a_m_numbers, .inl (cI, 4, .inl m_numbers)), (a_m, .inr (6, [.ref a_m_w, .ref a_m_d, .int m_undoes, .int m_kept, .ref a_m_text, .int m_texted, .int (m_at + (1 : Int32)), .ref a_m_numbers, .ref a_m_then, .ref a_m_leans, .int m_draws, .int m_drawn, .int m_heards, .ref a_m_heardSet, .ref a_m_heardSum])), (a_m_text, .inl (cI, 200, .inl m_text))] := hD
  refine lv_iload_n hx hb dX6_takesItem_19 rfl (lv_at hl 0 rfl) ?_
  by_cases e_20_100 : r3139 = (100 : Int32)
  · have h := (if_pos e_20_100).symm.trans h
    refine lv_tableIn (off := 96) (tgt := 116) hx hb dX6_takesItem_20 (by rw [e_20_100]; decide) (by rw [e_20_100]; decide) (by rw [e_20_100]; rfl) (by decide) ?_
    refine lv_aload_n hx hb dX6_takesItem_116 rfl (lv_at hl 1 rfl) ?_
    refine lv_iconst (v := (4 : Int32)) hx hb dX6_takesItem_117 (by decide) ?_
    obtain ⟨r3141, hr3141, h⟩ := ob h
    refine k_Vi (As := [.int (4 : Int32)]) (rest := []) (wr := [(a_m_w, .inl (cI, 106, .inl m_w))]) (c_X6_takesNumbers l dC dI cI cS n _ a_m a_m_w a_m_d a_m_text a_m_numbers a_m_then a_m_leans a_m_heardSet a_m_heardSum m_undoes m_kept m_text m_texted (m_at + (1 : Int32)) m_numbers m_draws m_drawn m_heards (4 : Int32) r3141 hr3141) (fun _ _ q => q) ⟨hx, hb, hml, hown, hts⟩ (cwV 1 hts gX6_takesItem_X6_takesNumbers rfl rfl rfl (by decide +kernel) ⟨(Nat.le_of_ble_eq_true rfl), (Nat.le_of_ble_eq_true rfl)⟩) hN hK hP hD hS hA [2, 3, 1] [0] rfl rfl (by decide) (by decide) (by decide) rfl rfl rfl hl.1 rfl (Nat.le_of_ble_eq_true rfl) dX6_takesItem_118 ⟨(Nat.le_of_ble_eq_true rfl), (Nat.le_of_ble_eq_true rfl)⟩ (fun u3142 H locs _ hP hD hS => ?_)
    have hP : va_P (dC, dI) vwCl [(a_m_w, .inl (cI, 106, .inl m_w)), (a_m, .inr (6, [.ref a_m_w, .ref a_m_d, .int m_undoes, .int m_kept, .ref a_m_text, .int m_texted, .int r3141.2.1, .ref a_m_numbers, .ref a_m_then, .ref a_m_leans, .int m_draws, .int m_drawn, .int m_heards, .ref a_m_heardSet, .ref a_m_heardSum])), (a_m_text, .inl (cI, 200, .inl m_text)), (a_m_numbers, .inl (cI, 4, .inl r3141.2.2))] H := hP
    have hD : va_D A [(a_m_w, .inl (cI, 106, .inl m_w)), (a_m, .inr (6, [.ref a_m_w, .ref a_m_d, .int m_undoes, .int m_kept, .ref a_m_text, .int m_texted, .int r3141.2.1, .ref a_m_numbers, .ref a_m_then, .ref a_m_leans, .int m_draws, .int m_drawn, .int m_heards, .ref a_m_heardSet, .ref a_m_heardSum])), (a_m_text, .inl (cI, 200, .inl m_text)), (a_m_numbers, .inl (cI, 4, .inl r3141.2.2))] := hD
    refine lv_if_eq (tgt := 208) hx hb dX6_takesItem_121 (by decide) (fun c_121 => ?_) (fun c_121 => ?_)
    · have h := (if_pos c_121).symm.trans h
      refine lv_iconst (v := (0 : Int32)) hx hb dX6_takesItem_208 (by decide) ?_
      obtain rfl := Option.some.inj h
      subst hQe
      exact W.zret (v := (0 : Int32)) (ty := .boolean) hx hb hr rfl (fun t ht hW => ⟨⟨(0 : Int32), (), rfl, rfl, ⟨by rw [ht]; exact hP.sub [1, 0, 2, 3] rfl, hD.sub [1, 0, 2, 3] (by decide +kernel) rfl⟩⟩, hS.F ht⟩) hS.2.2 dX6_takesItem_209
    · have h := (if_neg c_121).symm.trans h
      refine lv_aload_n hx hb dX6_takesItem_124 rfl (lv_at hl 1 rfl) ?_
      refine va_get (D := (dC, dI)) (ci := 6) (v := .ref a_m_numbers) (C := RX6) (T := TX6) (N := 15) hx hb hts in_X6 hown hK hP 1 rfl rfl 7 (by decide) f_19 (fun _ h9 => h9) rfl dX6_takesItem_125 ?_
      refine lv_iconst (v := (0 : Int32)) hx hb dX6_takesItem_128 (by decide) ?_
      obtain ⟨v3143, hv3143, h⟩ := ob h
      refine k_ld hx hb hK hP 3 0 rfl rfl hv3143 dX6_takesItem_129 ?_
      refine lv_iconst (v := (4 : Int32)) hx hb dX6_takesItem_130 (by decide) ?_
      refine lv_icmp_ge (tgt := 208) hx hb dX6_takesItem_131 (by decide) (fun c_131 => ?_) (fun c_131 => ?_)
      · have h := (if_pos c_131).symm.trans h
        refine lv_iconst (v := (0 : Int32)) hx hb dX6_takesItem_208 (by decide) ?_
        obtain rfl := Option.some.inj h
        subst hQe
        exact W.zret (v := (0 : Int32)) (ty := .boolean) hx hb hr rfl (fun t ht hW => ⟨⟨(0 : Int32), (), rfl, rfl, ⟨by rw [ht]; exact hP.sub [1, 0, 2, 3] rfl, hD.sub [1, 0, 2, 3] (by decide +kernel) rfl⟩⟩, hS.F ht⟩) hS.2.2 dX6_takesItem_209
      · have h := (if_neg c_131).symm.trans h
        refine lv_aload_n hx hb dX6_takesItem_134 rfl (lv_at hl 1 rfl) ?_
        refine va_get (D := (dC, dI)) (ci := 6) (v := .ref a_m_numbers) (C := RX6) (T := TX6) (N := 15) hx hb hts in_X6 hown hK hP 1 rfl rfl 7 (by decide) f_19 (fun _ h9 => h9) rfl dX6_takesItem_135 ?_
        refine lv_iconst (v := (1 : Int32)) hx hb dX6_takesItem_138 (by decide) ?_
        obtain ⟨v3144, hv3144, h⟩ := ob h
        refine k_ld hx hb hK hP 3 0 rfl rfl hv3144 dX6_takesItem_139 ?_
        refine lv_bipush (v := (7 : Int32)) hx hb dX6_takesItem_140 (by decide) ?_
        refine lv_icmp_ge (tgt := 208) hx hb dX6_takesItem_142 (by decide) (fun c_142 => ?_) (fun c_142 => ?_)
        · have h := (if_pos c_142).symm.trans h
          refine lv_iconst (v := (0 : Int32)) hx hb dX6_takesItem_208 (by decide) ?_
          obtain rfl := Option.some.inj h
          subst hQe
          exact W.zret (v := (0 : Int32)) (ty := .boolean) hx hb hr rfl (fun t ht hW => ⟨⟨(0 : Int32), (), rfl, rfl, ⟨by rw [ht]; exact hP.sub [1, 0, 2, 3] rfl, hD.sub [1, 0, 2, 3] (by decide +kernel) rfl⟩⟩, hS.F ht⟩) hS.2.2 dX6_takesItem_209
        · have h := (if_neg c_142).symm.trans h
          refine lv_aload_n hx hb dX6_takesItem_145 rfl (lv_at hl 1 rfl) ?_
          refine va_get (D := (dC, dI)) (ci := 6) (v := .ref a_m_numbers) (C := RX6) (T := TX6) (N := 15) hx hb hts in_X6 hown hK hP 1 rfl rfl 7 (by decide) f_19 (fun _ h9 => h9) rfl dX6_takesItem_146 ?_
          refine lv_iconst (v := (2 : Int32)) hx hb dX6_takesItem_149 (by decide) ?_
          obtain ⟨v3145, hv3145, h⟩ := ob h
          refine k_ld hx hb hK hP 3 0 rfl rfl hv3145 dX6_takesItem_150 ?_
          refine lv_i2l (v := (Int32.toInt64 v3145)) hx hb dX6_takesItem_151 rfl ?_
          refine lv_lconst (v := (1 : Int64)) hx hb dX6_takesItem_152 (by decide) ?_
          refine lv_ldc2 (v := (60 : Int64)) hx hb hown k_80 dX6_takesItem_153 ?_
          obtain ⟨r3146, hr3146, h⟩ := ob h
          refine k_Si (As := [.long (Int32.toInt64 v3145), .long (1 : Int64), .long (60 : Int64)]) (rest := []) (c_X6_in l dC dI cI cS n _ (Int32.toInt64 v3145) (1 : Int64) (60 : Int64) r3146 hr3146) (fun _ _ q => q) ⟨hx, hb, hml, hown, hts⟩ (va_cwS 3 hts gX6_takesItem_X6_in rfl rfl rfl (by decide +kernel) ⟨(Nat.le_of_ble_eq_true rfl), (Nat.le_of_ble_eq_true rfl)⟩) hN hK hP hD hS hA rfl hl.1 rfl (Nat.le_of_ble_eq_true rfl) dX6_takesItem_156 ⟨(Nat.le_of_ble_eq_true rfl), (Nat.le_of_ble_eq_true rfl)⟩ (fun H locs hP hD hS => ?_)
          refine lv_if_eq (tgt := 208) hx hb dX6_takesItem_159 (by decide) (fun c_159 => ?_) (fun c_159 => ?_)
          · have h := (if_pos c_159).symm.trans h
            refine lv_iconst (v := (0 : Int32)) hx hb dX6_takesItem_208 (by decide) ?_
            obtain rfl := Option.some.inj h
            subst hQe
            exact W.zret (v := (0 : Int32)) (ty := .boolean) hx hb hr rfl (fun t ht hW => ⟨⟨(0 : Int32), (), rfl, rfl, ⟨by rw [ht]; exact hP.sub [1, 0, 2, 3] rfl, hD.sub [1, 0, 2, 3] (by decide +kernel) rfl⟩⟩, hS.F ht⟩) hS.2.2 dX6_takesItem_209
          · have h := (if_neg c_159).symm.trans h
            refine lv_aload_n hx hb dX6_takesItem_162 rfl (lv_at hl 1 rfl) ?_
            refine va_get (D := (dC, dI)) (ci := 6) (v := .ref a_m_numbers) (C := RX6) (T := TX6) (N := 15) hx hb hts in_X6 hown hK hP 1 rfl rfl 7 (by decide) f_19 (fun _ h9 => h9) rfl dX6_takesItem_163 ?_
            refine lv_iconst (v := (3 : Int32)) hx hb dX6_takesItem_166 (by decide) ?_
            obtain ⟨v3148, hv3148, h⟩ := ob h
            refine k_ld hx hb hK hP 3 0 rfl rfl hv3148 dX6_takesItem_167 ?_
            refine lv_bipush (v := (10 : Int32)) hx hb dX6_takesItem_168 (by decide) ?_
            refine lv_icmp_ge (tgt := 208) hx hb dX6_takesItem_170 (by decide) (fun c_170 => ?_) (fun c_170 => ?_)
            · have h := (if_pos c_170).symm.trans h
              refine lv_iconst (v := (0 : Int32)) hx hb dX6_takesItem_208 (by decide) ?_
              obtain rfl := Option.some.inj h
              subst hQe
              exact W.zret (v := (0 : Int32)) (ty := .boolean) hx hb hr rfl (fun t ht hW => ⟨⟨(0 : Int32), (), rfl, rfl, ⟨by rw [ht]; exact hP.sub [1, 0, 2, 3] rfl, hD.sub [1, 0, 2, 3] (by decide +kernel) rfl⟩⟩, hS.F ht⟩) hS.2.2 dX6_takesItem_209
            · have h := (if_neg c_170).symm.trans h
              refine lv_aload_n hx hb dX6_takesItem_173 rfl (lv_at hl 1 rfl) ?_
              refine lv_aload_n hx hb dX6_takesItem_174 rfl (lv_at hl 1 rfl) ?_
              refine va_get (D := (dC, dI)) (ci := 6) (v := .ref a_m_numbers) (C := RX6) (T := TX6) (N := 15) hx hb hts in_X6 hown hK hP 1 rfl rfl 7 (by decide) f_19 (fun _ h9 => h9) rfl dX6_takesItem_175 ?_
              refine lv_iconst (v := (0 : Int32)) hx hb dX6_takesItem_178 (by decide) ?_
              obtain ⟨v3149, hv3149, h⟩ := ob h
              refine k_ld hx hb hK hP 3 0 rfl rfl hv3149 dX6_takesItem_179 ?_
              refine lv_aload_n hx hb dX6_takesItem_180 rfl (lv_at hl 1 rfl) ?_
              refine va_get (D := (dC, dI)) (ci := 6) (v := .ref a_m_numbers) (C := RX6) (T := TX6) (N := 15) hx hb hts in_X6 hown hK hP 1 rfl rfl 7 (by decide) f_19 (fun _ h9 => h9) rfl dX6_takesItem_181 ?_
              refine lv_iconst (v := (1 : Int32)) hx hb dX6_takesItem_184 (by decide) ?_
              obtain ⟨v3150, hv3150, h⟩ := ob h
              refine k_ld hx hb hK hP 3 0 rfl rfl hv3150 dX6_takesItem_185 ?_
              refine lv_aload_n hx hb dX6_takesItem_186 rfl (lv_at hl 1 rfl) ?_
              refine va_get (D := (dC, dI)) (ci := 6) (v := .ref a_m_numbers) (C := RX6) (T := TX6) (N := 15) hx hb hts in_X6 hown hK hP 1 rfl rfl 7 (by decide) f_19 (fun _ h9 => h9) rfl dX6_takesItem_187 ?_
              refine lv_iconst (v := (2 : Int32)) hx hb dX6_takesItem_190 (by decide) ?_
              obtain ⟨v3151, hv3151, h⟩ := ob h
              refine k_ld hx hb hK hP 3 0 rfl rfl hv3151 dX6_takesItem_191 ?_
              refine lv_aload_n hx hb dX6_takesItem_192 rfl (lv_at hl 1 rfl) ?_
              refine va_get (D := (dC, dI)) (ci := 6) (v := .ref a_m_numbers) (C := RX6) (T := TX6) (N := 15) hx hb hts in_X6 hown hK hP 1 rfl rfl 7 (by decide) f_19 (fun _ h9 => h9) rfl dX6_takesItem_193 ?_
              refine lv_iconst (v := (3 : Int32)) hx hb dX6_takesItem_196 (by decide) ?_
              obtain ⟨v3152, hv3152, h⟩ := ob h
              refine k_ld hx hb hK hP 3 0 rfl rfl hv3152 dX6_takesItem_197 ?_
              obtain ⟨r3153, hr3153, h⟩ := ob h
              refine k_Vi (As := [.int v3149, .int v3150, .int v3151, .int v3152]) (rest := []) (wr := [(a_m_text, .inl (cI, 200, .inl m_text)), (a_m_numbers, .inl (cI, 4, .inl r3141.2.2))]) (c_X6_adds l dC dI cI cS n _ a_m a_m_w a_m_d a_m_text a_m_numbers a_m_then a_m_leans a_m_heardSet a_m_heardSum m_w m_undoes m_kept m_texted r3141.2.1 m_draws m_drawn m_heards v3149 v3150 v3151 v3152 r3153 hr3153) (fun _ _ q => q) ⟨hx, hb, hml, hown, hts⟩ (cwV 4 hts gX6_takesItem_X6_adds rfl rfl rfl (by decide +kernel) ⟨(Nat.le_of_ble_eq_true rfl), (Nat.le_of_ble_eq_true rfl)⟩) hN hK hP hD hS hA [1, 0] [2, 3] rfl rfl (by decide) (by decide) (by decide) rfl rfl rfl hl.1 rfl (Nat.le_of_ble_eq_true rfl) dX6_takesItem_198 ⟨(Nat.le_of_ble_eq_true rfl), (Nat.le_of_ble_eq_true rfl)⟩ (fun u3154 H locs _ hP hD hS => ?_)
              have hP : va_P (dC, dI) vwCl [(a_m_text, .inl (cI, 200, .inl m_text)), (a_m_numbers, .inl (cI, 4, .inl r3141.2.2)), (a_m, .inr (6, [.ref a_m_w, .ref a_m_d, .int m_undoes, .int m_kept, .ref a_m_text, .int m_texted, .int r3141.2.1, .ref a_m_numbers, .ref a_m_then, .ref a_m_leans, .int m_draws, .int m_drawn, .int m_heards, .ref a_m_heardSet, .ref a_m_heardSum])), (a_m_w, .inl (cI, 106, .inl r3153.2))] H := hP
              have hD : va_D A [(a_m_text, .inl (cI, 200, .inl m_text)), (a_m_numbers, .inl (cI, 4, .inl r3141.2.2)), (a_m, .inr (6, [.ref a_m_w, .ref a_m_d, .int m_undoes, .int m_kept, .ref a_m_text, .int m_texted, .int r3141.2.1, .ref a_m_numbers, .ref a_m_then, .ref a_m_leans, .int m_draws, .int m_drawn, .int m_heards, .ref a_m_heardSet, .ref a_m_heardSum])), (a_m_w, .inl (cI, 106, .inl r3153.2))] := hD
              refine lv_if_eq (tgt := 208) hx hb dX6_takesItem_201 (by decide) (fun c_201 => ?_) (fun c_201 => ?_)
              · have h := (if_pos c_201).symm.trans h
                refine lv_iconst (v := (0 : Int32)) hx hb dX6_takesItem_208 (by decide) ?_
                obtain rfl := Option.some.inj h
                subst hQe
                exact W.zret (v := (0 : Int32)) (ty := .boolean) hx hb hr rfl (fun t ht hW => ⟨⟨(0 : Int32), (), rfl, rfl, ⟨by rw [ht]; exact hP.sub [2, 3, 0, 1] rfl, hD.sub [2, 3, 0, 1] (by decide +kernel) rfl⟩⟩, hS.F ht⟩) hS.2.2 dX6_takesItem_209
              · have h := (if_neg c_201).symm.trans h
                refine lv_iconst (v := (1 : Int32)) hx hb dX6_takesItem_204 (by decide) ?_
                refine lv_goto (tgt := 209) hx hb dX6_takesItem_205 (by decide) ?_
                obtain rfl := Option.some.inj h
                subst hQe
                exact W.zret (v := (1 : Int32)) (ty := .boolean) hx hb hr rfl (fun t ht hW => ⟨⟨(1 : Int32), (), rfl, rfl, ⟨by rw [ht]; exact hP.sub [2, 3, 0, 1] rfl, hD.sub [2, 3, 0, 1] (by decide +kernel) rfl⟩⟩, hS.F ht⟩) hS.2.2 dX6_takesItem_209
  have h := (if_neg e_20_100).symm.trans h
  by_cases e_20_103 : r3139 = (103 : Int32)
  · have h := (if_pos e_20_103).symm.trans h
    refine lv_tableIn (off := 190) (tgt := 210) hx hb dX6_takesItem_20 (by rw [e_20_103]; decide) (by rw [e_20_103]; decide) (by rw [e_20_103]; rfl) (by decide) ?_
    refine lv_aload_n hx hb dX6_takesItem_210 rfl (lv_at hl 1 rfl) ?_
    refine lv_iconst (v := (2 : Int32)) hx hb dX6_takesItem_211 (by decide) ?_
    obtain ⟨r3155, hr3155, h⟩ := ob h
    refine k_Vi (As := [.int (2 : Int32)]) (rest := []) (wr := [(a_m_w, .inl (cI, 106, .inl m_w))]) (c_X6_takesNumbers l dC dI cI cS n _ a_m a_m_w a_m_d a_m_text a_m_numbers a_m_then a_m_leans a_m_heardSet a_m_heardSum m_undoes m_kept m_text m_texted (m_at + (1 : Int32)) m_numbers m_draws m_drawn m_heards (2 : Int32) r3155 hr3155) (fun _ _ q => q) ⟨hx, hb, hml, hown, hts⟩ (cwV 1 hts gX6_takesItem_X6_takesNumbers rfl rfl rfl (by decide +kernel) ⟨(Nat.le_of_ble_eq_true rfl), (Nat.le_of_ble_eq_true rfl)⟩) hN hK hP hD hS hA [2, 3, 1] [0] rfl rfl (by decide) (by decide) (by decide) rfl rfl rfl hl.1 rfl (Nat.le_of_ble_eq_true rfl) dX6_takesItem_212 ⟨(Nat.le_of_ble_eq_true rfl), (Nat.le_of_ble_eq_true rfl)⟩ (fun u3156 H locs _ hP hD hS => ?_)
    have hP : va_P (dC, dI) vwCl [(a_m_w, .inl (cI, 106, .inl m_w)), (a_m, .inr (6, [.ref a_m_w, .ref a_m_d, .int m_undoes, .int m_kept, .ref a_m_text, .int m_texted, .int r3155.2.1, .ref a_m_numbers, .ref a_m_then, .ref a_m_leans, .int m_draws, .int m_drawn, .int m_heards, .ref a_m_heardSet, .ref a_m_heardSum])), (a_m_text, .inl (cI, 200, .inl m_text)), (a_m_numbers, .inl (cI, 4, .inl r3155.2.2))] H := hP
    have hD : va_D A [(a_m_w, .inl (cI, 106, .inl m_w)), (a_m, .inr (6, [.ref a_m_w, .ref a_m_d, .int m_undoes, .int m_kept, .ref a_m_text, .int m_texted, .int r3155.2.1, .ref a_m_numbers, .ref a_m_then, .ref a_m_leans, .int m_draws, .int m_drawn, .int m_heards, .ref a_m_heardSet, .ref a_m_heardSum])), (a_m_text, .inl (cI, 200, .inl m_text)), (a_m_numbers, .inl (cI, 4, .inl r3155.2.2))] := hD
    obtain ⟨j3161, hjj3161, h⟩ := ob h
    have Jj3161 : ∀ (H : Heap) (locs : List Loc), va_P (dC, dI) vwCl [(a_m_w, .inl (cI, 106, .inl m_w)), (a_m, .inr (6, [.ref a_m_w, .ref a_m_d, .int m_undoes, .int m_kept, .ref a_m_text, .int m_texted, .int r3155.2.1, .ref a_m_numbers, .ref a_m_then, .ref a_m_leans, .int m_draws, .int m_drawn, .int m_heards, .ref a_m_heardSet, .ref a_m_heardSum])), (a_m_text, .inl (cI, 200, .inl m_text)), (a_m_numbers, .inl (cI, 4, .inl r3155.2.2))] H → va_D A [(a_m_w, .inl (cI, 106, .inl m_w)), (a_m, .inr (6, [.ref a_m_w, .ref a_m_d, .int m_undoes, .int m_kept, .ref a_m_text, .int m_texted, .int r3155.2.1, .ref a_m_numbers, .ref a_m_then, .ref a_m_leans, .int m_draws, .int m_drawn, .int m_heards, .ref a_m_heardSet, .ref a_m_heardSum])), (a_m_text, .inl (cI, 200, .inl m_text)), (a_m_numbers, .inl (cI, 4, .inl r3155.2.2))] → va_S A s.heap H locs → ∀ ls : Array Slot, lv_has ls 7 [(0, .ref a_m), (1, .int r3139)] → W p l e (headSpec wsX6_takesItem rm_X6_takesItem).room s m ([.ref a_m] : List Value).toArray below meth c H locs 0 0 QQ (F0 m 246 ls [.int j3161]) := by
      intro H locs hP hD hS ls hl
      refine lv_istore_n (lv' := [(2, .int j3161), (0, .ref a_m), (1, .int r3139)]) hx hb dX6_takesItem_246 rfl hl (by decide) rfl (fun ls hl => ?_)
      refine lv_aload_n hx hb dX6_takesItem_247 rfl (lv_at hl 1 rfl) ?_
      refine va_get (D := (dC, dI)) (ci := 6) (v := .ref a_m_w) (C := RX6) (T := TX6) (N := 15) hx hb hts in_X6 hown hK hP 1 rfl rfl 0 (by decide) f_7 (fun _ h9 => h9) rfl dX6_takesItem_248 ?_
      refine lv_bipush (v := (86 : Int32)) hx hb dX6_takesItem_251 (by decide) ?_
      refine lv_iload_n hx hb dX6_takesItem_253 rfl (lv_at hl 0 rfl) ?_
      obtain ⟨j3167, hjj3167, h⟩ := ob h
      have Jj3167 : ∀ (H : Heap) (locs : List Loc), va_P (dC, dI) vwCl [(a_m_w, .inl (cI, 106, .inl m_w)), (a_m, .inr (6, [.ref a_m_w, .ref a_m_d, .int m_undoes, .int m_kept, .ref a_m_text, .int m_texted, .int r3155.2.1, .ref a_m_numbers, .ref a_m_then, .ref a_m_leans, .int m_draws, .int m_drawn, .int m_heards, .ref a_m_heardSet, .ref a_m_heardSum])), (a_m_text, .inl (cI, 200, .inl m_text)), (a_m_numbers, .inl (cI, 4, .inl r3155.2.2))] H → va_D A [(a_m_w, .inl (cI, 106, .inl m_w)), (a_m, .inr (6, [.ref a_m_w, .ref a_m_d, .int m_undoes, .int m_kept, .ref a_m_text, .int m_texted, .int r3155.2.1, .ref a_m_numbers, .ref a_m_then, .ref a_m_leans, .int m_draws, .int m_drawn, .int m_heards, .ref a_m_heardSet, .ref a_m_heardSum])), (a_m_text, .inl (cI, 200, .inl m_text)), (a_m_numbers, .inl (cI, 4, .inl r3155.2.2))] → va_S A s.heap H locs → ∀ ls : Array Slot, lv_has ls 7 [(0, .ref a_m), (1, .int r3139), (2, .int j3161)] → W p l e (headSpec wsX6_takesItem rm_X6_takesItem).room s m ([.ref a_m] : List Value).toArray below meth c H locs 0 0 QQ (F0 m 267 ls [.int j3167, .int (86 : Int32), .ref a_m_w]) := by
        intro H locs hP hD hS ls hl
        refine lv_iadd hx hb dX6_takesItem_267 ?_
        refine lv_iload_n hx hb dX6_takesItem_268 rfl (lv_at hl 2 rfl) ?_
        obtain ⟨j3170, hjj3170, h⟩ := ob h
        have Jj3170 : ∀ (H : Heap) (locs : List Loc), va_P (dC, dI) vwCl [(a_m_w, .inl (cI, 106, .inl m_w)), (a_m, .inr (6, [.ref a_m_w, .ref a_m_d, .int m_undoes, .int m_kept, .ref a_m_text, .int m_texted, .int r3155.2.1, .ref a_m_numbers, .ref a_m_then, .ref a_m_leans, .int m_draws, .int m_drawn, .int m_heards, .ref a_m_heardSet, .ref a_m_heardSum])), (a_m_text, .inl (cI, 200, .inl m_text)), (a_m_numbers, .inl (cI, 4, .inl r3155.2.2))] H → va_D A [(a_m_w, .inl (cI, 106, .inl m_w)), (a_m, .inr (6, [.ref a_m_w, .ref a_m_d, .int m_undoes, .int m_kept, .ref a_m_text, .int m_texted, .int r3155.2.1, .ref a_m_numbers, .ref a_m_then, .ref a_m_leans, .int m_draws, .int m_drawn, .int m_heards, .ref a_m_heardSet, .ref a_m_heardSum])), (a_m_text, .inl (cI, 200, .inl m_text)), (a_m_numbers, .inl (cI, 4, .inl r3155.2.2))] → va_S A s.heap H locs → ∀ ls : Array Slot, lv_has ls 7 [(0, .ref a_m), (1, .int r3139), (2, .int j3161)] → W p l e (headSpec wsX6_takesItem rm_X6_takesItem).room s m ([.ref a_m] : List Value).toArray below meth c H locs 0 0 QQ (F0 m 282 ls [.int j3170, .int ((86 : Int32) + j3167), .ref a_m_w]) := by
          intro H locs hP hD hS ls hl
          obtain ⟨g3172, hg3172, h⟩ := ob h
          refine k_st hx hb hK hP hD hS 0 0 rfl rfl hg3172 dX6_takesItem_282 (ws' := [(a_m_w, .inl (cI, 106, .inl g3172)), (a_m, .inr (6, [.ref a_m_w, .ref a_m_d, .int m_undoes, .int m_kept, .ref a_m_text, .int m_texted, .int r3155.2.1, .ref a_m_numbers, .ref a_m_then, .ref a_m_leans, .int m_draws, .int m_drawn, .int m_heards, .ref a_m_heardSet, .ref a_m_heardSum])), (a_m_text, .inl (cI, 200, .inl m_text)), (a_m_numbers, .inl (cI, 4, .inl r3155.2.2))]) rfl (fun H locs hP hD hS => ?_)
          refine lv_iload_n hx hb dX6_takesItem_283 rfl (lv_at hl 2 rfl) ?_
          obtain ⟨u3173, hu3173, h⟩ := ob h
          obtain rfl := Option.some.inj h
          subst hQe
          exact W.zret (v := j3161) (ty := .boolean) hx hb hr (zb_some hu3173) (fun t ht hW => ⟨⟨j3161, (), rfl, rfl, ⟨by rw [ht]; exact hP.sub [1, 0, 2, 3] rfl, hD.sub [1, 0, 2, 3] (by decide +kernel) rfl⟩⟩, hS.F ht⟩) hS.2.2 dX6_takesItem_284
        refine lv_if_eq (tgt := 281) hx hb dX6_takesItem_269 (by decide) (fun c_269 => ?_) (fun c_269 => ?_)
        · have h := (if_pos c_269).symm.trans hjj3170
          refine lv_iconst (v := (0 : Int32)) hx hb dX6_takesItem_281 (by decide) ?_
          obtain rfl := Option.some.inj h
          exact Jj3170 _ _ hP hD hS _ hl
        · have h := (if_neg c_269).symm.trans hjj3170
          refine lv_aload_n hx hb dX6_takesItem_272 rfl (lv_at hl 0 rfl) ?_
          refine va_get (D := (dC, dI)) (ci := 6) (v := .ref a_m_numbers) (C := RX6) (T := TX6) (N := 15) hx hb hts in_X6 hown hK hP 1 rfl rfl 7 (by decide) f_19 (fun _ h9 => h9) rfl dX6_takesItem_273 ?_
          refine lv_iconst (v := (1 : Int32)) hx hb dX6_takesItem_276 (by decide) ?_
          obtain ⟨v3171, hv3171, h⟩ := ob h
          refine k_ld hx hb hK hP 3 0 rfl rfl hv3171 dX6_takesItem_277 ?_
          refine lv_goto (tgt := 282) hx hb dX6_takesItem_278 (by decide) ?_
          obtain rfl := Option.some.inj h
          exact Jj3170 _ _ hP hD hS _ hl
      refine lv_if_eq (tgt := 266) hx hb dX6_takesItem_254 (by decide) (fun c_254 => ?_) (fun c_254 => ?_)
      · have h := (if_pos c_254).symm.trans hjj3167
        refine lv_iconst (v := (0 : Int32)) hx hb dX6_takesItem_266 (by decide) ?_
        obtain rfl := Option.some.inj h
        exact Jj3167 _ _ hP hD hS _ (lv_sub hl [1, 2, 0] rfl)
      · have h := (if_neg c_254).symm.trans hjj3167
        refine lv_aload_n hx hb dX6_takesItem_257 rfl (lv_at hl 1 rfl) ?_
        refine va_get (D := (dC, dI)) (ci := 6) (v := .ref a_m_numbers) (C := RX6) (T := TX6) (N := 15) hx hb hts in_X6 hown hK hP 1 rfl rfl 7 (by decide) f_19 (fun _ h9 => h9) rfl dX6_takesItem_258 ?_
        refine lv_iconst (v := (0 : Int32)) hx hb dX6_takesItem_261 (by decide) ?_
        obtain ⟨v3168, hv3168, h⟩ := ob h
        refine k_ld hx hb hK hP 3 0 rfl rfl hv3168 dX6_takesItem_262 ?_
        refine lv_goto (tgt := 267) hx hb dX6_takesItem_263 (by decide) ?_
        obtain rfl := Option.some.inj h
        exact Jj3167 _ _ hP hD hS _ (lv_sub hl [1, 2, 0] rfl)
    refine lv_if_eq (tgt := 245) hx hb dX6_takesItem_215 (by decide) (fun c_215 => ?_) (fun c_215 => ?_)
    · have h := (if_pos c_215).symm.trans hjj3161
      refine lv_iconst (v := (0 : Int32)) hx hb dX6_takesItem_245 (by decide) ?_
      obtain rfl := Option.some.inj h
      exact Jj3161 _ _ hP hD hS _ (lv_sub hl [1, 0] rfl)
    · have h := (if_neg c_215).symm.trans hjj3161
      refine lv_aload_n hx hb dX6_takesItem_218 rfl (lv_at hl 1 rfl) ?_
      refine lv_aload_n hx hb dX6_takesItem_219 rfl (lv_at hl 1 rfl) ?_
      refine va_get (D := (dC, dI)) (ci := 6) (v := .ref a_m_numbers) (C := RX6) (T := TX6) (N := 15) hx hb hts in_X6 hown hK hP 1 rfl rfl 7 (by decide) f_19 (fun _ h9 => h9) rfl dX6_takesItem_220 ?_
      refine lv_iconst (v := (0 : Int32)) hx hb dX6_takesItem_223 (by decide) ?_
      obtain ⟨v3162, hv3162, h⟩ := ob h
      refine k_ld hx hb hK hP 3 0 rfl rfl hv3162 dX6_takesItem_224 ?_
      obtain ⟨r3163, hr3163, h⟩ := ob h
      refine k_Vi (As := [.int v3162]) (rest := []) (wr := [(a_m_text, .inl (cI, 200, .inl m_text)), (a_m_numbers, .inl (cI, 4, .inl r3155.2.2))]) (c_X6_isTold l dC dI cI cS n _ a_m a_m_w a_m_d a_m_text a_m_numbers a_m_then a_m_leans a_m_heardSet a_m_heardSum m_w m_undoes m_kept m_texted r3155.2.1 m_draws m_drawn m_heards v3162 r3163 hr3163) (fun _ _ q => q) ⟨hx, hb, hml, hown, hts⟩ (cwV 1 hts gX6_takesItem_X6_isTold rfl rfl rfl (by decide +kernel) ⟨(Nat.le_of_ble_eq_true rfl), (Nat.le_of_ble_eq_true rfl)⟩) hN hK hP hD hS hA [1, 0] [2, 3] rfl rfl (by decide) (by decide) (by decide) rfl rfl rfl hl.1 rfl (Nat.le_of_ble_eq_true rfl) dX6_takesItem_225 ⟨(Nat.le_of_ble_eq_true rfl), (Nat.le_of_ble_eq_true rfl)⟩ (fun u3164 H locs _ hP hD hS => ?_)
      have hP : va_P (dC, dI) vwCl [(a_m_text, .inl (cI, 200, .inl m_text)), (a_m_numbers, .inl (cI, 4, .inl r3155.2.2)), (a_m, .inr (6, [.ref a_m_w, .ref a_m_d, .int m_undoes, .int m_kept, .ref a_m_text, .int m_texted, .int r3155.2.1, .ref a_m_numbers, .ref a_m_then, .ref a_m_leans, .int m_draws, .int m_drawn, .int m_heards, .ref a_m_heardSet, .ref a_m_heardSum])), (a_m_w, .inl (cI, 106, .inl m_w))] H := hP
      have hD : va_D A [(a_m_text, .inl (cI, 200, .inl m_text)), (a_m_numbers, .inl (cI, 4, .inl r3155.2.2)), (a_m, .inr (6, [.ref a_m_w, .ref a_m_d, .int m_undoes, .int m_kept, .ref a_m_text, .int m_texted, .int r3155.2.1, .ref a_m_numbers, .ref a_m_then, .ref a_m_leans, .int m_draws, .int m_drawn, .int m_heards, .ref a_m_heardSet, .ref a_m_heardSum])), (a_m_w, .inl (cI, 106, .inl m_w))] := hD
      refine lv_if_eq (tgt := 245) hx hb dX6_takesItem_228 (by decide) (fun c_228 => ?_) (fun c_228 => ?_)
      · have h := (if_pos c_228).symm.trans h
        refine lv_iconst (v := (0 : Int32)) hx hb dX6_takesItem_245 (by decide) ?_
        obtain rfl := Option.some.inj h
        exact Jj3161 _ _ (hP.sub [3, 2, 0, 1] rfl) (hD.sub [3, 2, 0, 1] (by decide +kernel) rfl) hS _ (lv_sub hl [1, 0] rfl)
      · have h := (if_neg c_228).symm.trans h
        refine lv_aload_n hx hb dX6_takesItem_231 rfl (lv_at hl 1 rfl) ?_
        refine va_get (D := (dC, dI)) (ci := 6) (v := .ref a_m_numbers) (C := RX6) (T := TX6) (N := 15) hx hb hts in_X6 hown hK hP 2 rfl rfl 7 (by decide) f_19 (fun _ h9 => h9) rfl dX6_takesItem_232 ?_
        refine lv_iconst (v := (1 : Int32)) hx hb dX6_takesItem_235 (by decide) ?_
        obtain ⟨v3165, hv3165, h⟩ := ob h
        refine k_ld hx hb hK hP 1 0 rfl rfl hv3165 dX6_takesItem_236 ?_
        refine lv_iconst (v := (5 : Int32)) hx hb dX6_takesItem_237 (by decide) ?_
        refine lv_icmp_ge (tgt := 245) hx hb dX6_takesItem_238 (by decide) (fun c_238 => ?_) (fun c_238 => ?_)
        · have h := (if_pos c_238).symm.trans h
          refine lv_iconst (v := (0 : Int32)) hx hb dX6_takesItem_245 (by decide) ?_
          obtain rfl := Option.some.inj h
          exact Jj3161 _ _ (hP.sub [3, 2, 0, 1] rfl) (hD.sub [3, 2, 0, 1] (by decide +kernel) rfl) hS _ (lv_sub hl [1, 0] rfl)
        · have h := (if_neg c_238).symm.trans h
          refine lv_iconst (v := (1 : Int32)) hx hb dX6_takesItem_241 (by decide) ?_
          refine lv_goto (tgt := 246) hx hb dX6_takesItem_242 (by decide) ?_
          obtain rfl := Option.some.inj h
          exact Jj3161 _ _ (hP.sub [3, 2, 0, 1] rfl) (hD.sub [3, 2, 0, 1] (by decide +kernel) rfl) hS _ (lv_sub hl [1, 0] rfl)
  have h := (if_neg e_20_103).symm.trans h
  by_cases e_20_104 : r3139 = (104 : Int32)
  · have h := (if_pos e_20_104).symm.trans h
    refine lv_tableIn (off := 447) (tgt := 467) hx hb dX6_takesItem_20 (by rw [e_20_104]; decide) (by rw [e_20_104]; decide) (by rw [e_20_104]; rfl) (by decide) ?_
    refine lv_aload_n hx hb dX6_takesItem_467 rfl (lv_at hl 1 rfl) ?_
    refine lv_iconst (v := (1 : Int32)) hx hb dX6_takesItem_468 (by decide) ?_
    obtain ⟨r3174, hr3174, h⟩ := ob h
    refine k_Vi (As := [.int (1 : Int32)]) (rest := []) (wr := [(a_m_w, .inl (cI, 106, .inl m_w))]) (c_X6_takesNumbers l dC dI cI cS n _ a_m a_m_w a_m_d a_m_text a_m_numbers a_m_then a_m_leans a_m_heardSet a_m_heardSum m_undoes m_kept m_text m_texted (m_at + (1 : Int32)) m_numbers m_draws m_drawn m_heards (1 : Int32) r3174 hr3174) (fun _ _ q => q) ⟨hx, hb, hml, hown, hts⟩ (cwV 1 hts gX6_takesItem_X6_takesNumbers rfl rfl rfl (by decide +kernel) ⟨(Nat.le_of_ble_eq_true rfl), (Nat.le_of_ble_eq_true rfl)⟩) hN hK hP hD hS hA [2, 3, 1] [0] rfl rfl (by decide) (by decide) (by decide) rfl rfl rfl hl.1 rfl (Nat.le_of_ble_eq_true rfl) dX6_takesItem_469 ⟨(Nat.le_of_ble_eq_true rfl), (Nat.le_of_ble_eq_true rfl)⟩ (fun u3175 H locs _ hP hD hS => ?_)
    have hP : va_P (dC, dI) vwCl [(a_m_w, .inl (cI, 106, .inl m_w)), (a_m, .inr (6, [.ref a_m_w, .ref a_m_d, .int m_undoes, .int m_kept, .ref a_m_text, .int m_texted, .int r3174.2.1, .ref a_m_numbers, .ref a_m_then, .ref a_m_leans, .int m_draws, .int m_drawn, .int m_heards, .ref a_m_heardSet, .ref a_m_heardSum])), (a_m_text, .inl (cI, 200, .inl m_text)), (a_m_numbers, .inl (cI, 4, .inl r3174.2.2))] H := hP
    have hD : va_D A [(a_m_w, .inl (cI, 106, .inl m_w)), (a_m, .inr (6, [.ref a_m_w, .ref a_m_d, .int m_undoes, .int m_kept, .ref a_m_text, .int m_texted, .int r3174.2.1, .ref a_m_numbers, .ref a_m_then, .ref a_m_leans, .int m_draws, .int m_drawn, .int m_heards, .ref a_m_heardSet, .ref a_m_heardSum])), (a_m_text, .inl (cI, 200, .inl m_text)), (a_m_numbers, .inl (cI, 4, .inl r3174.2.2))] := hD
    obtain ⟨j3179, hjj3179, h⟩ := ob h
    have Jj3179 : ∀ (H : Heap) (locs : List Loc), va_P (dC, dI) vwCl [(a_m_w, .inl (cI, 106, .inl m_w)), (a_m, .inr (6, [.ref a_m_w, .ref a_m_d, .int m_undoes, .int m_kept, .ref a_m_text, .int m_texted, .int r3174.2.1, .ref a_m_numbers, .ref a_m_then, .ref a_m_leans, .int m_draws, .int m_drawn, .int m_heards, .ref a_m_heardSet, .ref a_m_heardSum])), (a_m_text, .inl (cI, 200, .inl m_text)), (a_m_numbers, .inl (cI, 4, .inl r3174.2.2))] H → va_D A [(a_m_w, .inl (cI, 106, .inl m_w)), (a_m, .inr (6, [.ref a_m_w, .ref a_m_d, .int m_undoes, .int m_kept, .ref a_m_text, .int m_texted, .int r3174.2.1, .ref a_m_numbers, .ref a_m_then, .ref a_m_leans, .int m_draws, .int m_drawn, .int m_heards, .ref a_m_heardSet, .ref a_m_heardSum])), (a_m_text, .inl (cI, 200, .inl m_text)), (a_m_numbers, .inl (cI, 4, .inl r3174.2.2))] → va_S A s.heap H locs → ∀ ls : Array Slot, lv_has ls 7 [(0, .ref a_m), (1, .int r3139)] → W p l e (headSpec wsX6_takesItem rm_X6_takesItem).room s m ([.ref a_m] : List Value).toArray below meth c H locs 0 0 QQ (F0 m 497 ls [.int j3179]) := by
      intro H locs hP hD hS ls hl
      refine lv_istore (lv' := [(6, .int j3179), (0, .ref a_m), (1, .int r3139)]) hx hb dX6_takesItem_497 hl (by decide) rfl (fun ls hl => ?_)
      refine lv_aload_n hx hb dX6_takesItem_499 rfl (lv_at hl 1 rfl) ?_
      refine va_get (D := (dC, dI)) (ci := 6) (v := .ref a_m_w) (C := RX6) (T := TX6) (N := 15) hx hb hts in_X6 hown hK hP 1 rfl rfl 0 (by decide) f_7 (fun _ h9 => h9) rfl dX6_takesItem_500 ?_
      refine lv_bipush (v := (105 : Int32)) hx hb dX6_takesItem_503 (by decide) ?_
      refine lv_aload_n hx hb dX6_takesItem_505 rfl (lv_at hl 1 rfl) ?_
      refine va_get (D := (dC, dI)) (ci := 6) (v := .ref a_m_numbers) (C := RX6) (T := TX6) (N := 15) hx hb hts in_X6 hown hK hP 1 rfl rfl 7 (by decide) f_19 (fun _ h9 => h9) rfl dX6_takesItem_506 ?_
      refine lv_iconst (v := (0 : Int32)) hx hb dX6_takesItem_509 (by decide) ?_
      obtain ⟨v3183, hv3183, h⟩ := ob h
      refine k_ld hx hb hK hP 3 0 rfl rfl hv3183 dX6_takesItem_510 ?_
      obtain ⟨g3184, hg3184, h⟩ := ob h
      refine k_st hx hb hK hP hD hS 0 0 rfl rfl hg3184 dX6_takesItem_511 (ws' := [(a_m_w, .inl (cI, 106, .inl g3184)), (a_m, .inr (6, [.ref a_m_w, .ref a_m_d, .int m_undoes, .int m_kept, .ref a_m_text, .int m_texted, .int r3174.2.1, .ref a_m_numbers, .ref a_m_then, .ref a_m_leans, .int m_draws, .int m_drawn, .int m_heards, .ref a_m_heardSet, .ref a_m_heardSum])), (a_m_text, .inl (cI, 200, .inl m_text)), (a_m_numbers, .inl (cI, 4, .inl r3174.2.2))]) rfl (fun H locs hP hD hS => ?_)
      refine lv_iload hx hb dX6_takesItem_512 (lv_at hl 0 rfl) ?_
      obtain ⟨u3185, hu3185, h⟩ := ob h
      obtain rfl := Option.some.inj h
      subst hQe
      exact W.zret (v := j3179) (ty := .boolean) hx hb hr (zb_some hu3185) (fun t ht hW => ⟨⟨j3179, (), rfl, rfl, ⟨by rw [ht]; exact hP.sub [1, 0, 2, 3] rfl, hD.sub [1, 0, 2, 3] (by decide +kernel) rfl⟩⟩, hS.F ht⟩) hS.2.2 dX6_takesItem_514
    refine lv_if_eq (tgt := 496) hx hb dX6_takesItem_472 (by decide) (fun c_472 => ?_) (fun c_472 => ?_)
    · have h := (if_pos c_472).symm.trans hjj3179
      refine lv_iconst (v := (0 : Int32)) hx hb dX6_takesItem_496 (by decide) ?_
      obtain rfl := Option.some.inj h
      exact Jj3179 _ _ hP hD hS _ (lv_sub hl [1, 0] rfl)
    · have h := (if_neg c_472).symm.trans hjj3179
      refine lv_aload_n hx hb dX6_takesItem_475 rfl (lv_at hl 1 rfl) ?_
      refine va_get (D := (dC, dI)) (ci := 6) (v := .ref a_m_numbers) (C := RX6) (T := TX6) (N := 15) hx hb hts in_X6 hown hK hP 1 rfl rfl 7 (by decide) f_19 (fun _ h9 => h9) rfl dX6_takesItem_476 ?_
      refine lv_iconst (v := (0 : Int32)) hx hb dX6_takesItem_479 (by decide) ?_
      obtain ⟨v3180, hv3180, h⟩ := ob h
      refine k_ld hx hb hK hP 3 0 rfl rfl hv3180 dX6_takesItem_480 ?_
      refine lv_i2l (v := (Int32.toInt64 v3180)) hx hb dX6_takesItem_481 rfl ?_
      refine lv_lconst (v := (1 : Int64)) hx hb dX6_takesItem_482 (by decide) ?_
      refine lv_ldc2 (v := (20 : Int64)) hx hb hown k_85 dX6_takesItem_483 ?_
      obtain ⟨r3181, hr3181, h⟩ := ob h
      refine k_Si (As := [.long (Int32.toInt64 v3180), .long (1 : Int64), .long (20 : Int64)]) (rest := []) (c_X6_in l dC dI cI cS n _ (Int32.toInt64 v3180) (1 : Int64) (20 : Int64) r3181 hr3181) (fun _ _ q => q) ⟨hx, hb, hml, hown, hts⟩ (va_cwS 3 hts gX6_takesItem_X6_in rfl rfl rfl (by decide +kernel) ⟨(Nat.le_of_ble_eq_true rfl), (Nat.le_of_ble_eq_true rfl)⟩) hN hK hP hD hS hA rfl hl.1 rfl (Nat.le_of_ble_eq_true rfl) dX6_takesItem_486 ⟨(Nat.le_of_ble_eq_true rfl), (Nat.le_of_ble_eq_true rfl)⟩ (fun H locs hP hD hS => ?_)
      refine lv_if_eq (tgt := 496) hx hb dX6_takesItem_489 (by decide) (fun c_489 => ?_) (fun c_489 => ?_)
      · have h := (if_pos c_489).symm.trans h
        refine lv_iconst (v := (0 : Int32)) hx hb dX6_takesItem_496 (by decide) ?_
        obtain rfl := Option.some.inj h
        exact Jj3179 _ _ hP hD hS _ (lv_sub hl [1, 0] rfl)
      · have h := (if_neg c_489).symm.trans h
        refine lv_iconst (v := (1 : Int32)) hx hb dX6_takesItem_492 (by decide) ?_
        refine lv_goto (tgt := 497) hx hb dX6_takesItem_493 (by decide) ?_
        obtain rfl := Option.some.inj h
        exact Jj3179 _ _ hP hD hS _ (lv_sub hl [1, 0] rfl)
  have h := (if_neg e_20_104).symm.trans h
  by_cases e_20_111 : r3139 = (111 : Int32)
  · have h := (if_pos e_20_111).symm.trans h
    refine lv_tableIn (off := 341) (tgt := 361) hx hb dX6_takesItem_20 (by rw [e_20_111]; decide) (by rw [e_20_111]; decide) (by rw [e_20_111]; rfl) (by decide) ?_
    refine lv_aload_n hx hb dX6_takesItem_361 rfl (lv_at hl 1 rfl) ?_
    refine lv_iconst (v := (2 : Int32)) hx hb dX6_takesItem_362 (by decide) ?_
    obtain ⟨r3186, hr3186, h⟩ := ob h
    refine k_Vi (As := [.int (2 : Int32)]) (rest := []) (wr := [(a_m_w, .inl (cI, 106, .inl m_w))]) (c_X6_takesNumbers l dC dI cI cS n _ a_m a_m_w a_m_d a_m_text a_m_numbers a_m_then a_m_leans a_m_heardSet a_m_heardSum m_undoes m_kept m_text m_texted (m_at + (1 : Int32)) m_numbers m_draws m_drawn m_heards (2 : Int32) r3186 hr3186) (fun _ _ q => q) ⟨hx, hb, hml, hown, hts⟩ (cwV 1 hts gX6_takesItem_X6_takesNumbers rfl rfl rfl (by decide +kernel) ⟨(Nat.le_of_ble_eq_true rfl), (Nat.le_of_ble_eq_true rfl)⟩) hN hK hP hD hS hA [2, 3, 1] [0] rfl rfl (by decide) (by decide) (by decide) rfl rfl rfl hl.1 rfl (Nat.le_of_ble_eq_true rfl) dX6_takesItem_363 ⟨(Nat.le_of_ble_eq_true rfl), (Nat.le_of_ble_eq_true rfl)⟩ (fun u3187 H locs _ hP hD hS => ?_)
    have hP : va_P (dC, dI) vwCl [(a_m_w, .inl (cI, 106, .inl m_w)), (a_m, .inr (6, [.ref a_m_w, .ref a_m_d, .int m_undoes, .int m_kept, .ref a_m_text, .int m_texted, .int r3186.2.1, .ref a_m_numbers, .ref a_m_then, .ref a_m_leans, .int m_draws, .int m_drawn, .int m_heards, .ref a_m_heardSet, .ref a_m_heardSum])), (a_m_text, .inl (cI, 200, .inl m_text)), (a_m_numbers, .inl (cI, 4, .inl r3186.2.2))] H := hP
    have hD : va_D A [(a_m_w, .inl (cI, 106, .inl m_w)), (a_m, .inr (6, [.ref a_m_w, .ref a_m_d, .int m_undoes, .int m_kept, .ref a_m_text, .int m_texted, .int r3186.2.1, .ref a_m_numbers, .ref a_m_then, .ref a_m_leans, .int m_draws, .int m_drawn, .int m_heards, .ref a_m_heardSet, .ref a_m_heardSum])), (a_m_text, .inl (cI, 200, .inl m_text)), (a_m_numbers, .inl (cI, 4, .inl r3186.2.2))] := hD
    obtain ⟨j3190, hjj3190, h⟩ := ob h
    have Jj3190 : ∀ (H : Heap) (locs : List Loc), va_P (dC, dI) vwCl [(a_m_w, .inl (cI, 106, .inl m_w)), (a_m, .inr (6, [.ref a_m_w, .ref a_m_d, .int m_undoes, .int m_kept, .ref a_m_text, .int m_texted, .int r3186.2.1, .ref a_m_numbers, .ref a_m_then, .ref a_m_leans, .int m_draws, .int m_drawn, .int m_heards, .ref a_m_heardSet, .ref a_m_heardSum])), (a_m_text, .inl (cI, 200, .inl m_text)), (a_m_numbers, .inl (cI, 4, .inl r3186.2.2))] H → va_D A [(a_m_w, .inl (cI, 106, .inl m_w)), (a_m, .inr (6, [.ref a_m_w, .ref a_m_d, .int m_undoes, .int m_kept, .ref a_m_text, .int m_texted, .int r3186.2.1, .ref a_m_numbers, .ref a_m_then, .ref a_m_leans, .int m_draws, .int m_drawn, .int m_heards, .ref a_m_heardSet, .ref a_m_heardSum])), (a_m_text, .inl (cI, 200, .inl m_text)), (a_m_numbers, .inl (cI, 4, .inl r3186.2.2))] → va_S A s.heap H locs → ∀ ls : Array Slot, lv_has ls 7 [(0, .ref a_m), (1, .int r3139)] → W p l e (headSpec wsX6_takesItem rm_X6_takesItem).room s m ([.ref a_m] : List Value).toArray below meth c H locs 0 0 QQ (F0 m 395 ls [.int j3190]) := by
      intro H locs hP hD hS ls hl
      refine lv_istore (lv' := [(4, .int j3190), (0, .ref a_m), (1, .int r3139)]) hx hb dX6_takesItem_395 hl (by decide) rfl (fun ls hl => ?_)
      refine lv_aload_n hx hb dX6_takesItem_397 rfl (lv_at hl 1 rfl) ?_
      refine va_get (D := (dC, dI)) (ci := 6) (v := .ref a_m_w) (C := RX6) (T := TX6) (N := 15) hx hb hts in_X6 hown hK hP 1 rfl rfl 0 (by decide) f_7 (fun _ h9 => h9) rfl dX6_takesItem_398 ?_
      refine lv_bipush (v := (102 : Int32)) hx hb dX6_takesItem_401 (by decide) ?_
      refine lv_aload_n hx hb dX6_takesItem_403 rfl (lv_at hl 1 rfl) ?_
      refine va_get (D := (dC, dI)) (ci := 6) (v := .ref a_m_numbers) (C := RX6) (T := TX6) (N := 15) hx hb hts in_X6 hown hK hP 1 rfl rfl 7 (by decide) f_19 (fun _ h9 => h9) rfl dX6_takesItem_404 ?_
      refine lv_iconst (v := (0 : Int32)) hx hb dX6_takesItem_407 (by decide) ?_
      obtain ⟨v3193, hv3193, h⟩ := ob h
      refine k_ld hx hb hK hP 3 0 rfl rfl hv3193 dX6_takesItem_408 ?_
      obtain ⟨g3194, hg3194, h⟩ := ob h
      refine k_st hx hb hK hP hD hS 0 0 rfl rfl hg3194 dX6_takesItem_409 (ws' := [(a_m_w, .inl (cI, 106, .inl g3194)), (a_m, .inr (6, [.ref a_m_w, .ref a_m_d, .int m_undoes, .int m_kept, .ref a_m_text, .int m_texted, .int r3186.2.1, .ref a_m_numbers, .ref a_m_then, .ref a_m_leans, .int m_draws, .int m_drawn, .int m_heards, .ref a_m_heardSet, .ref a_m_heardSum])), (a_m_text, .inl (cI, 200, .inl m_text)), (a_m_numbers, .inl (cI, 4, .inl r3186.2.2))]) rfl (fun H locs hP hD hS => ?_)
      refine lv_aload_n hx hb dX6_takesItem_410 rfl (lv_at hl 1 rfl) ?_
      refine va_get (D := (dC, dI)) (ci := 6) (v := .ref a_m_w) (C := RX6) (T := TX6) (N := 15) hx hb hts in_X6 hown hK hP 1 rfl rfl 0 (by decide) f_7 (fun _ h9 => h9) rfl dX6_takesItem_411 ?_
      refine lv_bipush (v := (103 : Int32)) hx hb dX6_takesItem_414 (by decide) ?_
      refine lv_aload_n hx hb dX6_takesItem_416 rfl (lv_at hl 1 rfl) ?_
      refine va_get (D := (dC, dI)) (ci := 6) (v := .ref a_m_numbers) (C := RX6) (T := TX6) (N := 15) hx hb hts in_X6 hown hK hP 1 rfl rfl 7 (by decide) f_19 (fun _ h9 => h9) rfl dX6_takesItem_417 ?_
      refine lv_iconst (v := (1 : Int32)) hx hb dX6_takesItem_420 (by decide) ?_
      obtain ⟨v3195, hv3195, h⟩ := ob h
      refine k_ld hx hb hK hP 3 0 rfl rfl hv3195 dX6_takesItem_421 ?_
      obtain ⟨g3196, hg3196, h⟩ := ob h
      refine k_st hx hb hK hP hD hS 0 0 rfl rfl hg3196 dX6_takesItem_422 (ws' := [(a_m_w, .inl (cI, 106, .inl g3196)), (a_m, .inr (6, [.ref a_m_w, .ref a_m_d, .int m_undoes, .int m_kept, .ref a_m_text, .int m_texted, .int r3186.2.1, .ref a_m_numbers, .ref a_m_then, .ref a_m_leans, .int m_draws, .int m_drawn, .int m_heards, .ref a_m_heardSet, .ref a_m_heardSum])), (a_m_text, .inl (cI, 200, .inl m_text)), (a_m_numbers, .inl (cI, 4, .inl r3186.2.2))]) rfl (fun H locs hP hD hS => ?_)
      refine lv_iload hx hb dX6_takesItem_423 (lv_at hl 0 rfl) ?_
      obtain ⟨u3197, hu3197, h⟩ := ob h
      obtain rfl := Option.some.inj h
      subst hQe
      exact W.zret (v := j3190) (ty := .boolean) hx hb hr (zb_some hu3197) (fun t ht hW => ⟨⟨j3190, (), rfl, rfl, ⟨by rw [ht]; exact hP.sub [1, 0, 2, 3] rfl, hD.sub [1, 0, 2, 3] (by decide +kernel) rfl⟩⟩, hS.F ht⟩) hS.2.2 dX6_takesItem_425
    refine lv_if_eq (tgt := 394) hx hb dX6_takesItem_366 (by decide) (fun c_366 => ?_) (fun c_366 => ?_)
    · have h := (if_pos c_366).symm.trans hjj3190
      refine lv_iconst (v := (0 : Int32)) hx hb dX6_takesItem_394 (by decide) ?_
      obtain rfl := Option.some.inj h
      exact Jj3190 _ _ hP hD hS _ (lv_sub hl [1, 0] rfl)
    · have h := (if_neg c_366).symm.trans hjj3190
      refine lv_aload_n hx hb dX6_takesItem_369 rfl (lv_at hl 1 rfl) ?_
      refine va_get (D := (dC, dI)) (ci := 6) (v := .ref a_m_numbers) (C := RX6) (T := TX6) (N := 15) hx hb hts in_X6 hown hK hP 1 rfl rfl 7 (by decide) f_19 (fun _ h9 => h9) rfl dX6_takesItem_370 ?_
      refine lv_iconst (v := (0 : Int32)) hx hb dX6_takesItem_373 (by decide) ?_
      obtain ⟨v3191, hv3191, h⟩ := ob h
      refine k_ld hx hb hK hP 3 0 rfl rfl hv3191 dX6_takesItem_374 ?_
      refine lv_bipush (v := (19 : Int32)) hx hb dX6_takesItem_375 (by decide) ?_
      refine lv_icmp_ge (tgt := 394) hx hb dX6_takesItem_377 (by decide) (fun c_377 => ?_) (fun c_377 => ?_)
      · have h := (if_pos c_377).symm.trans h
        refine lv_iconst (v := (0 : Int32)) hx hb dX6_takesItem_394 (by decide) ?_
        obtain rfl := Option.some.inj h
        exact Jj3190 _ _ hP hD hS _ (lv_sub hl [1, 0] rfl)
      · have h := (if_neg c_377).symm.trans h
        refine lv_aload_n hx hb dX6_takesItem_380 rfl (lv_at hl 1 rfl) ?_
        refine va_get (D := (dC, dI)) (ci := 6) (v := .ref a_m_numbers) (C := RX6) (T := TX6) (N := 15) hx hb hts in_X6 hown hK hP 1 rfl rfl 7 (by decide) f_19 (fun _ h9 => h9) rfl dX6_takesItem_381 ?_
        refine lv_iconst (v := (1 : Int32)) hx hb dX6_takesItem_384 (by decide) ?_
        obtain ⟨v3192, hv3192, h⟩ := ob h
        refine k_ld hx hb hK hP 3 0 rfl rfl hv3192 dX6_takesItem_385 ?_
        refine lv_iconst (v := (4 : Int32)) hx hb dX6_takesItem_386 (by decide) ?_
        refine lv_icmp_ge (tgt := 394) hx hb dX6_takesItem_387 (by decide) (fun c_387 => ?_) (fun c_387 => ?_)
        · have h := (if_pos c_387).symm.trans h
          refine lv_iconst (v := (0 : Int32)) hx hb dX6_takesItem_394 (by decide) ?_
          obtain rfl := Option.some.inj h
          exact Jj3190 _ _ hP hD hS _ (lv_sub hl [1, 0] rfl)
        · have h := (if_neg c_387).symm.trans h
          refine lv_iconst (v := (1 : Int32)) hx hb dX6_takesItem_390 (by decide) ?_
          refine lv_goto (tgt := 395) hx hb dX6_takesItem_391 (by decide) ?_
          obtain rfl := Option.some.inj h
          exact Jj3190 _ _ hP hD hS _ (lv_sub hl [1, 0] rfl)
  have h := (if_neg e_20_111).symm.trans h
  by_cases e_20_112 : r3139 = (112 : Int32)
  · have h := (if_pos e_20_112).symm.trans h
    refine lv_tableIn (off := 265) (tgt := 285) hx hb dX6_takesItem_20 (by rw [e_20_112]; decide) (by rw [e_20_112]; decide) (by rw [e_20_112]; rfl) (by decide) ?_
    refine lv_aload_n hx hb dX6_takesItem_285 rfl (lv_at hl 1 rfl) ?_
    refine lv_iconst (v := (2 : Int32)) hx hb dX6_takesItem_286 (by decide) ?_
    obtain ⟨r3198, hr3198, h⟩ := ob h
    refine k_Vi (As := [.int (2 : Int32)]) (rest := []) (wr := [(a_m_w, .inl (cI, 106, .inl m_w))]) (c_X6_takesNumbers l dC dI cI cS n _ a_m a_m_w a_m_d a_m_text a_m_numbers a_m_then a_m_leans a_m_heardSet a_m_heardSum m_undoes m_kept m_text m_texted (m_at + (1 : Int32)) m_numbers m_draws m_drawn m_heards (2 : Int32) r3198 hr3198) (fun _ _ q => q) ⟨hx, hb, hml, hown, hts⟩ (cwV 1 hts gX6_takesItem_X6_takesNumbers rfl rfl rfl (by decide +kernel) ⟨(Nat.le_of_ble_eq_true rfl), (Nat.le_of_ble_eq_true rfl)⟩) hN hK hP hD hS hA [2, 3, 1] [0] rfl rfl (by decide) (by decide) (by decide) rfl rfl rfl hl.1 rfl (Nat.le_of_ble_eq_true rfl) dX6_takesItem_287 ⟨(Nat.le_of_ble_eq_true rfl), (Nat.le_of_ble_eq_true rfl)⟩ (fun u3199 H locs _ hP hD hS => ?_)
    have hP : va_P (dC, dI) vwCl [(a_m_w, .inl (cI, 106, .inl m_w)), (a_m, .inr (6, [.ref a_m_w, .ref a_m_d, .int m_undoes, .int m_kept, .ref a_m_text, .int m_texted, .int r3198.2.1, .ref a_m_numbers, .ref a_m_then, .ref a_m_leans, .int m_draws, .int m_drawn, .int m_heards, .ref a_m_heardSet, .ref a_m_heardSum])), (a_m_text, .inl (cI, 200, .inl m_text)), (a_m_numbers, .inl (cI, 4, .inl r3198.2.2))] H := hP
    have hD : va_D A [(a_m_w, .inl (cI, 106, .inl m_w)), (a_m, .inr (6, [.ref a_m_w, .ref a_m_d, .int m_undoes, .int m_kept, .ref a_m_text, .int m_texted, .int r3198.2.1, .ref a_m_numbers, .ref a_m_then, .ref a_m_leans, .int m_draws, .int m_drawn, .int m_heards, .ref a_m_heardSet, .ref a_m_heardSum])), (a_m_text, .inl (cI, 200, .inl m_text)), (a_m_numbers, .inl (cI, 4, .inl r3198.2.2))] := hD
    obtain ⟨j3204, hjj3204, h⟩ := ob h
    have Jj3204 : ∀ (H : Heap) (locs : List Loc), va_P (dC, dI) vwCl [(a_m_w, .inl (cI, 106, .inl m_w)), (a_m, .inr (6, [.ref a_m_w, .ref a_m_d, .int m_undoes, .int m_kept, .ref a_m_text, .int m_texted, .int r3198.2.1, .ref a_m_numbers, .ref a_m_then, .ref a_m_leans, .int m_draws, .int m_drawn, .int m_heards, .ref a_m_heardSet, .ref a_m_heardSum])), (a_m_text, .inl (cI, 200, .inl m_text)), (a_m_numbers, .inl (cI, 4, .inl r3198.2.2))] H → va_D A [(a_m_w, .inl (cI, 106, .inl m_w)), (a_m, .inr (6, [.ref a_m_w, .ref a_m_d, .int m_undoes, .int m_kept, .ref a_m_text, .int m_texted, .int r3198.2.1, .ref a_m_numbers, .ref a_m_then, .ref a_m_leans, .int m_draws, .int m_drawn, .int m_heards, .ref a_m_heardSet, .ref a_m_heardSum])), (a_m_text, .inl (cI, 200, .inl m_text)), (a_m_numbers, .inl (cI, 4, .inl r3198.2.2))] → va_S A s.heap H locs → ∀ ls : Array Slot, lv_has ls 7 [(0, .ref a_m), (1, .int r3139)] → W p l e (headSpec wsX6_takesItem rm_X6_takesItem).room s m ([.ref a_m] : List Value).toArray below meth c H locs 0 0 QQ (F0 m 322 ls [.int j3204]) := by
      intro H locs hP hD hS ls hl
      refine lv_istore_n (lv' := [(3, .int j3204), (0, .ref a_m), (1, .int r3139)]) hx hb dX6_takesItem_322 rfl hl (by decide) rfl (fun ls hl => ?_)
      refine lv_aload_n hx hb dX6_takesItem_323 rfl (lv_at hl 1 rfl) ?_
      refine va_get (D := (dC, dI)) (ci := 6) (v := .ref a_m_w) (C := RX6) (T := TX6) (N := 15) hx hb hts in_X6 hown hK hP 1 rfl rfl 0 (by decide) f_7 (fun _ h9 => h9) rfl dX6_takesItem_324 ?_
      refine lv_bipush (v := (94 : Int32)) hx hb dX6_takesItem_327 (by decide) ?_
      refine lv_iload_n hx hb dX6_takesItem_329 rfl (lv_at hl 0 rfl) ?_
      obtain ⟨j3210, hjj3210, h⟩ := ob h
      have Jj3210 : ∀ (H : Heap) (locs : List Loc), va_P (dC, dI) vwCl [(a_m_w, .inl (cI, 106, .inl m_w)), (a_m, .inr (6, [.ref a_m_w, .ref a_m_d, .int m_undoes, .int m_kept, .ref a_m_text, .int m_texted, .int r3198.2.1, .ref a_m_numbers, .ref a_m_then, .ref a_m_leans, .int m_draws, .int m_drawn, .int m_heards, .ref a_m_heardSet, .ref a_m_heardSum])), (a_m_text, .inl (cI, 200, .inl m_text)), (a_m_numbers, .inl (cI, 4, .inl r3198.2.2))] H → va_D A [(a_m_w, .inl (cI, 106, .inl m_w)), (a_m, .inr (6, [.ref a_m_w, .ref a_m_d, .int m_undoes, .int m_kept, .ref a_m_text, .int m_texted, .int r3198.2.1, .ref a_m_numbers, .ref a_m_then, .ref a_m_leans, .int m_draws, .int m_drawn, .int m_heards, .ref a_m_heardSet, .ref a_m_heardSum])), (a_m_text, .inl (cI, 200, .inl m_text)), (a_m_numbers, .inl (cI, 4, .inl r3198.2.2))] → va_S A s.heap H locs → ∀ ls : Array Slot, lv_has ls 7 [(0, .ref a_m), (1, .int r3139), (3, .int j3204)] → W p l e (headSpec wsX6_takesItem rm_X6_takesItem).room s m ([.ref a_m] : List Value).toArray below meth c H locs 0 0 QQ (F0 m 343 ls [.int j3210, .int (94 : Int32), .ref a_m_w]) := by
        intro H locs hP hD hS ls hl
        refine lv_iadd hx hb dX6_takesItem_343 ?_
        refine lv_iload_n hx hb dX6_takesItem_344 rfl (lv_at hl 2 rfl) ?_
        obtain ⟨j3213, hjj3213, h⟩ := ob h
        have Jj3213 : ∀ (H : Heap) (locs : List Loc), va_P (dC, dI) vwCl [(a_m_w, .inl (cI, 106, .inl m_w)), (a_m, .inr (6, [.ref a_m_w, .ref a_m_d, .int m_undoes, .int m_kept, .ref a_m_text, .int m_texted, .int r3198.2.1, .ref a_m_numbers, .ref a_m_then, .ref a_m_leans, .int m_draws, .int m_drawn, .int m_heards, .ref a_m_heardSet, .ref a_m_heardSum])), (a_m_text, .inl (cI, 200, .inl m_text)), (a_m_numbers, .inl (cI, 4, .inl r3198.2.2))] H → va_D A [(a_m_w, .inl (cI, 106, .inl m_w)), (a_m, .inr (6, [.ref a_m_w, .ref a_m_d, .int m_undoes, .int m_kept, .ref a_m_text, .int m_texted, .int r3198.2.1, .ref a_m_numbers, .ref a_m_then, .ref a_m_leans, .int m_draws, .int m_drawn, .int m_heards, .ref a_m_heardSet, .ref a_m_heardSum])), (a_m_text, .inl (cI, 200, .inl m_text)), (a_m_numbers, .inl (cI, 4, .inl r3198.2.2))] → va_S A s.heap H locs → ∀ ls : Array Slot, lv_has ls 7 [(0, .ref a_m), (1, .int r3139), (3, .int j3204)] → W p l e (headSpec wsX6_takesItem rm_X6_takesItem).room s m ([.ref a_m] : List Value).toArray below meth c H locs 0 0 QQ (F0 m 358 ls [.int j3213, .int ((94 : Int32) + j3210), .ref a_m_w]) := by
          intro H locs hP hD hS ls hl
          obtain ⟨g3215, hg3215, h⟩ := ob h
          refine k_st hx hb hK hP hD hS 0 0 rfl rfl hg3215 dX6_takesItem_358 (ws' := [(a_m_w, .inl (cI, 106, .inl g3215)), (a_m, .inr (6, [.ref a_m_w, .ref a_m_d, .int m_undoes, .int m_kept, .ref a_m_text, .int m_texted, .int r3198.2.1, .ref a_m_numbers, .ref a_m_then, .ref a_m_leans, .int m_draws, .int m_drawn, .int m_heards, .ref a_m_heardSet, .ref a_m_heardSum])), (a_m_text, .inl (cI, 200, .inl m_text)), (a_m_numbers, .inl (cI, 4, .inl r3198.2.2))]) rfl (fun H locs hP hD hS => ?_)
          refine lv_iload_n hx hb dX6_takesItem_359 rfl (lv_at hl 2 rfl) ?_
          obtain ⟨u3216, hu3216, h⟩ := ob h
          obtain rfl := Option.some.inj h
          subst hQe
          exact W.zret (v := j3204) (ty := .boolean) hx hb hr (zb_some hu3216) (fun t ht hW => ⟨⟨j3204, (), rfl, rfl, ⟨by rw [ht]; exact hP.sub [1, 0, 2, 3] rfl, hD.sub [1, 0, 2, 3] (by decide +kernel) rfl⟩⟩, hS.F ht⟩) hS.2.2 dX6_takesItem_360
        refine lv_if_eq (tgt := 357) hx hb dX6_takesItem_345 (by decide) (fun c_345 => ?_) (fun c_345 => ?_)
        · have h := (if_pos c_345).symm.trans hjj3213
          refine lv_iconst (v := (0 : Int32)) hx hb dX6_takesItem_357 (by decide) ?_
          obtain rfl := Option.some.inj h
          exact Jj3213 _ _ hP hD hS _ hl
        · have h := (if_neg c_345).symm.trans hjj3213
          refine lv_aload_n hx hb dX6_takesItem_348 rfl (lv_at hl 0 rfl) ?_
          refine va_get (D := (dC, dI)) (ci := 6) (v := .ref a_m_numbers) (C := RX6) (T := TX6) (N := 15) hx hb hts in_X6 hown hK hP 1 rfl rfl 7 (by decide) f_19 (fun _ h9 => h9) rfl dX6_takesItem_349 ?_
          refine lv_iconst (v := (1 : Int32)) hx hb dX6_takesItem_352 (by decide) ?_
          obtain ⟨v3214, hv3214, h⟩ := ob h
          refine k_ld hx hb hK hP 3 0 rfl rfl hv3214 dX6_takesItem_353 ?_
          refine lv_goto (tgt := 358) hx hb dX6_takesItem_354 (by decide) ?_
          obtain rfl := Option.some.inj h
          exact Jj3213 _ _ hP hD hS _ hl
      refine lv_if_eq (tgt := 342) hx hb dX6_takesItem_330 (by decide) (fun c_330 => ?_) (fun c_330 => ?_)
      · have h := (if_pos c_330).symm.trans hjj3210
        refine lv_iconst (v := (0 : Int32)) hx hb dX6_takesItem_342 (by decide) ?_
        obtain rfl := Option.some.inj h
        exact Jj3210 _ _ hP hD hS _ (lv_sub hl [1, 2, 0] rfl)
      · have h := (if_neg c_330).symm.trans hjj3210
        refine lv_aload_n hx hb dX6_takesItem_333 rfl (lv_at hl 1 rfl) ?_
        refine va_get (D := (dC, dI)) (ci := 6) (v := .ref a_m_numbers) (C := RX6) (T := TX6) (N := 15) hx hb hts in_X6 hown hK hP 1 rfl rfl 7 (by decide) f_19 (fun _ h9 => h9) rfl dX6_takesItem_334 ?_
        refine lv_iconst (v := (0 : Int32)) hx hb dX6_takesItem_337 (by decide) ?_
        obtain ⟨v3211, hv3211, h⟩ := ob h
        refine k_ld hx hb hK hP 3 0 rfl rfl hv3211 dX6_takesItem_338 ?_
        refine lv_goto (tgt := 343) hx hb dX6_takesItem_339 (by decide) ?_
        obtain rfl := Option.some.inj h
        exact Jj3210 _ _ hP hD hS _ (lv_sub hl [1, 2, 0] rfl)
    refine lv_if_eq (tgt := 321) hx hb dX6_takesItem_290 (by decide) (fun c_290 => ?_) (fun c_290 => ?_)
    · have h := (if_pos c_290).symm.trans hjj3204
      refine lv_iconst (v := (0 : Int32)) hx hb dX6_takesItem_321 (by decide) ?_
      obtain rfl := Option.some.inj h
      exact Jj3204 _ _ hP hD hS _ (lv_sub hl [1, 0] rfl)
    · have h := (if_neg c_290).symm.trans hjj3204
      refine lv_aload_n hx hb dX6_takesItem_293 rfl (lv_at hl 1 rfl) ?_
      refine lv_aload_n hx hb dX6_takesItem_294 rfl (lv_at hl 1 rfl) ?_
      refine va_get (D := (dC, dI)) (ci := 6) (v := .ref a_m_numbers) (C := RX6) (T := TX6) (N := 15) hx hb hts in_X6 hown hK hP 1 rfl rfl 7 (by decide) f_19 (fun _ h9 => h9) rfl dX6_takesItem_295 ?_
      refine lv_iconst (v := (0 : Int32)) hx hb dX6_takesItem_298 (by decide) ?_
      obtain ⟨v3205, hv3205, h⟩ := ob h
      refine k_ld hx hb hK hP 3 0 rfl rfl hv3205 dX6_takesItem_299 ?_
      obtain ⟨r3206, hr3206, h⟩ := ob h
      refine k_Vi (As := [.int v3205]) (rest := []) (wr := [(a_m_text, .inl (cI, 200, .inl m_text)), (a_m_numbers, .inl (cI, 4, .inl r3198.2.2))]) (c_X6_isTold l dC dI cI cS n _ a_m a_m_w a_m_d a_m_text a_m_numbers a_m_then a_m_leans a_m_heardSet a_m_heardSum m_w m_undoes m_kept m_texted r3198.2.1 m_draws m_drawn m_heards v3205 r3206 hr3206) (fun _ _ q => q) ⟨hx, hb, hml, hown, hts⟩ (cwV 1 hts gX6_takesItem_X6_isTold rfl rfl rfl (by decide +kernel) ⟨(Nat.le_of_ble_eq_true rfl), (Nat.le_of_ble_eq_true rfl)⟩) hN hK hP hD hS hA [1, 0] [2, 3] rfl rfl (by decide) (by decide) (by decide) rfl rfl rfl hl.1 rfl (Nat.le_of_ble_eq_true rfl) dX6_takesItem_300 ⟨(Nat.le_of_ble_eq_true rfl), (Nat.le_of_ble_eq_true rfl)⟩ (fun u3207 H locs _ hP hD hS => ?_)
      have hP : va_P (dC, dI) vwCl [(a_m_text, .inl (cI, 200, .inl m_text)), (a_m_numbers, .inl (cI, 4, .inl r3198.2.2)), (a_m, .inr (6, [.ref a_m_w, .ref a_m_d, .int m_undoes, .int m_kept, .ref a_m_text, .int m_texted, .int r3198.2.1, .ref a_m_numbers, .ref a_m_then, .ref a_m_leans, .int m_draws, .int m_drawn, .int m_heards, .ref a_m_heardSet, .ref a_m_heardSum])), (a_m_w, .inl (cI, 106, .inl m_w))] H := hP
      have hD : va_D A [(a_m_text, .inl (cI, 200, .inl m_text)), (a_m_numbers, .inl (cI, 4, .inl r3198.2.2)), (a_m, .inr (6, [.ref a_m_w, .ref a_m_d, .int m_undoes, .int m_kept, .ref a_m_text, .int m_texted, .int r3198.2.1, .ref a_m_numbers, .ref a_m_then, .ref a_m_leans, .int m_draws, .int m_drawn, .int m_heards, .ref a_m_heardSet, .ref a_m_heardSum])), (a_m_w, .inl (cI, 106, .inl m_w))] := hD
      refine lv_if_eq (tgt := 321) hx hb dX6_takesItem_303 (by decide) (fun c_303 => ?_) (fun c_303 => ?_)
      · have h := (if_pos c_303).symm.trans h
        refine lv_iconst (v := (0 : Int32)) hx hb dX6_takesItem_321 (by decide) ?_
        obtain rfl := Option.some.inj h
        exact Jj3204 _ _ (hP.sub [3, 2, 0, 1] rfl) (hD.sub [3, 2, 0, 1] (by decide +kernel) rfl) hS _ (lv_sub hl [1, 0] rfl)
      · have h := (if_neg c_303).symm.trans h
        refine lv_aload_n hx hb dX6_takesItem_306 rfl (lv_at hl 1 rfl) ?_
        refine va_get (D := (dC, dI)) (ci := 6) (v := .ref a_m_numbers) (C := RX6) (T := TX6) (N := 15) hx hb hts in_X6 hown hK hP 2 rfl rfl 7 (by decide) f_19 (fun _ h9 => h9) rfl dX6_takesItem_307 ?_
        refine lv_iconst (v := (1 : Int32)) hx hb dX6_takesItem_310 (by decide) ?_
        obtain ⟨v3208, hv3208, h⟩ := ob h
        refine k_ld hx hb hK hP 1 0 rfl rfl hv3208 dX6_takesItem_311 ?_
        refine lv_bipush (v := (41 : Int32)) hx hb dX6_takesItem_312 (by decide) ?_
        refine lv_icmp_ge (tgt := 321) hx hb dX6_takesItem_314 (by decide) (fun c_314 => ?_) (fun c_314 => ?_)
        · have h := (if_pos c_314).symm.trans h
          refine lv_iconst (v := (0 : Int32)) hx hb dX6_takesItem_321 (by decide) ?_
          obtain rfl := Option.some.inj h
          exact Jj3204 _ _ (hP.sub [3, 2, 0, 1] rfl) (hD.sub [3, 2, 0, 1] (by decide +kernel) rfl) hS _ (lv_sub hl [1, 0] rfl)
        · have h := (if_neg c_314).symm.trans h
          refine lv_iconst (v := (1 : Int32)) hx hb dX6_takesItem_317 (by decide) ?_
          refine lv_goto (tgt := 322) hx hb dX6_takesItem_318 (by decide) ?_
          obtain rfl := Option.some.inj h
          exact Jj3204 _ _ (hP.sub [3, 2, 0, 1] rfl) (hD.sub [3, 2, 0, 1] (by decide +kernel) rfl) hS _ (lv_sub hl [1, 0] rfl)
  have h := (if_neg e_20_112).symm.trans h
  by_cases e_20_119 : r3139 = (119 : Int32)
  · have h := (if_pos e_20_119).symm.trans h
    refine lv_tableIn (off := 406) (tgt := 426) hx hb dX6_takesItem_20 (by rw [e_20_119]; decide) (by rw [e_20_119]; decide) (by rw [e_20_119]; rfl) (by decide) ?_
    refine lv_aload_n hx hb dX6_takesItem_426 rfl (lv_at hl 1 rfl) ?_
    refine lv_iconst (v := (1 : Int32)) hx hb dX6_takesItem_427 (by decide) ?_
    obtain ⟨r3217, hr3217, h⟩ := ob h
    refine k_Vi (As := [.int (1 : Int32)]) (rest := []) (wr := [(a_m_w, .inl (cI, 106, .inl m_w))]) (c_X6_takesNumbers l dC dI cI cS n _ a_m a_m_w a_m_d a_m_text a_m_numbers a_m_then a_m_leans a_m_heardSet a_m_heardSum m_undoes m_kept m_text m_texted (m_at + (1 : Int32)) m_numbers m_draws m_drawn m_heards (1 : Int32) r3217 hr3217) (fun _ _ q => q) ⟨hx, hb, hml, hown, hts⟩ (cwV 1 hts gX6_takesItem_X6_takesNumbers rfl rfl rfl (by decide +kernel) ⟨(Nat.le_of_ble_eq_true rfl), (Nat.le_of_ble_eq_true rfl)⟩) hN hK hP hD hS hA [2, 3, 1] [0] rfl rfl (by decide) (by decide) (by decide) rfl rfl rfl hl.1 rfl (Nat.le_of_ble_eq_true rfl) dX6_takesItem_428 ⟨(Nat.le_of_ble_eq_true rfl), (Nat.le_of_ble_eq_true rfl)⟩ (fun u3218 H locs _ hP hD hS => ?_)
    have hP : va_P (dC, dI) vwCl [(a_m_w, .inl (cI, 106, .inl m_w)), (a_m, .inr (6, [.ref a_m_w, .ref a_m_d, .int m_undoes, .int m_kept, .ref a_m_text, .int m_texted, .int r3217.2.1, .ref a_m_numbers, .ref a_m_then, .ref a_m_leans, .int m_draws, .int m_drawn, .int m_heards, .ref a_m_heardSet, .ref a_m_heardSum])), (a_m_text, .inl (cI, 200, .inl m_text)), (a_m_numbers, .inl (cI, 4, .inl r3217.2.2))] H := hP
    have hD : va_D A [(a_m_w, .inl (cI, 106, .inl m_w)), (a_m, .inr (6, [.ref a_m_w, .ref a_m_d, .int m_undoes, .int m_kept, .ref a_m_text, .int m_texted, .int r3217.2.1, .ref a_m_numbers, .ref a_m_then, .ref a_m_leans, .int m_draws, .int m_drawn, .int m_heards, .ref a_m_heardSet, .ref a_m_heardSum])), (a_m_text, .inl (cI, 200, .inl m_text)), (a_m_numbers, .inl (cI, 4, .inl r3217.2.2))] := hD
    obtain ⟨j3220, hjj3220, h⟩ := ob h
    have Jj3220 : ∀ (H : Heap) (locs : List Loc), va_P (dC, dI) vwCl [(a_m_w, .inl (cI, 106, .inl m_w)), (a_m, .inr (6, [.ref a_m_w, .ref a_m_d, .int m_undoes, .int m_kept, .ref a_m_text, .int m_texted, .int r3217.2.1, .ref a_m_numbers, .ref a_m_then, .ref a_m_leans, .int m_draws, .int m_drawn, .int m_heards, .ref a_m_heardSet, .ref a_m_heardSum])), (a_m_text, .inl (cI, 200, .inl m_text)), (a_m_numbers, .inl (cI, 4, .inl r3217.2.2))] H → va_D A [(a_m_w, .inl (cI, 106, .inl m_w)), (a_m, .inr (6, [.ref a_m_w, .ref a_m_d, .int m_undoes, .int m_kept, .ref a_m_text, .int m_texted, .int r3217.2.1, .ref a_m_numbers, .ref a_m_then, .ref a_m_leans, .int m_draws, .int m_drawn, .int m_heards, .ref a_m_heardSet, .ref a_m_heardSum])), (a_m_text, .inl (cI, 200, .inl m_text)), (a_m_numbers, .inl (cI, 4, .inl r3217.2.2))] → va_S A s.heap H locs → ∀ ls : Array Slot, lv_has ls 7 [(0, .ref a_m), (1, .int r3139)] → W p l e (headSpec wsX6_takesItem rm_X6_takesItem).room s m ([.ref a_m] : List Value).toArray below meth c H locs 0 0 QQ (F0 m 449 ls [.int j3220]) := by
      intro H locs hP hD hS ls hl
      refine lv_istore (lv' := [(5, .int j3220), (0, .ref a_m), (1, .int r3139)]) hx hb dX6_takesItem_449 hl (by decide) rfl (fun ls hl => ?_)
      refine lv_aload_n hx hb dX6_takesItem_451 rfl (lv_at hl 1 rfl) ?_
      refine va_get (D := (dC, dI)) (ci := 6) (v := .ref a_m_w) (C := RX6) (T := TX6) (N := 15) hx hb hts in_X6 hown hK hP 1 rfl rfl 0 (by decide) f_7 (fun _ h9 => h9) rfl dX6_takesItem_452 ?_
      refine lv_bipush (v := (104 : Int32)) hx hb dX6_takesItem_455 (by decide) ?_
      refine lv_aload_n hx hb dX6_takesItem_457 rfl (lv_at hl 1 rfl) ?_
      refine va_get (D := (dC, dI)) (ci := 6) (v := .ref a_m_numbers) (C := RX6) (T := TX6) (N := 15) hx hb hts in_X6 hown hK hP 1 rfl rfl 7 (by decide) f_19 (fun _ h9 => h9) rfl dX6_takesItem_458 ?_
      refine lv_iconst (v := (0 : Int32)) hx hb dX6_takesItem_461 (by decide) ?_
      obtain ⟨v3222, hv3222, h⟩ := ob h
      refine k_ld hx hb hK hP 3 0 rfl rfl hv3222 dX6_takesItem_462 ?_
      obtain ⟨g3223, hg3223, h⟩ := ob h
      refine k_st hx hb hK hP hD hS 0 0 rfl rfl hg3223 dX6_takesItem_463 (ws' := [(a_m_w, .inl (cI, 106, .inl g3223)), (a_m, .inr (6, [.ref a_m_w, .ref a_m_d, .int m_undoes, .int m_kept, .ref a_m_text, .int m_texted, .int r3217.2.1, .ref a_m_numbers, .ref a_m_then, .ref a_m_leans, .int m_draws, .int m_drawn, .int m_heards, .ref a_m_heardSet, .ref a_m_heardSum])), (a_m_text, .inl (cI, 200, .inl m_text)), (a_m_numbers, .inl (cI, 4, .inl r3217.2.2))]) rfl (fun H locs hP hD hS => ?_)
      refine lv_iload hx hb dX6_takesItem_464 (lv_at hl 0 rfl) ?_
      obtain ⟨u3224, hu3224, h⟩ := ob h
      obtain rfl := Option.some.inj h
      subst hQe
      exact W.zret (v := j3220) (ty := .boolean) hx hb hr (zb_some hu3224) (fun t ht hW => ⟨⟨j3220, (), rfl, rfl, ⟨by rw [ht]; exact hP.sub [1, 0, 2, 3] rfl, hD.sub [1, 0, 2, 3] (by decide +kernel) rfl⟩⟩, hS.F ht⟩) hS.2.2 dX6_takesItem_466
    refine lv_if_eq (tgt := 448) hx hb dX6_takesItem_431 (by decide) (fun c_431 => ?_) (fun c_431 => ?_)
    · have h := (if_pos c_431).symm.trans hjj3220
      refine lv_iconst (v := (0 : Int32)) hx hb dX6_takesItem_448 (by decide) ?_
      obtain rfl := Option.some.inj h
      exact Jj3220 _ _ hP hD hS _ (lv_sub hl [1, 0] rfl)
    · have h := (if_neg c_431).symm.trans hjj3220
      refine lv_aload_n hx hb dX6_takesItem_434 rfl (lv_at hl 1 rfl) ?_
      refine va_get (D := (dC, dI)) (ci := 6) (v := .ref a_m_numbers) (C := RX6) (T := TX6) (N := 15) hx hb hts in_X6 hown hK hP 1 rfl rfl 7 (by decide) f_19 (fun _ h9 => h9) rfl dX6_takesItem_435 ?_
      refine lv_iconst (v := (0 : Int32)) hx hb dX6_takesItem_438 (by decide) ?_
      obtain ⟨v3221, hv3221, h⟩ := ob h
      refine k_ld hx hb hK hP 3 0 rfl rfl hv3221 dX6_takesItem_439 ?_
      refine lv_iconst (v := (4 : Int32)) hx hb dX6_takesItem_440 (by decide) ?_
      refine lv_icmp_ge (tgt := 448) hx hb dX6_takesItem_441 (by decide) (fun c_441 => ?_) (fun c_441 => ?_)
      · have h := (if_pos c_441).symm.trans h
        refine lv_iconst (v := (0 : Int32)) hx hb dX6_takesItem_448 (by decide) ?_
        obtain rfl := Option.some.inj h
        exact Jj3220 _ _ hP hD hS _ (lv_sub hl [1, 0] rfl)
      · have h := (if_neg c_441).symm.trans h
        refine lv_iconst (v := (1 : Int32)) hx hb dX6_takesItem_444 (by decide) ?_
        refine lv_goto (tgt := 449) hx hb dX6_takesItem_445 (by decide) ?_
        obtain rfl := Option.some.inj h
        exact Jj3220 _ _ hP hD hS _ (lv_sub hl [1, 0] rfl)
  have h := (if_neg e_20_119).symm.trans h
  refine k_tableD (tgt := 515) hx hb dX6_takesItem_20 [100, 103, 104, 111, 112, 119] (by decide +kernel) (by decide +kernel) (by simp only [List.mem_cons, List.not_mem_nil, or_false, not_or]; exact ⟨lv_neT e_20_100 (by decide), lv_neT e_20_103 (by decide), lv_neT e_20_104 (by decide), lv_neT e_20_111 (by decide), lv_neT e_20_112 (by decide), lv_neT e_20_119 (by decide)⟩) (by decide) ?_
  refine lv_iconst (v := (0 : Int32)) hx hb dX6_takesItem_515 (by decide) ?_
  obtain rfl := Option.some.inj h
  subst hQe
  exact W.zret (v := (0 : Int32)) (ty := .boolean) hx hb hr rfl (fun t ht hW => ⟨⟨(0 : Int32), (), rfl, rfl, ⟨by rw [ht]; exact hP.sub [2, 0, 3, 1] rfl, hD.sub [2, 0, 3, 1] (by decide +kernel) rfl⟩⟩, hS.F ht⟩) hS.2.2 dX6_takesItem_516
def rm_X6_faultOf : Room := { frames := 3, cells := 0, slots := 0, locals := 75 }
set_option maxRecDepth 100000 in
set_option maxHeartbeats 8000000 in
theorem c_X6_faultOf (l : Launch) (dC : Nat → ClassId) (dI : Nat → Nat → Nat) (cI cS : ClassId) (n sz : Nat) (a_m : Nat) (a_m_w : Nat) (a_m_d : Nat) (a_m_text : Nat) (a_m_numbers : Nat) (a_m_then : Nat) (a_m_leans : Nat) (a_m_heardSet : Nat) (a_m_heardSum : Nat) (m_w : Nat → Int32) (m_undoes : Int32) (m_kept : Int32) (m_text : Nat → Int32) (m_texted : Int32) (m_at : Int32) (m_numbers : Nat → Int32) (m_draws : Int32) (m_drawn : Int32) (m_heards : Int32) (res : Int32 × Int32 × (Nat → Int32) × (Nat → Int32))  (h : F_X6_faultOf n m_w m_text m_texted m_numbers = some res) : Met l yX6_faultOf wsX6_faultOf rm_X6_faultOf (va_Pc [.ref a_m] (PRE (dC, dI) vwCl [(cI, .int), (cS, .object "RoundOfTheA$State")] sz [(a_m, .inr (6, [.ref a_m_w, .ref a_m_d, .int m_undoes, .int m_kept, .ref a_m_text, .int m_texted, .int m_at, .ref a_m_numbers, .ref a_m_then, .ref a_m_leans, .int m_draws, .int m_drawn, .int m_heards, .ref a_m_heardSet, .ref a_m_heardSum])), (a_m_w, .inl (cI, 106, .inl m_w)), (a_m_text, .inl (cI, 200, .inl m_text)), (a_m_numbers, .inl (cI, 4, .inl m_numbers))])) (va_Qi (fun (r : Int32) (_ : Unit) => r = res.1) (fun u t => POST (dC, dI) vwCl [(a_m, .inr (6, [.ref a_m_w, .ref a_m_d, .int m_undoes, .int m_kept, .ref a_m_text, .int m_texted, .int res.2.1, .ref a_m_numbers, .ref a_m_then, .ref a_m_leans, .int m_draws, .int m_drawn, .int m_heards, .ref a_m_heardSet, .ref a_m_heardSum])), (a_m_w, .inl (cI, 106, .inl res.2.2.1)), (a_m_text, .inl (cI, 200, .inl m_text)), (a_m_numbers, .inl (cI, 4, .inl res.2.2.2))] (va_A [(a_m, .inr (6, [.ref a_m_w, .ref a_m_d, .int m_undoes, .int m_kept, .ref a_m_text, .int m_texted, .int m_at, .ref a_m_numbers, .ref a_m_then, .ref a_m_leans, .int m_draws, .int m_drawn, .int m_heards, .ref a_m_heardSet, .ref a_m_heardSum])), (a_m_w, .inl (cI, 106, .inl m_w)), (a_m_text, .inl (cI, 200, .inl m_text)), (a_m_numbers, .inl (cI, 4, .inl m_numbers))] sz) t) (va_A [(a_m, .inr (6, [.ref a_m_w, .ref a_m_d, .int m_undoes, .int m_kept, .ref a_m_text, .int m_texted, .int m_at, .ref a_m_numbers, .ref a_m_then, .ref a_m_leans, .int m_draws, .int m_drawn, .int m_heards, .ref a_m_heardSet, .ref a_m_heardSum])), (a_m_w, .inl (cI, 106, .inl m_w)), (a_m_text, .inl (cI, 200, .inl m_text)), (a_m_numbers, .inl (cI, 4, .inl m_numbers))] sz)) 0 0 (va_A [(a_m, .inr (6, [.ref a_m_w, .ref a_m_d, .int m_undoes, .int m_kept, .ref a_m_text, .int m_texted, .int m_at, .ref a_m_numbers, .ref a_m_then, .ref a_m_leans, .int m_draws, .int m_drawn, .int m_heards, .ref a_m_heardSet, .ref a_m_heardSum])), (a_m_w, .inl (cI, 106, .inl m_w)), (a_m_text, .inl (cI, 200, .inl m_text)), (a_m_numbers, .inl (cI, 4, .inl m_numbers))] sz) := by
  refine Met.ofW (cc := cX6_faultOf) (maxL := 2) (ret := (some .int)) (by decide) rfl ?_
  intro p e s m args below meth c s₁ B hml hv
  obtain ⟨rfl, hsz, hN, hP, hK, hD0⟩ := hv
  have hx := B.exec
  have hb := B.bytes
  have hr := B.returns
  have hts := atoms_spec (ws := wsX6_faultOf) B.pre
  have hown : s.vm.findClass RX6 = some m.cls := findClass_of_methodNamed B.named
  have hlocks := B.notSynchronized
  subst hsz
  have hD := hD0.self (sz := s.heap.size)
  generalize hAe : va_A [(a_m, .inr (6, [.ref a_m_w, .ref a_m_d, .int m_undoes, .int m_kept, .ref a_m_text, .int m_texted, .int m_at, .ref a_m_numbers, .ref a_m_then, .ref a_m_leans, .int m_draws, .int m_drawn, .int m_heards, .ref a_m_heardSet, .ref a_m_heardSum])), (a_m_w, .inl (cI, 106, .inl m_w)), (a_m_text, .inl (cI, 200, .inl m_text)), (a_m_numbers, .inl (cI, 4, .inl m_numbers))] s.heap.size = A at hD ⊢
  have hA : ∀ q : Nat, s.heap.size ≤ q → A q := fun q h => by rw [← hAe]; exact Or.inr h
  have hS : va_S A s.heap s.heap [] := va_S.rf
  generalize hQe : MQ below _ _ s _ _ A = QQ
  have hl := lv_entry ([.ref a_m]) (n := 2) (Nat.le_of_ble_eq_true rfl)
  rw [lg_entry_eq]
  generalize (lg_sl ([.ref a_m]) ++ List.replicate (2 - (lg_sl ([.ref a_m])).length) Slot.unset).toArray = ls at hl ⊢
  have hl : lv_has ls 2 [(0, .ref a_m)] := hl
  have f_65 := hts (.fieldLink RX6 65 "RoundOfTheAModel" "at" "I") (by decide +kernel)
  have in_X6 := (by decide +kernel : ∀ w ∈ wsX60, w ∈ wsX6_faultOf)
  have f_62 := hts (.fieldLink RX6 62 "RoundOfTheAModel" "texted" "I") (by decide +kernel)
  rw [F_X6_faultOf] at h
  refine lv_aload_n hx hb dX6_faultOf_0 rfl (lv_at hl 0 rfl) ?_
  obtain ⟨r3236, hr3236, h⟩ := ob h
  refine k_Vv (As := []) (rest := []) (wr := [(a_m_text, .inl (cI, 200, .inl m_text)), (a_m_numbers, .inl (cI, 4, .inl m_numbers))]) (c_X6_begins l dC dI cI cS n _ a_m a_m_w a_m_d a_m_text a_m_numbers a_m_then a_m_leans a_m_heardSet a_m_heardSum m_w m_undoes m_kept m_texted m_at m_draws m_drawn m_heards r3236 hr3236) ⟨hx, hb, hml, hown, hts⟩ (cwV 0 hts gX6_faultOf_X6_begins rfl rfl rfl (by decide +kernel) ⟨(Nat.le_of_ble_eq_true rfl), (Nat.le_of_ble_eq_true rfl)⟩) hN hK hP hD hS hA [0, 1] [2, 3] rfl rfl (by decide) (by decide) (by decide) rfl rfl rfl hl.1 rfl (Nat.le_of_ble_eq_true rfl) dX6_faultOf_1 ⟨(Nat.le_of_ble_eq_true rfl), (Nat.le_of_ble_eq_true rfl)⟩ (fun u3237 H locs _ hP hD hS => ?_)
  have hP : va_P (dC, dI) vwCl [(a_m_text, .inl (cI, 200, .inl m_text)), (a_m_numbers, .inl (cI, 4, .inl m_numbers)), (a_m, .inr (6, [.ref a_m_w, .ref a_m_d, .int m_undoes, .int m_kept, .ref a_m_text, .int m_texted, .int m_at, .ref a_m_numbers, .ref a_m_then, .ref a_m_leans, .int m_draws, .int m_drawn, .int m_heards, .ref a_m_heardSet, .ref a_m_heardSum])), (a_m_w, .inl (cI, 106, .inl r3236))] H := hP
  have hD : va_D A [(a_m_text, .inl (cI, 200, .inl m_text)), (a_m_numbers, .inl (cI, 4, .inl m_numbers)), (a_m, .inr (6, [.ref a_m_w, .ref a_m_d, .int m_undoes, .int m_kept, .ref a_m_text, .int m_texted, .int m_at, .ref a_m_numbers, .ref a_m_then, .ref a_m_leans, .int m_draws, .int m_drawn, .int m_heards, .ref a_m_heardSet, .ref a_m_heardSum])), (a_m_w, .inl (cI, 106, .inl r3236))] := hD
  refine lv_aload_n hx hb dX6_faultOf_4 rfl (lv_at hl 0 rfl) ?_
  refine lv_iconst (v := (0 : Int32)) hx hb dX6_faultOf_5 (by decide) ?_
  refine va_put (D := (dC, dI)) (ci := 6) (v := .int (0 : Int32)) (ty := .int) (C := RX6) (T := TX6) (N := 15) hx hb hts in_X6 tyX6 tyX6_ok nmX6 hown hK hP hD hS 2 rfl rfl 6 (by decide) f_65 (fun _ h9 => h9) rfl (by decide +kernel) rfl rfl (Nat.le_of_ble_eq_true rfl) dX6_faultOf_6 (fun H locs hP hD hS => ?_)
  have hP : va_P (dC, dI) vwCl [(a_m_text, .inl (cI, 200, .inl m_text)), (a_m_numbers, .inl (cI, 4, .inl m_numbers)), (a_m, .inr (6, [.ref a_m_w, .ref a_m_d, .int m_undoes, .int m_kept, .ref a_m_text, .int m_texted, .int (0 : Int32), .ref a_m_numbers, .ref a_m_then, .ref a_m_leans, .int m_draws, .int m_drawn, .int m_heards, .ref a_m_heardSet, .ref a_m_heardSum])), (a_m_w, .inl (cI, 106, .inl r3236))] H := hP
  have hD : va_D A [(a_m_text, .inl (cI, 200, .inl m_text)), (a_m_numbers, .inl (cI, 4, .inl m_numbers)), (a_m, .inr (6, [.ref a_m_w, .ref a_m_d, .int m_undoes, .int m_kept, .ref a_m_text, .int m_texted, .int (0 : Int32), .ref a_m_numbers, .ref a_m_then, .ref a_m_leans, .int m_draws, .int m_drawn, .int m_heards, .ref a_m_heardSet, .ref a_m_heardSum])), (a_m_w, .inl (cI, 106, .inl r3236))] := hD
  have K9 : ∀ (k : Nat) (m_numbersv_9 : Nat → Int32) (m_6v_9 : Int32) (m_wv_9 : Nat → Int32), L_X6_faultOf_9 n m_text m_texted k m_numbersv_9 m_6v_9 m_wv_9 = some res → ∀ (H : Heap) (locs : List Loc), va_P (dC, dI) vwCl [(a_m_text, .inl (cI, 200, .inl m_text)), (a_m_numbers, .inl (cI, 4, .inl m_numbersv_9)), (a_m, .inr (6, [.ref a_m_w, .ref a_m_d, .int m_undoes, .int m_kept, .ref a_m_text, .int m_texted, .int m_6v_9, .ref a_m_numbers, .ref a_m_then, .ref a_m_leans, .int m_draws, .int m_drawn, .int m_heards, .ref a_m_heardSet, .ref a_m_heardSum])), (a_m_w, .inl (cI, 106, .inl m_wv_9))] H → va_D A [(a_m_text, .inl (cI, 200, .inl m_text)), (a_m_numbers, .inl (cI, 4, .inl m_numbersv_9)), (a_m, .inr (6, [.ref a_m_w, .ref a_m_d, .int m_undoes, .int m_kept, .ref a_m_text, .int m_texted, .int m_6v_9, .ref a_m_numbers, .ref a_m_then, .ref a_m_leans, .int m_draws, .int m_drawn, .int m_heards, .ref a_m_heardSet, .ref a_m_heardSum])), (a_m_w, .inl (cI, 106, .inl m_wv_9))] → va_S A s.heap H locs → ∀ ls : Array Slot, lv_has ls 2 [(0, .ref a_m)] → W p l e (headSpec wsX6_faultOf rm_X6_faultOf).room s m ([.ref a_m] : List Value).toArray below meth c H locs 0 0 QQ (F0 m 9 ls []) := by
    intro k
    induction k with
    | zero =>
      intro m_numbersv_9 m_6v_9 m_wv_9 h
      rw [L_X6_faultOf_9] at h
      cases h
    | succ k ih =>
      intro m_numbersv_9 m_6v_9 m_wv_9 h H locs hP hD hS ls hl
      rw [L_X6_faultOf_9] at h
      refine lv_aload_n hx hb dX6_faultOf_9 rfl (lv_at hl 0 rfl) ?_
      refine va_get (D := (dC, dI)) (ci := 6) (v := .int m_6v_9) (C := RX6) (T := TX6) (N := 15) hx hb hts in_X6 hown hK hP 2 rfl rfl 6 (by decide) f_65 (fun _ h9 => h9) rfl dX6_faultOf_10 ?_
      refine lv_aload_n hx hb dX6_faultOf_13 rfl (lv_at hl 0 rfl) ?_
      refine va_get (D := (dC, dI)) (ci := 6) (v := .int m_texted) (C := RX6) (T := TX6) (N := 15) hx hb hts in_X6 hown hK hP 2 rfl rfl 5 (by decide) f_62 (fun _ h9 => h9) rfl dX6_faultOf_14 ?_
      refine lv_icmp_ge (tgt := 37) hx hb dX6_faultOf_17 (by decide) (fun c_17 => ?_) (fun c_17 => ?_)
      · have h := (if_pos c_17).symm.trans h
        refine lv_bipush (v := (-4 : Int32)) hx hb dX6_faultOf_37 (by decide) ?_
        obtain rfl := Option.some.inj h
        subst hQe
        exact W.iret (v := (-4 : Int32)) hx hb hr (fun t ht hW => ⟨⟨(-4 : Int32), (), rfl, rfl, ⟨by rw [ht]; exact hP.sub [2, 3, 0, 1] rfl, hD.sub [2, 3, 0, 1] (by decide +kernel) rfl⟩⟩, hS.F ht⟩) hS.2.2 dX6_faultOf_39
      · have h := (if_neg c_17).symm.trans h
        refine lv_aload_n hx hb dX6_faultOf_20 rfl (lv_at hl 0 rfl) ?_
        refine va_get (D := (dC, dI)) (ci := 6) (v := .int m_6v_9) (C := RX6) (T := TX6) (N := 15) hx hb hts in_X6 hown hK hP 2 rfl rfl 6 (by decide) f_65 (fun _ h9 => h9) rfl dX6_faultOf_21 ?_
        refine lv_istore_n (lv' := [(1, .int m_6v_9), (0, .ref a_m)]) hx hb dX6_faultOf_24 rfl hl (by decide) rfl (fun ls hl => ?_)
        refine lv_aload_n hx hb dX6_faultOf_25 rfl (lv_at hl 1 rfl) ?_
        obtain ⟨r3245, hr3245, h⟩ := ob h
        refine k_Vi (As := []) (rest := []) (wr := []) (c_X6_takesItem l dC dI cI cS n _ a_m a_m_w a_m_d a_m_text a_m_numbers a_m_then a_m_leans a_m_heardSet a_m_heardSum m_wv_9 m_undoes m_kept m_text m_texted m_6v_9 m_numbersv_9 m_draws m_drawn m_heards r3245 hr3245) (fun _ _ q => q) ⟨hx, hb, hml, hown, hts⟩ (cwV 0 hts gX6_faultOf_X6_takesItem rfl rfl rfl (by decide +kernel) ⟨(Nat.le_of_ble_eq_true rfl), (Nat.le_of_ble_eq_true rfl)⟩) hN hK hP hD hS hA [2, 3, 0, 1] [] rfl rfl (by decide) (by decide) (by decide) rfl rfl rfl hl.1 rfl (Nat.le_of_ble_eq_true rfl) dX6_faultOf_26 ⟨(Nat.le_of_ble_eq_true rfl), (Nat.le_of_ble_eq_true rfl)⟩ (fun u3246 H locs _ hP hD hS => ?_)
        have hP : va_P (dC, dI) vwCl [(a_m, .inr (6, [.ref a_m_w, .ref a_m_d, .int m_undoes, .int m_kept, .ref a_m_text, .int m_texted, .int r3245.2.1, .ref a_m_numbers, .ref a_m_then, .ref a_m_leans, .int m_draws, .int m_drawn, .int m_heards, .ref a_m_heardSet, .ref a_m_heardSum])), (a_m_w, .inl (cI, 106, .inl r3245.2.2.1)), (a_m_text, .inl (cI, 200, .inl m_text)), (a_m_numbers, .inl (cI, 4, .inl r3245.2.2.2))] H := hP
        have hD : va_D A [(a_m, .inr (6, [.ref a_m_w, .ref a_m_d, .int m_undoes, .int m_kept, .ref a_m_text, .int m_texted, .int r3245.2.1, .ref a_m_numbers, .ref a_m_then, .ref a_m_leans, .int m_draws, .int m_drawn, .int m_heards, .ref a_m_heardSet, .ref a_m_heardSum])), (a_m_w, .inl (cI, 106, .inl r3245.2.2.1)), (a_m_text, .inl (cI, 200, .inl m_text)), (a_m_numbers, .inl (cI, 4, .inl r3245.2.2.2))] := hD
        refine lv_if_ne (tgt := 34) hx hb dX6_faultOf_29 (by decide) (fun c_29 => ?_) (fun c_29 => ?_)
        · have h := (if_neg c_29).symm.trans h
          refine lv_goto (tgt := 9) hx hb dX6_faultOf_34 (by decide) ?_
          exact ih _ _ _ h _ _ (hP.sub [2, 3, 0, 1] rfl) (hD.sub [2, 3, 0, 1] (by decide +kernel) rfl) hS _ (lv_sub hl [1] rfl)
        · have h := (if_pos c_29).symm.trans h
          refine lv_iload_n hx hb dX6_faultOf_32 rfl (lv_at hl 0 rfl) ?_
          obtain rfl := Option.some.inj h
          subst hQe
          exact W.iret (v := m_6v_9) hx hb hr (fun t ht hW => ⟨⟨m_6v_9, (), rfl, rfl, ⟨by rw [ht]; exact hP, hD⟩⟩, hS.F ht⟩) hS.2.2 dX6_faultOf_33
  exact K9 n m_numbers (0 : Int32) r3236 h _ _ hP hD hS _ hl
def rm_X6_fault : Room := { frames := 4, cells := 0, slots := 0, locals := 96 }
set_option maxRecDepth 100000 in
set_option maxHeartbeats 8000000 in
theorem c_X6_fault (l : Launch) (dC : Nat → ClassId) (dI : Nat → Nat → Nat) (cI cS : ClassId) (n sz : Nat) (a_m : Nat) (a_m_w : Nat) (a_m_d : Nat) (a_m_text : Nat) (a_m_numbers : Nat) (a_m_then : Nat) (a_m_leans : Nat) (a_m_heardSet : Nat) (a_m_heardSum : Nat) (m_w : Nat → Int32) (m_undoes : Int32) (m_kept : Int32) (m_text : Nat → Int32) (m_texted : Int32) (m_at : Int32) (m_numbers : Nat → Int32) (m_draws : Int32) (m_drawn : Int32) (m_heards : Int32) (res : Int32 × Int32 × (Nat → Int32) × (Nat → Int32))  (h : F_X6_fault n m_w m_text m_texted m_numbers = some res) : Met l yX6_fault wsX6_fault rm_X6_fault (va_Pc [.ref a_m] (PRE (dC, dI) vwCl [(cI, .int), (cS, .object "RoundOfTheA$State")] sz [(a_m, .inr (6, [.ref a_m_w, .ref a_m_d, .int m_undoes, .int m_kept, .ref a_m_text, .int m_texted, .int m_at, .ref a_m_numbers, .ref a_m_then, .ref a_m_leans, .int m_draws, .int m_drawn, .int m_heards, .ref a_m_heardSet, .ref a_m_heardSum])), (a_m_w, .inl (cI, 106, .inl m_w)), (a_m_text, .inl (cI, 200, .inl m_text)), (a_m_numbers, .inl (cI, 4, .inl m_numbers))])) (va_Qi (fun (r : Int32) (_ : Unit) => r = res.1) (fun u t => POST (dC, dI) vwCl [(a_m, .inr (6, [.ref a_m_w, .ref a_m_d, .int m_undoes, .int m_kept, .ref a_m_text, .int m_texted, .int res.2.1, .ref a_m_numbers, .ref a_m_then, .ref a_m_leans, .int m_draws, .int m_drawn, .int m_heards, .ref a_m_heardSet, .ref a_m_heardSum])), (a_m_w, .inl (cI, 106, .inl res.2.2.1)), (a_m_text, .inl (cI, 200, .inl m_text)), (a_m_numbers, .inl (cI, 4, .inl res.2.2.2))] (va_A [(a_m, .inr (6, [.ref a_m_w, .ref a_m_d, .int m_undoes, .int m_kept, .ref a_m_text, .int m_texted, .int m_at, .ref a_m_numbers, .ref a_m_then, .ref a_m_leans, .int m_draws, .int m_drawn, .int m_heards, .ref a_m_heardSet, .ref a_m_heardSum])), (a_m_w, .inl (cI, 106, .inl m_w)), (a_m_text, .inl (cI, 200, .inl m_text)), (a_m_numbers, .inl (cI, 4, .inl m_numbers))] sz) t) (va_A [(a_m, .inr (6, [.ref a_m_w, .ref a_m_d, .int m_undoes, .int m_kept, .ref a_m_text, .int m_texted, .int m_at, .ref a_m_numbers, .ref a_m_then, .ref a_m_leans, .int m_draws, .int m_drawn, .int m_heards, .ref a_m_heardSet, .ref a_m_heardSum])), (a_m_w, .inl (cI, 106, .inl m_w)), (a_m_text, .inl (cI, 200, .inl m_text)), (a_m_numbers, .inl (cI, 4, .inl m_numbers))] sz)) 0 0 (va_A [(a_m, .inr (6, [.ref a_m_w, .ref a_m_d, .int m_undoes, .int m_kept, .ref a_m_text, .int m_texted, .int m_at, .ref a_m_numbers, .ref a_m_then, .ref a_m_leans, .int m_draws, .int m_drawn, .int m_heards, .ref a_m_heardSet, .ref a_m_heardSum])), (a_m_w, .inl (cI, 106, .inl m_w)), (a_m_text, .inl (cI, 200, .inl m_text)), (a_m_numbers, .inl (cI, 4, .inl m_numbers))] sz) := by
  refine Met.ofW (cc := cX6_fault) (maxL := 1) (ret := (some .int)) (by decide) rfl ?_
  intro p e s m args below meth c s₁ B hml hv
  obtain ⟨rfl, hsz, hN, hP, hK, hD0⟩ := hv
  have hx := B.exec
  have hb := B.bytes
  have hr := B.returns
  have hts := atoms_spec (ws := wsX6_fault) B.pre
  have hown : s.vm.findClass RX6 = some m.cls := findClass_of_methodNamed B.named
  have hlocks := B.notSynchronized
  subst hsz
  have hD := hD0.self (sz := s.heap.size)
  generalize hAe : va_A [(a_m, .inr (6, [.ref a_m_w, .ref a_m_d, .int m_undoes, .int m_kept, .ref a_m_text, .int m_texted, .int m_at, .ref a_m_numbers, .ref a_m_then, .ref a_m_leans, .int m_draws, .int m_drawn, .int m_heards, .ref a_m_heardSet, .ref a_m_heardSum])), (a_m_w, .inl (cI, 106, .inl m_w)), (a_m_text, .inl (cI, 200, .inl m_text)), (a_m_numbers, .inl (cI, 4, .inl m_numbers))] s.heap.size = A at hD ⊢
  have hA : ∀ q : Nat, s.heap.size ≤ q → A q := fun q h => by rw [← hAe]; exact Or.inr h
  have hS : va_S A s.heap s.heap [] := va_S.rf
  generalize hQe : MQ below _ _ s _ _ A = QQ
  have hl := lv_entry ([.ref a_m]) (n := 1) (Nat.le_of_ble_eq_true rfl)
  rw [lg_entry_eq]
  generalize (lg_sl ([.ref a_m]) ++ List.replicate (1 - (lg_sl ([.ref a_m])).length) Slot.unset).toArray = ls at hl ⊢
  have hl : lv_has ls 1 [(0, .ref a_m)] := hl
  rw [F_X6_fault] at h
  refine lv_aload_n hx hb dX6_fault_0 rfl (lv_at hl 0 rfl) ?_
  obtain ⟨r3249, hr3249, h⟩ := ob h
  refine k_Vi (As := []) (rest := []) (wr := []) (c_X6_faultOf l dC dI cI cS n _ a_m a_m_w a_m_d a_m_text a_m_numbers a_m_then a_m_leans a_m_heardSet a_m_heardSum m_w m_undoes m_kept m_text m_texted m_at m_numbers m_draws m_drawn m_heards r3249 hr3249) (fun _ _ q => q) ⟨hx, hb, hml, hown, hts⟩ (cwV 0 hts gX6_fault_X6_faultOf rfl rfl rfl (by decide +kernel) ⟨(Nat.le_of_ble_eq_true rfl), (Nat.le_of_ble_eq_true rfl)⟩) hN hK hP hD hS hA [0, 1, 2, 3] [] rfl rfl (by decide) (by decide) (by decide) rfl rfl rfl hl.1 rfl (Nat.le_of_ble_eq_true rfl) dX6_fault_1 ⟨(Nat.le_of_ble_eq_true rfl), (Nat.le_of_ble_eq_true rfl)⟩ (fun u3250 H locs _ hP hD hS => ?_)
  have hP : va_P (dC, dI) vwCl [(a_m, .inr (6, [.ref a_m_w, .ref a_m_d, .int m_undoes, .int m_kept, .ref a_m_text, .int m_texted, .int r3249.2.1, .ref a_m_numbers, .ref a_m_then, .ref a_m_leans, .int m_draws, .int m_drawn, .int m_heards, .ref a_m_heardSet, .ref a_m_heardSum])), (a_m_w, .inl (cI, 106, .inl r3249.2.2.1)), (a_m_text, .inl (cI, 200, .inl m_text)), (a_m_numbers, .inl (cI, 4, .inl r3249.2.2.2))] H := hP
  have hD : va_D A [(a_m, .inr (6, [.ref a_m_w, .ref a_m_d, .int m_undoes, .int m_kept, .ref a_m_text, .int m_texted, .int r3249.2.1, .ref a_m_numbers, .ref a_m_then, .ref a_m_leans, .int m_draws, .int m_drawn, .int m_heards, .ref a_m_heardSet, .ref a_m_heardSum])), (a_m_w, .inl (cI, 106, .inl r3249.2.2.1)), (a_m_text, .inl (cI, 200, .inl m_text)), (a_m_numbers, .inl (cI, 4, .inl r3249.2.2.2))] := hD
  obtain rfl := Option.some.inj h
  subst hQe
  exact W.iret (v := r3249.1) hx hb hr (fun t ht hW => ⟨⟨r3249.1, (), rfl, rfl, ⟨by rw [ht]; exact hP, hD⟩⟩, hS.F ht⟩) hS.2.2 dX6_fault_4
def rm_X6_lay : Room := { frames := 4, cells := 0, slots := 0, locals := 96 }
set_option maxRecDepth 100000 in
set_option maxHeartbeats 8000000 in
theorem c_X6_lay (l : Launch) (dC : Nat → ClassId) (dI : Nat → Nat → Nat) (cI cS : ClassId) (n sz : Nat) (a_m : Nat) (a_m_w : Nat) (a_m_d : Nat) (a_m_text : Nat) (a_m_numbers : Nat) (a_m_then : Nat) (a_m_leans : Nat) (a_m_heardSet : Nat) (a_m_heardSum : Nat) (m_w : Nat → Int32) (m_d : Nat → Int32) (m_undoes : Int32) (m_kept : Int32) (m_text : Nat → Int32) (m_texted : Int32) (m_at : Int32) (m_numbers : Nat → Int32) (m_draws : Int32) (m_drawn : Int32) (m_heards : Int32) (res : Int32 × Int32 × Int32 × Int32 × Int32 × (Nat → Int32) × (Nat → Int32) × (Nat → Int32))  (h : F_X6_lay n m_w m_d m_undoes m_kept m_text m_texted m_numbers m_heards = some res) : Met l yX6_lay wsX6_lay rm_X6_lay (va_Pc [.ref a_m] (PRE (dC, dI) vwCl [(cI, .int), (cS, .object "RoundOfTheA$State")] sz [(a_m, .inr (6, [.ref a_m_w, .ref a_m_d, .int m_undoes, .int m_kept, .ref a_m_text, .int m_texted, .int m_at, .ref a_m_numbers, .ref a_m_then, .ref a_m_leans, .int m_draws, .int m_drawn, .int m_heards, .ref a_m_heardSet, .ref a_m_heardSum])), (a_m_w, .inl (cI, 106, .inl m_w)), (a_m_d, .inl (cI, 216, .inl m_d)), (a_m_text, .inl (cI, 200, .inl m_text)), (a_m_numbers, .inl (cI, 4, .inl m_numbers))])) (va_Qi (fun (r : Int32) (_ : Unit) => r = res.1) (fun u t => POST (dC, dI) vwCl [(a_m, .inr (6, [.ref a_m_w, .ref a_m_d, .int res.2.1, .int res.2.2.1, .ref a_m_text, .int m_texted, .int res.2.2.2.1, .ref a_m_numbers, .ref a_m_then, .ref a_m_leans, .int m_draws, .int m_drawn, .int res.2.2.2.2.1, .ref a_m_heardSet, .ref a_m_heardSum])), (a_m_w, .inl (cI, 106, .inl res.2.2.2.2.2.1)), (a_m_d, .inl (cI, 216, .inl res.2.2.2.2.2.2.1)), (a_m_text, .inl (cI, 200, .inl m_text)), (a_m_numbers, .inl (cI, 4, .inl res.2.2.2.2.2.2.2))] (va_A [(a_m, .inr (6, [.ref a_m_w, .ref a_m_d, .int m_undoes, .int m_kept, .ref a_m_text, .int m_texted, .int m_at, .ref a_m_numbers, .ref a_m_then, .ref a_m_leans, .int m_draws, .int m_drawn, .int m_heards, .ref a_m_heardSet, .ref a_m_heardSum])), (a_m_w, .inl (cI, 106, .inl m_w)), (a_m_d, .inl (cI, 216, .inl m_d)), (a_m_text, .inl (cI, 200, .inl m_text)), (a_m_numbers, .inl (cI, 4, .inl m_numbers))] sz) t) (va_A [(a_m, .inr (6, [.ref a_m_w, .ref a_m_d, .int m_undoes, .int m_kept, .ref a_m_text, .int m_texted, .int m_at, .ref a_m_numbers, .ref a_m_then, .ref a_m_leans, .int m_draws, .int m_drawn, .int m_heards, .ref a_m_heardSet, .ref a_m_heardSum])), (a_m_w, .inl (cI, 106, .inl m_w)), (a_m_d, .inl (cI, 216, .inl m_d)), (a_m_text, .inl (cI, 200, .inl m_text)), (a_m_numbers, .inl (cI, 4, .inl m_numbers))] sz)) 0 0 (va_A [(a_m, .inr (6, [.ref a_m_w, .ref a_m_d, .int m_undoes, .int m_kept, .ref a_m_text, .int m_texted, .int m_at, .ref a_m_numbers, .ref a_m_then, .ref a_m_leans, .int m_draws, .int m_drawn, .int m_heards, .ref a_m_heardSet, .ref a_m_heardSum])), (a_m_w, .inl (cI, 106, .inl m_w)), (a_m_d, .inl (cI, 216, .inl m_d)), (a_m_text, .inl (cI, 200, .inl m_text)), (a_m_numbers, .inl (cI, 4, .inl m_numbers))] sz) := by
  refine Met.ofW (cc := cX6_lay) (maxL := 4) (ret := (some .int)) (by decide) rfl ?_
  intro p e s m args below meth c s₁ B hml hv
  obtain ⟨rfl, hsz, hN, hP, hK, hD0⟩ := hv
  have hx := B.exec
  have hb := B.bytes
  have hr := B.returns
  have hts := atoms_spec (ws := wsX6_lay) B.pre
  have hown : s.vm.findClass RX6 = some m.cls := findClass_of_methodNamed B.named
  have hlocks := B.notSynchronized
  subst hsz
  have hD := hD0.self (sz := s.heap.size)
  generalize hAe : va_A [(a_m, .inr (6, [.ref a_m_w, .ref a_m_d, .int m_undoes, .int m_kept, .ref a_m_text, .int m_texted, .int m_at, .ref a_m_numbers, .ref a_m_then, .ref a_m_leans, .int m_draws, .int m_drawn, .int m_heards, .ref a_m_heardSet, .ref a_m_heardSum])), (a_m_w, .inl (cI, 106, .inl m_w)), (a_m_d, .inl (cI, 216, .inl m_d)), (a_m_text, .inl (cI, 200, .inl m_text)), (a_m_numbers, .inl (cI, 4, .inl m_numbers))] s.heap.size = A at hD ⊢
  have hA : ∀ q : Nat, s.heap.size ≤ q → A q := fun q h => by rw [← hAe]; exact Or.inr h
  have hS : va_S A s.heap s.heap [] := va_S.rf
  generalize hQe : MQ below _ _ s _ _ A = QQ
  have hl := lv_entry ([.ref a_m]) (n := 4) (Nat.le_of_ble_eq_true rfl)
  rw [lg_entry_eq]
  generalize (lg_sl ([.ref a_m]) ++ List.replicate (4 - (lg_sl ([.ref a_m])).length) Slot.unset).toArray = ls at hl ⊢
  have hl : lv_has ls 4 [(0, .ref a_m)] := hl
  have f_7 := hts (.fieldLink RX6 7 "RoundOfTheAModel" "w" "[I") (by decide +kernel)
  have in_X6 := (by decide +kernel : ∀ w ∈ wsX60, w ∈ wsX6_lay)
  rw [F_X6_lay] at h
  refine lv_aload_n hx hb dX6_lay_0 rfl (lv_at hl 0 rfl) ?_
  obtain ⟨r3277, hr3277, h⟩ := ob h
  refine k_Vi (As := []) (rest := []) (wr := [(a_m_d, .inl (cI, 216, .inl m_d))]) (c_X6_faultOf l dC dI cI cS n _ a_m a_m_w a_m_d a_m_text a_m_numbers a_m_then a_m_leans a_m_heardSet a_m_heardSum m_w m_undoes m_kept m_text m_texted m_at m_numbers m_draws m_drawn m_heards r3277 hr3277) (fun _ _ q => q) ⟨hx, hb, hml, hown, hts⟩ (cwV 0 hts gX6_lay_X6_faultOf rfl rfl rfl (by decide +kernel) ⟨(Nat.le_of_ble_eq_true rfl), (Nat.le_of_ble_eq_true rfl)⟩) hN hK hP hD hS hA [0, 1, 3, 4] [2] rfl rfl (by decide) (by decide) (by decide) rfl rfl rfl hl.1 rfl (Nat.le_of_ble_eq_true rfl) dX6_lay_1 ⟨(Nat.le_of_ble_eq_true rfl), (Nat.le_of_ble_eq_true rfl)⟩ (fun u3278 H locs _ hP hD hS => ?_)
  have hP : va_P (dC, dI) vwCl [(a_m_d, .inl (cI, 216, .inl m_d)), (a_m, .inr (6, [.ref a_m_w, .ref a_m_d, .int m_undoes, .int m_kept, .ref a_m_text, .int m_texted, .int r3277.2.1, .ref a_m_numbers, .ref a_m_then, .ref a_m_leans, .int m_draws, .int m_drawn, .int m_heards, .ref a_m_heardSet, .ref a_m_heardSum])), (a_m_w, .inl (cI, 106, .inl r3277.2.2.1)), (a_m_text, .inl (cI, 200, .inl m_text)), (a_m_numbers, .inl (cI, 4, .inl r3277.2.2.2))] H := hP
  have hD : va_D A [(a_m_d, .inl (cI, 216, .inl m_d)), (a_m, .inr (6, [.ref a_m_w, .ref a_m_d, .int m_undoes, .int m_kept, .ref a_m_text, .int m_texted, .int r3277.2.1, .ref a_m_numbers, .ref a_m_then, .ref a_m_leans, .int m_draws, .int m_drawn, .int m_heards, .ref a_m_heardSet, .ref a_m_heardSum])), (a_m_w, .inl (cI, 106, .inl r3277.2.2.1)), (a_m_text, .inl (cI, 200, .inl m_text)), (a_m_numbers, .inl (cI, 4, .inl r3277.2.2.2))] := hD
  refine lv_bipush (v := (-4 : Int32)) hx hb dX6_lay_4 (by decide) ?_
  obtain ⟨j3280, hjj3280, h⟩ := ob h
  have Jj3280 : ∀ (H : Heap) (locs : List Loc), va_P (dC, dI) vwCl [(a_m_d, .inl (cI, 216, .inl m_d)), (a_m, .inr (6, [.ref a_m_w, .ref a_m_d, .int m_undoes, .int m_kept, .ref a_m_text, .int m_texted, .int r3277.2.1, .ref a_m_numbers, .ref a_m_then, .ref a_m_leans, .int m_draws, .int m_drawn, .int m_heards, .ref a_m_heardSet, .ref a_m_heardSum])), (a_m_w, .inl (cI, 106, .inl r3277.2.2.1)), (a_m_text, .inl (cI, 200, .inl m_text)), (a_m_numbers, .inl (cI, 4, .inl r3277.2.2.2))] H → va_D A [(a_m_d, .inl (cI, 216, .inl m_d)), (a_m, .inr (6, [.ref a_m_w, .ref a_m_d, .int m_undoes, .int m_kept, .ref a_m_text, .int m_texted, .int r3277.2.1, .ref a_m_numbers, .ref a_m_then, .ref a_m_leans, .int m_draws, .int m_drawn, .int m_heards, .ref a_m_heardSet, .ref a_m_heardSum])), (a_m_w, .inl (cI, 106, .inl r3277.2.2.1)), (a_m_text, .inl (cI, 200, .inl m_text)), (a_m_numbers, .inl (cI, 4, .inl r3277.2.2.2))] → va_S A s.heap H locs → ∀ ls : Array Slot, lv_has ls 4 [(0, .ref a_m)] → W p l e (headSpec wsX6_lay rm_X6_lay).room s m ([.ref a_m] : List Value).toArray below meth c H locs 0 0 QQ (F0 m 24 ls [.int j3280]) := by
    intro H locs hP hD hS ls hl
    refine lv_istore_n (lv' := [(1, .int j3280), (0, .ref a_m)]) hx hb dX6_lay_24 rfl hl (by decide) rfl (fun ls hl => ?_)
    refine lv_iconst (v := (0 : Int32)) hx hb dX6_lay_25 (by decide) ?_
    refine lv_istore_n (lv' := [(2, .int (0 : Int32)), (1, .int j3280), (0, .ref a_m)]) hx hb dX6_lay_26 rfl hl (by decide) rfl (fun ls hl => ?_)
    obtain ⟨j3294, hjj3294, h⟩ := ob h
    have Jj3294 : ∀ (H : Heap) (locs : List Loc), va_P (dC, dI) vwCl [(a_m_d, .inl (cI, 216, .inl m_d)), (a_m, .inr (6, [.ref a_m_w, .ref a_m_d, .int m_undoes, .int m_kept, .ref a_m_text, .int m_texted, .int r3277.2.1, .ref a_m_numbers, .ref a_m_then, .ref a_m_leans, .int m_draws, .int m_drawn, .int m_heards, .ref a_m_heardSet, .ref a_m_heardSum])), (a_m_w, .inl (cI, 106, .inl r3277.2.2.1)), (a_m_text, .inl (cI, 200, .inl m_text)), (a_m_numbers, .inl (cI, 4, .inl r3277.2.2.2))] H → va_D A [(a_m_d, .inl (cI, 216, .inl m_d)), (a_m, .inr (6, [.ref a_m_w, .ref a_m_d, .int m_undoes, .int m_kept, .ref a_m_text, .int m_texted, .int r3277.2.1, .ref a_m_numbers, .ref a_m_then, .ref a_m_leans, .int m_draws, .int m_drawn, .int m_heards, .ref a_m_heardSet, .ref a_m_heardSum])), (a_m_w, .inl (cI, 106, .inl r3277.2.2.1)), (a_m_text, .inl (cI, 200, .inl m_text)), (a_m_numbers, .inl (cI, 4, .inl r3277.2.2.2))] → va_S A s.heap H locs → ∀ ls : Array Slot, lv_has ls 4 [(0, .ref a_m), (1, .int j3294.1), (2, .int j3294.2)] → W p l e (headSpec wsX6_lay rm_X6_lay).room s m ([.ref a_m] : List Value).toArray below meth c H locs 0 0 QQ (F0 m 86 ls []) := by
      intro H locs hP hD hS ls hl
      refine lv_iload_n hx hb dX6_lay_86 rfl (lv_at hl 1 rfl) ?_
      refine lv_if_ne (tgt := 93) hx hb dX6_lay_87 (by decide) (fun c_87 => ?_) (fun c_87 => ?_)
      · have h := (if_neg c_87).symm.trans h
        refine lv_aload_n hx hb dX6_lay_93 rfl (lv_at hl 0 rfl) ?_
        obtain ⟨r3300, hr3300, h⟩ := ob h
        refine k_Vv (As := []) (rest := []) (wr := [(a_m_text, .inl (cI, 200, .inl m_text)), (a_m_numbers, .inl (cI, 4, .inl r3277.2.2.2))]) (c_X6_comes l dC dI cI cS n _ a_m a_m_w a_m_d a_m_text a_m_numbers a_m_then a_m_leans a_m_heardSet a_m_heardSum r3277.2.2.1 m_d m_undoes m_kept m_texted r3277.2.1 m_draws m_drawn m_heards r3300 hr3300) ⟨hx, hb, hml, hown, hts⟩ (cwV 0 hts gX6_lay_X6_comes rfl rfl rfl (by decide +kernel) ⟨(Nat.le_of_ble_eq_true rfl), (Nat.le_of_ble_eq_true rfl)⟩) hN hK hP hD hS hA [1, 2, 0] [3, 4] rfl rfl (by decide) (by decide) (by decide) rfl rfl rfl hl.1 rfl (Nat.le_of_ble_eq_true rfl) dX6_lay_94 ⟨(Nat.le_of_ble_eq_true rfl), (Nat.le_of_ble_eq_true rfl)⟩ (fun u3301 H locs _ hP hD hS => ?_)
        have hP : va_P (dC, dI) vwCl [(a_m_text, .inl (cI, 200, .inl m_text)), (a_m_numbers, .inl (cI, 4, .inl r3277.2.2.2)), (a_m, .inr (6, [.ref a_m_w, .ref a_m_d, .int r3300.1, .int r3300.2.1, .ref a_m_text, .int m_texted, .int r3277.2.1, .ref a_m_numbers, .ref a_m_then, .ref a_m_leans, .int m_draws, .int m_drawn, .int r3300.2.2.1, .ref a_m_heardSet, .ref a_m_heardSum])), (a_m_w, .inl (cI, 106, .inl r3300.2.2.2.1)), (a_m_d, .inl (cI, 216, .inl r3300.2.2.2.2))] H := hP
        have hD : va_D A [(a_m_text, .inl (cI, 200, .inl m_text)), (a_m_numbers, .inl (cI, 4, .inl r3277.2.2.2)), (a_m, .inr (6, [.ref a_m_w, .ref a_m_d, .int r3300.1, .int r3300.2.1, .ref a_m_text, .int m_texted, .int r3277.2.1, .ref a_m_numbers, .ref a_m_then, .ref a_m_leans, .int m_draws, .int m_drawn, .int r3300.2.2.1, .ref a_m_heardSet, .ref a_m_heardSum])), (a_m_w, .inl (cI, 106, .inl r3300.2.2.2.1)), (a_m_d, .inl (cI, 216, .inl r3300.2.2.2.2))] := hD
        refine lv_aload_n hx hb dX6_lay_97 rfl (lv_at hl 0 rfl) ?_
        refine va_get (D := (dC, dI)) (ci := 6) (v := .ref a_m_w) (C := RX6) (T := TX6) (N := 15) hx hb hts in_X6 hown hK hP 2 rfl rfl 0 (by decide) f_7 (fun _ h9 => h9) rfl dX6_lay_98 ?_
        refine lv_iconst (v := (0 : Int32)) hx hb dX6_lay_101 (by decide) ?_
        obtain ⟨v3302, hv3302, h⟩ := ob h
        refine k_ld hx hb hK hP 3 0 rfl rfl hv3302 dX6_lay_102 ?_
        obtain rfl := Option.some.inj h
        subst hQe
        exact W.iret (v := v3302) hx hb hr (fun t ht hW => ⟨⟨v3302, (), rfl, rfl, ⟨by rw [ht]; exact hP.sub [2, 3, 4, 0, 1] rfl, hD.sub [2, 3, 4, 0, 1] (by decide +kernel) rfl⟩⟩, hS.F ht⟩) hS.2.2 dX6_lay_103
      · have h := (if_pos c_87).symm.trans h
        refine lv_bipush (v := (-2 : Int32)) hx hb dX6_lay_90 (by decide) ?_
        obtain rfl := Option.some.inj h
        subst hQe
        exact W.iret (v := (-2 : Int32)) hx hb hr (fun t ht hW => ⟨⟨(-2 : Int32), (), rfl, rfl, ⟨by rw [ht]; exact hP.sub [1, 2, 0, 3, 4] rfl, hD.sub [1, 2, 0, 3, 4] (by decide +kernel) rfl⟩⟩, hS.F ht⟩) hS.2.2 dX6_lay_92
    have K27 : ∀ (k : Nat) (y1_27 : Int32) (y2_27 : Int32), L_X6_lay_27 r3277 k y1_27 y2_27 = some j3294 → ∀ (H : Heap) (locs : List Loc), va_P (dC, dI) vwCl [(a_m_d, .inl (cI, 216, .inl m_d)), (a_m, .inr (6, [.ref a_m_w, .ref a_m_d, .int m_undoes, .int m_kept, .ref a_m_text, .int m_texted, .int r3277.2.1, .ref a_m_numbers, .ref a_m_then, .ref a_m_leans, .int m_draws, .int m_drawn, .int m_heards, .ref a_m_heardSet, .ref a_m_heardSum])), (a_m_w, .inl (cI, 106, .inl r3277.2.2.1)), (a_m_text, .inl (cI, 200, .inl m_text)), (a_m_numbers, .inl (cI, 4, .inl r3277.2.2.2))] H → va_D A [(a_m_d, .inl (cI, 216, .inl m_d)), (a_m, .inr (6, [.ref a_m_w, .ref a_m_d, .int m_undoes, .int m_kept, .ref a_m_text, .int m_texted, .int r3277.2.1, .ref a_m_numbers, .ref a_m_then, .ref a_m_leans, .int m_draws, .int m_drawn, .int m_heards, .ref a_m_heardSet, .ref a_m_heardSum])), (a_m_w, .inl (cI, 106, .inl r3277.2.2.1)), (a_m_text, .inl (cI, 200, .inl m_text)), (a_m_numbers, .inl (cI, 4, .inl r3277.2.2.2))] → va_S A s.heap H locs → ∀ ls : Array Slot, lv_has ls 4 [(0, .ref a_m), (1, .int y1_27), (2, .int y2_27)] → W p l e (headSpec wsX6_lay rm_X6_lay).room s m ([.ref a_m] : List Value).toArray below meth c H locs 0 0 QQ (F0 m 27 ls []) := by
      intro k
      induction k with
      | zero =>
        intro y1_27 y2_27 h
        rw [L_X6_lay_27] at h
        cases h
      | succ k ih =>
        intro y1_27 y2_27 h H locs hP hD hS ls hl
        rw [L_X6_lay_27] at h
        refine lv_iload_n hx hb dX6_lay_27 rfl (lv_at hl 2 rfl) ?_
        refine lv_aload_n hx hb dX6_lay_28 rfl (lv_at hl 0 rfl) ?_
        refine va_get (D := (dC, dI)) (ci := 6) (v := .ref a_m_w) (C := RX6) (T := TX6) (N := 15) hx hb hts in_X6 hown hK hP 1 rfl rfl 0 (by decide) f_7 (fun _ h9 => h9) rfl dX6_lay_29 ?_
        refine lv_bipush (v := (53 : Int32)) hx hb dX6_lay_32 (by decide) ?_
        obtain ⟨v3295, hv3295, h⟩ := ob h
        refine k_ld hx hb hK hP 2 0 rfl rfl hv3295 dX6_lay_34 ?_
        refine lv_icmp_ge (tgt := 86) hx hb dX6_lay_35 (by decide) (fun c_35 => ?_) (fun c_35 => ?_)
        · have h := (if_pos c_35).symm.trans h
          obtain rfl := Option.some.inj h
          exact Jj3294 _ _ hP hD hS _ hl
        · have h := (if_neg c_35).symm.trans h
          refine lv_iload_n hx hb dX6_lay_38 rfl (lv_at hl 1 rfl) ?_
          refine lv_if_eq (tgt := 86) hx hb dX6_lay_39 (by decide) (fun c_39 => ?_) (fun c_39 => ?_)
          · have h := (if_pos c_39).symm.trans h
            obtain rfl := Option.some.inj h
            exact Jj3294 _ _ hP hD hS _ hl
          · have h := (if_neg c_39).symm.trans h
            refine lv_aload_n hx hb dX6_lay_42 rfl (lv_at hl 0 rfl) ?_
            refine va_get (D := (dC, dI)) (ci := 6) (v := .ref a_m_w) (C := RX6) (T := TX6) (N := 15) hx hb hts in_X6 hown hK hP 1 rfl rfl 0 (by decide) f_7 (fun _ h9 => h9) rfl dX6_lay_43 ?_
            refine lv_bipush (v := (78 : Int32)) hx hb dX6_lay_46 (by decide) ?_
            refine lv_iload_n hx hb dX6_lay_48 rfl (lv_at hl 2 rfl) ?_
            refine lv_iadd hx hb dX6_lay_49 ?_
            obtain ⟨v3296, hv3296, h⟩ := ob h
            refine k_ld hx hb hK hP 2 0 rfl rfl hv3296 dX6_lay_50 ?_
            refine lv_istore_n (lv' := [(3, .int v3296), (0, .ref a_m), (1, .int y1_27), (2, .int y2_27)]) hx hb dX6_lay_51 rfl hl (by decide) rfl (fun ls hl => ?_)
            refine lv_iload_n hx hb dX6_lay_52 rfl (lv_at hl 0 rfl) ?_
            refine lv_bipush (v := (8 : Int32)) hx hb dX6_lay_53 (by decide) ?_
            obtain ⟨j3298, hjj3298, h⟩ := ob h
            have Jj3298 : ∀ (H : Heap) (locs : List Loc), va_P (dC, dI) vwCl [(a_m_d, .inl (cI, 216, .inl m_d)), (a_m, .inr (6, [.ref a_m_w, .ref a_m_d, .int m_undoes, .int m_kept, .ref a_m_text, .int m_texted, .int r3277.2.1, .ref a_m_numbers, .ref a_m_then, .ref a_m_leans, .int m_draws, .int m_drawn, .int m_heards, .ref a_m_heardSet, .ref a_m_heardSum])), (a_m_w, .inl (cI, 106, .inl r3277.2.2.1)), (a_m_text, .inl (cI, 200, .inl m_text)), (a_m_numbers, .inl (cI, 4, .inl r3277.2.2.2))] H → va_D A [(a_m_d, .inl (cI, 216, .inl m_d)), (a_m, .inr (6, [.ref a_m_w, .ref a_m_d, .int m_undoes, .int m_kept, .ref a_m_text, .int m_texted, .int r3277.2.1, .ref a_m_numbers, .ref a_m_then, .ref a_m_leans, .int m_draws, .int m_drawn, .int m_heards, .ref a_m_heardSet, .ref a_m_heardSum])), (a_m_w, .inl (cI, 106, .inl r3277.2.2.1)), (a_m_text, .inl (cI, 200, .inl m_text)), (a_m_numbers, .inl (cI, 4, .inl r3277.2.2.2))] → va_S A s.heap H locs → ∀ ls : Array Slot, lv_has ls 4 [(0, .ref a_m), (1, .int y1_27), (2, .int y2_27), (3, .int v3296)] → W p l e (headSpec wsX6_lay rm_X6_lay).room s m ([.ref a_m] : List Value).toArray below meth c H locs 0 0 QQ (F0 m 79 ls [.int j3298]) := by
              intro H locs hP hD hS ls hl
              refine lv_istore_n (lv' := [(1, .int j3298), (0, .ref a_m), (2, .int y2_27), (3, .int v3296)]) hx hb dX6_lay_79 rfl hl (by decide) rfl (fun ls hl => ?_)
              refine lv_iinc (v := (y2_27 + (1 : Int32))) (lv' := [(2, .int (y2_27 + (1 : Int32))), (1, .int j3298), (0, .ref a_m), (3, .int v3296)]) hx hb dX6_lay_80 hl (k := 2) rfl rfl (by decide) rfl (fun ls hl => ?_)
              refine lv_goto (tgt := 27) hx hb dX6_lay_83 (by decide) ?_
              exact ih _ _ h _ _ hP hD hS _ (lv_sub hl [2, 1, 0] rfl)
            refine lv_icmp_ge (tgt := 74) hx hb dX6_lay_55 (by decide) (fun c_55 => ?_) (fun c_55 => ?_)
            · have h := (if_pos c_55).symm.trans hjj3298
              refine lv_iconst (v := (1 : Int32)) hx hb dX6_lay_74 (by decide) ?_
              refine lv_goto (tgt := 79) hx hb dX6_lay_75 (by decide) ?_
              obtain rfl := Option.some.inj h
              exact Jj3298 _ _ hP hD hS _ (lv_sub hl [1, 2, 3, 0] rfl)
            · have h := (if_neg c_55).symm.trans hjj3298
              refine lv_iload_n hx hb dX6_lay_58 rfl (lv_at hl 0 rfl) ?_
              refine lv_iload_n hx hb dX6_lay_59 rfl (lv_at hl 3 rfl) ?_
              refine lv_icmp_eq (tgt := 78) hx hb dX6_lay_60 (by decide) (fun c_60 => ?_) (fun c_60 => ?_)
              · have h := (if_pos c_60).symm.trans h
                refine lv_iconst (v := (0 : Int32)) hx hb dX6_lay_78 (by decide) ?_
                obtain rfl := Option.some.inj h
                exact Jj3298 _ _ hP hD hS _ (lv_sub hl [1, 2, 3, 0] rfl)
              · have h := (if_neg c_60).symm.trans h
                refine lv_iload_n hx hb dX6_lay_63 rfl (lv_at hl 0 rfl) ?_
                refine lv_aload_n hx hb dX6_lay_64 rfl (lv_at hl 1 rfl) ?_
                refine va_get (D := (dC, dI)) (ci := 6) (v := .ref a_m_w) (C := RX6) (T := TX6) (N := 15) hx hb hts in_X6 hown hK hP 1 rfl rfl 0 (by decide) f_7 (fun _ h9 => h9) rfl dX6_lay_65 ?_
                refine lv_bipush (v := (53 : Int32)) hx hb dX6_lay_68 (by decide) ?_
                obtain ⟨v3299, hv3299, h⟩ := ob h
                refine k_ld hx hb hK hP 2 0 rfl rfl hv3299 dX6_lay_70 ?_
                refine lv_icmp_ge (tgt := 78) hx hb dX6_lay_71 (by decide) (fun c_71 => ?_) (fun c_71 => ?_)
                · have h := (if_pos c_71).symm.trans h
                  refine lv_iconst (v := (0 : Int32)) hx hb dX6_lay_78 (by decide) ?_
                  obtain rfl := Option.some.inj h
                  exact Jj3298 _ _ hP hD hS _ (lv_sub hl [1, 2, 3, 0] rfl)
                · have h := (if_neg c_71).symm.trans h
                  refine lv_iconst (v := (1 : Int32)) hx hb dX6_lay_74 (by decide) ?_
                  refine lv_goto (tgt := 79) hx hb dX6_lay_75 (by decide) ?_
                  obtain rfl := Option.some.inj h
                  exact Jj3298 _ _ hP hD hS _ (lv_sub hl [1, 2, 3, 0] rfl)
    exact K27 n j3280 (0 : Int32) hjj3294 _ _ hP hD hS _ (lv_sub hl [2, 1, 0] rfl)
  refine lv_icmp_ne (tgt := 23) hx hb dX6_lay_6 (by decide) (fun c_6 => ?_) (fun c_6 => ?_)
  · have h := (if_neg c_6).symm.trans hjj3280
    refine lv_iconst (v := (0 : Int32)) hx hb dX6_lay_23 (by decide) ?_
    obtain rfl := Option.some.inj h
    exact Jj3280 _ _ hP hD hS _ hl
  · have h := (if_pos c_6).symm.trans hjj3280
    refine lv_aload_n hx hb dX6_lay_9 rfl (lv_at hl 0 rfl) ?_
    refine va_get (D := (dC, dI)) (ci := 6) (v := .ref a_m_w) (C := RX6) (T := TX6) (N := 15) hx hb hts in_X6 hown hK hP 1 rfl rfl 0 (by decide) f_7 (fun _ h9 => h9) rfl dX6_lay_10 ?_
    refine lv_bipush (v := (53 : Int32)) hx hb dX6_lay_13 (by decide) ?_
    obtain ⟨v3281, hv3281, h⟩ := ob h
    refine k_ld hx hb hK hP 2 0 rfl rfl hv3281 dX6_lay_15 ?_
    refine lv_if_le (tgt := 23) hx hb dX6_lay_16 (by decide) (fun c_16 => ?_) (fun c_16 => ?_)
    · have h := (if_pos c_16).symm.trans h
      refine lv_iconst (v := (0 : Int32)) hx hb dX6_lay_23 (by decide) ?_
      obtain rfl := Option.some.inj h
      exact Jj3280 _ _ hP hD hS _ hl
    · have h := (if_neg c_16).symm.trans h
      refine lv_iconst (v := (1 : Int32)) hx hb dX6_lay_19 (by decide) ?_
      refine lv_goto (tgt := 24) hx hb dX6_lay_20 (by decide) ?_
      obtain rfl := Option.some.inj h
      exact Jj3280 _ _ hP hD hS _ hl
def rm_X6_isDesk : Room := { frames := 1, cells := 0, slots := 0, locals := 25 }
set_option maxRecDepth 100000 in
set_option maxHeartbeats 8000000 in
theorem c_X6_isDesk (l : Launch) (dC : Nat → ClassId) (dI : Nat → Nat → Nat) (cI cS : ClassId) (n sz : Nat) (a_m : Nat) (a_m_w : Nat) (a_m_d : Nat) (a_m_text : Nat) (a_m_numbers : Nat) (a_m_then : Nat) (a_m_leans : Nat) (a_m_heardSet : Nat) (a_m_heardSum : Nat) (m_w : Nat → Int32) (m_undoes : Int32) (m_kept : Int32) (m_texted : Int32) (m_at : Int32) (m_draws : Int32) (m_drawn : Int32) (m_heards : Int32) (x1 : Int32) (res : Int32)  (h : F_X6_isDesk n m_w x1 = some res) : Met l yX6_isDesk wsX6_isDesk rm_X6_isDesk (va_Pc [.ref a_m, .int x1] (PRE (dC, dI) vwCl [(cI, .int), (cS, .object "RoundOfTheA$State")] sz [(a_m, .inr (6, [.ref a_m_w, .ref a_m_d, .int m_undoes, .int m_kept, .ref a_m_text, .int m_texted, .int m_at, .ref a_m_numbers, .ref a_m_then, .ref a_m_leans, .int m_draws, .int m_drawn, .int m_heards, .ref a_m_heardSet, .ref a_m_heardSum])), (a_m_w, .inl (cI, 106, .inl m_w))])) (va_Qi (fun (r : Int32) (_ : Unit) => r = res) (fun u t => POST (dC, dI) vwCl [(a_m, .inr (6, [.ref a_m_w, .ref a_m_d, .int m_undoes, .int m_kept, .ref a_m_text, .int m_texted, .int m_at, .ref a_m_numbers, .ref a_m_then, .ref a_m_leans, .int m_draws, .int m_drawn, .int m_heards, .ref a_m_heardSet, .ref a_m_heardSum])), (a_m_w, .inl (cI, 106, .inl m_w))] (va_A [(a_m, .inr (6, [.ref a_m_w, .ref a_m_d, .int m_undoes, .int m_kept, .ref a_m_text, .int m_texted, .int m_at, .ref a_m_numbers, .ref a_m_then, .ref a_m_leans, .int m_draws, .int m_drawn, .int m_heards, .ref a_m_heardSet, .ref a_m_heardSum])), (a_m_w, .inl (cI, 106, .inl m_w))] sz) t) (va_A [(a_m, .inr (6, [.ref a_m_w, .ref a_m_d, .int m_undoes, .int m_kept, .ref a_m_text, .int m_texted, .int m_at, .ref a_m_numbers, .ref a_m_then, .ref a_m_leans, .int m_draws, .int m_drawn, .int m_heards, .ref a_m_heardSet, .ref a_m_heardSum])), (a_m_w, .inl (cI, 106, .inl m_w))] sz)) 0 0 (va_A [(a_m, .inr (6, [.ref a_m_w, .ref a_m_d, .int m_undoes, .int m_kept, .ref a_m_text, .int m_texted, .int m_at, .ref a_m_numbers, .ref a_m_then, .ref a_m_leans, .int m_draws, .int m_drawn, .int m_heards, .ref a_m_heardSet, .ref a_m_heardSum])), (a_m_w, .inl (cI, 106, .inl m_w))] sz) := by
  refine Met.ofW (cc := cX6_isDesk) (maxL := 2) (ret := (some .boolean)) (by decide) rfl ?_
  intro p e s m args below meth c s₁ B hml hv
  obtain ⟨rfl, hsz, hN, hP, hK, hD0⟩ := hv
  have hx := B.exec
  have hb := B.bytes
  have hr := B.returns
  have hts := atoms_spec (ws := wsX6_isDesk) B.pre
  have hown : s.vm.findClass RX6 = some m.cls := findClass_of_methodNamed B.named
  have hlocks := B.notSynchronized
  subst hsz
  have hD := hD0.self (sz := s.heap.size)
  generalize hAe : va_A [(a_m, .inr (6, [.ref a_m_w, .ref a_m_d, .int m_undoes, .int m_kept, .ref a_m_text, .int m_texted, .int m_at, .ref a_m_numbers, .ref a_m_then, .ref a_m_leans, .int m_draws, .int m_drawn, .int m_heards, .ref a_m_heardSet, .ref a_m_heardSum])), (a_m_w, .inl (cI, 106, .inl m_w))] s.heap.size = A at hD ⊢
  have hA : ∀ q : Nat, s.heap.size ≤ q → A q := fun q h => by rw [← hAe]; exact Or.inr h
  have hS : va_S A s.heap s.heap [] := va_S.rf
  generalize hQe : MQ below _ _ s _ _ A = QQ
  have hl := lv_entry ([.ref a_m, .int x1]) (n := 2) (Nat.le_of_ble_eq_true rfl)
  rw [lg_entry_eq]
  generalize (lg_sl ([.ref a_m, .int x1]) ++ List.replicate (2 - (lg_sl ([.ref a_m, .int x1])).length) Slot.unset).toArray = ls at hl ⊢
  have hl : lv_has ls 2 [(0, .ref a_m), (1, .int x1)] := hl
  have f_7 := hts (.fieldLink RX6 7 "RoundOfTheAModel" "w" "[I") (by decide +kernel)
  have in_X6 := (by decide +kernel : ∀ w ∈ wsX60, w ∈ wsX6_isDesk)
  rw [F_X6_isDesk] at h
  refine lv_iload_n hx hb dX6_isDesk_0 rfl (lv_at hl 1 rfl) ?_
  refine lv_i2l (v := (Int32.toInt64 x1)) hx hb dX6_isDesk_1 rfl ?_
  refine lv_lconst (v := (0 : Int64)) hx hb dX6_isDesk_2 (by decide) ?_
  refine lv_aload_n hx hb dX6_isDesk_3 rfl (lv_at hl 0 rfl) ?_
  refine va_get (D := (dC, dI)) (ci := 6) (v := .ref a_m_w) (C := RX6) (T := TX6) (N := 15) hx hb hts in_X6 hown hK hP 0 rfl rfl 0 (by decide) f_7 (fun _ h9 => h9) rfl dX6_isDesk_4 ?_
  refine lv_iconst (v := (0 : Int32)) hx hb dX6_isDesk_7 (by decide) ?_
  obtain ⟨v3306, hv3306, h⟩ := ob h
  refine k_ld hx hb hK hP 1 0 rfl rfl hv3306 dX6_isDesk_8 ?_
  refine lv_iconst (v := (1 : Int32)) hx hb dX6_isDesk_9 (by decide) ?_
  refine lv_isub hx hb dX6_isDesk_10 ?_
  refine lv_i2l (v := (Int32.toInt64 (v3306 - (1 : Int32)))) hx hb dX6_isDesk_11 rfl ?_
  obtain ⟨r3307, hr3307, h⟩ := ob h
  refine k_Si (As := [.long (Int32.toInt64 x1), .long (0 : Int64), .long (Int32.toInt64 (v3306 - (1 : Int32)))]) (rest := []) (c_X6_in l dC dI cI cS n _ (Int32.toInt64 x1) (0 : Int64) (Int32.toInt64 (v3306 - (1 : Int32))) r3307 hr3307) (fun _ _ q => q) ⟨hx, hb, hml, hown, hts⟩ (va_cwS 3 hts gX6_isDesk_X6_in rfl rfl rfl (by decide +kernel) ⟨(Nat.le_of_ble_eq_true rfl), (Nat.le_of_ble_eq_true rfl)⟩) hN hK hP hD hS hA rfl hl.1 rfl (Nat.le_of_ble_eq_true rfl) dX6_isDesk_12 ⟨(Nat.le_of_ble_eq_true rfl), (Nat.le_of_ble_eq_true rfl)⟩ (fun H locs hP hD hS => ?_)
  obtain ⟨u3309, hu3309, h⟩ := ob h
  obtain rfl := Option.some.inj h
  subst hQe
  exact W.zret (v := r3307) (ty := .boolean) hx hb hr (zb_some hu3309) (fun t ht hW => ⟨⟨r3307, (), rfl, rfl, ⟨by rw [ht]; exact hP, hD⟩⟩, hS.F ht⟩) hS.2.2 dX6_isDesk_15
def rm_X6_isSet : Room := { frames := 1, cells := 0, slots := 0, locals := 25 }
set_option maxRecDepth 100000 in
set_option maxHeartbeats 8000000 in
theorem c_X6_isSet (l : Launch) (dC : Nat → ClassId) (dI : Nat → Nat → Nat) (cI cS : ClassId) (n sz : Nat) (a_m : Nat) (a_m_w : Nat) (a_m_d : Nat) (a_m_text : Nat) (a_m_numbers : Nat) (a_m_then : Nat) (a_m_leans : Nat) (a_m_heardSet : Nat) (a_m_heardSum : Nat) (m_w : Nat → Int32) (m_undoes : Int32) (m_kept : Int32) (m_texted : Int32) (m_at : Int32) (m_draws : Int32) (m_drawn : Int32) (m_heards : Int32) (x1 : Int32) (res : Int32)  (h : F_X6_isSet n m_w x1 = some res) : Met l yX6_isSet wsX6_isSet rm_X6_isSet (va_Pc [.ref a_m, .int x1] (PRE (dC, dI) vwCl [(cI, .int), (cS, .object "RoundOfTheA$State")] sz [(a_m, .inr (6, [.ref a_m_w, .ref a_m_d, .int m_undoes, .int m_kept, .ref a_m_text, .int m_texted, .int m_at, .ref a_m_numbers, .ref a_m_then, .ref a_m_leans, .int m_draws, .int m_drawn, .int m_heards, .ref a_m_heardSet, .ref a_m_heardSum])), (a_m_w, .inl (cI, 106, .inl m_w))])) (va_Qi (fun (r : Int32) (_ : Unit) => r = res) (fun u t => POST (dC, dI) vwCl [(a_m, .inr (6, [.ref a_m_w, .ref a_m_d, .int m_undoes, .int m_kept, .ref a_m_text, .int m_texted, .int m_at, .ref a_m_numbers, .ref a_m_then, .ref a_m_leans, .int m_draws, .int m_drawn, .int m_heards, .ref a_m_heardSet, .ref a_m_heardSum])), (a_m_w, .inl (cI, 106, .inl m_w))] (va_A [(a_m, .inr (6, [.ref a_m_w, .ref a_m_d, .int m_undoes, .int m_kept, .ref a_m_text, .int m_texted, .int m_at, .ref a_m_numbers, .ref a_m_then, .ref a_m_leans, .int m_draws, .int m_drawn, .int m_heards, .ref a_m_heardSet, .ref a_m_heardSum])), (a_m_w, .inl (cI, 106, .inl m_w))] sz) t) (va_A [(a_m, .inr (6, [.ref a_m_w, .ref a_m_d, .int m_undoes, .int m_kept, .ref a_m_text, .int m_texted, .int m_at, .ref a_m_numbers, .ref a_m_then, .ref a_m_leans, .int m_draws, .int m_drawn, .int m_heards, .ref a_m_heardSet, .ref a_m_heardSum])), (a_m_w, .inl (cI, 106, .inl m_w))] sz)) 0 0 (va_A [(a_m, .inr (6, [.ref a_m_w, .ref a_m_d, .int m_undoes, .int m_kept, .ref a_m_text, .int m_texted, .int m_at, .ref a_m_numbers, .ref a_m_then, .ref a_m_leans, .int m_draws, .int m_drawn, .int m_heards, .ref a_m_heardSet, .ref a_m_heardSum])), (a_m_w, .inl (cI, 106, .inl m_w))] sz) := by
  refine Met.ofW (cc := cX6_isSet) (maxL := 2) (ret := (some .boolean)) (by decide) rfl ?_
  intro p e s m args below meth c s₁ B hml hv
  obtain ⟨rfl, hsz, hN, hP, hK, hD0⟩ := hv
  have hx := B.exec
  have hb := B.bytes
  have hr := B.returns
  have hts := atoms_spec (ws := wsX6_isSet) B.pre
  have hown : s.vm.findClass RX6 = some m.cls := findClass_of_methodNamed B.named
  have hlocks := B.notSynchronized
  subst hsz
  have hD := hD0.self (sz := s.heap.size)
  generalize hAe : va_A [(a_m, .inr (6, [.ref a_m_w, .ref a_m_d, .int m_undoes, .int m_kept, .ref a_m_text, .int m_texted, .int m_at, .ref a_m_numbers, .ref a_m_then, .ref a_m_leans, .int m_draws, .int m_drawn, .int m_heards, .ref a_m_heardSet, .ref a_m_heardSum])), (a_m_w, .inl (cI, 106, .inl m_w))] s.heap.size = A at hD ⊢
  have hA : ∀ q : Nat, s.heap.size ≤ q → A q := fun q h => by rw [← hAe]; exact Or.inr h
  have hS : va_S A s.heap s.heap [] := va_S.rf
  generalize hQe : MQ below _ _ s _ _ A = QQ
  have hl := lv_entry ([.ref a_m, .int x1]) (n := 2) (Nat.le_of_ble_eq_true rfl)
  rw [lg_entry_eq]
  generalize (lg_sl ([.ref a_m, .int x1]) ++ List.replicate (2 - (lg_sl ([.ref a_m, .int x1])).length) Slot.unset).toArray = ls at hl ⊢
  have hl : lv_has ls 2 [(0, .ref a_m), (1, .int x1)] := hl
  have f_7 := hts (.fieldLink RX6 7 "RoundOfTheAModel" "w" "[I") (by decide +kernel)
  have in_X6 := (by decide +kernel : ∀ w ∈ wsX60, w ∈ wsX6_isSet)
  rw [F_X6_isSet] at h
  refine lv_iload_n hx hb dX6_isSet_0 rfl (lv_at hl 1 rfl) ?_
  refine lv_i2l (v := (Int32.toInt64 x1)) hx hb dX6_isSet_1 rfl ?_
  refine lv_lconst (v := (0 : Int64)) hx hb dX6_isSet_2 (by decide) ?_
  refine lv_iconst (v := (1 : Int32)) hx hb dX6_isSet_3 (by decide) ?_
  refine lv_aload_n hx hb dX6_isSet_4 rfl (lv_at hl 0 rfl) ?_
  refine va_get (D := (dC, dI)) (ci := 6) (v := .ref a_m_w) (C := RX6) (T := TX6) (N := 15) hx hb hts in_X6 hown hK hP 0 rfl rfl 0 (by decide) f_7 (fun _ h9 => h9) rfl dX6_isSet_5 ?_
  refine lv_iconst (v := (0 : Int32)) hx hb dX6_isSet_8 (by decide) ?_
  obtain ⟨v3313, hv3313, h⟩ := ob h
  refine k_ld hx hb hK hP 1 0 rfl rfl hv3313 dX6_isSet_9 ?_
  refine lv_ishl hx hb dX6_isSet_10 ?_
  refine lv_iconst (v := (1 : Int32)) hx hb dX6_isSet_11 (by decide) ?_
  refine lv_isub hx hb dX6_isSet_12 ?_
  refine lv_i2l (v := (Int32.toInt64 (((1 : Int32) <<< (v3313 &&& 31)) - (1 : Int32)))) hx hb dX6_isSet_13 rfl ?_
  obtain ⟨r3314, hr3314, h⟩ := ob h
  refine k_Si (As := [.long (Int32.toInt64 x1), .long (0 : Int64), .long (Int32.toInt64 (((1 : Int32) <<< (v3313 &&& 31)) - (1 : Int32)))]) (rest := []) (c_X6_in l dC dI cI cS n _ (Int32.toInt64 x1) (0 : Int64) (Int32.toInt64 (((1 : Int32) <<< (v3313 &&& 31)) - (1 : Int32))) r3314 hr3314) (fun _ _ q => q) ⟨hx, hb, hml, hown, hts⟩ (va_cwS 3 hts gX6_isSet_X6_in rfl rfl rfl (by decide +kernel) ⟨(Nat.le_of_ble_eq_true rfl), (Nat.le_of_ble_eq_true rfl)⟩) hN hK hP hD hS hA rfl hl.1 rfl (Nat.le_of_ble_eq_true rfl) dX6_isSet_14 ⟨(Nat.le_of_ble_eq_true rfl), (Nat.le_of_ble_eq_true rfl)⟩ (fun H locs hP hD hS => ?_)
  obtain ⟨u3316, hu3316, h⟩ := ob h
  obtain rfl := Option.some.inj h
  subst hQe
  exact W.zret (v := r3314) (ty := .boolean) hx hb hr (zb_some hu3316) (fun t ht hW => ⟨⟨r3314, (), rfl, rfl, ⟨by rw [ht]; exact hP, hD⟩⟩, hS.F ht⟩) hS.2.2 dX6_isSet_17
def rm_X6_desk : Room := { frames := 2, cells := 0, slots := 0, locals := 46 }
set_option maxRecDepth 100000 in
set_option maxHeartbeats 8000000 in
theorem c_X6_desk (l : Launch) (dC : Nat → ClassId) (dI : Nat → Nat → Nat) (cI cS : ClassId) (n sz : Nat) (a_m : Nat) (a_m_w : Nat) (a_m_d : Nat) (a_m_text : Nat) (a_m_numbers : Nat) (a_m_then : Nat) (a_m_leans : Nat) (a_m_heardSet : Nat) (a_m_heardSum : Nat) (m_w : Nat → Int32) (m_d : Nat → Int32) (m_undoes : Int32) (m_kept : Int32) (m_texted : Int32) (m_at : Int32) (m_draws : Int32) (m_drawn : Int32) (m_heards : Int32) (x1 : Int32) (x2 : Int32) (res : Int32)  (h : F_X6_desk n m_w m_d x1 x2 = some res) : Met l yX6_desk wsX6_desk rm_X6_desk (va_Pc [.ref a_m, .int x1, .int x2] (PRE (dC, dI) vwCl [(cI, .int), (cS, .object "RoundOfTheA$State")] sz [(a_m, .inr (6, [.ref a_m_w, .ref a_m_d, .int m_undoes, .int m_kept, .ref a_m_text, .int m_texted, .int m_at, .ref a_m_numbers, .ref a_m_then, .ref a_m_leans, .int m_draws, .int m_drawn, .int m_heards, .ref a_m_heardSet, .ref a_m_heardSum])), (a_m_w, .inl (cI, 106, .inl m_w)), (a_m_d, .inl (cI, 216, .inl m_d))])) (va_Qi (fun (r : Int32) (_ : Unit) => r = res) (fun u t => POST (dC, dI) vwCl [(a_m, .inr (6, [.ref a_m_w, .ref a_m_d, .int m_undoes, .int m_kept, .ref a_m_text, .int m_texted, .int m_at, .ref a_m_numbers, .ref a_m_then, .ref a_m_leans, .int m_draws, .int m_drawn, .int m_heards, .ref a_m_heardSet, .ref a_m_heardSum])), (a_m_w, .inl (cI, 106, .inl m_w)), (a_m_d, .inl (cI, 216, .inl m_d))] (va_A [(a_m, .inr (6, [.ref a_m_w, .ref a_m_d, .int m_undoes, .int m_kept, .ref a_m_text, .int m_texted, .int m_at, .ref a_m_numbers, .ref a_m_then, .ref a_m_leans, .int m_draws, .int m_drawn, .int m_heards, .ref a_m_heardSet, .ref a_m_heardSum])), (a_m_w, .inl (cI, 106, .inl m_w)), (a_m_d, .inl (cI, 216, .inl m_d))] sz) t) (va_A [(a_m, .inr (6, [.ref a_m_w, .ref a_m_d, .int m_undoes, .int m_kept, .ref a_m_text, .int m_texted, .int m_at, .ref a_m_numbers, .ref a_m_then, .ref a_m_leans, .int m_draws, .int m_drawn, .int m_heards, .ref a_m_heardSet, .ref a_m_heardSum])), (a_m_w, .inl (cI, 106, .inl m_w)), (a_m_d, .inl (cI, 216, .inl m_d))] sz)) 0 0 (va_A [(a_m, .inr (6, [.ref a_m_w, .ref a_m_d, .int m_undoes, .int m_kept, .ref a_m_text, .int m_texted, .int m_at, .ref a_m_numbers, .ref a_m_then, .ref a_m_leans, .int m_draws, .int m_drawn, .int m_heards, .ref a_m_heardSet, .ref a_m_heardSum])), (a_m_w, .inl (cI, 106, .inl m_w)), (a_m_d, .inl (cI, 216, .inl m_d))] sz) := by
  refine Met.ofW (cc := cX6_desk) (maxL := 3) (ret := (some .int)) (by decide) rfl ?_
  intro p e s m args below meth c s₁ B hml hv
  obtain ⟨rfl, hsz, hN, hP, hK, hD0⟩ := hv
  have hx := B.exec
  have hb := B.bytes
  have hr := B.returns
  have hts := atoms_spec (ws := wsX6_desk) B.pre
  have hown : s.vm.findClass RX6 = some m.cls := findClass_of_methodNamed B.named
  have hlocks := B.notSynchronized
  subst hsz
  have hD := hD0.self (sz := s.heap.size)
  generalize hAe : va_A [(a_m, .inr (6, [.ref a_m_w, .ref a_m_d, .int m_undoes, .int m_kept, .ref a_m_text, .int m_texted, .int m_at, .ref a_m_numbers, .ref a_m_then, .ref a_m_leans, .int m_draws, .int m_drawn, .int m_heards, .ref a_m_heardSet, .ref a_m_heardSum])), (a_m_w, .inl (cI, 106, .inl m_w)), (a_m_d, .inl (cI, 216, .inl m_d))] s.heap.size = A at hD ⊢
  have hA : ∀ q : Nat, s.heap.size ≤ q → A q := fun q h => by rw [← hAe]; exact Or.inr h
  have hS : va_S A s.heap s.heap [] := va_S.rf
  generalize hQe : MQ below _ _ s _ _ A = QQ
  have hl := lv_entry ([.ref a_m, .int x1, .int x2]) (n := 3) (Nat.le_of_ble_eq_true rfl)
  rw [lg_entry_eq]
  generalize (lg_sl ([.ref a_m, .int x1, .int x2]) ++ List.replicate (3 - (lg_sl ([.ref a_m, .int x1, .int x2])).length) Slot.unset).toArray = ls at hl ⊢
  have hl : lv_has ls 3 [(0, .ref a_m), (1, .int x1), (2, .int x2)] := hl
  have k_98 := hts (.constantLong RX6 98 (4)) (by decide +kernel)
  have f_7 := hts (.fieldLink RX6 7 "RoundOfTheAModel" "w" "[I") (by decide +kernel)
  have in_X6 := (by decide +kernel : ∀ w ∈ wsX60, w ∈ wsX6_desk)
  have f_13 := hts (.fieldLink RX6 13 "RoundOfTheAModel" "d" "[I") (by decide +kernel)
  rw [F_X6_desk] at h
  refine lv_aload_n hx hb dX6_desk_0 rfl (lv_at hl 0 rfl) ?_
  refine lv_iload_n hx hb dX6_desk_1 rfl (lv_at hl 1 rfl) ?_
  obtain ⟨r3323, hr3323, h⟩ := ob h
  refine k_Vi (As := [.int x1]) (rest := []) (wr := [(a_m_d, .inl (cI, 216, .inl m_d))]) (c_X6_isDesk l dC dI cI cS n _ a_m a_m_w a_m_d a_m_text a_m_numbers a_m_then a_m_leans a_m_heardSet a_m_heardSum m_w m_undoes m_kept m_texted m_at m_draws m_drawn m_heards x1 r3323 hr3323) (fun _ _ q => q) ⟨hx, hb, hml, hown, hts⟩ (cwV 1 hts gX6_desk_X6_isDesk rfl rfl rfl (by decide +kernel) ⟨(Nat.le_of_ble_eq_true rfl), (Nat.le_of_ble_eq_true rfl)⟩) hN hK hP hD hS hA [0, 1] [2] rfl rfl (by decide) (by decide) (by decide) rfl rfl rfl hl.1 rfl (Nat.le_of_ble_eq_true rfl) dX6_desk_2 ⟨(Nat.le_of_ble_eq_true rfl), (Nat.le_of_ble_eq_true rfl)⟩ (fun u3324 H locs _ hP hD hS => ?_)
  have hP : va_P (dC, dI) vwCl [(a_m_d, .inl (cI, 216, .inl m_d)), (a_m, .inr (6, [.ref a_m_w, .ref a_m_d, .int m_undoes, .int m_kept, .ref a_m_text, .int m_texted, .int m_at, .ref a_m_numbers, .ref a_m_then, .ref a_m_leans, .int m_draws, .int m_drawn, .int m_heards, .ref a_m_heardSet, .ref a_m_heardSum])), (a_m_w, .inl (cI, 106, .inl m_w))] H := hP
  have hD : va_D A [(a_m_d, .inl (cI, 216, .inl m_d)), (a_m, .inr (6, [.ref a_m_w, .ref a_m_d, .int m_undoes, .int m_kept, .ref a_m_text, .int m_texted, .int m_at, .ref a_m_numbers, .ref a_m_then, .ref a_m_leans, .int m_draws, .int m_drawn, .int m_heards, .ref a_m_heardSet, .ref a_m_heardSum])), (a_m_w, .inl (cI, 106, .inl m_w))] := hD
  refine lv_if_eq (tgt := 20) hx hb dX6_desk_5 (by decide) (fun c_5 => ?_) (fun c_5 => ?_)
  · have h := (if_pos c_5).symm.trans h
    refine lv_iconst (v := (-1 : Int32)) hx hb dX6_desk_20 (by decide) ?_
    obtain rfl := Option.some.inj h
    subst hQe
    exact W.iret (v := (-1 : Int32)) hx hb hr (fun t ht hW => ⟨⟨(-1 : Int32), (), rfl, rfl, ⟨by rw [ht]; exact hP.sub [1, 2, 0] rfl, hD.sub [1, 2, 0] (by decide +kernel) rfl⟩⟩, hS.F ht⟩) hS.2.2 dX6_desk_21
  · have h := (if_neg c_5).symm.trans h
    refine lv_iload_n hx hb dX6_desk_8 rfl (lv_at hl 2 rfl) ?_
    refine lv_i2l (v := (Int32.toInt64 x2)) hx hb dX6_desk_9 rfl ?_
    refine lv_lconst (v := (0 : Int64)) hx hb dX6_desk_10 (by decide) ?_
    refine lv_ldc2 (v := (4 : Int64)) hx hb hown k_98 dX6_desk_11 ?_
    obtain ⟨r3325, hr3325, h⟩ := ob h
    refine k_Si (As := [.long (Int32.toInt64 x2), .long (0 : Int64), .long (4 : Int64)]) (rest := []) (c_X6_in l dC dI cI cS n _ (Int32.toInt64 x2) (0 : Int64) (4 : Int64) r3325 hr3325) (fun _ _ q => q) ⟨hx, hb, hml, hown, hts⟩ (va_cwS 3 hts gX6_desk_X6_in rfl rfl rfl (by decide +kernel) ⟨(Nat.le_of_ble_eq_true rfl), (Nat.le_of_ble_eq_true rfl)⟩) hN hK hP hD hS hA rfl hl.1 rfl (Nat.le_of_ble_eq_true rfl) dX6_desk_14 ⟨(Nat.le_of_ble_eq_true rfl), (Nat.le_of_ble_eq_true rfl)⟩ (fun H locs hP hD hS => ?_)
    refine lv_if_ne (tgt := 22) hx hb dX6_desk_17 (by decide) (fun c_17 => ?_) (fun c_17 => ?_)
    · have h := (if_neg c_17).symm.trans h
      refine lv_iload_n hx hb dX6_desk_22 rfl (lv_at hl 2 rfl) ?_
      refine lv_iconst (v := (3 : Int32)) hx hb dX6_desk_23 (by decide) ?_
      refine lv_icmp_ne (tgt := 39) hx hb dX6_desk_24 (by decide) (fun c_24 => ?_) (fun c_24 => ?_)
      · have h := (if_neg c_24).symm.trans h
        refine lv_aload_n hx hb dX6_desk_39 rfl (lv_at hl 0 rfl) ?_
        refine va_get (D := (dC, dI)) (ci := 6) (v := .ref a_m_w) (C := RX6) (T := TX6) (N := 15) hx hb hts in_X6 hown hK hP 1 rfl rfl 0 (by decide) f_7 (fun _ h9 => h9) rfl dX6_desk_40 ?_
        refine lv_iconst (v := (1 : Int32)) hx hb dX6_desk_43 (by decide) ?_
        refine lv_bipush (v := (8 : Int32)) hx hb dX6_desk_44 (by decide) ?_
        refine lv_iload_n hx hb dX6_desk_46 rfl (lv_at hl 2 rfl) ?_
        refine lv_imul hx hb dX6_desk_47 ?_
        refine lv_iadd hx hb dX6_desk_48 ?_
        refine lv_iload_n hx hb dX6_desk_49 rfl (lv_at hl 1 rfl) ?_
        refine lv_iadd hx hb dX6_desk_50 ?_
        obtain ⟨v3327, hv3327, h⟩ := ob h
        refine k_ld hx hb hK hP 2 0 rfl rfl hv3327 dX6_desk_51 ?_
        obtain rfl := Option.some.inj h
        subst hQe
        exact W.iret (v := v3327) hx hb hr (fun t ht hW => ⟨⟨v3327, (), rfl, rfl, ⟨by rw [ht]; exact hP.sub [1, 2, 0] rfl, hD.sub [1, 2, 0] (by decide +kernel) rfl⟩⟩, hS.F ht⟩) hS.2.2 dX6_desk_52
      · have h := (if_pos c_24).symm.trans h
        refine lv_aload_n hx hb dX6_desk_27 rfl (lv_at hl 0 rfl) ?_
        refine va_get (D := (dC, dI)) (ci := 6) (v := .ref a_m_d) (C := RX6) (T := TX6) (N := 15) hx hb hts in_X6 hown hK hP 1 rfl rfl 1 (by decide) f_13 (fun _ h9 => h9) rfl dX6_desk_28 ?_
        refine lv_bipush (v := (10 : Int32)) hx hb dX6_desk_31 (by decide) ?_
        refine lv_iload_n hx hb dX6_desk_33 rfl (lv_at hl 1 rfl) ?_
        refine lv_iadd hx hb dX6_desk_34 ?_
        obtain ⟨v3328, hv3328, h⟩ := ob h
        refine k_ld hx hb hK hP 0 0 rfl rfl hv3328 dX6_desk_35 ?_
        refine lv_goto (tgt := 52) hx hb dX6_desk_36 (by decide) ?_
        obtain rfl := Option.some.inj h
        subst hQe
        exact W.iret (v := v3328) hx hb hr (fun t ht hW => ⟨⟨v3328, (), rfl, rfl, ⟨by rw [ht]; exact hP.sub [1, 2, 0] rfl, hD.sub [1, 2, 0] (by decide +kernel) rfl⟩⟩, hS.F ht⟩) hS.2.2 dX6_desk_52
    · have h := (if_pos c_17).symm.trans h
      refine lv_iconst (v := (-1 : Int32)) hx hb dX6_desk_20 (by decide) ?_
      obtain rfl := Option.some.inj h
      subst hQe
      exact W.iret (v := (-1 : Int32)) hx hb hr (fun t ht hW => ⟨⟨(-1 : Int32), (), rfl, rfl, ⟨by rw [ht]; exact hP.sub [1, 2, 0] rfl, hD.sub [1, 2, 0] (by decide +kernel) rfl⟩⟩, hS.F ht⟩) hS.2.2 dX6_desk_21
def rm_X6_off : Room := { frames := 2, cells := 0, slots := 0, locals := 46 }
set_option maxRecDepth 100000 in
set_option maxHeartbeats 8000000 in
theorem c_X6_off (l : Launch) (dC : Nat → ClassId) (dI : Nat → Nat → Nat) (cI cS : ClassId) (n sz : Nat) (a_m : Nat) (a_m_w : Nat) (a_m_d : Nat) (a_m_text : Nat) (a_m_numbers : Nat) (a_m_then : Nat) (a_m_leans : Nat) (a_m_heardSet : Nat) (a_m_heardSum : Nat) (m_w : Nat → Int32) (m_d : Nat → Int32) (m_undoes : Int32) (m_kept : Int32) (m_texted : Int32) (m_at : Int32) (m_draws : Int32) (m_drawn : Int32) (m_heards : Int32) (x1 : Int32) (res : Int32)  (h : F_X6_off n m_w m_d x1 = some res) : Met l yX6_off wsX6_off rm_X6_off (va_Pc [.ref a_m, .int x1] (PRE (dC, dI) vwCl [(cI, .int), (cS, .object "RoundOfTheA$State")] sz [(a_m, .inr (6, [.ref a_m_w, .ref a_m_d, .int m_undoes, .int m_kept, .ref a_m_text, .int m_texted, .int m_at, .ref a_m_numbers, .ref a_m_then, .ref a_m_leans, .int m_draws, .int m_drawn, .int m_heards, .ref a_m_heardSet, .ref a_m_heardSum])), (a_m_w, .inl (cI, 106, .inl m_w)), (a_m_d, .inl (cI, 216, .inl m_d))])) (va_Qi (fun (r : Int32) (_ : Unit) => r = res) (fun u t => POST (dC, dI) vwCl [(a_m, .inr (6, [.ref a_m_w, .ref a_m_d, .int m_undoes, .int m_kept, .ref a_m_text, .int m_texted, .int m_at, .ref a_m_numbers, .ref a_m_then, .ref a_m_leans, .int m_draws, .int m_drawn, .int m_heards, .ref a_m_heardSet, .ref a_m_heardSum])), (a_m_w, .inl (cI, 106, .inl m_w)), (a_m_d, .inl (cI, 216, .inl m_d))] (va_A [(a_m, .inr (6, [.ref a_m_w, .ref a_m_d, .int m_undoes, .int m_kept, .ref a_m_text, .int m_texted, .int m_at, .ref a_m_numbers, .ref a_m_then, .ref a_m_leans, .int m_draws, .int m_drawn, .int m_heards, .ref a_m_heardSet, .ref a_m_heardSum])), (a_m_w, .inl (cI, 106, .inl m_w)), (a_m_d, .inl (cI, 216, .inl m_d))] sz) t) (va_A [(a_m, .inr (6, [.ref a_m_w, .ref a_m_d, .int m_undoes, .int m_kept, .ref a_m_text, .int m_texted, .int m_at, .ref a_m_numbers, .ref a_m_then, .ref a_m_leans, .int m_draws, .int m_drawn, .int m_heards, .ref a_m_heardSet, .ref a_m_heardSum])), (a_m_w, .inl (cI, 106, .inl m_w)), (a_m_d, .inl (cI, 216, .inl m_d))] sz)) 0 0 (va_A [(a_m, .inr (6, [.ref a_m_w, .ref a_m_d, .int m_undoes, .int m_kept, .ref a_m_text, .int m_texted, .int m_at, .ref a_m_numbers, .ref a_m_then, .ref a_m_leans, .int m_draws, .int m_drawn, .int m_heards, .ref a_m_heardSet, .ref a_m_heardSum])), (a_m_w, .inl (cI, 106, .inl m_w)), (a_m_d, .inl (cI, 216, .inl m_d))] sz) := by
  refine Met.ofW (cc := cX6_off) (maxL := 2) (ret := (some .int)) (by decide) rfl ?_
  intro p e s m args below meth c s₁ B hml hv
  obtain ⟨rfl, hsz, hN, hP, hK, hD0⟩ := hv
  have hx := B.exec
  have hb := B.bytes
  have hr := B.returns
  have hts := atoms_spec (ws := wsX6_off) B.pre
  have hown : s.vm.findClass RX6 = some m.cls := findClass_of_methodNamed B.named
  have hlocks := B.notSynchronized
  subst hsz
  have hD := hD0.self (sz := s.heap.size)
  generalize hAe : va_A [(a_m, .inr (6, [.ref a_m_w, .ref a_m_d, .int m_undoes, .int m_kept, .ref a_m_text, .int m_texted, .int m_at, .ref a_m_numbers, .ref a_m_then, .ref a_m_leans, .int m_draws, .int m_drawn, .int m_heards, .ref a_m_heardSet, .ref a_m_heardSum])), (a_m_w, .inl (cI, 106, .inl m_w)), (a_m_d, .inl (cI, 216, .inl m_d))] s.heap.size = A at hD ⊢
  have hA : ∀ q : Nat, s.heap.size ≤ q → A q := fun q h => by rw [← hAe]; exact Or.inr h
  have hS : va_S A s.heap s.heap [] := va_S.rf
  generalize hQe : MQ below _ _ s _ _ A = QQ
  have hl := lv_entry ([.ref a_m, .int x1]) (n := 2) (Nat.le_of_ble_eq_true rfl)
  rw [lg_entry_eq]
  generalize (lg_sl ([.ref a_m, .int x1]) ++ List.replicate (2 - (lg_sl ([.ref a_m, .int x1])).length) Slot.unset).toArray = ls at hl ⊢
  have hl : lv_has ls 2 [(0, .ref a_m), (1, .int x1)] := hl
  have f_13 := hts (.fieldLink RX6 13 "RoundOfTheAModel" "d" "[I") (by decide +kernel)
  have in_X6 := (by decide +kernel : ∀ w ∈ wsX60, w ∈ wsX6_off)
  rw [F_X6_off] at h
  refine lv_aload_n hx hb dX6_off_0 rfl (lv_at hl 0 rfl) ?_
  refine lv_iload_n hx hb dX6_off_1 rfl (lv_at hl 1 rfl) ?_
  obtain ⟨r3335, hr3335, h⟩ := ob h
  refine k_Vi (As := [.int x1]) (rest := []) (wr := [(a_m_d, .inl (cI, 216, .inl m_d))]) (c_X6_isDesk l dC dI cI cS n _ a_m a_m_w a_m_d a_m_text a_m_numbers a_m_then a_m_leans a_m_heardSet a_m_heardSum m_w m_undoes m_kept m_texted m_at m_draws m_drawn m_heards x1 r3335 hr3335) (fun _ _ q => q) ⟨hx, hb, hml, hown, hts⟩ (cwV 1 hts gX6_off_X6_isDesk rfl rfl rfl (by decide +kernel) ⟨(Nat.le_of_ble_eq_true rfl), (Nat.le_of_ble_eq_true rfl)⟩) hN hK hP hD hS hA [0, 1] [2] rfl rfl (by decide) (by decide) (by decide) rfl rfl rfl hl.1 rfl (Nat.le_of_ble_eq_true rfl) dX6_off_2 ⟨(Nat.le_of_ble_eq_true rfl), (Nat.le_of_ble_eq_true rfl)⟩ (fun u3336 H locs _ hP hD hS => ?_)
  have hP : va_P (dC, dI) vwCl [(a_m_d, .inl (cI, 216, .inl m_d)), (a_m, .inr (6, [.ref a_m_w, .ref a_m_d, .int m_undoes, .int m_kept, .ref a_m_text, .int m_texted, .int m_at, .ref a_m_numbers, .ref a_m_then, .ref a_m_leans, .int m_draws, .int m_drawn, .int m_heards, .ref a_m_heardSet, .ref a_m_heardSum])), (a_m_w, .inl (cI, 106, .inl m_w))] H := hP
  have hD : va_D A [(a_m_d, .inl (cI, 216, .inl m_d)), (a_m, .inr (6, [.ref a_m_w, .ref a_m_d, .int m_undoes, .int m_kept, .ref a_m_text, .int m_texted, .int m_at, .ref a_m_numbers, .ref a_m_then, .ref a_m_leans, .int m_draws, .int m_drawn, .int m_heards, .ref a_m_heardSet, .ref a_m_heardSum])), (a_m_w, .inl (cI, 106, .inl m_w))] := hD
  refine lv_if_ne (tgt := 14) hx hb dX6_off_5 (by decide) (fun c_5 => ?_) (fun c_5 => ?_)
  · have h := (if_neg c_5).symm.trans h
    refine lv_aload_n hx hb dX6_off_14 rfl (lv_at hl 0 rfl) ?_
    refine va_get (D := (dC, dI)) (ci := 6) (v := .ref a_m_d) (C := RX6) (T := TX6) (N := 15) hx hb hts in_X6 hown hK hP 1 rfl rfl 1 (by decide) f_13 (fun _ h9 => h9) rfl dX6_off_15 ?_
    refine lv_iconst (v := (0 : Int32)) hx hb dX6_off_18 (by decide) ?_
    refine lv_iload_n hx hb dX6_off_19 rfl (lv_at hl 1 rfl) ?_
    refine lv_bipush (v := (9 : Int32)) hx hb dX6_off_20 (by decide) ?_
    obtain ⟨j3337, hjj3337, h⟩ := ob h
    have Jj3337 : ∀ (H : Heap) (locs : List Loc), va_P (dC, dI) vwCl [(a_m_d, .inl (cI, 216, .inl m_d)), (a_m, .inr (6, [.ref a_m_w, .ref a_m_d, .int m_undoes, .int m_kept, .ref a_m_text, .int m_texted, .int m_at, .ref a_m_numbers, .ref a_m_then, .ref a_m_leans, .int m_draws, .int m_drawn, .int m_heards, .ref a_m_heardSet, .ref a_m_heardSum])), (a_m_w, .inl (cI, 106, .inl m_w))] H → va_D A [(a_m_d, .inl (cI, 216, .inl m_d)), (a_m, .inr (6, [.ref a_m_w, .ref a_m_d, .int m_undoes, .int m_kept, .ref a_m_text, .int m_texted, .int m_at, .ref a_m_numbers, .ref a_m_then, .ref a_m_leans, .int m_draws, .int m_drawn, .int m_heards, .ref a_m_heardSet, .ref a_m_heardSum])), (a_m_w, .inl (cI, 106, .inl m_w))] → va_S A s.heap H locs → ∀ ls : Array Slot, lv_has ls 2 [(0, .ref a_m), (1, .int x1)] → W p l e (headSpec wsX6_off rm_X6_off).room s m ([.ref a_m, .int x1] : List Value).toArray below meth c H locs 0 0 QQ (F0 m 31 ls [.int j3337, .int (0 : Int32), .ref a_m_d]) := by
      intro H locs hP hD hS ls hl
      refine lv_iadd hx hb dX6_off_31 ?_
      obtain ⟨v3338, hv3338, h⟩ := ob h
      refine k_ld hx hb hK hP 0 0 rfl rfl hv3338 dX6_off_32 ?_
      refine lv_sipush (v := (1000 : Int32)) hx hb dX6_off_33 (by decide) ?_
      refine lv_iadd hx hb dX6_off_36 ?_
      refine lv_goto (tgt := 41) hx hb dX6_off_37 (by decide) ?_
      obtain rfl := Option.some.inj h
      subst hQe
      exact W.iret (v := (v3338 + (1000 : Int32))) hx hb hr (fun t ht hW => ⟨⟨(v3338 + (1000 : Int32)), (), rfl, rfl, ⟨by rw [ht]; exact hP.sub [1, 2, 0] rfl, hD.sub [1, 2, 0] (by decide +kernel) rfl⟩⟩, hS.F ht⟩) hS.2.2 dX6_off_41
    refine lv_icmp_ne (tgt := 30) hx hb dX6_off_22 (by decide) (fun c_22 => ?_) (fun c_22 => ?_)
    · have h := (if_neg c_22).symm.trans hjj3337
      refine lv_iload_n hx hb dX6_off_30 rfl (lv_at hl 1 rfl) ?_
      obtain rfl := Option.some.inj h
      exact Jj3337 _ _ hP hD hS _ hl
    · have h := (if_pos c_22).symm.trans hjj3337
      refine lv_bipush (v := (8 : Int32)) hx hb dX6_off_25 (by decide) ?_
      refine lv_goto (tgt := 31) hx hb dX6_off_27 (by decide) ?_
      obtain rfl := Option.some.inj h
      exact Jj3337 _ _ hP hD hS _ hl
  · have h := (if_pos c_5).symm.trans h
    refine lv_iload_n hx hb dX6_off_8 rfl (lv_at hl 1 rfl) ?_
    refine lv_bipush (v := (9 : Int32)) hx hb dX6_off_9 (by decide) ?_
    refine lv_icmp_ne (tgt := 40) hx hb dX6_off_11 (by decide) (fun c_11 => ?_) (fun c_11 => ?_)
    · have h := (if_neg c_11).symm.trans h
      refine lv_iconst (v := (-1 : Int32)) hx hb dX6_off_40 (by decide) ?_
      obtain rfl := Option.some.inj h
      subst hQe
      exact W.iret (v := (-1 : Int32)) hx hb hr (fun t ht hW => ⟨⟨(-1 : Int32), (), rfl, rfl, ⟨by rw [ht]; exact hP.sub [1, 2, 0] rfl, hD.sub [1, 2, 0] (by decide +kernel) rfl⟩⟩, hS.F ht⟩) hS.2.2 dX6_off_41
    · have h := (if_pos c_11).symm.trans h
      refine lv_aload_n hx hb dX6_off_14 rfl (lv_at hl 0 rfl) ?_
      refine va_get (D := (dC, dI)) (ci := 6) (v := .ref a_m_d) (C := RX6) (T := TX6) (N := 15) hx hb hts in_X6 hown hK hP 1 rfl rfl 1 (by decide) f_13 (fun _ h9 => h9) rfl dX6_off_15 ?_
      refine lv_iconst (v := (0 : Int32)) hx hb dX6_off_18 (by decide) ?_
      refine lv_iload_n hx hb dX6_off_19 rfl (lv_at hl 1 rfl) ?_
      refine lv_bipush (v := (9 : Int32)) hx hb dX6_off_20 (by decide) ?_
      obtain ⟨j3339, hjj3339, h⟩ := ob h
      have Jj3339 : ∀ (H : Heap) (locs : List Loc), va_P (dC, dI) vwCl [(a_m_d, .inl (cI, 216, .inl m_d)), (a_m, .inr (6, [.ref a_m_w, .ref a_m_d, .int m_undoes, .int m_kept, .ref a_m_text, .int m_texted, .int m_at, .ref a_m_numbers, .ref a_m_then, .ref a_m_leans, .int m_draws, .int m_drawn, .int m_heards, .ref a_m_heardSet, .ref a_m_heardSum])), (a_m_w, .inl (cI, 106, .inl m_w))] H → va_D A [(a_m_d, .inl (cI, 216, .inl m_d)), (a_m, .inr (6, [.ref a_m_w, .ref a_m_d, .int m_undoes, .int m_kept, .ref a_m_text, .int m_texted, .int m_at, .ref a_m_numbers, .ref a_m_then, .ref a_m_leans, .int m_draws, .int m_drawn, .int m_heards, .ref a_m_heardSet, .ref a_m_heardSum])), (a_m_w, .inl (cI, 106, .inl m_w))] → va_S A s.heap H locs → ∀ ls : Array Slot, lv_has ls 2 [(0, .ref a_m), (1, .int x1)] → W p l e (headSpec wsX6_off rm_X6_off).room s m ([.ref a_m, .int x1] : List Value).toArray below meth c H locs 0 0 QQ (F0 m 31 ls [.int j3339, .int (0 : Int32), .ref a_m_d]) := by
        intro H locs hP hD hS ls hl
        refine lv_iadd hx hb dX6_off_31 ?_
        obtain ⟨v3340, hv3340, h⟩ := ob h
        refine k_ld hx hb hK hP 0 0 rfl rfl hv3340 dX6_off_32 ?_
        refine lv_sipush (v := (1000 : Int32)) hx hb dX6_off_33 (by decide) ?_
        refine lv_iadd hx hb dX6_off_36 ?_
        refine lv_goto (tgt := 41) hx hb dX6_off_37 (by decide) ?_
        obtain rfl := Option.some.inj h
        subst hQe
        exact W.iret (v := (v3340 + (1000 : Int32))) hx hb hr (fun t ht hW => ⟨⟨(v3340 + (1000 : Int32)), (), rfl, rfl, ⟨by rw [ht]; exact hP.sub [1, 2, 0] rfl, hD.sub [1, 2, 0] (by decide +kernel) rfl⟩⟩, hS.F ht⟩) hS.2.2 dX6_off_41
      refine lv_icmp_ne (tgt := 30) hx hb dX6_off_22 (by decide) (fun c_22 => ?_) (fun c_22 => ?_)
      · have h := (if_neg c_22).symm.trans hjj3339
        refine lv_iload_n hx hb dX6_off_30 rfl (lv_at hl 1 rfl) ?_
        obtain rfl := Option.some.inj h
        exact Jj3339 _ _ hP hD hS _ hl
      · have h := (if_pos c_22).symm.trans hjj3339
        refine lv_bipush (v := (8 : Int32)) hx hb dX6_off_25 (by decide) ?_
        refine lv_goto (tgt := 31) hx hb dX6_off_27 (by decide) ?_
        obtain rfl := Option.some.inj h
        exact Jj3339 _ _ hP hD hS _ hl
def rm_X6_lays : Room := { frames := 0, cells := 0, slots := 0, locals := 0 }
set_option maxRecDepth 100000 in
set_option maxHeartbeats 8000000 in
theorem c_X6_lays (l : Launch) (dC : Nat → ClassId) (dI : Nat → Nat → Nat) (cI cS : ClassId) (n sz : Nat) (a_m : Nat) (a_m_w : Nat) (a_m_d : Nat) (a_m_text : Nat) (a_m_numbers : Nat) (a_m_then : Nat) (a_m_leans : Nat) (a_m_heardSet : Nat) (a_m_heardSum : Nat) (m_d : Nat → Int32) (m_undoes : Int32) (m_kept : Int32) (m_texted : Int32) (m_at : Int32) (m_draws : Int32) (m_drawn : Int32) (m_heards : Int32) (res : (Nat → Int32))  (h : F_X6_lays n m_d = some res) : Met l yX6_lays wsX6_lays rm_X6_lays (va_Pc [.ref a_m] (PRE (dC, dI) vwCl [(cI, .int), (cS, .object "RoundOfTheA$State")] sz [(a_m, .inr (6, [.ref a_m_w, .ref a_m_d, .int m_undoes, .int m_kept, .ref a_m_text, .int m_texted, .int m_at, .ref a_m_numbers, .ref a_m_then, .ref a_m_leans, .int m_draws, .int m_drawn, .int m_heards, .ref a_m_heardSet, .ref a_m_heardSum])), (a_m_d, .inl (cI, 216, .inl m_d))])) (va_Qv (fun _ : Unit => True) (fun u t => POST (dC, dI) vwCl [(a_m, .inr (6, [.ref a_m_w, .ref a_m_d, .int m_undoes, .int m_kept, .ref a_m_text, .int m_texted, .int m_at, .ref a_m_numbers, .ref a_m_then, .ref a_m_leans, .int m_draws, .int m_drawn, .int m_heards, .ref a_m_heardSet, .ref a_m_heardSum])), (a_m_d, .inl (cI, 216, .inl res))] (va_A [(a_m, .inr (6, [.ref a_m_w, .ref a_m_d, .int m_undoes, .int m_kept, .ref a_m_text, .int m_texted, .int m_at, .ref a_m_numbers, .ref a_m_then, .ref a_m_leans, .int m_draws, .int m_drawn, .int m_heards, .ref a_m_heardSet, .ref a_m_heardSum])), (a_m_d, .inl (cI, 216, .inl m_d))] sz) t) (va_A [(a_m, .inr (6, [.ref a_m_w, .ref a_m_d, .int m_undoes, .int m_kept, .ref a_m_text, .int m_texted, .int m_at, .ref a_m_numbers, .ref a_m_then, .ref a_m_leans, .int m_draws, .int m_drawn, .int m_heards, .ref a_m_heardSet, .ref a_m_heardSum])), (a_m_d, .inl (cI, 216, .inl m_d))] sz)) 0 0 (va_A [(a_m, .inr (6, [.ref a_m_w, .ref a_m_d, .int m_undoes, .int m_kept, .ref a_m_text, .int m_texted, .int m_at, .ref a_m_numbers, .ref a_m_then, .ref a_m_leans, .int m_draws, .int m_drawn, .int m_heards, .ref a_m_heardSet, .ref a_m_heardSum])), (a_m_d, .inl (cI, 216, .inl m_d))] sz) := by
  refine Met.ofW (cc := cX6_lays) (maxL := 2) (ret := none) (by decide) rfl ?_
  intro p e s m args below meth c s₁ B hml hv
  obtain ⟨rfl, hsz, hN, hP, hK, hD0⟩ := hv
  have hx := B.exec
  have hb := B.bytes
  have hr := B.returns
  have hts := atoms_spec (ws := wsX6_lays) B.pre
  have hown : s.vm.findClass RX6 = some m.cls := findClass_of_methodNamed B.named
  have hlocks := B.notSynchronized
  subst hsz
  have hD := hD0.self (sz := s.heap.size)
  generalize hAe : va_A [(a_m, .inr (6, [.ref a_m_w, .ref a_m_d, .int m_undoes, .int m_kept, .ref a_m_text, .int m_texted, .int m_at, .ref a_m_numbers, .ref a_m_then, .ref a_m_leans, .int m_draws, .int m_drawn, .int m_heards, .ref a_m_heardSet, .ref a_m_heardSum])), (a_m_d, .inl (cI, 216, .inl m_d))] s.heap.size = A at hD ⊢
  have hA : ∀ q : Nat, s.heap.size ≤ q → A q := fun q h => by rw [← hAe]; exact Or.inr h
  have hS : va_S A s.heap s.heap [] := va_S.rf
  generalize hQe : MQ below _ _ s _ _ A = QQ
  have hl := lv_entry ([.ref a_m]) (n := 2) (Nat.le_of_ble_eq_true rfl)
  rw [lg_entry_eq]
  generalize (lg_sl ([.ref a_m]) ++ List.replicate (2 - (lg_sl ([.ref a_m])).length) Slot.unset).toArray = ls at hl ⊢
  have hl : lv_has ls 2 [(0, .ref a_m)] := hl
  have f_13 := hts (.fieldLink RX6 13 "RoundOfTheAModel" "d" "[I") (by decide +kernel)
  have in_X6 := (by decide +kernel : ∀ w ∈ wsX60, w ∈ wsX6_lays)
  rw [F_X6_lays] at h
  refine lv_iconst (v := (0 : Int32)) hx hb dX6_lays_0 (by decide) ?_
  refine lv_istore_n (lv' := [(1, .int (0 : Int32)), (0, .ref a_m)]) hx hb dX6_lays_1 rfl hl (by decide) rfl (fun ls hl => ?_)
  obtain ⟨j3356, hjj3356, h⟩ := ob h
  have Jj3356 : ∀ (H : Heap) (locs : List Loc), va_P (dC, dI) vwCl [(a_m, .inr (6, [.ref a_m_w, .ref a_m_d, .int m_undoes, .int m_kept, .ref a_m_text, .int m_texted, .int m_at, .ref a_m_numbers, .ref a_m_then, .ref a_m_leans, .int m_draws, .int m_drawn, .int m_heards, .ref a_m_heardSet, .ref a_m_heardSum])), (a_m_d, .inl (cI, 216, .inl j3356.2))] H → va_D A [(a_m, .inr (6, [.ref a_m_w, .ref a_m_d, .int m_undoes, .int m_kept, .ref a_m_text, .int m_texted, .int m_at, .ref a_m_numbers, .ref a_m_then, .ref a_m_leans, .int m_draws, .int m_drawn, .int m_heards, .ref a_m_heardSet, .ref a_m_heardSum])), (a_m_d, .inl (cI, 216, .inl j3356.2))] → va_S A s.heap H locs → ∀ ls : Array Slot, lv_has ls 2 [(0, .ref a_m), (1, .int j3356.1)] → W p l e (headSpec wsX6_lays rm_X6_lays).room s m ([.ref a_m] : List Value).toArray below meth c H locs 0 0 QQ (F0 m 30 ls []) := by
    intro H locs hP hD hS ls hl
    obtain rfl := Option.some.inj h
    subst hQe
    exact W.vret hx hb hr (fun t ht hW => ⟨⟨(), rfl, trivial, ⟨by rw [ht]; exact hP, hD⟩⟩, hS.F ht⟩) hS.2.2 dX6_lays_30
  have K2 : ∀ (k : Nat) (y1_2 : Int32) (m_dv_2 : Nat → Int32), L_X6_lays_2 k y1_2 m_dv_2 = some j3356 → ∀ (H : Heap) (locs : List Loc), va_P (dC, dI) vwCl [(a_m, .inr (6, [.ref a_m_w, .ref a_m_d, .int m_undoes, .int m_kept, .ref a_m_text, .int m_texted, .int m_at, .ref a_m_numbers, .ref a_m_then, .ref a_m_leans, .int m_draws, .int m_drawn, .int m_heards, .ref a_m_heardSet, .ref a_m_heardSum])), (a_m_d, .inl (cI, 216, .inl m_dv_2))] H → va_D A [(a_m, .inr (6, [.ref a_m_w, .ref a_m_d, .int m_undoes, .int m_kept, .ref a_m_text, .int m_texted, .int m_at, .ref a_m_numbers, .ref a_m_then, .ref a_m_leans, .int m_draws, .int m_drawn, .int m_heards, .ref a_m_heardSet, .ref a_m_heardSum])), (a_m_d, .inl (cI, 216, .inl m_dv_2))] → va_S A s.heap H locs → ∀ ls : Array Slot, lv_has ls 2 [(0, .ref a_m), (1, .int y1_2)] → W p l e (headSpec wsX6_lays rm_X6_lays).room s m ([.ref a_m] : List Value).toArray below meth c H locs 0 0 QQ (F0 m 2 ls []) := by
    intro k
    induction k with
    | zero =>
      intro y1_2 m_dv_2 h
      rw [L_X6_lays_2] at h
      cases h
    | succ k ih =>
      intro y1_2 m_dv_2 h H locs hP hD hS ls hl
      rw [L_X6_lays_2] at h
      refine lv_iload_n hx hb dX6_lays_2 rfl (lv_at hl 1 rfl) ?_
      refine lv_bipush (v := (18 : Int32)) hx hb dX6_lays_3 (by decide) ?_
      refine lv_icmp_ge (tgt := 30) hx hb dX6_lays_5 (by decide) (fun c_5 => ?_) (fun c_5 => ?_)
      · have h := (if_pos c_5).symm.trans h
        obtain rfl := Option.some.inj h
        exact Jj3356 _ _ hP hD hS _ hl
      · have h := (if_neg c_5).symm.trans h
        refine lv_aload_n hx hb dX6_lays_8 rfl (lv_at hl 0 rfl) ?_
        refine va_get (D := (dC, dI)) (ci := 6) (v := .ref a_m_d) (C := RX6) (T := TX6) (N := 15) hx hb hts in_X6 hown hK hP 0 rfl rfl 1 (by decide) f_13 (fun _ h9 => h9) rfl dX6_lays_9 ?_
        refine lv_sipush (v := (198 : Int32)) hx hb dX6_lays_12 (by decide) ?_
        refine lv_iload_n hx hb dX6_lays_15 rfl (lv_at hl 1 rfl) ?_
        refine lv_iadd hx hb dX6_lays_16 ?_
        refine lv_aload_n hx hb dX6_lays_17 rfl (lv_at hl 0 rfl) ?_
        refine va_get (D := (dC, dI)) (ci := 6) (v := .ref a_m_d) (C := RX6) (T := TX6) (N := 15) hx hb hts in_X6 hown hK hP 0 rfl rfl 1 (by decide) f_13 (fun _ h9 => h9) rfl dX6_lays_18 ?_
        refine lv_iload_n hx hb dX6_lays_21 rfl (lv_at hl 1 rfl) ?_
        obtain ⟨v3357, hv3357, h⟩ := ob h
        refine k_ld hx hb hK hP 1 0 rfl rfl hv3357 dX6_lays_22 ?_
        obtain ⟨g3358, hg3358, h⟩ := ob h
        refine k_st hx hb hK hP hD hS 1 0 rfl rfl hg3358 dX6_lays_23 (ws' := [(a_m, .inr (6, [.ref a_m_w, .ref a_m_d, .int m_undoes, .int m_kept, .ref a_m_text, .int m_texted, .int m_at, .ref a_m_numbers, .ref a_m_then, .ref a_m_leans, .int m_draws, .int m_drawn, .int m_heards, .ref a_m_heardSet, .ref a_m_heardSum])), (a_m_d, .inl (cI, 216, .inl g3358))]) rfl (fun H locs hP hD hS => ?_)
        refine lv_iinc (v := (y1_2 + (1 : Int32))) (lv' := [(1, .int (y1_2 + (1 : Int32))), (0, .ref a_m)]) hx hb dX6_lays_24 hl (k := 1) rfl rfl (by decide) rfl (fun ls hl => ?_)
        refine lv_goto (tgt := 2) hx hb dX6_lays_27 (by decide) ?_
        exact ih _ _ h _ _ hP hD hS _ (lv_sub hl [1, 0] rfl)
  exact K2 n (0 : Int32) m_d hjj3356 _ _ hP hD hS _ (lv_sub hl [1, 0] rfl)
def rm_X6_laysLeans : Room := { frames := 0, cells := 0, slots := 0, locals := 0 }
set_option maxRecDepth 100000 in
set_option maxHeartbeats 8000000 in
theorem c_X6_laysLeans (l : Launch) (dC : Nat → ClassId) (dI : Nat → Nat → Nat) (cI cS : ClassId) (n sz : Nat) (a_m : Nat) (a_m_w : Nat) (a_m_d : Nat) (a_m_text : Nat) (a_m_numbers : Nat) (a_m_then : Nat) (a_m_leans : Nat) (a_m_heardSet : Nat) (a_m_heardSum : Nat) (m_w : Nat → Int32) (m_undoes : Int32) (m_kept : Int32) (m_texted : Int32) (m_at : Int32) (m_leans : Nat → Int32) (m_draws : Int32) (m_drawn : Int32) (m_heards : Int32) (res : Int32 × Int32 × (Nat → Int32))  (h : F_X6_laysLeans n m_w m_leans = some res) : Met l yX6_laysLeans wsX6_laysLeans rm_X6_laysLeans (va_Pc [.ref a_m] (PRE (dC, dI) vwCl [(cI, .int), (cS, .object "RoundOfTheA$State")] sz [(a_m, .inr (6, [.ref a_m_w, .ref a_m_d, .int m_undoes, .int m_kept, .ref a_m_text, .int m_texted, .int m_at, .ref a_m_numbers, .ref a_m_then, .ref a_m_leans, .int m_draws, .int m_drawn, .int m_heards, .ref a_m_heardSet, .ref a_m_heardSum])), (a_m_w, .inl (cI, 106, .inl m_w)), (a_m_leans, .inl (cI, 8, .inl m_leans))])) (va_Qv (fun _ : Unit => True) (fun u t => POST (dC, dI) vwCl [(a_m, .inr (6, [.ref a_m_w, .ref a_m_d, .int m_undoes, .int m_kept, .ref a_m_text, .int m_texted, .int m_at, .ref a_m_numbers, .ref a_m_then, .ref a_m_leans, .int res.1, .int res.2.1, .int m_heards, .ref a_m_heardSet, .ref a_m_heardSum])), (a_m_w, .inl (cI, 106, .inl m_w)), (a_m_leans, .inl (cI, 8, .inl res.2.2))] (va_A [(a_m, .inr (6, [.ref a_m_w, .ref a_m_d, .int m_undoes, .int m_kept, .ref a_m_text, .int m_texted, .int m_at, .ref a_m_numbers, .ref a_m_then, .ref a_m_leans, .int m_draws, .int m_drawn, .int m_heards, .ref a_m_heardSet, .ref a_m_heardSum])), (a_m_w, .inl (cI, 106, .inl m_w)), (a_m_leans, .inl (cI, 8, .inl m_leans))] sz) t) (va_A [(a_m, .inr (6, [.ref a_m_w, .ref a_m_d, .int m_undoes, .int m_kept, .ref a_m_text, .int m_texted, .int m_at, .ref a_m_numbers, .ref a_m_then, .ref a_m_leans, .int m_draws, .int m_drawn, .int m_heards, .ref a_m_heardSet, .ref a_m_heardSum])), (a_m_w, .inl (cI, 106, .inl m_w)), (a_m_leans, .inl (cI, 8, .inl m_leans))] sz)) 0 0 (va_A [(a_m, .inr (6, [.ref a_m_w, .ref a_m_d, .int m_undoes, .int m_kept, .ref a_m_text, .int m_texted, .int m_at, .ref a_m_numbers, .ref a_m_then, .ref a_m_leans, .int m_draws, .int m_drawn, .int m_heards, .ref a_m_heardSet, .ref a_m_heardSum])), (a_m_w, .inl (cI, 106, .inl m_w)), (a_m_leans, .inl (cI, 8, .inl m_leans))] sz) := by
  refine Met.ofW (cc := cX6_laysLeans) (maxL := 2) (ret := none) (by decide) rfl ?_
  intro p e s m args below meth c s₁ B hml hv
  obtain ⟨rfl, hsz, hN, hP, hK, hD0⟩ := hv
  have hx := B.exec
  have hb := B.bytes
  have hr := B.returns
  have hts := atoms_spec (ws := wsX6_laysLeans) B.pre
  have hown : s.vm.findClass RX6 = some m.cls := findClass_of_methodNamed B.named
  have hlocks := B.notSynchronized
  subst hsz
  have hD := hD0.self (sz := s.heap.size)
  generalize hAe : va_A [(a_m, .inr (6, [.ref a_m_w, .ref a_m_d, .int m_undoes, .int m_kept, .ref a_m_text, .int m_texted, .int m_at, .ref a_m_numbers, .ref a_m_then, .ref a_m_leans, .int m_draws, .int m_drawn, .int m_heards, .ref a_m_heardSet, .ref a_m_heardSum])), (a_m_w, .inl (cI, 106, .inl m_w)), (a_m_leans, .inl (cI, 8, .inl m_leans))] s.heap.size = A at hD ⊢
  have hA : ∀ q : Nat, s.heap.size ≤ q → A q := fun q h => by rw [← hAe]; exact Or.inr h
  have hS : va_S A s.heap s.heap [] := va_S.rf
  generalize hQe : MQ below _ _ s _ _ A = QQ
  have hl := lv_entry ([.ref a_m]) (n := 2) (Nat.le_of_ble_eq_true rfl)
  rw [lg_entry_eq]
  generalize (lg_sl ([.ref a_m]) ++ List.replicate (2 - (lg_sl ([.ref a_m])).length) Slot.unset).toArray = ls at hl ⊢
  have hl : lv_has ls 2 [(0, .ref a_m)] := hl
  have f_25 := hts (.fieldLink RX6 25 "RoundOfTheAModel" "leans" "[I") (by decide +kernel)
  have in_X6 := (by decide +kernel : ∀ w ∈ wsX60, w ∈ wsX6_laysLeans)
  have f_7 := hts (.fieldLink RX6 7 "RoundOfTheAModel" "w" "[I") (by decide +kernel)
  have f_100 := hts (.fieldLink RX6 100 "RoundOfTheAModel" "draws" "I") (by decide +kernel)
  have f_103 := hts (.fieldLink RX6 103 "RoundOfTheAModel" "drawn" "I") (by decide +kernel)
  rw [F_X6_laysLeans] at h
  refine lv_iconst (v := (0 : Int32)) hx hb dX6_laysLeans_0 (by decide) ?_
  refine lv_istore_n (lv' := [(1, .int (0 : Int32)), (0, .ref a_m)]) hx hb dX6_laysLeans_1 rfl hl (by decide) rfl (fun ls hl => ?_)
  obtain ⟨j3374, hjj3374, h⟩ := ob h
  have Jj3374 : ∀ (H : Heap) (locs : List Loc), va_P (dC, dI) vwCl [(a_m, .inr (6, [.ref a_m_w, .ref a_m_d, .int m_undoes, .int m_kept, .ref a_m_text, .int m_texted, .int m_at, .ref a_m_numbers, .ref a_m_then, .ref a_m_leans, .int m_draws, .int m_drawn, .int m_heards, .ref a_m_heardSet, .ref a_m_heardSum])), (a_m_w, .inl (cI, 106, .inl m_w)), (a_m_leans, .inl (cI, 8, .inl j3374.2))] H → va_D A [(a_m, .inr (6, [.ref a_m_w, .ref a_m_d, .int m_undoes, .int m_kept, .ref a_m_text, .int m_texted, .int m_at, .ref a_m_numbers, .ref a_m_then, .ref a_m_leans, .int m_draws, .int m_drawn, .int m_heards, .ref a_m_heardSet, .ref a_m_heardSum])), (a_m_w, .inl (cI, 106, .inl m_w)), (a_m_leans, .inl (cI, 8, .inl j3374.2))] → va_S A s.heap H locs → ∀ ls : Array Slot, lv_has ls 2 [(0, .ref a_m), (1, .int j3374.1)] → W p l e (headSpec wsX6_laysLeans rm_X6_laysLeans).room s m ([.ref a_m] : List Value).toArray below meth c H locs 0 0 QQ (F0 m 31 ls []) := by
    intro H locs hP hD hS ls hl
    refine lv_aload_n hx hb dX6_laysLeans_31 rfl (lv_at hl 0 rfl) ?_
    refine lv_iconst (v := (-1 : Int32)) hx hb dX6_laysLeans_32 (by decide) ?_
    refine va_put (D := (dC, dI)) (ci := 6) (v := .int (-1 : Int32)) (ty := .int) (C := RX6) (T := TX6) (N := 15) hx hb hts in_X6 tyX6 tyX6_ok nmX6 hown hK hP hD hS 0 rfl rfl 10 (by decide) f_100 (fun _ h9 => h9) rfl (by decide +kernel) rfl rfl (Nat.le_of_ble_eq_true rfl) dX6_laysLeans_33 (fun H locs hP hD hS => ?_)
    have hP : va_P (dC, dI) vwCl [(a_m, .inr (6, [.ref a_m_w, .ref a_m_d, .int m_undoes, .int m_kept, .ref a_m_text, .int m_texted, .int m_at, .ref a_m_numbers, .ref a_m_then, .ref a_m_leans, .int (-1 : Int32), .int m_drawn, .int m_heards, .ref a_m_heardSet, .ref a_m_heardSum])), (a_m_w, .inl (cI, 106, .inl m_w)), (a_m_leans, .inl (cI, 8, .inl j3374.2))] H := hP
    have hD : va_D A [(a_m, .inr (6, [.ref a_m_w, .ref a_m_d, .int m_undoes, .int m_kept, .ref a_m_text, .int m_texted, .int m_at, .ref a_m_numbers, .ref a_m_then, .ref a_m_leans, .int (-1 : Int32), .int m_drawn, .int m_heards, .ref a_m_heardSet, .ref a_m_heardSum])), (a_m_w, .inl (cI, 106, .inl m_w)), (a_m_leans, .inl (cI, 8, .inl j3374.2))] := hD
    refine lv_aload_n hx hb dX6_laysLeans_36 rfl (lv_at hl 0 rfl) ?_
    refine lv_iconst (v := (0 : Int32)) hx hb dX6_laysLeans_37 (by decide) ?_
    refine va_put (D := (dC, dI)) (ci := 6) (v := .int (0 : Int32)) (ty := .int) (C := RX6) (T := TX6) (N := 15) hx hb hts in_X6 tyX6 tyX6_ok nmX6 hown hK hP hD hS 0 rfl rfl 11 (by decide) f_103 (fun _ h9 => h9) rfl (by decide +kernel) rfl rfl (Nat.le_of_ble_eq_true rfl) dX6_laysLeans_38 (fun H locs hP hD hS => ?_)
    have hP : va_P (dC, dI) vwCl [(a_m, .inr (6, [.ref a_m_w, .ref a_m_d, .int m_undoes, .int m_kept, .ref a_m_text, .int m_texted, .int m_at, .ref a_m_numbers, .ref a_m_then, .ref a_m_leans, .int (-1 : Int32), .int (0 : Int32), .int m_heards, .ref a_m_heardSet, .ref a_m_heardSum])), (a_m_w, .inl (cI, 106, .inl m_w)), (a_m_leans, .inl (cI, 8, .inl j3374.2))] H := hP
    have hD : va_D A [(a_m, .inr (6, [.ref a_m_w, .ref a_m_d, .int m_undoes, .int m_kept, .ref a_m_text, .int m_texted, .int m_at, .ref a_m_numbers, .ref a_m_then, .ref a_m_leans, .int (-1 : Int32), .int (0 : Int32), .int m_heards, .ref a_m_heardSet, .ref a_m_heardSum])), (a_m_w, .inl (cI, 106, .inl m_w)), (a_m_leans, .inl (cI, 8, .inl j3374.2))] := hD
    obtain rfl := Option.some.inj h
    subst hQe
    exact W.vret hx hb hr (fun t ht hW => ⟨⟨(), rfl, trivial, ⟨by rw [ht]; exact hP, hD⟩⟩, hS.F ht⟩) hS.2.2 dX6_laysLeans_41
  have K2 : ∀ (k : Nat) (y1_2 : Int32) (m_leansv_2 : Nat → Int32), L_X6_laysLeans_2 m_w k y1_2 m_leansv_2 = some j3374 → ∀ (H : Heap) (locs : List Loc), va_P (dC, dI) vwCl [(a_m, .inr (6, [.ref a_m_w, .ref a_m_d, .int m_undoes, .int m_kept, .ref a_m_text, .int m_texted, .int m_at, .ref a_m_numbers, .ref a_m_then, .ref a_m_leans, .int m_draws, .int m_drawn, .int m_heards, .ref a_m_heardSet, .ref a_m_heardSum])), (a_m_w, .inl (cI, 106, .inl m_w)), (a_m_leans, .inl (cI, 8, .inl m_leansv_2))] H → va_D A [(a_m, .inr (6, [.ref a_m_w, .ref a_m_d, .int m_undoes, .int m_kept, .ref a_m_text, .int m_texted, .int m_at, .ref a_m_numbers, .ref a_m_then, .ref a_m_leans, .int m_draws, .int m_drawn, .int m_heards, .ref a_m_heardSet, .ref a_m_heardSum])), (a_m_w, .inl (cI, 106, .inl m_w)), (a_m_leans, .inl (cI, 8, .inl m_leansv_2))] → va_S A s.heap H locs → ∀ ls : Array Slot, lv_has ls 2 [(0, .ref a_m), (1, .int y1_2)] → W p l e (headSpec wsX6_laysLeans rm_X6_laysLeans).room s m ([.ref a_m] : List Value).toArray below meth c H locs 0 0 QQ (F0 m 2 ls []) := by
    intro k
    induction k with
    | zero =>
      intro y1_2 m_leansv_2 h
      rw [L_X6_laysLeans_2] at h
      cases h
    | succ k ih =>
      intro y1_2 m_leansv_2 h H locs hP hD hS ls hl
      rw [L_X6_laysLeans_2] at h
      refine lv_iload_n hx hb dX6_laysLeans_2 rfl (lv_at hl 1 rfl) ?_
      refine lv_bipush (v := (8 : Int32)) hx hb dX6_laysLeans_3 (by decide) ?_
      refine lv_icmp_ge (tgt := 31) hx hb dX6_laysLeans_5 (by decide) (fun c_5 => ?_) (fun c_5 => ?_)
      · have h := (if_pos c_5).symm.trans h
        obtain rfl := Option.some.inj h
        exact Jj3374 _ _ hP hD hS _ hl
      · have h := (if_neg c_5).symm.trans h
        refine lv_aload_n hx hb dX6_laysLeans_8 rfl (lv_at hl 0 rfl) ?_
        refine va_get (D := (dC, dI)) (ci := 6) (v := .ref a_m_leans) (C := RX6) (T := TX6) (N := 15) hx hb hts in_X6 hown hK hP 0 rfl rfl 9 (by decide) f_25 (fun _ h9 => h9) rfl dX6_laysLeans_9 ?_
        refine lv_iload_n hx hb dX6_laysLeans_12 rfl (lv_at hl 1 rfl) ?_
        refine lv_aload_n hx hb dX6_laysLeans_13 rfl (lv_at hl 0 rfl) ?_
        refine va_get (D := (dC, dI)) (ci := 6) (v := .ref a_m_w) (C := RX6) (T := TX6) (N := 15) hx hb hts in_X6 hown hK hP 0 rfl rfl 0 (by decide) f_7 (fun _ h9 => h9) rfl dX6_laysLeans_14 ?_
        refine lv_bipush (v := (9 : Int32)) hx hb dX6_laysLeans_17 (by decide) ?_
        refine lv_iload_n hx hb dX6_laysLeans_19 rfl (lv_at hl 1 rfl) ?_
        refine lv_iadd hx hb dX6_laysLeans_20 ?_
        obtain ⟨v3375, hv3375, h⟩ := ob h
        refine k_ld hx hb hK hP 1 0 rfl rfl hv3375 dX6_laysLeans_21 ?_
        refine lv_iconst (v := (3 : Int32)) hx hb dX6_laysLeans_22 (by decide) ?_
        refine lv_isub hx hb dX6_laysLeans_23 ?_
        obtain ⟨g3376, hg3376, h⟩ := ob h
        refine k_st hx hb hK hP hD hS 2 0 rfl rfl hg3376 dX6_laysLeans_24 (ws' := [(a_m, .inr (6, [.ref a_m_w, .ref a_m_d, .int m_undoes, .int m_kept, .ref a_m_text, .int m_texted, .int m_at, .ref a_m_numbers, .ref a_m_then, .ref a_m_leans, .int m_draws, .int m_drawn, .int m_heards, .ref a_m_heardSet, .ref a_m_heardSum])), (a_m_w, .inl (cI, 106, .inl m_w)), (a_m_leans, .inl (cI, 8, .inl g3376))]) rfl (fun H locs hP hD hS => ?_)
        refine lv_iinc (v := (y1_2 + (1 : Int32))) (lv' := [(1, .int (y1_2 + (1 : Int32))), (0, .ref a_m)]) hx hb dX6_laysLeans_25 hl (k := 1) rfl rfl (by decide) rfl (fun ls hl => ?_)
        refine lv_goto (tgt := 2) hx hb dX6_laysLeans_28 (by decide) ?_
        exact ih _ _ h _ _ hP hD hS _ (lv_sub hl [1, 0] rfl)
  exact K2 n (0 : Int32) m_leans hjj3374 _ _ hP hD hS _ (lv_sub hl [1, 0] rfl)
def rm_X6_drawNext : Room := { frames := 0, cells := 0, slots := 0, locals := 0 }
set_option maxRecDepth 100000 in
set_option maxHeartbeats 8000000 in
theorem c_X6_drawNext (l : Launch) (dC : Nat → ClassId) (dI : Nat → Nat → Nat) (cI cS : ClassId) (n sz : Nat) (a_m : Nat) (a_m_w : Nat) (a_m_d : Nat) (a_m_text : Nat) (a_m_numbers : Nat) (a_m_then : Nat) (a_m_leans : Nat) (a_m_heardSet : Nat) (a_m_heardSum : Nat) (m_undoes : Int32) (m_kept : Int32) (m_texted : Int32) (m_at : Int32) (m_draws : Int32) (m_drawn : Int32) (m_heards : Int32) (res : Int32 × Int32)  (h : F_X6_drawNext n m_draws m_drawn = some res) : Met l yX6_drawNext wsX6_drawNext rm_X6_drawNext (va_Pc [.ref a_m] (PRE (dC, dI) vwCl [(cI, .int), (cS, .object "RoundOfTheA$State")] sz [(a_m, .inr (6, [.ref a_m_w, .ref a_m_d, .int m_undoes, .int m_kept, .ref a_m_text, .int m_texted, .int m_at, .ref a_m_numbers, .ref a_m_then, .ref a_m_leans, .int m_draws, .int m_drawn, .int m_heards, .ref a_m_heardSet, .ref a_m_heardSum]))])) (va_Qi (fun (r : Int32) (_ : Unit) => r = res.1) (fun u t => POST (dC, dI) vwCl [(a_m, .inr (6, [.ref a_m_w, .ref a_m_d, .int m_undoes, .int m_kept, .ref a_m_text, .int m_texted, .int m_at, .ref a_m_numbers, .ref a_m_then, .ref a_m_leans, .int m_draws, .int res.2, .int m_heards, .ref a_m_heardSet, .ref a_m_heardSum]))] (va_A [(a_m, .inr (6, [.ref a_m_w, .ref a_m_d, .int m_undoes, .int m_kept, .ref a_m_text, .int m_texted, .int m_at, .ref a_m_numbers, .ref a_m_then, .ref a_m_leans, .int m_draws, .int m_drawn, .int m_heards, .ref a_m_heardSet, .ref a_m_heardSum]))] sz) t) (va_A [(a_m, .inr (6, [.ref a_m_w, .ref a_m_d, .int m_undoes, .int m_kept, .ref a_m_text, .int m_texted, .int m_at, .ref a_m_numbers, .ref a_m_then, .ref a_m_leans, .int m_draws, .int m_drawn, .int m_heards, .ref a_m_heardSet, .ref a_m_heardSum]))] sz)) 0 0 (va_A [(a_m, .inr (6, [.ref a_m_w, .ref a_m_d, .int m_undoes, .int m_kept, .ref a_m_text, .int m_texted, .int m_at, .ref a_m_numbers, .ref a_m_then, .ref a_m_leans, .int m_draws, .int m_drawn, .int m_heards, .ref a_m_heardSet, .ref a_m_heardSum]))] sz) := by
  refine Met.ofW (cc := cX6_drawNext) (maxL := 3) (ret := (some .int)) (by decide) rfl ?_
  intro p e s m args below meth c s₁ B hml hv
  obtain ⟨rfl, hsz, hN, hP, hK, hD0⟩ := hv
  have hx := B.exec
  have hb := B.bytes
  have hr := B.returns
  have hts := atoms_spec (ws := wsX6_drawNext) B.pre
  have hown : s.vm.findClass RX6 = some m.cls := findClass_of_methodNamed B.named
  have hlocks := B.notSynchronized
  subst hsz
  have hD := hD0.self (sz := s.heap.size)
  generalize hAe : va_A [(a_m, .inr (6, [.ref a_m_w, .ref a_m_d, .int m_undoes, .int m_kept, .ref a_m_text, .int m_texted, .int m_at, .ref a_m_numbers, .ref a_m_then, .ref a_m_leans, .int m_draws, .int m_drawn, .int m_heards, .ref a_m_heardSet, .ref a_m_heardSum]))] s.heap.size = A at hD ⊢
  have hA : ∀ q : Nat, s.heap.size ≤ q → A q := fun q h => by rw [← hAe]; exact Or.inr h
  have hS : va_S A s.heap s.heap [] := va_S.rf
  generalize hQe : MQ below _ _ s _ _ A = QQ
  have hl := lv_entry ([.ref a_m]) (n := 3) (Nat.le_of_ble_eq_true rfl)
  rw [lg_entry_eq]
  generalize (lg_sl ([.ref a_m]) ++ List.replicate (3 - (lg_sl ([.ref a_m])).length) Slot.unset).toArray = ls at hl ⊢
  have hl : lv_has ls 3 [(0, .ref a_m)] := hl
  have k_106 := hts (.constantLong RX6 106 (7919)) (by decide +kernel)
  have f_100 := hts (.fieldLink RX6 100 "RoundOfTheAModel" "draws" "I") (by decide +kernel)
  have in_X6 := (by decide +kernel : ∀ w ∈ wsX60, w ∈ wsX6_drawNext)
  have k_108 := hts (.constantLong RX6 108 (6151)) (by decide +kernel)
  have f_103 := hts (.fieldLink RX6 103 "RoundOfTheAModel" "drawn" "I") (by decide +kernel)
  have k_110 := hts (.constantLong RX6 110 (65521)) (by decide +kernel)
  have k_112 := hts (.constantLong RX6 112 (3)) (by decide +kernel)
  rw [F_X6_drawNext] at h
  refine lv_ldc2 (v := (7919 : Int64)) hx hb hown k_106 dX6_drawNext_0 ?_
  refine lv_aload_n hx hb dX6_drawNext_3 rfl (lv_at hl 0 rfl) ?_
  refine va_get (D := (dC, dI)) (ci := 6) (v := .int m_draws) (C := RX6) (T := TX6) (N := 15) hx hb hts in_X6 hown hK hP 0 rfl rfl 10 (by decide) f_100 (fun _ h9 => h9) rfl dX6_drawNext_4 ?_
  refine lv_i2l (v := (Int32.toInt64 m_draws)) hx hb dX6_drawNext_7 rfl ?_
  refine lv_lmul hx hb dX6_drawNext_8 ?_
  refine lv_ldc2 (v := (6151 : Int64)) hx hb hown k_108 dX6_drawNext_9 ?_
  refine lv_aload_n hx hb dX6_drawNext_12 rfl (lv_at hl 0 rfl) ?_
  refine va_get (D := (dC, dI)) (ci := 6) (v := .int m_drawn) (C := RX6) (T := TX6) (N := 15) hx hb hts in_X6 hown hK hP 0 rfl rfl 11 (by decide) f_103 (fun _ h9 => h9) rfl dX6_drawNext_13 ?_
  refine lv_i2l (v := (Int32.toInt64 m_drawn)) hx hb dX6_drawNext_16 rfl ?_
  refine lv_lmul hx hb dX6_drawNext_17 ?_
  refine lv_ladd hx hb dX6_drawNext_18 ?_
  refine lv_lconst (v := (1 : Int64)) hx hb dX6_drawNext_19 (by decide) ?_
  refine lv_ladd hx hb dX6_drawNext_20 ?_
  refine lv_lstore_n (lv' := [(1, .long ((((7919 : Int64) * (Int32.toInt64 m_draws)) + ((6151 : Int64) * (Int32.toInt64 m_drawn))) + (1 : Int64))), (0, .ref a_m)]) hx hb dX6_drawNext_21 rfl hl (by decide) rfl (fun ls hl => ?_)
  refine lv_aload_n hx hb dX6_drawNext_22 rfl (lv_at hl 1 rfl) ?_
  refine lv_dup hx hb dX6_drawNext_23 rfl ?_
  refine va_get (D := (dC, dI)) (ci := 6) (v := .int m_drawn) (C := RX6) (T := TX6) (N := 15) hx hb hts in_X6 hown hK hP 0 rfl rfl 11 (by decide) f_103 (fun _ h9 => h9) rfl dX6_drawNext_24 ?_
  refine lv_iconst (v := (1 : Int32)) hx hb dX6_drawNext_27 (by decide) ?_
  refine lv_iadd hx hb dX6_drawNext_28 ?_
  refine va_put (D := (dC, dI)) (ci := 6) (v := .int (m_drawn + (1 : Int32))) (ty := .int) (C := RX6) (T := TX6) (N := 15) hx hb hts in_X6 tyX6 tyX6_ok nmX6 hown hK hP hD hS 0 rfl rfl 11 (by decide) f_103 (fun _ h9 => h9) rfl (by decide +kernel) rfl rfl (Nat.le_of_ble_eq_true rfl) dX6_drawNext_29 (fun H locs hP hD hS => ?_)
  have hP : va_P (dC, dI) vwCl [(a_m, .inr (6, [.ref a_m_w, .ref a_m_d, .int m_undoes, .int m_kept, .ref a_m_text, .int m_texted, .int m_at, .ref a_m_numbers, .ref a_m_then, .ref a_m_leans, .int m_draws, .int (m_drawn + (1 : Int32)), .int m_heards, .ref a_m_heardSet, .ref a_m_heardSum]))] H := hP
  have hD : va_D A [(a_m, .inr (6, [.ref a_m_w, .ref a_m_d, .int m_undoes, .int m_kept, .ref a_m_text, .int m_texted, .int m_at, .ref a_m_numbers, .ref a_m_then, .ref a_m_leans, .int m_draws, .int (m_drawn + (1 : Int32)), .int m_heards, .ref a_m_heardSet, .ref a_m_heardSum]))] := hD
  refine lv_lload_n hx hb dX6_drawNext_32 rfl (lv_at hl 0 rfl) ?_
  refine lv_lload_n hx hb dX6_drawNext_33 rfl (lv_at hl 0 rfl) ?_
  refine lv_lmul hx hb dX6_drawNext_34 ?_
  refine lv_ldc2 (v := (65521 : Int64)) hx hb hown k_110 dX6_drawNext_35 ?_
  refine lv_lrem hx hb dX6_drawNext_38 (by decide) ?_
  refine lv_ldc2 (v := (3 : Int64)) hx hb hown k_112 dX6_drawNext_39 ?_
  refine lv_lrem hx hb dX6_drawNext_42 (by decide) ?_
  refine lv_l2i (v := (Int64.toInt32 (((((((7919 : Int64) * (Int32.toInt64 m_draws)) + ((6151 : Int64) * (Int32.toInt64 m_drawn))) + (1 : Int64)) * ((((7919 : Int64) * (Int32.toInt64 m_draws)) + ((6151 : Int64) * (Int32.toInt64 m_drawn))) + (1 : Int64))) - (((((7919 : Int64) * (Int32.toInt64 m_draws)) + ((6151 : Int64) * (Int32.toInt64 m_drawn))) + (1 : Int64)) * ((((7919 : Int64) * (Int32.toInt64 m_draws)) + ((6151 : Int64) * (Int32.toInt64 m_drawn))) + (1 : Int64))) / (65521 : Int64) * (65521 : Int64)) - ((((((7919 : Int64) * (Int32.toInt64 m_draws)) + ((6151 : Int64) * (Int32.toInt64 m_drawn))) + (1 : Int64)) * ((((7919 : Int64) * (Int32.toInt64 m_draws)) + ((6151 : Int64) * (Int32.toInt64 m_drawn))) + (1 : Int64))) - (((((7919 : Int64) * (Int32.toInt64 m_draws)) + ((6151 : Int64) * (Int32.toInt64 m_drawn))) + (1 : Int64)) * ((((7919 : Int64) * (Int32.toInt64 m_draws)) + ((6151 : Int64) * (Int32.toInt64 m_drawn))) + (1 : Int64))) / (65521 : Int64) * (65521 : Int64)) / (3 : Int64) * (3 : Int64)))) hx hb dX6_drawNext_43 rfl ?_
  refine lv_iconst (v := (1 : Int32)) hx hb dX6_drawNext_44 (by decide) ?_
  refine lv_isub hx hb dX6_drawNext_45 ?_
  obtain rfl := Option.some.inj h
  subst hQe
  exact W.iret (v := ((Int64.toInt32 (((((((7919 : Int64) * (Int32.toInt64 m_draws)) + ((6151 : Int64) * (Int32.toInt64 m_drawn))) + (1 : Int64)) * ((((7919 : Int64) * (Int32.toInt64 m_draws)) + ((6151 : Int64) * (Int32.toInt64 m_drawn))) + (1 : Int64))) - (((((7919 : Int64) * (Int32.toInt64 m_draws)) + ((6151 : Int64) * (Int32.toInt64 m_drawn))) + (1 : Int64)) * ((((7919 : Int64) * (Int32.toInt64 m_draws)) + ((6151 : Int64) * (Int32.toInt64 m_drawn))) + (1 : Int64))) / (65521 : Int64) * (65521 : Int64)) - ((((((7919 : Int64) * (Int32.toInt64 m_draws)) + ((6151 : Int64) * (Int32.toInt64 m_drawn))) + (1 : Int64)) * ((((7919 : Int64) * (Int32.toInt64 m_draws)) + ((6151 : Int64) * (Int32.toInt64 m_drawn))) + (1 : Int64))) - (((((7919 : Int64) * (Int32.toInt64 m_draws)) + ((6151 : Int64) * (Int32.toInt64 m_drawn))) + (1 : Int64)) * ((((7919 : Int64) * (Int32.toInt64 m_draws)) + ((6151 : Int64) * (Int32.toInt64 m_drawn))) + (1 : Int64))) / (65521 : Int64) * (65521 : Int64)) / (3 : Int64) * (3 : Int64))) - (1 : Int32))) hx hb hr (fun t ht hW => ⟨⟨((Int64.toInt32 (((((((7919 : Int64) * (Int32.toInt64 m_draws)) + ((6151 : Int64) * (Int32.toInt64 m_drawn))) + (1 : Int64)) * ((((7919 : Int64) * (Int32.toInt64 m_draws)) + ((6151 : Int64) * (Int32.toInt64 m_drawn))) + (1 : Int64))) - (((((7919 : Int64) * (Int32.toInt64 m_draws)) + ((6151 : Int64) * (Int32.toInt64 m_drawn))) + (1 : Int64)) * ((((7919 : Int64) * (Int32.toInt64 m_draws)) + ((6151 : Int64) * (Int32.toInt64 m_drawn))) + (1 : Int64))) / (65521 : Int64) * (65521 : Int64)) - ((((((7919 : Int64) * (Int32.toInt64 m_draws)) + ((6151 : Int64) * (Int32.toInt64 m_drawn))) + (1 : Int64)) * ((((7919 : Int64) * (Int32.toInt64 m_draws)) + ((6151 : Int64) * (Int32.toInt64 m_drawn))) + (1 : Int64))) - (((((7919 : Int64) * (Int32.toInt64 m_draws)) + ((6151 : Int64) * (Int32.toInt64 m_drawn))) + (1 : Int64)) * ((((7919 : Int64) * (Int32.toInt64 m_draws)) + ((6151 : Int64) * (Int32.toInt64 m_drawn))) + (1 : Int64))) / (65521 : Int64) * (65521 : Int64)) / (3 : Int64) * (3 : Int64))) - (1 : Int32)), (), rfl, rfl, ⟨by rw [ht]; exact hP, hD⟩⟩, hS.F ht⟩) hS.2.2 dX6_drawNext_46
