def rm_X6_warms : Room := { frames := 1, cells := 0, slots := 0, locals := 20 }
set_option maxRecDepth 100000 in
set_option maxHeartbeats 8000000 in
theorem c_X6_warms (l : Launch) (dC : Nat → ClassId) (dI : Nat → Nat → Nat) (cI cS : ClassId) (n sz : Nat) (a_m : Nat) (a_m_w : Nat) (a_m_d : Nat) (a_m_text : Nat) (a_m_numbers : Nat) (a_m_then : Nat) (a_m_leans : Nat) (a_m_heardSet : Nat) (a_m_heardSum : Nat) (m_w : Nat → Int32) (m_d : Nat → Int32) (m_undoes : Int32) (m_kept : Int32) (m_texted : Int32) (m_at : Int32) (m_draws : Int32) (m_drawn : Int32) (m_heards : Int32) (x1 : Int32) (res : (Nat → Int32))  (h : F_X6_warms n m_w m_d x1 = some res) : Met l yX6_warms wsX6_warms rm_X6_warms (va_Pc [.ref a_m, .int x1] (PRE (dC, dI) vwCl [(cI, .int), (cS, .object "RoundOfTheA$State")] sz [(a_m, .inr (6, [.ref a_m_w, .ref a_m_d, .int m_undoes, .int m_kept, .ref a_m_text, .int m_texted, .int m_at, .ref a_m_numbers, .ref a_m_then, .ref a_m_leans, .int m_draws, .int m_drawn, .int m_heards, .ref a_m_heardSet, .ref a_m_heardSum])), (a_m_w, .inl (cI, 106, .inl m_w)), (a_m_d, .inl (cI, 216, .inl m_d))])) (va_Qv (fun _ : Unit => True) (fun u t => POST (dC, dI) vwCl [(a_m, .inr (6, [.ref a_m_w, .ref a_m_d, .int m_undoes, .int m_kept, .ref a_m_text, .int m_texted, .int m_at, .ref a_m_numbers, .ref a_m_then, .ref a_m_leans, .int m_draws, .int m_drawn, .int m_heards, .ref a_m_heardSet, .ref a_m_heardSum])), (a_m_w, .inl (cI, 106, .inl m_w)), (a_m_d, .inl (cI, 216, .inl res))] (va_A [(a_m, .inr (6, [.ref a_m_w, .ref a_m_d, .int m_undoes, .int m_kept, .ref a_m_text, .int m_texted, .int m_at, .ref a_m_numbers, .ref a_m_then, .ref a_m_leans, .int m_draws, .int m_drawn, .int m_heards, .ref a_m_heardSet, .ref a_m_heardSum])), (a_m_w, .inl (cI, 106, .inl m_w)), (a_m_d, .inl (cI, 216, .inl m_d))] sz) t) (va_A [(a_m, .inr (6, [.ref a_m_w, .ref a_m_d, .int m_undoes, .int m_kept, .ref a_m_text, .int m_texted, .int m_at, .ref a_m_numbers, .ref a_m_then, .ref a_m_leans, .int m_draws, .int m_drawn, .int m_heards, .ref a_m_heardSet, .ref a_m_heardSum])), (a_m_w, .inl (cI, 106, .inl m_w)), (a_m_d, .inl (cI, 216, .inl m_d))] sz)) 0 0 (va_A [(a_m, .inr (6, [.ref a_m_w, .ref a_m_d, .int m_undoes, .int m_kept, .ref a_m_text, .int m_texted, .int m_at, .ref a_m_numbers, .ref a_m_then, .ref a_m_leans, .int m_draws, .int m_drawn, .int m_heards, .ref a_m_heardSet, .ref a_m_heardSum])), (a_m_w, .inl (cI, 106, .inl m_w)), (a_m_d, .inl (cI, 216, .inl m_d))] sz) := by
  refine Met.ofW (cc := cX6_warms) (maxL := 4) (ret := none) (by decide) rfl ?_
  intro p e s m args below meth c s₁ B hml hv
  obtain ⟨rfl, hsz, hN, hP, hK, hD0⟩ := hv
  have hx := B.exec
  have hb := B.bytes
  have hr := B.returns
  have hts := atoms_spec (ws := wsX6_warms) B.pre
  have hown : s.vm.findClass RX6 = some m.cls := findClass_of_methodNamed B.named
  have hlocks := B.notSynchronized
  subst hsz
  have hD := hD0.self (sz := s.heap.size)
  generalize hAe : va_A [(a_m, .inr (6, [.ref a_m_w, .ref a_m_d, .int m_undoes, .int m_kept, .ref a_m_text, .int m_texted, .int m_at, .ref a_m_numbers, .ref a_m_then, .ref a_m_leans, .int m_draws, .int m_drawn, .int m_heards, .ref a_m_heardSet, .ref a_m_heardSum])), (a_m_w, .inl (cI, 106, .inl m_w)), (a_m_d, .inl (cI, 216, .inl m_d))] s.heap.size = A at hD ⊢
  have hA : ∀ q : Nat, s.heap.size ≤ q → A q := fun q h => by rw [← hAe]; exact Or.inr h
  have hS : va_S A s.heap s.heap [] := va_S.rf
  generalize hQe : MQ below _ _ s _ _ A = QQ
  have hl := lv_entry ([.ref a_m, .int x1]) (n := 4) (Nat.le_of_ble_eq_true rfl)
  rw [lg_entry_eq]
  generalize (lg_sl ([.ref a_m, .int x1]) ++ List.replicate (4 - (lg_sl ([.ref a_m, .int x1])).length) Slot.unset).toArray = ls at hl ⊢
  have hl : lv_has ls 4 [(0, .ref a_m), (1, .int x1)] := hl
  have f_7 := hts (.fieldLink RX6 7 "RoundOfTheAModel" "w" "[I") (by decide +kernel)
  have in_X6 := (by decide +kernel : ∀ w ∈ wsX60, w ∈ wsX6_warms)
  have f_13 := hts (.fieldLink RX6 13 "RoundOfTheAModel" "d" "[I") (by decide +kernel)
  rw [F_X6_warms] at h
  refine lv_iconst (v := (0 : Int32)) hx hb dX6_warms_0 (by decide) ?_
  refine lv_istore_n (lv' := [(2, .int (0 : Int32)), (0, .ref a_m), (1, .int x1)]) hx hb dX6_warms_1 rfl hl (by decide) rfl (fun ls hl => ?_)
  obtain ⟨j3437, hjj3437, h⟩ := ob h
  have Jj3437 : ∀ (H : Heap) (locs : List Loc), va_P (dC, dI) vwCl [(a_m, .inr (6, [.ref a_m_w, .ref a_m_d, .int m_undoes, .int m_kept, .ref a_m_text, .int m_texted, .int m_at, .ref a_m_numbers, .ref a_m_then, .ref a_m_leans, .int m_draws, .int m_drawn, .int m_heards, .ref a_m_heardSet, .ref a_m_heardSum])), (a_m_w, .inl (cI, 106, .inl m_w)), (a_m_d, .inl (cI, 216, .inl j3437.2))] H → va_D A [(a_m, .inr (6, [.ref a_m_w, .ref a_m_d, .int m_undoes, .int m_kept, .ref a_m_text, .int m_texted, .int m_at, .ref a_m_numbers, .ref a_m_then, .ref a_m_leans, .int m_draws, .int m_drawn, .int m_heards, .ref a_m_heardSet, .ref a_m_heardSum])), (a_m_w, .inl (cI, 106, .inl m_w)), (a_m_d, .inl (cI, 216, .inl j3437.2))] → va_S A s.heap H locs → ∀ ls : Array Slot, lv_has ls 4 [(0, .ref a_m), (1, .int x1), (2, .int j3437.1)] → W p l e (headSpec wsX6_warms rm_X6_warms).room s m ([.ref a_m, .int x1] : List Value).toArray below meth c H locs 0 0 QQ (F0 m 95 ls []) := by
    intro H locs hP hD hS ls hl
    obtain rfl := Option.some.inj h
    subst hQe
    exact W.vret hx hb hr (fun t ht hW => ⟨⟨(), rfl, trivial, ⟨by rw [ht]; exact hP, hD⟩⟩, hS.F ht⟩) hS.2.2 dX6_warms_95
  have K2 : ∀ (k : Nat) (y2_2 : Int32) (m_dv_2 : Nat → Int32), L_X6_warms_2 n m_w x1 k y2_2 m_dv_2 = some j3437 → ∀ (H : Heap) (locs : List Loc), va_P (dC, dI) vwCl [(a_m, .inr (6, [.ref a_m_w, .ref a_m_d, .int m_undoes, .int m_kept, .ref a_m_text, .int m_texted, .int m_at, .ref a_m_numbers, .ref a_m_then, .ref a_m_leans, .int m_draws, .int m_drawn, .int m_heards, .ref a_m_heardSet, .ref a_m_heardSum])), (a_m_w, .inl (cI, 106, .inl m_w)), (a_m_d, .inl (cI, 216, .inl m_dv_2))] H → va_D A [(a_m, .inr (6, [.ref a_m_w, .ref a_m_d, .int m_undoes, .int m_kept, .ref a_m_text, .int m_texted, .int m_at, .ref a_m_numbers, .ref a_m_then, .ref a_m_leans, .int m_draws, .int m_drawn, .int m_heards, .ref a_m_heardSet, .ref a_m_heardSum])), (a_m_w, .inl (cI, 106, .inl m_w)), (a_m_d, .inl (cI, 216, .inl m_dv_2))] → va_S A s.heap H locs → ∀ ls : Array Slot, lv_has ls 4 [(0, .ref a_m), (1, .int x1), (2, .int y2_2)] → W p l e (headSpec wsX6_warms rm_X6_warms).room s m ([.ref a_m, .int x1] : List Value).toArray below meth c H locs 0 0 QQ (F0 m 2 ls []) := by
    intro k
    induction k with
    | zero =>
      intro y2_2 m_dv_2 h
      rw [L_X6_warms_2] at h
      cases h
    | succ k ih =>
      intro y2_2 m_dv_2 h H locs hP hD hS ls hl
      rw [L_X6_warms_2] at h
      refine lv_iload_n hx hb dX6_warms_2 rfl (lv_at hl 2 rfl) ?_
      refine lv_aload_n hx hb dX6_warms_3 rfl (lv_at hl 0 rfl) ?_
      refine va_get (D := (dC, dI)) (ci := 6) (v := .ref a_m_w) (C := RX6) (T := TX6) (N := 15) hx hb hts in_X6 hown hK hP 0 rfl rfl 0 (by decide) f_7 (fun _ h9 => h9) rfl dX6_warms_4 ?_
      refine lv_iconst (v := (0 : Int32)) hx hb dX6_warms_7 (by decide) ?_
      obtain ⟨v3438, hv3438, h⟩ := ob h
      refine k_ld hx hb hK hP 1 0 rfl rfl hv3438 dX6_warms_8 ?_
      refine lv_icmp_ge (tgt := 95) hx hb dX6_warms_9 (by decide) (fun c_9 => ?_) (fun c_9 => ?_)
      · have h := (if_pos c_9).symm.trans h
        obtain rfl := Option.some.inj h
        exact Jj3437 _ _ hP hD hS _ hl
      · have h := (if_neg c_9).symm.trans h
        refine lv_aload_n hx hb dX6_warms_12 rfl (lv_at hl 0 rfl) ?_
        refine va_get (D := (dC, dI)) (ci := 6) (v := .ref a_m_w) (C := RX6) (T := TX6) (N := 15) hx hb hts in_X6 hown hK hP 0 rfl rfl 0 (by decide) f_7 (fun _ h9 => h9) rfl dX6_warms_13 ?_
        refine lv_iconst (v := (1 : Int32)) hx hb dX6_warms_16 (by decide) ?_
        refine lv_iload_n hx hb dX6_warms_17 rfl (lv_at hl 2 rfl) ?_
        refine lv_iadd hx hb dX6_warms_18 ?_
        obtain ⟨v3439, hv3439, h⟩ := ob h
        refine k_ld hx hb hK hP 1 0 rfl rfl hv3439 dX6_warms_19 ?_
        obtain ⟨j3442, hjj3442, h⟩ := ob h
        have Jj3442 : ∀ (H : Heap) (locs : List Loc), va_P (dC, dI) vwCl [(a_m, .inr (6, [.ref a_m_w, .ref a_m_d, .int m_undoes, .int m_kept, .ref a_m_text, .int m_texted, .int m_at, .ref a_m_numbers, .ref a_m_then, .ref a_m_leans, .int m_draws, .int m_drawn, .int m_heards, .ref a_m_heardSet, .ref a_m_heardSum])), (a_m_w, .inl (cI, 106, .inl m_w)), (a_m_d, .inl (cI, 216, .inl m_dv_2))] H → va_D A [(a_m, .inr (6, [.ref a_m_w, .ref a_m_d, .int m_undoes, .int m_kept, .ref a_m_text, .int m_texted, .int m_at, .ref a_m_numbers, .ref a_m_then, .ref a_m_leans, .int m_draws, .int m_drawn, .int m_heards, .ref a_m_heardSet, .ref a_m_heardSum])), (a_m_w, .inl (cI, 106, .inl m_w)), (a_m_d, .inl (cI, 216, .inl m_dv_2))] → va_S A s.heap H locs → ∀ ls : Array Slot, lv_has ls 4 [(0, .ref a_m), (1, .int x1), (2, .int y2_2)] → W p l e (headSpec wsX6_warms rm_X6_warms).room s m ([.ref a_m, .int x1] : List Value).toArray below meth c H locs 0 0 QQ (F0 m 61 ls [.int j3442]) := by
          intro H locs hP hD hS ls hl
          refine lv_istore_n (lv' := [(3, .int j3442), (0, .ref a_m), (1, .int x1), (2, .int y2_2)]) hx hb dX6_warms_61 rfl hl (by decide) rfl (fun ls hl => ?_)
          refine lv_aload_n hx hb dX6_warms_62 rfl (lv_at hl 1 rfl) ?_
          refine va_get (D := (dC, dI)) (ci := 6) (v := .ref a_m_d) (C := RX6) (T := TX6) (N := 15) hx hb hts in_X6 hown hK hP 0 rfl rfl 1 (by decide) f_13 (fun _ h9 => h9) rfl dX6_warms_63 ?_
          refine lv_sipush (v := (198 : Int32)) hx hb dX6_warms_66 (by decide) ?_
          refine lv_iload_n hx hb dX6_warms_69 rfl (lv_at hl 3 rfl) ?_
          refine lv_iadd hx hb dX6_warms_70 ?_
          refine lv_aload_n hx hb dX6_warms_71 rfl (lv_at hl 1 rfl) ?_
          refine va_get (D := (dC, dI)) (ci := 6) (v := .ref a_m_d) (C := RX6) (T := TX6) (N := 15) hx hb hts in_X6 hown hK hP 0 rfl rfl 1 (by decide) f_13 (fun _ h9 => h9) rfl dX6_warms_72 ?_
          refine lv_sipush (v := (198 : Int32)) hx hb dX6_warms_75 (by decide) ?_
          refine lv_iload_n hx hb dX6_warms_78 rfl (lv_at hl 3 rfl) ?_
          refine lv_iadd hx hb dX6_warms_79 ?_
          obtain ⟨v3445, hv3445, h⟩ := ob h
          refine k_ld hx hb hK hP 2 0 rfl rfl hv3445 dX6_warms_80 ?_
          refine lv_iload_n hx hb dX6_warms_81 rfl (lv_at hl 0 rfl) ?_
          refine lv_iload_n hx hb dX6_warms_82 rfl (lv_at hl 2 rfl) ?_
          refine lv_imul hx hb dX6_warms_83 ?_
          refine lv_iadd hx hb dX6_warms_84 ?_
          obtain ⟨r3446, hr3446, h⟩ := ob h
          refine k_Si (As := [.int (v3445 + (j3442 * x1))]) (rest := [.int ((198 : Int32) + y2_2), .ref a_m_d]) (c_X6_within l dC dI cI cS n _ (v3445 + (j3442 * x1)) r3446 hr3446) (fun _ _ q => q) ⟨hx, hb, hml, hown, hts⟩ (va_cwS 1 hts gX6_warms_X6_within rfl rfl rfl (by decide +kernel) ⟨(Nat.le_of_ble_eq_true rfl), (Nat.le_of_ble_eq_true rfl)⟩) hN hK hP hD hS hA rfl hl.1 rfl (Nat.le_of_ble_eq_true rfl) dX6_warms_85 ⟨(Nat.le_of_ble_eq_true rfl), (Nat.le_of_ble_eq_true rfl)⟩ (fun H locs hP hD hS => ?_)
          obtain ⟨g3448, hg3448, h⟩ := ob h
          refine k_st hx hb hK hP hD hS 2 0 rfl rfl hg3448 dX6_warms_88 (ws' := [(a_m, .inr (6, [.ref a_m_w, .ref a_m_d, .int m_undoes, .int m_kept, .ref a_m_text, .int m_texted, .int m_at, .ref a_m_numbers, .ref a_m_then, .ref a_m_leans, .int m_draws, .int m_drawn, .int m_heards, .ref a_m_heardSet, .ref a_m_heardSum])), (a_m_w, .inl (cI, 106, .inl m_w)), (a_m_d, .inl (cI, 216, .inl g3448))]) rfl (fun H locs hP hD hS => ?_)
          refine lv_iinc (v := (y2_2 + (1 : Int32))) (lv' := [(2, .int (y2_2 + (1 : Int32))), (3, .int j3442), (0, .ref a_m), (1, .int x1)]) hx hb dX6_warms_89 hl (k := 3) rfl rfl (by decide) rfl (fun ls hl => ?_)
          refine lv_goto (tgt := 2) hx hb dX6_warms_92 (by decide) ?_
          exact ih _ _ h _ _ hP hD hS _ (lv_sub hl [2, 3, 0] rfl)
        refine lv_if_ne (tgt := 27) hx hb dX6_warms_20 (by decide) (fun c_20 => ?_) (fun c_20 => ?_)
        · have h := (if_neg c_20).symm.trans hjj3442
          refine lv_aload_n hx hb dX6_warms_27 rfl (lv_at hl 0 rfl) ?_
          refine va_get (D := (dC, dI)) (ci := 6) (v := .ref a_m_w) (C := RX6) (T := TX6) (N := 15) hx hb hts in_X6 hown hK hP 0 rfl rfl 0 (by decide) f_7 (fun _ h9 => h9) rfl dX6_warms_28 ?_
          refine lv_iconst (v := (1 : Int32)) hx hb dX6_warms_31 (by decide) ?_
          refine lv_iload_n hx hb dX6_warms_32 rfl (lv_at hl 2 rfl) ?_
          refine lv_iadd hx hb dX6_warms_33 ?_
          obtain ⟨v3443, hv3443, h⟩ := ob h
          refine k_ld hx hb hK hP 1 0 rfl rfl hv3443 dX6_warms_34 ?_
          refine lv_iconst (v := (1 : Int32)) hx hb dX6_warms_35 (by decide) ?_
          refine lv_icmp_ne (tgt := 43) hx hb dX6_warms_36 (by decide) (fun c_36 => ?_) (fun c_36 => ?_)
          · have h := (if_neg c_36).symm.trans h
            refine lv_aload_n hx hb dX6_warms_43 rfl (lv_at hl 0 rfl) ?_
            refine va_get (D := (dC, dI)) (ci := 6) (v := .ref a_m_w) (C := RX6) (T := TX6) (N := 15) hx hb hts in_X6 hown hK hP 0 rfl rfl 0 (by decide) f_7 (fun _ h9 => h9) rfl dX6_warms_44 ?_
            refine lv_iconst (v := (1 : Int32)) hx hb dX6_warms_47 (by decide) ?_
            refine lv_iload_n hx hb dX6_warms_48 rfl (lv_at hl 2 rfl) ?_
            refine lv_iadd hx hb dX6_warms_49 ?_
            obtain ⟨v3444, hv3444, h⟩ := ob h
            refine k_ld hx hb hK hP 1 0 rfl rfl hv3444 dX6_warms_50 ?_
            refine lv_iconst (v := (3 : Int32)) hx hb dX6_warms_51 (by decide) ?_
            refine lv_icmp_ne (tgt := 60) hx hb dX6_warms_52 (by decide) (fun c_52 => ?_) (fun c_52 => ?_)
            · have h := (if_neg c_52).symm.trans h
              refine lv_iconst (v := (0 : Int32)) hx hb dX6_warms_60 (by decide) ?_
              obtain rfl := Option.some.inj h
              exact Jj3442 _ _ hP hD hS _ hl
            · have h := (if_pos c_52).symm.trans h
              refine lv_bipush (v := (-2 : Int32)) hx hb dX6_warms_55 (by decide) ?_
              refine lv_goto (tgt := 61) hx hb dX6_warms_57 (by decide) ?_
              obtain rfl := Option.some.inj h
              exact Jj3442 _ _ hP hD hS _ hl
          · have h := (if_pos c_36).symm.trans h
            refine lv_iconst (v := (1 : Int32)) hx hb dX6_warms_39 (by decide) ?_
            refine lv_goto (tgt := 61) hx hb dX6_warms_40 (by decide) ?_
            obtain rfl := Option.some.inj h
            exact Jj3442 _ _ hP hD hS _ hl
        · have h := (if_pos c_20).symm.trans hjj3442
          refine lv_iconst (v := (-1 : Int32)) hx hb dX6_warms_23 (by decide) ?_
          refine lv_goto (tgt := 61) hx hb dX6_warms_24 (by decide) ?_
          obtain rfl := Option.some.inj h
          exact Jj3442 _ _ hP hD hS _ hl
  exact K2 n (0 : Int32) m_d hjj3437 _ _ hP hD hS _ (lv_sub hl [1, 2, 0] rfl)
def rm_X6_passes : Room := { frames := 2, cells := 0, slots := 0, locals := 43 }
set_option maxRecDepth 100000 in
set_option maxHeartbeats 8000000 in
theorem c_X6_passes (l : Launch) (dC : Nat → ClassId) (dI : Nat → Nat → Nat) (cI cS : ClassId) (n sz : Nat) (a_m : Nat) (a_m_w : Nat) (a_m_d : Nat) (a_m_text : Nat) (a_m_numbers : Nat) (a_m_then : Nat) (a_m_leans : Nat) (a_m_heardSet : Nat) (a_m_heardSum : Nat) (m_w : Nat → Int32) (m_d : Nat → Int32) (m_undoes : Int32) (m_kept : Int32) (m_texted : Int32) (m_at : Int32) (m_draws : Int32) (m_drawn : Int32) (m_heards : Int32) (x1 : Int32) (res : (Nat → Int32))  (h : F_X6_passes n m_w m_d x1 = some res) : Met l yX6_passes wsX6_passes rm_X6_passes (va_Pc [.ref a_m, .int x1] (PRE (dC, dI) vwCl [(cI, .int), (cS, .object "RoundOfTheA$State")] sz [(a_m, .inr (6, [.ref a_m_w, .ref a_m_d, .int m_undoes, .int m_kept, .ref a_m_text, .int m_texted, .int m_at, .ref a_m_numbers, .ref a_m_then, .ref a_m_leans, .int m_draws, .int m_drawn, .int m_heards, .ref a_m_heardSet, .ref a_m_heardSum])), (a_m_w, .inl (cI, 106, .inl m_w)), (a_m_d, .inl (cI, 216, .inl m_d))])) (va_Qv (fun _ : Unit => True) (fun u t => POST (dC, dI) vwCl [(a_m, .inr (6, [.ref a_m_w, .ref a_m_d, .int m_undoes, .int m_kept, .ref a_m_text, .int m_texted, .int m_at, .ref a_m_numbers, .ref a_m_then, .ref a_m_leans, .int m_draws, .int m_drawn, .int m_heards, .ref a_m_heardSet, .ref a_m_heardSum])), (a_m_w, .inl (cI, 106, .inl m_w)), (a_m_d, .inl (cI, 216, .inl res))] (va_A [(a_m, .inr (6, [.ref a_m_w, .ref a_m_d, .int m_undoes, .int m_kept, .ref a_m_text, .int m_texted, .int m_at, .ref a_m_numbers, .ref a_m_then, .ref a_m_leans, .int m_draws, .int m_drawn, .int m_heards, .ref a_m_heardSet, .ref a_m_heardSum])), (a_m_w, .inl (cI, 106, .inl m_w)), (a_m_d, .inl (cI, 216, .inl m_d))] sz) t) (va_A [(a_m, .inr (6, [.ref a_m_w, .ref a_m_d, .int m_undoes, .int m_kept, .ref a_m_text, .int m_texted, .int m_at, .ref a_m_numbers, .ref a_m_then, .ref a_m_leans, .int m_draws, .int m_drawn, .int m_heards, .ref a_m_heardSet, .ref a_m_heardSum])), (a_m_w, .inl (cI, 106, .inl m_w)), (a_m_d, .inl (cI, 216, .inl m_d))] sz)) 0 0 (va_A [(a_m, .inr (6, [.ref a_m_w, .ref a_m_d, .int m_undoes, .int m_kept, .ref a_m_text, .int m_texted, .int m_at, .ref a_m_numbers, .ref a_m_then, .ref a_m_leans, .int m_draws, .int m_drawn, .int m_heards, .ref a_m_heardSet, .ref a_m_heardSum])), (a_m_w, .inl (cI, 106, .inl m_w)), (a_m_d, .inl (cI, 216, .inl m_d))] sz) := by
  refine Met.ofW (cc := cX6_passes) (maxL := 3) (ret := none) (by decide) rfl ?_
  intro p e s m args below meth c s₁ B hml hv
  obtain ⟨rfl, hsz, hN, hP, hK, hD0⟩ := hv
  have hx := B.exec
  have hb := B.bytes
  have hr := B.returns
  have hts := atoms_spec (ws := wsX6_passes) B.pre
  have hown : s.vm.findClass RX6 = some m.cls := findClass_of_methodNamed B.named
  have hlocks := B.notSynchronized
  subst hsz
  have hD := hD0.self (sz := s.heap.size)
  generalize hAe : va_A [(a_m, .inr (6, [.ref a_m_w, .ref a_m_d, .int m_undoes, .int m_kept, .ref a_m_text, .int m_texted, .int m_at, .ref a_m_numbers, .ref a_m_then, .ref a_m_leans, .int m_draws, .int m_drawn, .int m_heards, .ref a_m_heardSet, .ref a_m_heardSum])), (a_m_w, .inl (cI, 106, .inl m_w)), (a_m_d, .inl (cI, 216, .inl m_d))] s.heap.size = A at hD ⊢
  have hA : ∀ q : Nat, s.heap.size ≤ q → A q := fun q h => by rw [← hAe]; exact Or.inr h
  have hS : va_S A s.heap s.heap [] := va_S.rf
  generalize hQe : MQ below _ _ s _ _ A = QQ
  have hl := lv_entry ([.ref a_m, .int x1]) (n := 3) (Nat.le_of_ble_eq_true rfl)
  rw [lg_entry_eq]
  generalize (lg_sl ([.ref a_m, .int x1]) ++ List.replicate (3 - (lg_sl ([.ref a_m, .int x1])).length) Slot.unset).toArray = ls at hl ⊢
  have hl : lv_has ls 3 [(0, .ref a_m), (1, .int x1)] := hl
  have f_13 := hts (.fieldLink RX6 13 "RoundOfTheAModel" "d" "[I") (by decide +kernel)
  have in_X6 := (by decide +kernel : ∀ w ∈ wsX60, w ∈ wsX6_passes)
  have f_7 := hts (.fieldLink RX6 7 "RoundOfTheAModel" "w" "[I") (by decide +kernel)
  rw [F_X6_passes] at h
  refine lv_aload_n hx hb dX6_passes_0 rfl (lv_at hl 0 rfl) ?_
  refine va_get (D := (dC, dI)) (ci := 6) (v := .ref a_m_d) (C := RX6) (T := TX6) (N := 15) hx hb hts in_X6 hown hK hP 0 rfl rfl 1 (by decide) f_13 (fun _ h9 => h9) rfl dX6_passes_1 ?_
  refine lv_sipush (v := (207 : Int32)) hx hb dX6_passes_4 (by decide) ?_
  obtain ⟨v3456, hv3456, h⟩ := ob h
  refine k_ld hx hb hK hP 2 0 rfl rfl hv3456 dX6_passes_7 ?_
  refine lv_bipush (v := (60 : Int32)) hx hb dX6_passes_8 (by decide) ?_
  refine lv_idiv hx hb dX6_passes_10 (by decide) ?_
  refine lv_istore_n (lv' := [(2, .int (v3456 / (60 : Int32))), (0, .ref a_m), (1, .int x1)]) hx hb dX6_passes_11 rfl hl (by decide) rfl (fun ls hl => ?_)
  refine lv_aload_n hx hb dX6_passes_12 rfl (lv_at hl 1 rfl) ?_
  refine va_get (D := (dC, dI)) (ci := 6) (v := .ref a_m_d) (C := RX6) (T := TX6) (N := 15) hx hb hts in_X6 hown hK hP 0 rfl rfl 1 (by decide) f_13 (fun _ h9 => h9) rfl dX6_passes_13 ?_
  refine lv_sipush (v := (207 : Int32)) hx hb dX6_passes_16 (by decide) ?_
  refine lv_dup2_11 hx hb dX6_passes_19 rfl rfl ?_
  obtain ⟨v3457, hv3457, h⟩ := ob h
  refine k_ld hx hb hK hP 2 0 rfl rfl hv3457 dX6_passes_20 ?_
  refine lv_iload_n hx hb dX6_passes_21 rfl (lv_at hl 2 rfl) ?_
  refine lv_iadd hx hb dX6_passes_22 ?_
  obtain ⟨g3458, hg3458, h⟩ := ob h
  refine k_st hx hb hK hP hD hS 2 0 rfl rfl hg3458 dX6_passes_23 (ws' := [(a_m, .inr (6, [.ref a_m_w, .ref a_m_d, .int m_undoes, .int m_kept, .ref a_m_text, .int m_texted, .int m_at, .ref a_m_numbers, .ref a_m_then, .ref a_m_leans, .int m_draws, .int m_drawn, .int m_heards, .ref a_m_heardSet, .ref a_m_heardSum])), (a_m_w, .inl (cI, 106, .inl m_w)), (a_m_d, .inl (cI, 216, .inl g3458))]) rfl (fun H locs hP hD hS => ?_)
  refine lv_aload_n hx hb dX6_passes_24 rfl (lv_at hl 1 rfl) ?_
  refine lv_aload_n hx hb dX6_passes_25 rfl (lv_at hl 1 rfl) ?_
  refine va_get (D := (dC, dI)) (ci := 6) (v := .ref a_m_w) (C := RX6) (T := TX6) (N := 15) hx hb hts in_X6 hown hK hP 0 rfl rfl 0 (by decide) f_7 (fun _ h9 => h9) rfl dX6_passes_26 ?_
  refine lv_bipush (v := (51 : Int32)) hx hb dX6_passes_29 (by decide) ?_
  obtain ⟨v3459, hv3459, h⟩ := ob h
  refine k_ld hx hb hK hP 1 0 rfl rfl hv3459 dX6_passes_31 ?_
  refine lv_aload_n hx hb dX6_passes_32 rfl (lv_at hl 1 rfl) ?_
  refine va_get (D := (dC, dI)) (ci := 6) (v := .ref a_m_d) (C := RX6) (T := TX6) (N := 15) hx hb hts in_X6 hown hK hP 0 rfl rfl 1 (by decide) f_13 (fun _ h9 => h9) rfl dX6_passes_33 ?_
  refine lv_sipush (v := (207 : Int32)) hx hb dX6_passes_36 (by decide) ?_
  obtain ⟨v3460, hv3460, h⟩ := ob h
  refine k_ld hx hb hK hP 2 0 rfl rfl hv3460 dX6_passes_39 ?_
  refine lv_bipush (v := (60 : Int32)) hx hb dX6_passes_40 (by decide) ?_
  refine lv_idiv hx hb dX6_passes_42 (by decide) ?_
  refine lv_iload_n hx hb dX6_passes_43 rfl (lv_at hl 0 rfl) ?_
  refine lv_isub hx hb dX6_passes_44 ?_
  refine lv_imul hx hb dX6_passes_45 ?_
  obtain ⟨r3461, hr3461, h⟩ := ob h
  refine k_Vv (As := [.int (v3459 * ((v3460 / (60 : Int32)) - (v3456 / (60 : Int32))))]) (rest := []) (wr := []) (c_X6_warms l dC dI cI cS n _ a_m a_m_w a_m_d a_m_text a_m_numbers a_m_then a_m_leans a_m_heardSet a_m_heardSum m_w g3458 m_undoes m_kept m_texted m_at m_draws m_drawn m_heards (v3459 * ((v3460 / (60 : Int32)) - (v3456 / (60 : Int32)))) r3461 hr3461) ⟨hx, hb, hml, hown, hts⟩ (cwV 1 hts gX6_passes_X6_warms rfl rfl rfl (by decide +kernel) ⟨(Nat.le_of_ble_eq_true rfl), (Nat.le_of_ble_eq_true rfl)⟩) hN hK hP hD hS hA [0, 1, 2] [] rfl rfl (by decide) (by decide) (by decide) rfl rfl rfl hl.1 rfl (Nat.le_of_ble_eq_true rfl) dX6_passes_46 ⟨(Nat.le_of_ble_eq_true rfl), (Nat.le_of_ble_eq_true rfl)⟩ (fun u3462 H locs _ hP hD hS => ?_)
  have hP : va_P (dC, dI) vwCl [(a_m, .inr (6, [.ref a_m_w, .ref a_m_d, .int m_undoes, .int m_kept, .ref a_m_text, .int m_texted, .int m_at, .ref a_m_numbers, .ref a_m_then, .ref a_m_leans, .int m_draws, .int m_drawn, .int m_heards, .ref a_m_heardSet, .ref a_m_heardSum])), (a_m_w, .inl (cI, 106, .inl m_w)), (a_m_d, .inl (cI, 216, .inl r3461))] H := hP
  have hD : va_D A [(a_m, .inr (6, [.ref a_m_w, .ref a_m_d, .int m_undoes, .int m_kept, .ref a_m_text, .int m_texted, .int m_at, .ref a_m_numbers, .ref a_m_then, .ref a_m_leans, .int m_draws, .int m_drawn, .int m_heards, .ref a_m_heardSet, .ref a_m_heardSum])), (a_m_w, .inl (cI, 106, .inl m_w)), (a_m_d, .inl (cI, 216, .inl r3461))] := hD
  obtain rfl := Option.some.inj h
  subst hQe
  exact W.vret hx hb hr (fun t ht hW => ⟨⟨(), rfl, trivial, ⟨by rw [ht]; exact hP, hD⟩⟩, hS.F ht⟩) hS.2.2 dX6_passes_49
def rm_X6_open : Room := { frames := 1, cells := 0, slots := 0, locals := 21 }
set_option maxRecDepth 100000 in
set_option maxHeartbeats 8000000 in
theorem c_X6_open (l : Launch) (dC : Nat → ClassId) (dI : Nat → Nat → Nat) (cI cS : ClassId) (n sz : Nat) (a_m : Nat) (a_m_w : Nat) (a_m_d : Nat) (a_m_text : Nat) (a_m_numbers : Nat) (a_m_then : Nat) (a_m_leans : Nat) (a_m_heardSet : Nat) (a_m_heardSum : Nat) (m_w : Nat → Int32) (m_undoes : Int32) (m_kept : Int32) (m_texted : Int32) (m_at : Int32) (m_draws : Int32) (m_drawn : Int32) (m_heards : Int32) (x1 : Int32) (res : Int32)  (h : F_X6_open n m_w x1 = some res) : Met l yX6_open wsX6_open rm_X6_open (va_Pc [.ref a_m, .int x1] (PRE (dC, dI) vwCl [(cI, .int), (cS, .object "RoundOfTheA$State")] sz [(a_m, .inr (6, [.ref a_m_w, .ref a_m_d, .int m_undoes, .int m_kept, .ref a_m_text, .int m_texted, .int m_at, .ref a_m_numbers, .ref a_m_then, .ref a_m_leans, .int m_draws, .int m_drawn, .int m_heards, .ref a_m_heardSet, .ref a_m_heardSum])), (a_m_w, .inl (cI, 106, .inl m_w))])) (va_Qi (fun (r : Int32) (_ : Unit) => r = res) (fun u t => POST (dC, dI) vwCl [(a_m, .inr (6, [.ref a_m_w, .ref a_m_d, .int m_undoes, .int m_kept, .ref a_m_text, .int m_texted, .int m_at, .ref a_m_numbers, .ref a_m_then, .ref a_m_leans, .int m_draws, .int m_drawn, .int m_heards, .ref a_m_heardSet, .ref a_m_heardSum])), (a_m_w, .inl (cI, 106, .inl m_w))] (va_A [(a_m, .inr (6, [.ref a_m_w, .ref a_m_d, .int m_undoes, .int m_kept, .ref a_m_text, .int m_texted, .int m_at, .ref a_m_numbers, .ref a_m_then, .ref a_m_leans, .int m_draws, .int m_drawn, .int m_heards, .ref a_m_heardSet, .ref a_m_heardSum])), (a_m_w, .inl (cI, 106, .inl m_w))] sz) t) (va_A [(a_m, .inr (6, [.ref a_m_w, .ref a_m_d, .int m_undoes, .int m_kept, .ref a_m_text, .int m_texted, .int m_at, .ref a_m_numbers, .ref a_m_then, .ref a_m_leans, .int m_draws, .int m_drawn, .int m_heards, .ref a_m_heardSet, .ref a_m_heardSum])), (a_m_w, .inl (cI, 106, .inl m_w))] sz)) 0 0 (va_A [(a_m, .inr (6, [.ref a_m_w, .ref a_m_d, .int m_undoes, .int m_kept, .ref a_m_text, .int m_texted, .int m_at, .ref a_m_numbers, .ref a_m_then, .ref a_m_leans, .int m_draws, .int m_drawn, .int m_heards, .ref a_m_heardSet, .ref a_m_heardSum])), (a_m_w, .inl (cI, 106, .inl m_w))] sz) := by
  refine Met.ofW (cc := cX6_open) (maxL := 4) (ret := (some .int)) (by decide) rfl ?_
  intro p e s m args below meth c s₁ B hml hv
  obtain ⟨rfl, hsz, hN, hP, hK, hD0⟩ := hv
  have hx := B.exec
  have hb := B.bytes
  have hr := B.returns
  have hts := atoms_spec (ws := wsX6_open) B.pre
  have hown : s.vm.findClass RX6 = some m.cls := findClass_of_methodNamed B.named
  have hlocks := B.notSynchronized
  subst hsz
  have hD := hD0.self (sz := s.heap.size)
  generalize hAe : va_A [(a_m, .inr (6, [.ref a_m_w, .ref a_m_d, .int m_undoes, .int m_kept, .ref a_m_text, .int m_texted, .int m_at, .ref a_m_numbers, .ref a_m_then, .ref a_m_leans, .int m_draws, .int m_drawn, .int m_heards, .ref a_m_heardSet, .ref a_m_heardSum])), (a_m_w, .inl (cI, 106, .inl m_w))] s.heap.size = A at hD ⊢
  have hA : ∀ q : Nat, s.heap.size ≤ q → A q := fun q h => by rw [← hAe]; exact Or.inr h
  have hS : va_S A s.heap s.heap [] := va_S.rf
  generalize hQe : MQ below _ _ s _ _ A = QQ
  have hl := lv_entry ([.ref a_m, .int x1]) (n := 4) (Nat.le_of_ble_eq_true rfl)
  rw [lg_entry_eq]
  generalize (lg_sl ([.ref a_m, .int x1]) ++ List.replicate (4 - (lg_sl ([.ref a_m, .int x1])).length) Slot.unset).toArray = ls at hl ⊢
  have hl : lv_has ls 4 [(0, .ref a_m), (1, .int x1)] := hl
  have f_7 := hts (.fieldLink RX6 7 "RoundOfTheAModel" "w" "[I") (by decide +kernel)
  have in_X6 := (by decide +kernel : ∀ w ∈ wsX60, w ∈ wsX6_open)
  rw [F_X6_open] at h
  refine lv_iconst (v := (0 : Int32)) hx hb dX6_open_0 (by decide) ?_
  refine lv_istore_n (lv' := [(2, .int (0 : Int32)), (0, .ref a_m), (1, .int x1)]) hx hb dX6_open_1 rfl hl (by decide) rfl (fun ls hl => ?_)
  refine lv_iconst (v := (0 : Int32)) hx hb dX6_open_2 (by decide) ?_
  refine lv_istore_n (lv' := [(3, .int (0 : Int32)), (2, .int (0 : Int32)), (0, .ref a_m), (1, .int x1)]) hx hb dX6_open_3 rfl hl (by decide) rfl (fun ls hl => ?_)
  obtain ⟨j3498, hjj3498, h⟩ := ob h
  have Jj3498 : ∀ (H : Heap) (locs : List Loc), va_P (dC, dI) vwCl [(a_m, .inr (6, [.ref a_m_w, .ref a_m_d, .int m_undoes, .int m_kept, .ref a_m_text, .int m_texted, .int m_at, .ref a_m_numbers, .ref a_m_then, .ref a_m_leans, .int m_draws, .int m_drawn, .int m_heards, .ref a_m_heardSet, .ref a_m_heardSum])), (a_m_w, .inl (cI, 106, .inl m_w))] H → va_D A [(a_m, .inr (6, [.ref a_m_w, .ref a_m_d, .int m_undoes, .int m_kept, .ref a_m_text, .int m_texted, .int m_at, .ref a_m_numbers, .ref a_m_then, .ref a_m_leans, .int m_draws, .int m_drawn, .int m_heards, .ref a_m_heardSet, .ref a_m_heardSum])), (a_m_w, .inl (cI, 106, .inl m_w))] → va_S A s.heap H locs → ∀ ls : Array Slot, lv_has ls 4 [(0, .ref a_m), (1, .int x1), (2, .int j3498.1), (3, .int j3498.2)] → W p l e (headSpec wsX6_open rm_X6_open).room s m ([.ref a_m, .int x1] : List Value).toArray below meth c H locs 0 0 QQ (F0 m 50 ls []) := by
    intro H locs hP hD hS ls hl
    refine lv_iload_n hx hb dX6_open_50 rfl (lv_at hl 2 rfl) ?_
    obtain rfl := Option.some.inj h
    subst hQe
    exact W.iret (v := j3498.1) hx hb hr (fun t ht hW => ⟨⟨j3498.1, (), rfl, rfl, ⟨by rw [ht]; exact hP, hD⟩⟩, hS.F ht⟩) hS.2.2 dX6_open_51
  have K4 : ∀ (k : Nat) (y2_4 : Int32) (y3_4 : Int32), L_X6_open_4 n m_w x1 k y2_4 y3_4 = some j3498 → ∀ (H : Heap) (locs : List Loc), va_P (dC, dI) vwCl [(a_m, .inr (6, [.ref a_m_w, .ref a_m_d, .int m_undoes, .int m_kept, .ref a_m_text, .int m_texted, .int m_at, .ref a_m_numbers, .ref a_m_then, .ref a_m_leans, .int m_draws, .int m_drawn, .int m_heards, .ref a_m_heardSet, .ref a_m_heardSum])), (a_m_w, .inl (cI, 106, .inl m_w))] H → va_D A [(a_m, .inr (6, [.ref a_m_w, .ref a_m_d, .int m_undoes, .int m_kept, .ref a_m_text, .int m_texted, .int m_at, .ref a_m_numbers, .ref a_m_then, .ref a_m_leans, .int m_draws, .int m_drawn, .int m_heards, .ref a_m_heardSet, .ref a_m_heardSum])), (a_m_w, .inl (cI, 106, .inl m_w))] → va_S A s.heap H locs → ∀ ls : Array Slot, lv_has ls 4 [(0, .ref a_m), (1, .int x1), (2, .int y2_4), (3, .int y3_4)] → W p l e (headSpec wsX6_open rm_X6_open).room s m ([.ref a_m, .int x1] : List Value).toArray below meth c H locs 0 0 QQ (F0 m 4 ls []) := by
    intro k
    induction k with
    | zero =>
      intro y2_4 y3_4 h
      rw [L_X6_open_4] at h
      cases h
    | succ k ih =>
      intro y2_4 y3_4 h H locs hP hD hS ls hl
      rw [L_X6_open_4] at h
      refine lv_iload_n hx hb dX6_open_4 rfl (lv_at hl 3 rfl) ?_
      refine lv_aload_n hx hb dX6_open_5 rfl (lv_at hl 0 rfl) ?_
      refine va_get (D := (dC, dI)) (ci := 6) (v := .ref a_m_w) (C := RX6) (T := TX6) (N := 15) hx hb hts in_X6 hown hK hP 0 rfl rfl 0 (by decide) f_7 (fun _ h9 => h9) rfl dX6_open_6 ?_
      refine lv_iconst (v := (0 : Int32)) hx hb dX6_open_9 (by decide) ?_
      obtain ⟨v3499, hv3499, h⟩ := ob h
      refine k_ld hx hb hK hP 1 0 rfl rfl hv3499 dX6_open_10 ?_
      refine lv_icmp_ge (tgt := 50) hx hb dX6_open_11 (by decide) (fun c_11 => ?_) (fun c_11 => ?_)
      · have h := (if_pos c_11).symm.trans h
        obtain rfl := Option.some.inj h
        exact Jj3498 _ _ hP hD hS _ hl
      · have h := (if_neg c_11).symm.trans h
        refine lv_iload_n hx hb dX6_open_14 rfl (lv_at hl 2 rfl) ?_
        refine lv_iload_n hx hb dX6_open_15 rfl (lv_at hl 1 rfl) ?_
        refine lv_iload_n hx hb dX6_open_16 rfl (lv_at hl 3 rfl) ?_
        obtain ⟨r3500, hr3500, h⟩ := ob h
        refine k_Si (As := [.int x1, .int y3_4]) (rest := [.int y2_4]) (c_X6_has l dC dI cI cS n _ x1 y3_4 r3500 hr3500) (fun _ _ q => q) ⟨hx, hb, hml, hown, hts⟩ (va_cwS 2 hts gX6_open_X6_has rfl rfl rfl (by decide +kernel) ⟨(Nat.le_of_ble_eq_true rfl), (Nat.le_of_ble_eq_true rfl)⟩) hN hK hP hD hS hA rfl hl.1 rfl (Nat.le_of_ble_eq_true rfl) dX6_open_17 ⟨(Nat.le_of_ble_eq_true rfl), (Nat.le_of_ble_eq_true rfl)⟩ (fun H locs hP hD hS => ?_)
        obtain ⟨j3503, hjj3503, h⟩ := ob h
        have Jj3503 : ∀ (H : Heap) (locs : List Loc), va_P (dC, dI) vwCl [(a_m, .inr (6, [.ref a_m_w, .ref a_m_d, .int m_undoes, .int m_kept, .ref a_m_text, .int m_texted, .int m_at, .ref a_m_numbers, .ref a_m_then, .ref a_m_leans, .int m_draws, .int m_drawn, .int m_heards, .ref a_m_heardSet, .ref a_m_heardSum])), (a_m_w, .inl (cI, 106, .inl m_w))] H → va_D A [(a_m, .inr (6, [.ref a_m_w, .ref a_m_d, .int m_undoes, .int m_kept, .ref a_m_text, .int m_texted, .int m_at, .ref a_m_numbers, .ref a_m_then, .ref a_m_leans, .int m_draws, .int m_drawn, .int m_heards, .ref a_m_heardSet, .ref a_m_heardSum])), (a_m_w, .inl (cI, 106, .inl m_w))] → va_S A s.heap H locs → ∀ ls : Array Slot, lv_has ls 4 [(0, .ref a_m), (1, .int x1), (2, .int y2_4), (3, .int y3_4)] → W p l e (headSpec wsX6_open rm_X6_open).room s m ([.ref a_m, .int x1] : List Value).toArray below meth c H locs 0 0 QQ (F0 m 42 ls [.int j3503, .int y2_4]) := by
          intro H locs hP hD hS ls hl
          refine lv_ior hx hb dX6_open_42 ?_
          refine lv_istore_n (lv' := [(2, .int (y2_4 ||| j3503)), (0, .ref a_m), (1, .int x1), (3, .int y3_4)]) hx hb dX6_open_43 rfl hl (by decide) rfl (fun ls hl => ?_)
          refine lv_iinc (v := (y3_4 + (1 : Int32))) (lv' := [(3, .int (y3_4 + (1 : Int32))), (2, .int (y2_4 ||| j3503)), (0, .ref a_m), (1, .int x1)]) hx hb dX6_open_44 hl (k := 3) rfl rfl (by decide) rfl (fun ls hl => ?_)
          refine lv_goto (tgt := 4) hx hb dX6_open_47 (by decide) ?_
          exact ih _ _ h _ _ hP hD hS _ (lv_sub hl [2, 3, 1, 0] rfl)
        refine lv_if_eq (tgt := 41) hx hb dX6_open_20 (by decide) (fun c_20 => ?_) (fun c_20 => ?_)
        · have h := (if_pos c_20).symm.trans hjj3503
          refine lv_iconst (v := (0 : Int32)) hx hb dX6_open_41 (by decide) ?_
          obtain rfl := Option.some.inj h
          exact Jj3503 _ _ hP hD hS _ hl
        · have h := (if_neg c_20).symm.trans hjj3503
          refine lv_aload_n hx hb dX6_open_23 rfl (lv_at hl 0 rfl) ?_
          refine va_get (D := (dC, dI)) (ci := 6) (v := .ref a_m_w) (C := RX6) (T := TX6) (N := 15) hx hb hts in_X6 hown hK hP 0 rfl rfl 0 (by decide) f_7 (fun _ h9 => h9) rfl dX6_open_24 ?_
          refine lv_iconst (v := (1 : Int32)) hx hb dX6_open_27 (by decide) ?_
          refine lv_iload_n hx hb dX6_open_28 rfl (lv_at hl 3 rfl) ?_
          refine lv_iadd hx hb dX6_open_29 ?_
          obtain ⟨v3504, hv3504, h⟩ := ob h
          refine k_ld hx hb hK hP 1 0 rfl rfl hv3504 dX6_open_30 ?_
          refine lv_iconst (v := (2 : Int32)) hx hb dX6_open_31 (by decide) ?_
          refine lv_icmp_eq (tgt := 41) hx hb dX6_open_32 (by decide) (fun c_32 => ?_) (fun c_32 => ?_)
          · have h := (if_pos c_32).symm.trans h
            refine lv_iconst (v := (0 : Int32)) hx hb dX6_open_41 (by decide) ?_
            obtain rfl := Option.some.inj h
            exact Jj3503 _ _ hP hD hS _ hl
          · have h := (if_neg c_32).symm.trans h
            refine lv_iconst (v := (1 : Int32)) hx hb dX6_open_35 (by decide) ?_
            refine lv_iload_n hx hb dX6_open_36 rfl (lv_at hl 3 rfl) ?_
            refine lv_ishl hx hb dX6_open_37 ?_
            refine lv_goto (tgt := 42) hx hb dX6_open_38 (by decide) ?_
            obtain rfl := Option.some.inj h
            exact Jj3503 _ _ hP hD hS _ hl
  exact K4 n (0 : Int32) (0 : Int32) hjj3498 _ _ hP hD hS _ (lv_sub hl [2, 3, 1, 0] rfl)
def rm_X6_tunes : Room := { frames := 3, cells := 0, slots := 0, locals := 65 }
set_option maxRecDepth 100000 in
set_option maxHeartbeats 8000000 in
theorem c_X6_tunes (l : Launch) (dC : Nat → ClassId) (dI : Nat → Nat → Nat) (cI cS : ClassId) (n sz : Nat) (a_m : Nat) (a_m_w : Nat) (a_m_d : Nat) (a_m_text : Nat) (a_m_numbers : Nat) (a_m_then : Nat) (a_m_leans : Nat) (a_m_heardSet : Nat) (a_m_heardSum : Nat) (m_w : Nat → Int32) (m_d : Nat → Int32) (m_undoes : Int32) (m_kept : Int32) (m_texted : Int32) (m_at : Int32) (m_then : Nat → Int32) (m_leans : Nat → Int32) (m_draws : Int32) (m_drawn : Int32) (m_heards : Int32) (x1 : Int32) (res : Int32 × Int32 × (Nat → Int32) × (Nat → Int32))  (h : F_X6_tunes n m_w m_d m_then m_leans m_draws m_drawn x1 = some res) : Met l yX6_tunes wsX6_tunes rm_X6_tunes (va_Pc [.ref a_m, .int x1] (PRE (dC, dI) vwCl [(cI, .int), (cS, .object "RoundOfTheA$State")] sz [(a_m, .inr (6, [.ref a_m_w, .ref a_m_d, .int m_undoes, .int m_kept, .ref a_m_text, .int m_texted, .int m_at, .ref a_m_numbers, .ref a_m_then, .ref a_m_leans, .int m_draws, .int m_drawn, .int m_heards, .ref a_m_heardSet, .ref a_m_heardSum])), (a_m_w, .inl (cI, 106, .inl m_w)), (a_m_d, .inl (cI, 216, .inl m_d)), (a_m_then, .inl (cI, 8, .inl m_then)), (a_m_leans, .inl (cI, 8, .inl m_leans))])) (va_Qi (fun (r : Int32) (_ : Unit) => r = res.1) (fun u t => POST (dC, dI) vwCl [(a_m, .inr (6, [.ref a_m_w, .ref a_m_d, .int m_undoes, .int m_kept, .ref a_m_text, .int m_texted, .int m_at, .ref a_m_numbers, .ref a_m_then, .ref a_m_leans, .int m_draws, .int res.2.1, .int m_heards, .ref a_m_heardSet, .ref a_m_heardSum])), (a_m_w, .inl (cI, 106, .inl m_w)), (a_m_d, .inl (cI, 216, .inl res.2.2.1)), (a_m_then, .inl (cI, 8, .inl res.2.2.2)), (a_m_leans, .inl (cI, 8, .inl m_leans))] (va_A [(a_m, .inr (6, [.ref a_m_w, .ref a_m_d, .int m_undoes, .int m_kept, .ref a_m_text, .int m_texted, .int m_at, .ref a_m_numbers, .ref a_m_then, .ref a_m_leans, .int m_draws, .int m_drawn, .int m_heards, .ref a_m_heardSet, .ref a_m_heardSum])), (a_m_w, .inl (cI, 106, .inl m_w)), (a_m_d, .inl (cI, 216, .inl m_d)), (a_m_then, .inl (cI, 8, .inl m_then)), (a_m_leans, .inl (cI, 8, .inl m_leans))] sz) t) (va_A [(a_m, .inr (6, [.ref a_m_w, .ref a_m_d, .int m_undoes, .int m_kept, .ref a_m_text, .int m_texted, .int m_at, .ref a_m_numbers, .ref a_m_then, .ref a_m_leans, .int m_draws, .int m_drawn, .int m_heards, .ref a_m_heardSet, .ref a_m_heardSum])), (a_m_w, .inl (cI, 106, .inl m_w)), (a_m_d, .inl (cI, 216, .inl m_d)), (a_m_then, .inl (cI, 8, .inl m_then)), (a_m_leans, .inl (cI, 8, .inl m_leans))] sz)) 0 0 (va_A [(a_m, .inr (6, [.ref a_m_w, .ref a_m_d, .int m_undoes, .int m_kept, .ref a_m_text, .int m_texted, .int m_at, .ref a_m_numbers, .ref a_m_then, .ref a_m_leans, .int m_draws, .int m_drawn, .int m_heards, .ref a_m_heardSet, .ref a_m_heardSum])), (a_m_w, .inl (cI, 106, .inl m_w)), (a_m_d, .inl (cI, 216, .inl m_d)), (a_m_then, .inl (cI, 8, .inl m_then)), (a_m_leans, .inl (cI, 8, .inl m_leans))] sz) := by
  refine Met.ofW (cc := cX6_tunes) (maxL := 9) (ret := (some .int)) (by decide) rfl ?_
  intro p e s m args below meth c s₁ B hml hv
  obtain ⟨rfl, hsz, hN, hP, hK, hD0⟩ := hv
  have hx := B.exec
  have hb := B.bytes
  have hr := B.returns
  have hts := atoms_spec (ws := wsX6_tunes) B.pre
  have hown : s.vm.findClass RX6 = some m.cls := findClass_of_methodNamed B.named
  have hlocks := B.notSynchronized
  subst hsz
  have hD := hD0.self (sz := s.heap.size)
  generalize hAe : va_A [(a_m, .inr (6, [.ref a_m_w, .ref a_m_d, .int m_undoes, .int m_kept, .ref a_m_text, .int m_texted, .int m_at, .ref a_m_numbers, .ref a_m_then, .ref a_m_leans, .int m_draws, .int m_drawn, .int m_heards, .ref a_m_heardSet, .ref a_m_heardSum])), (a_m_w, .inl (cI, 106, .inl m_w)), (a_m_d, .inl (cI, 216, .inl m_d)), (a_m_then, .inl (cI, 8, .inl m_then)), (a_m_leans, .inl (cI, 8, .inl m_leans))] s.heap.size = A at hD ⊢
  have hA : ∀ q : Nat, s.heap.size ≤ q → A q := fun q h => by rw [← hAe]; exact Or.inr h
  have hS : va_S A s.heap s.heap [] := va_S.rf
  generalize hQe : MQ below _ _ s _ _ A = QQ
  have hl := lv_entry ([.ref a_m, .int x1]) (n := 9) (Nat.le_of_ble_eq_true rfl)
  rw [lg_entry_eq]
  generalize (lg_sl ([.ref a_m, .int x1]) ++ List.replicate (9 - (lg_sl ([.ref a_m, .int x1])).length) Slot.unset).toArray = ls at hl ⊢
  have hl : lv_has ls 9 [(0, .ref a_m), (1, .int x1)] := hl
  have f_7 := hts (.fieldLink RX6 7 "RoundOfTheAModel" "w" "[I") (by decide +kernel)
  have in_X6 := (by decide +kernel : ∀ w ∈ wsX60, w ∈ wsX6_tunes)
  have f_22 := hts (.fieldLink RX6 22 "RoundOfTheAModel" "then" "[I") (by decide +kernel)
  have f_13 := hts (.fieldLink RX6 13 "RoundOfTheAModel" "d" "[I") (by decide +kernel)
  have f_25 := hts (.fieldLink RX6 25 "RoundOfTheAModel" "leans" "[I") (by decide +kernel)
  have f_100 := hts (.fieldLink RX6 100 "RoundOfTheAModel" "draws" "I") (by decide +kernel)
  rw [F_X6_tunes] at h
  refine lv_aload_n hx hb dX6_tunes_0 rfl (lv_at hl 0 rfl) ?_
  refine lv_iload_n hx hb dX6_tunes_1 rfl (lv_at hl 1 rfl) ?_
  obtain ⟨r3685, hr3685, h⟩ := ob h
  refine k_Vi (As := [.int x1]) (rest := []) (wr := [(a_m_d, .inl (cI, 216, .inl m_d)), (a_m_then, .inl (cI, 8, .inl m_then)), (a_m_leans, .inl (cI, 8, .inl m_leans))]) (c_X6_open l dC dI cI cS n _ a_m a_m_w a_m_d a_m_text a_m_numbers a_m_then a_m_leans a_m_heardSet a_m_heardSum m_w m_undoes m_kept m_texted m_at m_draws m_drawn m_heards x1 r3685 hr3685) (fun _ _ q => q) ⟨hx, hb, hml, hown, hts⟩ (cwV 1 hts gX6_tunes_X6_open rfl rfl rfl (by decide +kernel) ⟨(Nat.le_of_ble_eq_true rfl), (Nat.le_of_ble_eq_true rfl)⟩) hN hK hP hD hS hA [0, 1] [2, 3, 4] rfl rfl (by decide) (by decide) (by decide) rfl rfl rfl hl.1 rfl (Nat.le_of_ble_eq_true rfl) dX6_tunes_2 ⟨(Nat.le_of_ble_eq_true rfl), (Nat.le_of_ble_eq_true rfl)⟩ (fun u3686 H locs _ hP hD hS => ?_)
  have hP : va_P (dC, dI) vwCl [(a_m_d, .inl (cI, 216, .inl m_d)), (a_m_then, .inl (cI, 8, .inl m_then)), (a_m_leans, .inl (cI, 8, .inl m_leans)), (a_m, .inr (6, [.ref a_m_w, .ref a_m_d, .int m_undoes, .int m_kept, .ref a_m_text, .int m_texted, .int m_at, .ref a_m_numbers, .ref a_m_then, .ref a_m_leans, .int m_draws, .int m_drawn, .int m_heards, .ref a_m_heardSet, .ref a_m_heardSum])), (a_m_w, .inl (cI, 106, .inl m_w))] H := hP
  have hD : va_D A [(a_m_d, .inl (cI, 216, .inl m_d)), (a_m_then, .inl (cI, 8, .inl m_then)), (a_m_leans, .inl (cI, 8, .inl m_leans)), (a_m, .inr (6, [.ref a_m_w, .ref a_m_d, .int m_undoes, .int m_kept, .ref a_m_text, .int m_texted, .int m_at, .ref a_m_numbers, .ref a_m_then, .ref a_m_leans, .int m_draws, .int m_drawn, .int m_heards, .ref a_m_heardSet, .ref a_m_heardSum])), (a_m_w, .inl (cI, 106, .inl m_w))] := hD
  refine lv_istore_n (lv' := [(2, .int r3685), (0, .ref a_m), (1, .int x1)]) hx hb dX6_tunes_5 rfl hl (by decide) rfl (fun ls hl => ?_)
  refine lv_iload_n hx hb dX6_tunes_6 rfl (lv_at hl 0 rfl) ?_
  obtain ⟨r3687, hr3687, h⟩ := ob h
  refine k_Si (As := [.int r3685]) (rest := []) (c_X6_ones l dC dI cI cS n _ r3685 r3687 hr3687) (fun _ _ q => q) ⟨hx, hb, hml, hown, hts⟩ (va_cwS 1 hts gX6_tunes_X6_ones rfl rfl rfl (by decide +kernel) ⟨(Nat.le_of_ble_eq_true rfl), (Nat.le_of_ble_eq_true rfl)⟩) hN hK hP hD hS hA rfl hl.1 rfl (Nat.le_of_ble_eq_true rfl) dX6_tunes_7 ⟨(Nat.le_of_ble_eq_true rfl), (Nat.le_of_ble_eq_true rfl)⟩ (fun H locs hP hD hS => ?_)
  obtain ⟨j3691, hjj3691, h⟩ := ob h
  have Jj3691 : ∀ (H : Heap) (locs : List Loc), va_P (dC, dI) vwCl [(a_m_d, .inl (cI, 216, .inl m_d)), (a_m_then, .inl (cI, 8, .inl m_then)), (a_m_leans, .inl (cI, 8, .inl m_leans)), (a_m, .inr (6, [.ref a_m_w, .ref a_m_d, .int m_undoes, .int m_kept, .ref a_m_text, .int m_texted, .int m_at, .ref a_m_numbers, .ref a_m_then, .ref a_m_leans, .int m_draws, .int m_drawn, .int m_heards, .ref a_m_heardSet, .ref a_m_heardSum])), (a_m_w, .inl (cI, 106, .inl m_w))] H → va_D A [(a_m_d, .inl (cI, 216, .inl m_d)), (a_m_then, .inl (cI, 8, .inl m_then)), (a_m_leans, .inl (cI, 8, .inl m_leans)), (a_m, .inr (6, [.ref a_m_w, .ref a_m_d, .int m_undoes, .int m_kept, .ref a_m_text, .int m_texted, .int m_at, .ref a_m_numbers, .ref a_m_then, .ref a_m_leans, .int m_draws, .int m_drawn, .int m_heards, .ref a_m_heardSet, .ref a_m_heardSum])), (a_m_w, .inl (cI, 106, .inl m_w))] → va_S A s.heap H locs → ∀ ls : Array Slot, lv_has ls 9 [(0, .ref a_m), (1, .int x1), (2, .int r3685)] → W p l e (headSpec wsX6_tunes rm_X6_tunes).room s m ([.ref a_m, .int x1] : List Value).toArray below meth c H locs 0 0 QQ (F0 m 25 ls [.int j3691]) := by
    intro H locs hP hD hS ls hl
    refine lv_istore_n (lv' := [(3, .int j3691), (0, .ref a_m), (1, .int x1), (2, .int r3685)]) hx hb dX6_tunes_25 rfl hl (by decide) rfl (fun ls hl => ?_)
    refine lv_iconst (v := (0 : Int32)) hx hb dX6_tunes_26 (by decide) ?_
    refine lv_istore (lv' := [(4, .int (0 : Int32)), (3, .int j3691), (0, .ref a_m), (1, .int x1), (2, .int r3685)]) hx hb dX6_tunes_27 hl (by decide) rfl (fun ls hl => ?_)
    refine lv_iconst (v := (0 : Int32)) hx hb dX6_tunes_29 (by decide) ?_
    refine lv_istore (lv' := [(5, .int (0 : Int32)), (4, .int (0 : Int32)), (3, .int j3691), (0, .ref a_m), (1, .int x1), (2, .int r3685)]) hx hb dX6_tunes_30 hl (by decide) rfl (fun ls hl => ?_)
    refine lv_iconst (v := (0 : Int32)) hx hb dX6_tunes_32 (by decide) ?_
    refine lv_istore (lv' := [(6, .int (0 : Int32)), (5, .int (0 : Int32)), (4, .int (0 : Int32)), (3, .int j3691), (0, .ref a_m), (1, .int x1), (2, .int r3685)]) hx hb dX6_tunes_33 hl (by decide) rfl (fun ls hl => ?_)
    obtain ⟨j3795, hjj3795, h⟩ := ob h
    have Jj3795 : ∀ (H : Heap) (locs : List Loc), va_P (dC, dI) vwCl [(a_m_d, .inl (cI, 216, .inl m_d)), (a_m_then, .inl (cI, 8, .inl j3795.2.2.2.1)), (a_m_leans, .inl (cI, 8, .inl m_leans)), (a_m, .inr (6, [.ref a_m_w, .ref a_m_d, .int m_undoes, .int m_kept, .ref a_m_text, .int m_texted, .int m_at, .ref a_m_numbers, .ref a_m_then, .ref a_m_leans, .int m_draws, .int j3795.2.2.2.2, .int m_heards, .ref a_m_heardSet, .ref a_m_heardSum])), (a_m_w, .inl (cI, 106, .inl m_w))] H → va_D A [(a_m_d, .inl (cI, 216, .inl m_d)), (a_m_then, .inl (cI, 8, .inl j3795.2.2.2.1)), (a_m_leans, .inl (cI, 8, .inl m_leans)), (a_m, .inr (6, [.ref a_m_w, .ref a_m_d, .int m_undoes, .int m_kept, .ref a_m_text, .int m_texted, .int m_at, .ref a_m_numbers, .ref a_m_then, .ref a_m_leans, .int m_draws, .int j3795.2.2.2.2, .int m_heards, .ref a_m_heardSet, .ref a_m_heardSum])), (a_m_w, .inl (cI, 106, .inl m_w))] → va_S A s.heap H locs → ∀ ls : Array Slot, lv_has ls 9 [(0, .ref a_m), (1, .int x1), (2, .int r3685), (3, .int j3691), (4, .int j3795.1), (5, .int j3795.2.1), (6, .int j3795.2.2.1)] → W p l e (headSpec wsX6_tunes rm_X6_tunes).room s m ([.ref a_m, .int x1] : List Value).toArray below meth c H locs 0 0 QQ (F0 m 231 ls []) := by
      intro H locs hP hD hS ls hl
      refine lv_iconst (v := (0 : Int32)) hx hb dX6_tunes_231 (by decide) ?_
      refine lv_istore (lv' := [(6, .int (0 : Int32)), (0, .ref a_m), (1, .int x1), (2, .int r3685), (3, .int j3691), (4, .int j3795.1), (5, .int j3795.2.1)]) hx hb dX6_tunes_232 hl (by decide) rfl (fun ls hl => ?_)
      obtain ⟨j3852, hjj3852, h⟩ := ob h
      have Jj3852 : ∀ (H : Heap) (locs : List Loc), va_P (dC, dI) vwCl [(a_m_d, .inl (cI, 216, .inl j3852.2)), (a_m_then, .inl (cI, 8, .inl j3795.2.2.2.1)), (a_m_leans, .inl (cI, 8, .inl m_leans)), (a_m, .inr (6, [.ref a_m_w, .ref a_m_d, .int m_undoes, .int m_kept, .ref a_m_text, .int m_texted, .int m_at, .ref a_m_numbers, .ref a_m_then, .ref a_m_leans, .int m_draws, .int j3795.2.2.2.2, .int m_heards, .ref a_m_heardSet, .ref a_m_heardSum])), (a_m_w, .inl (cI, 106, .inl m_w))] H → va_D A [(a_m_d, .inl (cI, 216, .inl j3852.2)), (a_m_then, .inl (cI, 8, .inl j3795.2.2.2.1)), (a_m_leans, .inl (cI, 8, .inl m_leans)), (a_m, .inr (6, [.ref a_m_w, .ref a_m_d, .int m_undoes, .int m_kept, .ref a_m_text, .int m_texted, .int m_at, .ref a_m_numbers, .ref a_m_then, .ref a_m_leans, .int m_draws, .int j3795.2.2.2.2, .int m_heards, .ref a_m_heardSet, .ref a_m_heardSum])), (a_m_w, .inl (cI, 106, .inl m_w))] → va_S A s.heap H locs → ∀ ls : Array Slot, lv_has ls 9 [(0, .ref a_m), (1, .int x1), (2, .int r3685), (3, .int j3691), (4, .int j3795.1), (5, .int j3795.2.1), (6, .int j3852.1)] → W p l e (headSpec wsX6_tunes rm_X6_tunes).room s m ([.ref a_m, .int x1] : List Value).toArray below meth c H locs 0 0 QQ (F0 m 269 ls []) := by
        intro H locs hP hD hS ls hl
        refine lv_aload_n hx hb dX6_tunes_269 rfl (lv_at hl 0 rfl) ?_
        refine va_get (D := (dC, dI)) (ci := 6) (v := .ref a_m_d) (C := RX6) (T := TX6) (N := 15) hx hb hts in_X6 hown hK hP 3 rfl rfl 1 (by decide) f_13 (fun _ h9 => h9) rfl dX6_tunes_270 ?_
        refine lv_sipush (v := (206 : Int32)) hx hb dX6_tunes_273 (by decide) ?_
        refine lv_aload_n hx hb dX6_tunes_276 rfl (lv_at hl 0 rfl) ?_
        refine va_get (D := (dC, dI)) (ci := 6) (v := .ref a_m_d) (C := RX6) (T := TX6) (N := 15) hx hb hts in_X6 hown hK hP 3 rfl rfl 1 (by decide) f_13 (fun _ h9 => h9) rfl dX6_tunes_277 ?_
        refine lv_sipush (v := (206 : Int32)) hx hb dX6_tunes_280 (by decide) ?_
        obtain ⟨v3856, hv3856, h⟩ := ob h
        refine k_ld hx hb hK hP 0 0 rfl rfl hv3856 dX6_tunes_283 ?_
        refine lv_iload hx hb dX6_tunes_284 (lv_at hl 5 rfl) ?_
        obtain ⟨j3858, hjj3858, h⟩ := ob h
        have Jj3858 : ∀ (H : Heap) (locs : List Loc), va_P (dC, dI) vwCl [(a_m_d, .inl (cI, 216, .inl j3852.2)), (a_m_then, .inl (cI, 8, .inl j3795.2.2.2.1)), (a_m_leans, .inl (cI, 8, .inl m_leans)), (a_m, .inr (6, [.ref a_m_w, .ref a_m_d, .int m_undoes, .int m_kept, .ref a_m_text, .int m_texted, .int m_at, .ref a_m_numbers, .ref a_m_then, .ref a_m_leans, .int m_draws, .int j3795.2.2.2.2, .int m_heards, .ref a_m_heardSet, .ref a_m_heardSum])), (a_m_w, .inl (cI, 106, .inl m_w))] H → va_D A [(a_m_d, .inl (cI, 216, .inl j3852.2)), (a_m_then, .inl (cI, 8, .inl j3795.2.2.2.1)), (a_m_leans, .inl (cI, 8, .inl m_leans)), (a_m, .inr (6, [.ref a_m_w, .ref a_m_d, .int m_undoes, .int m_kept, .ref a_m_text, .int m_texted, .int m_at, .ref a_m_numbers, .ref a_m_then, .ref a_m_leans, .int m_draws, .int j3795.2.2.2.2, .int m_heards, .ref a_m_heardSet, .ref a_m_heardSum])), (a_m_w, .inl (cI, 106, .inl m_w))] → va_S A s.heap H locs → ∀ ls : Array Slot, lv_has ls 9 [(0, .ref a_m), (1, .int x1), (2, .int r3685), (3, .int j3691), (4, .int j3795.1), (5, .int j3795.2.1), (6, .int j3852.1)] → W p l e (headSpec wsX6_tunes rm_X6_tunes).room s m ([.ref a_m, .int x1] : List Value).toArray below meth c H locs 0 0 QQ (F0 m 300 ls [.int j3858, .int v3856, .int (206 : Int32), .ref a_m_d]) := by
          intro H locs hP hD hS ls hl
          refine lv_iadd hx hb dX6_tunes_300 ?_
          obtain ⟨r3860, hr3860, h⟩ := ob h
          refine k_Si (As := [.int (v3856 + j3858)]) (rest := [.int (206 : Int32), .ref a_m_d]) (c_X6_within l dC dI cI cS n _ (v3856 + j3858) r3860 hr3860) (fun _ _ q => q) ⟨hx, hb, hml, hown, hts⟩ (va_cwS 1 hts gX6_tunes_X6_within rfl rfl rfl (by decide +kernel) ⟨(Nat.le_of_ble_eq_true rfl), (Nat.le_of_ble_eq_true rfl)⟩) hN hK hP hD hS hA rfl hl.1 rfl (Nat.le_of_ble_eq_true rfl) dX6_tunes_301 ⟨(Nat.le_of_ble_eq_true rfl), (Nat.le_of_ble_eq_true rfl)⟩ (fun H locs hP hD hS => ?_)
          obtain ⟨g3862, hg3862, h⟩ := ob h
          refine k_st hx hb hK hP hD hS 0 0 rfl rfl hg3862 dX6_tunes_304 (ws' := [(a_m_d, .inl (cI, 216, .inl g3862)), (a_m_then, .inl (cI, 8, .inl j3795.2.2.2.1)), (a_m_leans, .inl (cI, 8, .inl m_leans)), (a_m, .inr (6, [.ref a_m_w, .ref a_m_d, .int m_undoes, .int m_kept, .ref a_m_text, .int m_texted, .int m_at, .ref a_m_numbers, .ref a_m_then, .ref a_m_leans, .int m_draws, .int j3795.2.2.2.2, .int m_heards, .ref a_m_heardSet, .ref a_m_heardSum])), (a_m_w, .inl (cI, 106, .inl m_w))]) rfl (fun H locs hP hD hS => ?_)
          refine lv_aload_n hx hb dX6_tunes_305 rfl (lv_at hl 0 rfl) ?_
          refine lv_iload hx hb dX6_tunes_306 (lv_at hl 4 rfl) ?_
          obtain ⟨r3863, hr3863, h⟩ := ob h
          refine k_Vv (As := [.int j3795.1]) (rest := []) (wr := [(a_m_then, .inl (cI, 8, .inl j3795.2.2.2.1)), (a_m_leans, .inl (cI, 8, .inl m_leans))]) (c_X6_passes l dC dI cI cS n _ a_m a_m_w a_m_d a_m_text a_m_numbers a_m_then a_m_leans a_m_heardSet a_m_heardSum m_w g3862 m_undoes m_kept m_texted m_at m_draws j3795.2.2.2.2 m_heards j3795.1 r3863 hr3863) ⟨hx, hb, hml, hown, hts⟩ (cwV 1 hts gX6_tunes_X6_passes rfl rfl rfl (by decide +kernel) ⟨(Nat.le_of_ble_eq_true rfl), (Nat.le_of_ble_eq_true rfl)⟩) hN hK hP hD hS hA [3, 4, 0] [1, 2] rfl rfl (by decide) (by decide) (by decide) rfl rfl rfl hl.1 rfl (Nat.le_of_ble_eq_true rfl) dX6_tunes_308 ⟨(Nat.le_of_ble_eq_true rfl), (Nat.le_of_ble_eq_true rfl)⟩ (fun u3864 H locs _ hP hD hS => ?_)
          have hP : va_P (dC, dI) vwCl [(a_m_then, .inl (cI, 8, .inl j3795.2.2.2.1)), (a_m_leans, .inl (cI, 8, .inl m_leans)), (a_m, .inr (6, [.ref a_m_w, .ref a_m_d, .int m_undoes, .int m_kept, .ref a_m_text, .int m_texted, .int m_at, .ref a_m_numbers, .ref a_m_then, .ref a_m_leans, .int m_draws, .int j3795.2.2.2.2, .int m_heards, .ref a_m_heardSet, .ref a_m_heardSum])), (a_m_w, .inl (cI, 106, .inl m_w)), (a_m_d, .inl (cI, 216, .inl r3863))] H := hP
          have hD : va_D A [(a_m_then, .inl (cI, 8, .inl j3795.2.2.2.1)), (a_m_leans, .inl (cI, 8, .inl m_leans)), (a_m, .inr (6, [.ref a_m_w, .ref a_m_d, .int m_undoes, .int m_kept, .ref a_m_text, .int m_texted, .int m_at, .ref a_m_numbers, .ref a_m_then, .ref a_m_leans, .int m_draws, .int j3795.2.2.2.2, .int m_heards, .ref a_m_heardSet, .ref a_m_heardSum])), (a_m_w, .inl (cI, 106, .inl m_w)), (a_m_d, .inl (cI, 216, .inl r3863))] := hD
          refine lv_iload hx hb dX6_tunes_311 (lv_at hl 4 rfl) ?_
          obtain rfl := Option.some.inj h
          subst hQe
          exact W.iret (v := j3795.1) hx hb hr (fun t ht hW => ⟨⟨j3795.1, (), rfl, rfl, ⟨by rw [ht]; exact hP.sub [2, 3, 4, 0, 1] rfl, hD.sub [2, 3, 4, 0, 1] (by decide +kernel) rfl⟩⟩, hS.F ht⟩) hS.2.2 dX6_tunes_313
        refine lv_if_eq (tgt := 299) hx hb dX6_tunes_286 (by decide) (fun c_286 => ?_) (fun c_286 => ?_)
        · have h := (if_pos c_286).symm.trans hjj3858
          refine lv_iconst (v := (0 : Int32)) hx hb dX6_tunes_299 (by decide) ?_
          obtain rfl := Option.some.inj h
          exact Jj3858 _ _ hP hD hS _ hl
        · have h := (if_neg c_286).symm.trans hjj3858
          refine lv_aload_n hx hb dX6_tunes_289 rfl (lv_at hl 0 rfl) ?_
          refine va_get (D := (dC, dI)) (ci := 6) (v := .ref a_m_w) (C := RX6) (T := TX6) (N := 15) hx hb hts in_X6 hown hK hP 3 rfl rfl 0 (by decide) f_7 (fun _ h9 => h9) rfl dX6_tunes_290 ?_
          refine lv_bipush (v := (50 : Int32)) hx hb dX6_tunes_293 (by decide) ?_
          obtain ⟨v3859, hv3859, h⟩ := ob h
          refine k_ld hx hb hK hP 4 0 rfl rfl hv3859 dX6_tunes_295 ?_
          refine lv_goto (tgt := 300) hx hb dX6_tunes_296 (by decide) ?_
          obtain rfl := Option.some.inj h
          exact Jj3858 _ _ hP hD hS _ hl
      have K234 : ∀ (k : Nat) (y6_234 : Int32) (m_dv_234 : Nat → Int32), L_X6_tunes_234 m_w j3795 k y6_234 m_dv_234 = some j3852 → ∀ (H : Heap) (locs : List Loc), va_P (dC, dI) vwCl [(a_m_d, .inl (cI, 216, .inl m_dv_234)), (a_m_then, .inl (cI, 8, .inl j3795.2.2.2.1)), (a_m_leans, .inl (cI, 8, .inl m_leans)), (a_m, .inr (6, [.ref a_m_w, .ref a_m_d, .int m_undoes, .int m_kept, .ref a_m_text, .int m_texted, .int m_at, .ref a_m_numbers, .ref a_m_then, .ref a_m_leans, .int m_draws, .int j3795.2.2.2.2, .int m_heards, .ref a_m_heardSet, .ref a_m_heardSum])), (a_m_w, .inl (cI, 106, .inl m_w))] H → va_D A [(a_m_d, .inl (cI, 216, .inl m_dv_234)), (a_m_then, .inl (cI, 8, .inl j3795.2.2.2.1)), (a_m_leans, .inl (cI, 8, .inl m_leans)), (a_m, .inr (6, [.ref a_m_w, .ref a_m_d, .int m_undoes, .int m_kept, .ref a_m_text, .int m_texted, .int m_at, .ref a_m_numbers, .ref a_m_then, .ref a_m_leans, .int m_draws, .int j3795.2.2.2.2, .int m_heards, .ref a_m_heardSet, .ref a_m_heardSum])), (a_m_w, .inl (cI, 106, .inl m_w))] → va_S A s.heap H locs → ∀ ls : Array Slot, lv_has ls 9 [(0, .ref a_m), (1, .int x1), (2, .int r3685), (3, .int j3691), (4, .int j3795.1), (5, .int j3795.2.1), (6, .int y6_234)] → W p l e (headSpec wsX6_tunes rm_X6_tunes).room s m ([.ref a_m, .int x1] : List Value).toArray below meth c H locs 0 0 QQ (F0 m 234 ls []) := by
        intro k
        induction k with
        | zero =>
          intro y6_234 m_dv_234 h
          rw [L_X6_tunes_234] at h
          cases h
        | succ k ih =>
          intro y6_234 m_dv_234 h H locs hP hD hS ls hl
          rw [L_X6_tunes_234] at h
          refine lv_iload hx hb dX6_tunes_234 (lv_at hl 6 rfl) ?_
          refine lv_aload_n hx hb dX6_tunes_236 rfl (lv_at hl 0 rfl) ?_
          refine va_get (D := (dC, dI)) (ci := 6) (v := .ref a_m_w) (C := RX6) (T := TX6) (N := 15) hx hb hts in_X6 hown hK hP 3 rfl rfl 0 (by decide) f_7 (fun _ h9 => h9) rfl dX6_tunes_237 ?_
          refine lv_iconst (v := (0 : Int32)) hx hb dX6_tunes_240 (by decide) ?_
          obtain ⟨v3853, hv3853, h⟩ := ob h
          refine k_ld hx hb hK hP 4 0 rfl rfl hv3853 dX6_tunes_241 ?_
          refine lv_icmp_ge (tgt := 269) hx hb dX6_tunes_242 (by decide) (fun c_242 => ?_) (fun c_242 => ?_)
          · have h := (if_pos c_242).symm.trans h
            obtain rfl := Option.some.inj h
            exact Jj3852 _ _ hP hD hS _ hl
          · have h := (if_neg c_242).symm.trans h
            refine lv_aload_n hx hb dX6_tunes_245 rfl (lv_at hl 0 rfl) ?_
            refine va_get (D := (dC, dI)) (ci := 6) (v := .ref a_m_d) (C := RX6) (T := TX6) (N := 15) hx hb hts in_X6 hown hK hP 3 rfl rfl 1 (by decide) f_13 (fun _ h9 => h9) rfl dX6_tunes_246 ?_
            refine lv_sipush (v := (198 : Int32)) hx hb dX6_tunes_249 (by decide) ?_
            refine lv_iload hx hb dX6_tunes_252 (lv_at hl 6 rfl) ?_
            refine lv_iadd hx hb dX6_tunes_254 ?_
            refine lv_aload_n hx hb dX6_tunes_255 rfl (lv_at hl 0 rfl) ?_
            refine va_get (D := (dC, dI)) (ci := 6) (v := .ref a_m_then) (C := RX6) (T := TX6) (N := 15) hx hb hts in_X6 hown hK hP 3 rfl rfl 8 (by decide) f_22 (fun _ h9 => h9) rfl dX6_tunes_256 ?_
            refine lv_iload hx hb dX6_tunes_259 (lv_at hl 6 rfl) ?_
            obtain ⟨v3854, hv3854, h⟩ := ob h
            refine k_ld hx hb hK hP 1 0 rfl rfl hv3854 dX6_tunes_261 ?_
            obtain ⟨g3855, hg3855, h⟩ := ob h
            refine k_st hx hb hK hP hD hS 0 0 rfl rfl hg3855 dX6_tunes_262 (ws' := [(a_m_d, .inl (cI, 216, .inl g3855)), (a_m_then, .inl (cI, 8, .inl j3795.2.2.2.1)), (a_m_leans, .inl (cI, 8, .inl m_leans)), (a_m, .inr (6, [.ref a_m_w, .ref a_m_d, .int m_undoes, .int m_kept, .ref a_m_text, .int m_texted, .int m_at, .ref a_m_numbers, .ref a_m_then, .ref a_m_leans, .int m_draws, .int j3795.2.2.2.2, .int m_heards, .ref a_m_heardSet, .ref a_m_heardSum])), (a_m_w, .inl (cI, 106, .inl m_w))]) rfl (fun H locs hP hD hS => ?_)
            refine lv_iinc (v := (y6_234 + (1 : Int32))) (lv' := [(6, .int (y6_234 + (1 : Int32))), (0, .ref a_m), (1, .int x1), (2, .int r3685), (3, .int j3691), (4, .int j3795.1), (5, .int j3795.2.1)]) hx hb dX6_tunes_263 hl (k := 6) rfl rfl (by decide) rfl (fun ls hl => ?_)
            refine lv_goto (tgt := 234) hx hb dX6_tunes_266 (by decide) ?_
            exact ih _ _ h _ _ hP hD hS _ (lv_sub hl [1, 2, 3, 4, 5, 6, 0] rfl)
      exact K234 n (0 : Int32) m_d hjj3852 _ _ hP hD hS _ (lv_sub hl [1, 2, 3, 4, 5, 6, 0] rfl)
    have K35 : ∀ (k : Nat) (y4_35 : Int32) (y5_35 : Int32) (y6_35 : Int32) (m_thenv_35 : Nat → Int32) (m_11v_35 : Int32), L_X6_tunes_35 n m_w m_d m_leans m_draws r3685 j3691 k y4_35 y5_35 y6_35 m_thenv_35 m_11v_35 = some j3795 → ∀ (H : Heap) (locs : List Loc), va_P (dC, dI) vwCl [(a_m_d, .inl (cI, 216, .inl m_d)), (a_m_then, .inl (cI, 8, .inl m_thenv_35)), (a_m_leans, .inl (cI, 8, .inl m_leans)), (a_m, .inr (6, [.ref a_m_w, .ref a_m_d, .int m_undoes, .int m_kept, .ref a_m_text, .int m_texted, .int m_at, .ref a_m_numbers, .ref a_m_then, .ref a_m_leans, .int m_draws, .int m_11v_35, .int m_heards, .ref a_m_heardSet, .ref a_m_heardSum])), (a_m_w, .inl (cI, 106, .inl m_w))] H → va_D A [(a_m_d, .inl (cI, 216, .inl m_d)), (a_m_then, .inl (cI, 8, .inl m_thenv_35)), (a_m_leans, .inl (cI, 8, .inl m_leans)), (a_m, .inr (6, [.ref a_m_w, .ref a_m_d, .int m_undoes, .int m_kept, .ref a_m_text, .int m_texted, .int m_at, .ref a_m_numbers, .ref a_m_then, .ref a_m_leans, .int m_draws, .int m_11v_35, .int m_heards, .ref a_m_heardSet, .ref a_m_heardSum])), (a_m_w, .inl (cI, 106, .inl m_w))] → va_S A s.heap H locs → ∀ ls : Array Slot, lv_has ls 9 [(0, .ref a_m), (1, .int x1), (2, .int r3685), (3, .int j3691), (4, .int y4_35), (5, .int y5_35), (6, .int y6_35)] → W p l e (headSpec wsX6_tunes rm_X6_tunes).room s m ([.ref a_m, .int x1] : List Value).toArray below meth c H locs 0 0 QQ (F0 m 35 ls []) := by
      intro k
      induction k with
      | zero =>
        intro y4_35 y5_35 y6_35 m_thenv_35 m_11v_35 h
        rw [L_X6_tunes_35] at h
        cases h
      | succ k ih =>
        intro y4_35 y5_35 y6_35 m_thenv_35 m_11v_35 h H locs hP hD hS ls hl
        rw [L_X6_tunes_35] at h
        refine lv_iload hx hb dX6_tunes_35 (lv_at hl 6 rfl) ?_
        refine lv_aload_n hx hb dX6_tunes_37 rfl (lv_at hl 0 rfl) ?_
        refine va_get (D := (dC, dI)) (ci := 6) (v := .ref a_m_w) (C := RX6) (T := TX6) (N := 15) hx hb hts in_X6 hown hK hP 3 rfl rfl 0 (by decide) f_7 (fun _ h9 => h9) rfl dX6_tunes_38 ?_
        refine lv_iconst (v := (0 : Int32)) hx hb dX6_tunes_41 (by decide) ?_
        obtain ⟨v3796, hv3796, h⟩ := ob h
        refine k_ld hx hb hK hP 4 0 rfl rfl hv3796 dX6_tunes_42 ?_
        refine lv_icmp_ge (tgt := 231) hx hb dX6_tunes_43 (by decide) (fun c_43 => ?_) (fun c_43 => ?_)
        · have h := (if_pos c_43).symm.trans h
          obtain rfl := Option.some.inj h
          exact Jj3795 _ _ hP hD hS _ hl
        · have h := (if_neg c_43).symm.trans h
          refine lv_aload_n hx hb dX6_tunes_46 rfl (lv_at hl 0 rfl) ?_
          refine va_get (D := (dC, dI)) (ci := 6) (v := .ref a_m_then) (C := RX6) (T := TX6) (N := 15) hx hb hts in_X6 hown hK hP 3 rfl rfl 8 (by decide) f_22 (fun _ h9 => h9) rfl dX6_tunes_47 ?_
          refine lv_iload hx hb dX6_tunes_50 (lv_at hl 6 rfl) ?_
          refine lv_aload_n hx hb dX6_tunes_52 rfl (lv_at hl 0 rfl) ?_
          refine va_get (D := (dC, dI)) (ci := 6) (v := .ref a_m_d) (C := RX6) (T := TX6) (N := 15) hx hb hts in_X6 hown hK hP 3 rfl rfl 1 (by decide) f_13 (fun _ h9 => h9) rfl dX6_tunes_53 ?_
          refine lv_sipush (v := (198 : Int32)) hx hb dX6_tunes_56 (by decide) ?_
          refine lv_iload hx hb dX6_tunes_59 (lv_at hl 6 rfl) ?_
          refine lv_iadd hx hb dX6_tunes_61 ?_
          obtain ⟨v3797, hv3797, h⟩ := ob h
          refine k_ld hx hb hK hP 0 0 rfl rfl hv3797 dX6_tunes_62 ?_
          obtain ⟨g3798, hg3798, h⟩ := ob h
          refine k_st hx hb hK hP hD hS 1 0 rfl rfl hg3798 dX6_tunes_63 (ws' := [(a_m_d, .inl (cI, 216, .inl m_d)), (a_m_then, .inl (cI, 8, .inl g3798)), (a_m_leans, .inl (cI, 8, .inl m_leans)), (a_m, .inr (6, [.ref a_m_w, .ref a_m_d, .int m_undoes, .int m_kept, .ref a_m_text, .int m_texted, .int m_at, .ref a_m_numbers, .ref a_m_then, .ref a_m_leans, .int m_draws, .int m_11v_35, .int m_heards, .ref a_m_heardSet, .ref a_m_heardSum])), (a_m_w, .inl (cI, 106, .inl m_w))]) rfl (fun H locs hP hD hS => ?_)
          refine lv_iload_n hx hb dX6_tunes_64 rfl (lv_at hl 2 rfl) ?_
          refine lv_iload hx hb dX6_tunes_65 (lv_at hl 6 rfl) ?_
          obtain ⟨r3799, hr3799, h⟩ := ob h
          refine k_Si (As := [.int r3685, .int y6_35]) (rest := []) (c_X6_has l dC dI cI cS n _ r3685 y6_35 r3799 hr3799) (fun _ _ q => q) ⟨hx, hb, hml, hown, hts⟩ (va_cwS 2 hts gX6_tunes_X6_has rfl rfl rfl (by decide +kernel) ⟨(Nat.le_of_ble_eq_true rfl), (Nat.le_of_ble_eq_true rfl)⟩) hN hK hP hD hS hA rfl hl.1 rfl (Nat.le_of_ble_eq_true rfl) dX6_tunes_67 ⟨(Nat.le_of_ble_eq_true rfl), (Nat.le_of_ble_eq_true rfl)⟩ (fun H locs hP hD hS => ?_)
          obtain ⟨j3822, hjj3822, h⟩ := ob h
          have Jj3822 : ∀ (H : Heap) (locs : List Loc), va_P (dC, dI) vwCl [(a_m_d, .inl (cI, 216, .inl m_d)), (a_m_then, .inl (cI, 8, .inl j3822.2.2.1)), (a_m_leans, .inl (cI, 8, .inl m_leans)), (a_m, .inr (6, [.ref a_m_w, .ref a_m_d, .int m_undoes, .int m_kept, .ref a_m_text, .int m_texted, .int m_at, .ref a_m_numbers, .ref a_m_then, .ref a_m_leans, .int m_draws, .int j3822.2.2.2, .int m_heards, .ref a_m_heardSet, .ref a_m_heardSum])), (a_m_w, .inl (cI, 106, .inl m_w))] H → va_D A [(a_m_d, .inl (cI, 216, .inl m_d)), (a_m_then, .inl (cI, 8, .inl j3822.2.2.1)), (a_m_leans, .inl (cI, 8, .inl m_leans)), (a_m, .inr (6, [.ref a_m_w, .ref a_m_d, .int m_undoes, .int m_kept, .ref a_m_text, .int m_texted, .int m_at, .ref a_m_numbers, .ref a_m_then, .ref a_m_leans, .int m_draws, .int j3822.2.2.2, .int m_heards, .ref a_m_heardSet, .ref a_m_heardSum])), (a_m_w, .inl (cI, 106, .inl m_w))] → va_S A s.heap H locs → ∀ ls : Array Slot, lv_has ls 9 [(0, .ref a_m), (1, .int x1), (2, .int r3685), (3, .int j3691), (4, .int j3822.1), (5, .int j3822.2.1), (6, .int y6_35)] → W p l e (headSpec wsX6_tunes rm_X6_tunes).room s m ([.ref a_m, .int x1] : List Value).toArray below meth c H locs 0 0 QQ (F0 m 225 ls []) := by
            intro H locs hP hD hS ls hl
            refine lv_iinc (v := (y6_35 + (1 : Int32))) (lv' := [(6, .int (y6_35 + (1 : Int32))), (0, .ref a_m), (1, .int x1), (2, .int r3685), (3, .int j3691), (4, .int j3822.1), (5, .int j3822.2.1)]) hx hb dX6_tunes_225 hl (k := 6) rfl rfl (by decide) rfl (fun ls hl => ?_)
            refine lv_goto (tgt := 35) hx hb dX6_tunes_228 (by decide) ?_
            exact ih _ _ _ _ _ h _ _ hP hD hS _ (lv_sub hl [1, 2, 3, 4, 5, 6, 0] rfl)
          refine lv_if_eq (tgt := 225) hx hb dX6_tunes_70 (by decide) (fun c_70 => ?_) (fun c_70 => ?_)
          · have h := (if_pos c_70).symm.trans hjj3822
            obtain rfl := Option.some.inj h
            exact Jj3822 _ _ hP hD hS _ hl
          · have h := (if_neg c_70).symm.trans hjj3822
            refine lv_aload_n hx hb dX6_tunes_73 rfl (lv_at hl 0 rfl) ?_
            refine va_get (D := (dC, dI)) (ci := 6) (v := .ref a_m_d) (C := RX6) (T := TX6) (N := 15) hx hb hts in_X6 hown hK hP 3 rfl rfl 1 (by decide) f_13 (fun _ h9 => h9) rfl dX6_tunes_74 ?_
            refine lv_sipush (v := (208 : Int32)) hx hb dX6_tunes_77 (by decide) ?_
            refine lv_iload hx hb dX6_tunes_80 (lv_at hl 6 rfl) ?_
            refine lv_iadd hx hb dX6_tunes_82 ?_
            obtain ⟨v3823, hv3823, h⟩ := ob h
            refine k_ld hx hb hK hP 0 0 rfl rfl hv3823 dX6_tunes_83 ?_
            refine lv_istore (lv' := [(7, .int v3823), (0, .ref a_m), (1, .int x1), (2, .int r3685), (3, .int j3691), (4, .int y4_35), (5, .int y5_35), (6, .int y6_35)]) hx hb dX6_tunes_84 hl (by decide) rfl (fun ls hl => ?_)
            refine lv_aload_n hx hb dX6_tunes_86 rfl (lv_at hl 1 rfl) ?_
            refine va_get (D := (dC, dI)) (ci := 6) (v := .ref a_m_d) (C := RX6) (T := TX6) (N := 15) hx hb hts in_X6 hown hK hP 3 rfl rfl 1 (by decide) f_13 (fun _ h9 => h9) rfl dX6_tunes_87 ?_
            refine lv_sipush (v := (198 : Int32)) hx hb dX6_tunes_90 (by decide) ?_
            refine lv_iload hx hb dX6_tunes_93 (lv_at hl 0 rfl) ?_
            refine lv_bipush (v := (8 : Int32)) hx hb dX6_tunes_95 (by decide) ?_
            obtain ⟨j3824, hjj3824, h⟩ := ob h
            have Jj3824 : ∀ (H : Heap) (locs : List Loc), va_P (dC, dI) vwCl [(a_m_d, .inl (cI, 216, .inl m_d)), (a_m_then, .inl (cI, 8, .inl g3798)), (a_m_leans, .inl (cI, 8, .inl m_leans)), (a_m, .inr (6, [.ref a_m_w, .ref a_m_d, .int m_undoes, .int m_kept, .ref a_m_text, .int m_texted, .int m_at, .ref a_m_numbers, .ref a_m_then, .ref a_m_leans, .int m_draws, .int m_11v_35, .int m_heards, .ref a_m_heardSet, .ref a_m_heardSum])), (a_m_w, .inl (cI, 106, .inl m_w))] H → va_D A [(a_m_d, .inl (cI, 216, .inl m_d)), (a_m_then, .inl (cI, 8, .inl g3798)), (a_m_leans, .inl (cI, 8, .inl m_leans)), (a_m, .inr (6, [.ref a_m_w, .ref a_m_d, .int m_undoes, .int m_kept, .ref a_m_text, .int m_texted, .int m_at, .ref a_m_numbers, .ref a_m_then, .ref a_m_leans, .int m_draws, .int m_11v_35, .int m_heards, .ref a_m_heardSet, .ref a_m_heardSum])), (a_m_w, .inl (cI, 106, .inl m_w))] → va_S A s.heap H locs → ∀ ls : Array Slot, lv_has ls 9 [(0, .ref a_m), (1, .int x1), (2, .int r3685), (3, .int j3691), (4, .int y4_35), (5, .int y5_35), (6, .int y6_35), (7, .int v3823)] → W p l e (headSpec wsX6_tunes rm_X6_tunes).room s m ([.ref a_m, .int x1] : List Value).toArray below meth c H locs 0 0 QQ (F0 m 107 ls [.int j3824, .int (198 : Int32), .ref a_m_d]) := by
              intro H locs hP hD hS ls hl
              refine lv_iadd hx hb dX6_tunes_107 ?_
              obtain ⟨v3825, hv3825, h⟩ := ob h
              refine k_ld hx hb hK hP 0 0 rfl rfl hv3825 dX6_tunes_108 ?_
              refine lv_istore (lv' := [(8, .int v3825), (0, .ref a_m), (1, .int x1), (2, .int r3685), (3, .int j3691), (4, .int y4_35), (5, .int y5_35), (6, .int y6_35), (7, .int v3823)]) hx hb dX6_tunes_109 hl (by decide) rfl (fun ls hl => ?_)
              refine lv_aload_n hx hb dX6_tunes_111 rfl (lv_at hl 1 rfl) ?_
              refine va_get (D := (dC, dI)) (ci := 6) (v := .ref a_m_then) (C := RX6) (T := TX6) (N := 15) hx hb hts in_X6 hown hK hP 3 rfl rfl 8 (by decide) f_22 (fun _ h9 => h9) rfl dX6_tunes_112 ?_
              refine lv_iload hx hb dX6_tunes_115 (lv_at hl 7 rfl) ?_
              refine lv_iload hx hb dX6_tunes_117 (lv_at hl 8 rfl) ?_
              refine lv_bipush (v := (8 : Int32)) hx hb dX6_tunes_119 (by decide) ?_
              obtain ⟨j3827, hjj3827, h⟩ := ob h
              have Jj3827 : ∀ (H : Heap) (locs : List Loc), va_P (dC, dI) vwCl [(a_m_d, .inl (cI, 216, .inl m_d)), (a_m_then, .inl (cI, 8, .inl g3798)), (a_m_leans, .inl (cI, 8, .inl m_leans)), (a_m, .inr (6, [.ref a_m_w, .ref a_m_d, .int m_undoes, .int m_kept, .ref a_m_text, .int m_texted, .int m_at, .ref a_m_numbers, .ref a_m_then, .ref a_m_leans, .int m_draws, .int m_11v_35, .int m_heards, .ref a_m_heardSet, .ref a_m_heardSum])), (a_m_w, .inl (cI, 106, .inl m_w))] H → va_D A [(a_m_d, .inl (cI, 216, .inl m_d)), (a_m_then, .inl (cI, 8, .inl g3798)), (a_m_leans, .inl (cI, 8, .inl m_leans)), (a_m, .inr (6, [.ref a_m_w, .ref a_m_d, .int m_undoes, .int m_kept, .ref a_m_text, .int m_texted, .int m_at, .ref a_m_numbers, .ref a_m_then, .ref a_m_leans, .int m_draws, .int m_11v_35, .int m_heards, .ref a_m_heardSet, .ref a_m_heardSum])), (a_m_w, .inl (cI, 106, .inl m_w))] → va_S A s.heap H locs → ∀ ls : Array Slot, lv_has ls 9 [(0, .ref a_m), (1, .int x1), (2, .int r3685), (3, .int j3691), (4, .int y4_35), (5, .int y5_35), (6, .int y6_35), (7, .int v3823), (8, .int v3825)] → W p l e (headSpec wsX6_tunes rm_X6_tunes).room s m ([.ref a_m, .int x1] : List Value).toArray below meth c H locs 0 0 QQ (F0 m 140 ls [.int j3827, .int y6_35, .ref a_m_then]) := by
                intro H locs hP hD hS ls hl
                obtain ⟨g3829, hg3829, h⟩ := ob h
                refine k_st hx hb hK hP hD hS 1 0 rfl rfl hg3829 dX6_tunes_140 (ws' := [(a_m_d, .inl (cI, 216, .inl m_d)), (a_m_then, .inl (cI, 8, .inl g3829)), (a_m_leans, .inl (cI, 8, .inl m_leans)), (a_m, .inr (6, [.ref a_m_w, .ref a_m_d, .int m_undoes, .int m_kept, .ref a_m_text, .int m_texted, .int m_at, .ref a_m_numbers, .ref a_m_then, .ref a_m_leans, .int m_draws, .int m_11v_35, .int m_heards, .ref a_m_heardSet, .ref a_m_heardSum])), (a_m_w, .inl (cI, 106, .inl m_w))]) rfl (fun H locs hP hD hS => ?_)
                refine lv_aload_n hx hb dX6_tunes_141 rfl (lv_at hl 0 rfl) ?_
                refine va_get (D := (dC, dI)) (ci := 6) (v := .ref a_m_then) (C := RX6) (T := TX6) (N := 15) hx hb hts in_X6 hown hK hP 3 rfl rfl 8 (by decide) f_22 (fun _ h9 => h9) rfl dX6_tunes_142 ?_
                refine lv_iload hx hb dX6_tunes_145 (lv_at hl 6 rfl) ?_
                refine lv_aload_n hx hb dX6_tunes_147 rfl (lv_at hl 0 rfl) ?_
                refine va_get (D := (dC, dI)) (ci := 6) (v := .ref a_m_then) (C := RX6) (T := TX6) (N := 15) hx hb hts in_X6 hown hK hP 3 rfl rfl 8 (by decide) f_22 (fun _ h9 => h9) rfl dX6_tunes_148 ?_
                refine lv_iload hx hb dX6_tunes_151 (lv_at hl 6 rfl) ?_
                obtain ⟨v3830, hv3830, h⟩ := ob h
                refine k_ld hx hb hK hP 1 0 rfl rfl hv3830 dX6_tunes_153 ?_
                refine lv_aload_n hx hb dX6_tunes_154 rfl (lv_at hl 0 rfl) ?_
                refine va_get (D := (dC, dI)) (ci := 6) (v := .int m_draws) (C := RX6) (T := TX6) (N := 15) hx hb hts in_X6 hown hK hP 3 rfl rfl 10 (by decide) f_100 (fun _ h9 => h9) rfl dX6_tunes_155 ?_
                obtain ⟨j3833, hjj3833, h⟩ := ob h
                have Jj3833 : ∀ (H : Heap) (locs : List Loc), va_P (dC, dI) vwCl [(a_m_d, .inl (cI, 216, .inl m_d)), (a_m_then, .inl (cI, 8, .inl g3829)), (a_m_leans, .inl (cI, 8, .inl m_leans)), (a_m, .inr (6, [.ref a_m_w, .ref a_m_d, .int m_undoes, .int m_kept, .ref a_m_text, .int m_texted, .int m_at, .ref a_m_numbers, .ref a_m_then, .ref a_m_leans, .int m_draws, .int j3833.2, .int m_heards, .ref a_m_heardSet, .ref a_m_heardSum])), (a_m_w, .inl (cI, 106, .inl m_w))] H → va_D A [(a_m_d, .inl (cI, 216, .inl m_d)), (a_m_then, .inl (cI, 8, .inl g3829)), (a_m_leans, .inl (cI, 8, .inl m_leans)), (a_m, .inr (6, [.ref a_m_w, .ref a_m_d, .int m_undoes, .int m_kept, .ref a_m_text, .int m_texted, .int m_at, .ref a_m_numbers, .ref a_m_then, .ref a_m_leans, .int m_draws, .int j3833.2, .int m_heards, .ref a_m_heardSet, .ref a_m_heardSum])), (a_m_w, .inl (cI, 106, .inl m_w))] → va_S A s.heap H locs → ∀ ls : Array Slot, lv_has ls 9 [(0, .ref a_m), (1, .int x1), (2, .int r3685), (3, .int j3691), (4, .int y4_35), (5, .int y5_35), (6, .int y6_35), (7, .int v3823), (8, .int v3825)] → W p l e (headSpec wsX6_tunes rm_X6_tunes).room s m ([.ref a_m, .int x1] : List Value).toArray below meth c H locs 0 0 QQ (F0 m 169 ls [.int j3833.1, .int v3830, .int y6_35, .ref a_m_then]) := by
                  intro H locs hP hD hS ls hl
                  refine lv_iadd hx hb dX6_tunes_169 ?_
                  obtain ⟨r3836, hr3836, h⟩ := ob h
                  refine k_Si (As := [.int (v3830 + j3833.1)]) (rest := [.int y6_35, .ref a_m_then]) (c_X6_within l dC dI cI cS n _ (v3830 + j3833.1) r3836 hr3836) (fun _ _ q => q) ⟨hx, hb, hml, hown, hts⟩ (va_cwS 1 hts gX6_tunes_X6_within rfl rfl rfl (by decide +kernel) ⟨(Nat.le_of_ble_eq_true rfl), (Nat.le_of_ble_eq_true rfl)⟩) hN hK hP hD hS hA rfl hl.1 rfl (Nat.le_of_ble_eq_true rfl) dX6_tunes_170 ⟨(Nat.le_of_ble_eq_true rfl), (Nat.le_of_ble_eq_true rfl)⟩ (fun H locs hP hD hS => ?_)
                  obtain ⟨g3838, hg3838, h⟩ := ob h
                  refine k_st hx hb hK hP hD hS 1 0 rfl rfl hg3838 dX6_tunes_173 (ws' := [(a_m_d, .inl (cI, 216, .inl m_d)), (a_m_then, .inl (cI, 8, .inl g3838)), (a_m_leans, .inl (cI, 8, .inl m_leans)), (a_m, .inr (6, [.ref a_m_w, .ref a_m_d, .int m_undoes, .int m_kept, .ref a_m_text, .int m_texted, .int m_at, .ref a_m_numbers, .ref a_m_then, .ref a_m_leans, .int m_draws, .int j3833.2, .int m_heards, .ref a_m_heardSet, .ref a_m_heardSum])), (a_m_w, .inl (cI, 106, .inl m_w))]) rfl (fun H locs hP hD hS => ?_)
                  refine lv_aload_n hx hb dX6_tunes_174 rfl (lv_at hl 0 rfl) ?_
                  refine va_get (D := (dC, dI)) (ci := 6) (v := .ref a_m_w) (C := RX6) (T := TX6) (N := 15) hx hb hts in_X6 hown hK hP 3 rfl rfl 0 (by decide) f_7 (fun _ h9 => h9) rfl dX6_tunes_175 ?_
                  refine lv_bipush (v := (17 : Int32)) hx hb dX6_tunes_178 (by decide) ?_
                  refine lv_iload hx hb dX6_tunes_180 (lv_at hl 6 rfl) ?_
                  refine lv_iadd hx hb dX6_tunes_182 ?_
                  obtain ⟨v3839, hv3839, h⟩ := ob h
                  refine k_ld hx hb hK hP 4 0 rfl rfl hv3839 dX6_tunes_183 ?_
                  refine lv_iload hx hb dX6_tunes_184 (lv_at hl 4 rfl) ?_
                  obtain ⟨j3841, hjj3841, h⟩ := ob h
                  have Jj3841 : ∀ (H : Heap) (locs : List Loc), va_P (dC, dI) vwCl [(a_m_d, .inl (cI, 216, .inl m_d)), (a_m_then, .inl (cI, 8, .inl g3838)), (a_m_leans, .inl (cI, 8, .inl m_leans)), (a_m, .inr (6, [.ref a_m_w, .ref a_m_d, .int m_undoes, .int m_kept, .ref a_m_text, .int m_texted, .int m_at, .ref a_m_numbers, .ref a_m_then, .ref a_m_leans, .int m_draws, .int j3833.2, .int m_heards, .ref a_m_heardSet, .ref a_m_heardSum])), (a_m_w, .inl (cI, 106, .inl m_w))] H → va_D A [(a_m_d, .inl (cI, 216, .inl m_d)), (a_m_then, .inl (cI, 8, .inl g3838)), (a_m_leans, .inl (cI, 8, .inl m_leans)), (a_m, .inr (6, [.ref a_m_w, .ref a_m_d, .int m_undoes, .int m_kept, .ref a_m_text, .int m_texted, .int m_at, .ref a_m_numbers, .ref a_m_then, .ref a_m_leans, .int m_draws, .int j3833.2, .int m_heards, .ref a_m_heardSet, .ref a_m_heardSum])), (a_m_w, .inl (cI, 106, .inl m_w))] → va_S A s.heap H locs → ∀ ls : Array Slot, lv_has ls 9 [(0, .ref a_m), (1, .int x1), (2, .int r3685), (3, .int j3691), (4, .int y4_35), (5, .int y5_35), (6, .int y6_35), (7, .int v3823), (8, .int v3825)] → W p l e (headSpec wsX6_tunes rm_X6_tunes).room s m ([.ref a_m, .int x1] : List Value).toArray below meth c H locs 0 0 QQ (F0 m 204 ls [.int j3841]) := by
                    intro H locs hP hD hS ls hl
                    refine lv_istore (lv' := [(4, .int j3841), (0, .ref a_m), (1, .int x1), (2, .int r3685), (3, .int j3691), (5, .int y5_35), (6, .int y6_35), (7, .int v3823), (8, .int v3825)]) hx hb dX6_tunes_204 hl (by decide) rfl (fun ls hl => ?_)
                    refine lv_iload hx hb dX6_tunes_206 (lv_at hl 5 rfl) ?_
                    obtain ⟨j3843, hjj3843, h⟩ := ob h
                    have Jj3843 : ∀ (H : Heap) (locs : List Loc), va_P (dC, dI) vwCl [(a_m_d, .inl (cI, 216, .inl m_d)), (a_m_then, .inl (cI, 8, .inl g3838)), (a_m_leans, .inl (cI, 8, .inl m_leans)), (a_m, .inr (6, [.ref a_m_w, .ref a_m_d, .int m_undoes, .int m_kept, .ref a_m_text, .int m_texted, .int m_at, .ref a_m_numbers, .ref a_m_then, .ref a_m_leans, .int m_draws, .int j3833.2, .int m_heards, .ref a_m_heardSet, .ref a_m_heardSum])), (a_m_w, .inl (cI, 106, .inl m_w))] H → va_D A [(a_m_d, .inl (cI, 216, .inl m_d)), (a_m_then, .inl (cI, 8, .inl g3838)), (a_m_leans, .inl (cI, 8, .inl m_leans)), (a_m, .inr (6, [.ref a_m_w, .ref a_m_d, .int m_undoes, .int m_kept, .ref a_m_text, .int m_texted, .int m_at, .ref a_m_numbers, .ref a_m_then, .ref a_m_leans, .int m_draws, .int j3833.2, .int m_heards, .ref a_m_heardSet, .ref a_m_heardSum])), (a_m_w, .inl (cI, 106, .inl m_w))] → va_S A s.heap H locs → ∀ ls : Array Slot, lv_has ls 9 [(0, .ref a_m), (1, .int x1), (2, .int r3685), (3, .int j3691), (4, .int j3841), (5, .int y5_35), (6, .int y6_35), (7, .int v3823), (8, .int v3825)] → W p l e (headSpec wsX6_tunes rm_X6_tunes).room s m ([.ref a_m, .int x1] : List Value).toArray below meth c H locs 0 0 QQ (F0 m 223 ls [.int j3843]) := by
                      intro H locs hP hD hS ls hl
                      refine lv_istore (lv' := [(5, .int j3843), (0, .ref a_m), (1, .int x1), (2, .int r3685), (3, .int j3691), (4, .int j3841), (6, .int y6_35), (7, .int v3823), (8, .int v3825)]) hx hb dX6_tunes_223 hl (by decide) rfl (fun ls hl => ?_)
                      obtain rfl := Option.some.inj h
                      exact Jj3822 _ _ hP hD hS _ (lv_sub hl [1, 2, 3, 4, 5, 0, 6] rfl)
                    refine lv_if_ne (tgt := 218) hx hb dX6_tunes_208 (by decide) (fun c_208 => ?_) (fun c_208 => ?_)
                    · have h := (if_neg c_208).symm.trans hjj3843
                      refine lv_iconst (v := (1 : Int32)) hx hb dX6_tunes_218 (by decide) ?_
                      refine lv_goto (tgt := 223) hx hb dX6_tunes_219 (by decide) ?_
                      obtain rfl := Option.some.inj h
                      exact Jj3843 _ _ hP hD hS _ (lv_sub hl [1, 2, 3, 4, 0, 5, 6, 7, 8] rfl)
                    · have h := (if_pos c_208).symm.trans hjj3843
                      refine lv_iload hx hb dX6_tunes_211 (lv_at hl 7 rfl) ?_
                      refine lv_bipush (v := (9 : Int32)) hx hb dX6_tunes_213 (by decide) ?_
                      refine lv_icmp_ne (tgt := 222) hx hb dX6_tunes_215 (by decide) (fun c_215 => ?_) (fun c_215 => ?_)
                      · have h := (if_neg c_215).symm.trans h
                        refine lv_iconst (v := (0 : Int32)) hx hb dX6_tunes_222 (by decide) ?_
                        obtain rfl := Option.some.inj h
                        exact Jj3843 _ _ hP hD hS _ (lv_sub hl [1, 2, 3, 4, 0, 5, 6, 7, 8] rfl)
                      · have h := (if_pos c_215).symm.trans h
                        refine lv_iconst (v := (1 : Int32)) hx hb dX6_tunes_218 (by decide) ?_
                        refine lv_goto (tgt := 223) hx hb dX6_tunes_219 (by decide) ?_
                        obtain rfl := Option.some.inj h
                        exact Jj3843 _ _ hP hD hS _ (lv_sub hl [1, 2, 3, 4, 0, 5, 6, 7, 8] rfl)
                  refine lv_icmp_le (tgt := 202) hx hb dX6_tunes_186 (by decide) (fun c_186 => ?_) (fun c_186 => ?_)
                  · have h := (if_pos c_186).symm.trans hjj3841
                    refine lv_iload hx hb dX6_tunes_202 (lv_at hl 4 rfl) ?_
                    obtain rfl := Option.some.inj h
                    exact Jj3841 _ _ hP hD hS _ hl
                  · have h := (if_neg c_186).symm.trans hjj3841
                    refine lv_aload_n hx hb dX6_tunes_189 rfl (lv_at hl 0 rfl) ?_
                    refine va_get (D := (dC, dI)) (ci := 6) (v := .ref a_m_w) (C := RX6) (T := TX6) (N := 15) hx hb hts in_X6 hown hK hP 3 rfl rfl 0 (by decide) f_7 (fun _ h9 => h9) rfl dX6_tunes_190 ?_
                    refine lv_bipush (v := (17 : Int32)) hx hb dX6_tunes_193 (by decide) ?_
                    refine lv_iload hx hb dX6_tunes_195 (lv_at hl 6 rfl) ?_
                    refine lv_iadd hx hb dX6_tunes_197 ?_
                    obtain ⟨v3842, hv3842, h⟩ := ob h
                    refine k_ld hx hb hK hP 4 0 rfl rfl hv3842 dX6_tunes_198 ?_
                    refine lv_goto (tgt := 204) hx hb dX6_tunes_199 (by decide) ?_
                    obtain rfl := Option.some.inj h
                    exact Jj3841 _ _ hP hD hS _ hl
                refine lv_if_ge (tgt := 165) hx hb dX6_tunes_158 (by decide) (fun c_158 => ?_) (fun c_158 => ?_)
                · have h := (if_pos c_158).symm.trans hjj3833
                  refine lv_aload_n hx hb dX6_tunes_165 rfl (lv_at hl 0 rfl) ?_
                  obtain ⟨r3834, hr3834, h⟩ := ob h
                  refine k_Vi (As := []) (rest := [.int v3830, .int y6_35, .ref a_m_then]) (wr := [(a_m_d, .inl (cI, 216, .inl m_d)), (a_m_then, .inl (cI, 8, .inl g3829)), (a_m_leans, .inl (cI, 8, .inl m_leans)), (a_m_w, .inl (cI, 106, .inl m_w))]) (c_X6_drawNext l dC dI cI cS n _ a_m a_m_w a_m_d a_m_text a_m_numbers a_m_then a_m_leans a_m_heardSet a_m_heardSum m_undoes m_kept m_texted m_at m_draws m_11v_35 m_heards r3834 hr3834) (fun _ _ q => q) ⟨hx, hb, hml, hown, hts⟩ (cwV 0 hts gX6_tunes_X6_drawNext rfl rfl rfl (by decide +kernel) ⟨(Nat.le_of_ble_eq_true rfl), (Nat.le_of_ble_eq_true rfl)⟩) hN hK hP hD hS hA [3] [0, 1, 2, 4] rfl rfl (by decide) (by decide) (by decide) rfl rfl rfl hl.1 rfl (Nat.le_of_ble_eq_true rfl) dX6_tunes_166 ⟨(Nat.le_of_ble_eq_true rfl), (Nat.le_of_ble_eq_true rfl)⟩ (fun u3835 H locs _ hP hD hS => ?_)
                  have hP : va_P (dC, dI) vwCl [(a_m_d, .inl (cI, 216, .inl m_d)), (a_m_then, .inl (cI, 8, .inl g3829)), (a_m_leans, .inl (cI, 8, .inl m_leans)), (a_m_w, .inl (cI, 106, .inl m_w)), (a_m, .inr (6, [.ref a_m_w, .ref a_m_d, .int m_undoes, .int m_kept, .ref a_m_text, .int m_texted, .int m_at, .ref a_m_numbers, .ref a_m_then, .ref a_m_leans, .int m_draws, .int r3834.2, .int m_heards, .ref a_m_heardSet, .ref a_m_heardSum]))] H := hP
                  have hD : va_D A [(a_m_d, .inl (cI, 216, .inl m_d)), (a_m_then, .inl (cI, 8, .inl g3829)), (a_m_leans, .inl (cI, 8, .inl m_leans)), (a_m_w, .inl (cI, 106, .inl m_w)), (a_m, .inr (6, [.ref a_m_w, .ref a_m_d, .int m_undoes, .int m_kept, .ref a_m_text, .int m_texted, .int m_at, .ref a_m_numbers, .ref a_m_then, .ref a_m_leans, .int m_draws, .int r3834.2, .int m_heards, .ref a_m_heardSet, .ref a_m_heardSum]))] := hD
                  obtain rfl := Option.some.inj h
                  exact Jj3833 _ _ (hP.sub [0, 1, 2, 4, 3] rfl) (hD.sub [0, 1, 2, 4, 3] (by decide +kernel) rfl) hS _ hl
                · have h := (if_neg c_158).symm.trans hjj3833
                  refine lv_iconst (v := (0 : Int32)) hx hb dX6_tunes_161 (by decide) ?_
                  refine lv_goto (tgt := 169) hx hb dX6_tunes_162 (by decide) ?_
                  obtain rfl := Option.some.inj h
                  exact Jj3833 _ _ hP hD hS _ hl
              refine lv_icmp_ne (tgt := 128) hx hb dX6_tunes_121 (by decide) (fun c_121 => ?_) (fun c_121 => ?_)
              · have h := (if_neg c_121).symm.trans hjj3827
                refine lv_iload hx hb dX6_tunes_128 (lv_at hl 0 rfl) ?_
                refine lv_aload_n hx hb dX6_tunes_130 rfl (lv_at hl 1 rfl) ?_
                refine va_get (D := (dC, dI)) (ci := 6) (v := .ref a_m_leans) (C := RX6) (T := TX6) (N := 15) hx hb hts in_X6 hown hK hP 3 rfl rfl 9 (by decide) f_25 (fun _ h9 => h9) rfl dX6_tunes_131 ?_
                refine lv_iload hx hb dX6_tunes_134 (lv_at hl 7 rfl) ?_
                obtain ⟨v3828, hv3828, h⟩ := ob h
                refine k_ld hx hb hK hP 2 0 rfl rfl hv3828 dX6_tunes_136 ?_
                refine lv_iadd hx hb dX6_tunes_137 ?_
                refine lv_iload_n hx hb dX6_tunes_138 rfl (lv_at hl 4 rfl) ?_
                refine lv_iadd hx hb dX6_tunes_139 ?_
                obtain rfl := Option.some.inj h
                exact Jj3827 _ _ hP hD hS _ (lv_sub hl [1, 2, 3, 4, 5, 6, 7, 8, 0] rfl)
              · have h := (if_pos c_121).symm.trans hjj3827
                refine lv_iconst (v := (0 : Int32)) hx hb dX6_tunes_124 (by decide) ?_
                refine lv_goto (tgt := 140) hx hb dX6_tunes_125 (by decide) ?_
                obtain rfl := Option.some.inj h
                exact Jj3827 _ _ hP hD hS _ (lv_sub hl [1, 2, 3, 4, 5, 6, 7, 8, 0] rfl)
            refine lv_icmp_lt (tgt := 105) hx hb dX6_tunes_97 (by decide) (fun c_97 => ?_) (fun c_97 => ?_)
            · have h := (if_pos c_97).symm.trans hjj3824
              refine lv_iload hx hb dX6_tunes_105 (lv_at hl 0 rfl) ?_
              obtain rfl := Option.some.inj h
              exact Jj3824 _ _ hP hD hS _ (lv_sub hl [1, 2, 3, 4, 5, 6, 7, 0] rfl)
            · have h := (if_neg c_97).symm.trans hjj3824
              refine lv_bipush (v := (8 : Int32)) hx hb dX6_tunes_100 (by decide) ?_
              refine lv_goto (tgt := 107) hx hb dX6_tunes_102 (by decide) ?_
              obtain rfl := Option.some.inj h
              exact Jj3824 _ _ hP hD hS _ (lv_sub hl [1, 2, 3, 4, 5, 6, 7, 0] rfl)
    exact K35 n (0 : Int32) (0 : Int32) (0 : Int32) m_then m_drawn hjj3795 _ _ hP hD hS _ (lv_sub hl [4, 5, 6, 3, 2, 1, 0] rfl)
  refine lv_if_le (tgt := 24) hx hb dX6_tunes_10 (by decide) (fun c_10 => ?_) (fun c_10 => ?_)
  · have h := (if_pos c_10).symm.trans hjj3691
    refine lv_iconst (v := (0 : Int32)) hx hb dX6_tunes_24 (by decide) ?_
    obtain rfl := Option.some.inj h
    exact Jj3691 _ _ hP hD hS _ (lv_sub hl [1, 2, 0] rfl)
  · have h := (if_neg c_10).symm.trans hjj3691
    refine lv_iload_n hx hb dX6_tunes_13 rfl (lv_at hl 0 rfl) ?_
    obtain ⟨r3692, hr3692, h⟩ := ob h
    refine k_Si (As := [.int r3685]) (rest := []) (c_X6_ones l dC dI cI cS n _ r3685 r3692 hr3692) (fun _ _ q => q) ⟨hx, hb, hml, hown, hts⟩ (va_cwS 1 hts gX6_tunes_X6_ones rfl rfl rfl (by decide +kernel) ⟨(Nat.le_of_ble_eq_true rfl), (Nat.le_of_ble_eq_true rfl)⟩) hN hK hP hD hS hA rfl hl.1 rfl (Nat.le_of_ble_eq_true rfl) dX6_tunes_14 ⟨(Nat.le_of_ble_eq_true rfl), (Nat.le_of_ble_eq_true rfl)⟩ (fun H locs hP hD hS => ?_)
    refine lv_iconst (v := (1 : Int32)) hx hb dX6_tunes_17 (by decide) ?_
    refine lv_isub hx hb dX6_tunes_18 ?_
    refine lv_iconst (v := (2 : Int32)) hx hb dX6_tunes_19 (by decide) ?_
    refine lv_idiv hx hb dX6_tunes_20 (by decide) ?_
    refine lv_goto (tgt := 25) hx hb dX6_tunes_21 (by decide) ?_
    obtain rfl := Option.some.inj h
    exact Jj3691 _ _ hP hD hS _ (lv_sub hl [1, 2, 0] rfl)
def rm_X6_groupSet : Room := { frames := 0, cells := 0, slots := 0, locals := 0 }
set_option maxRecDepth 100000 in
set_option maxHeartbeats 8000000 in
theorem c_X6_groupSet (l : Launch) (dC : Nat → ClassId) (dI : Nat → Nat → Nat) (cI cS : ClassId) (n sz : Nat) (a_m : Nat) (a_m_w : Nat) (a_m_d : Nat) (a_m_text : Nat) (a_m_numbers : Nat) (a_m_then : Nat) (a_m_leans : Nat) (a_m_heardSet : Nat) (a_m_heardSum : Nat) (m_w : Nat → Int32) (m_undoes : Int32) (m_kept : Int32) (m_texted : Int32) (m_at : Int32) (m_draws : Int32) (m_drawn : Int32) (m_heards : Int32) (x1 : Int32) (res : Int32)  (h : F_X6_groupSet n m_w x1 = some res) : Met l yX6_groupSet wsX6_groupSet rm_X6_groupSet (va_Pc [.ref a_m, .int x1] (PRE (dC, dI) vwCl [(cI, .int), (cS, .object "RoundOfTheA$State")] sz [(a_m, .inr (6, [.ref a_m_w, .ref a_m_d, .int m_undoes, .int m_kept, .ref a_m_text, .int m_texted, .int m_at, .ref a_m_numbers, .ref a_m_then, .ref a_m_leans, .int m_draws, .int m_drawn, .int m_heards, .ref a_m_heardSet, .ref a_m_heardSum])), (a_m_w, .inl (cI, 106, .inl m_w))])) (va_Qi (fun (r : Int32) (_ : Unit) => r = res) (fun u t => POST (dC, dI) vwCl [(a_m, .inr (6, [.ref a_m_w, .ref a_m_d, .int m_undoes, .int m_kept, .ref a_m_text, .int m_texted, .int m_at, .ref a_m_numbers, .ref a_m_then, .ref a_m_leans, .int m_draws, .int m_drawn, .int m_heards, .ref a_m_heardSet, .ref a_m_heardSum])), (a_m_w, .inl (cI, 106, .inl m_w))] (va_A [(a_m, .inr (6, [.ref a_m_w, .ref a_m_d, .int m_undoes, .int m_kept, .ref a_m_text, .int m_texted, .int m_at, .ref a_m_numbers, .ref a_m_then, .ref a_m_leans, .int m_draws, .int m_drawn, .int m_heards, .ref a_m_heardSet, .ref a_m_heardSum])), (a_m_w, .inl (cI, 106, .inl m_w))] sz) t) (va_A [(a_m, .inr (6, [.ref a_m_w, .ref a_m_d, .int m_undoes, .int m_kept, .ref a_m_text, .int m_texted, .int m_at, .ref a_m_numbers, .ref a_m_then, .ref a_m_leans, .int m_draws, .int m_drawn, .int m_heards, .ref a_m_heardSet, .ref a_m_heardSum])), (a_m_w, .inl (cI, 106, .inl m_w))] sz)) 0 0 (va_A [(a_m, .inr (6, [.ref a_m_w, .ref a_m_d, .int m_undoes, .int m_kept, .ref a_m_text, .int m_texted, .int m_at, .ref a_m_numbers, .ref a_m_then, .ref a_m_leans, .int m_draws, .int m_drawn, .int m_heards, .ref a_m_heardSet, .ref a_m_heardSum])), (a_m_w, .inl (cI, 106, .inl m_w))] sz) := by
  refine Met.ofW (cc := cX6_groupSet) (maxL := 4) (ret := (some .int)) (by decide) rfl ?_
  intro p e s m args below meth c s₁ B hml hv
  obtain ⟨rfl, hsz, hN, hP, hK, hD0⟩ := hv
  have hx := B.exec
  have hb := B.bytes
  have hr := B.returns
  have hts := atoms_spec (ws := wsX6_groupSet) B.pre
  have hown : s.vm.findClass RX6 = some m.cls := findClass_of_methodNamed B.named
  have hlocks := B.notSynchronized
  subst hsz
  have hD := hD0.self (sz := s.heap.size)
  generalize hAe : va_A [(a_m, .inr (6, [.ref a_m_w, .ref a_m_d, .int m_undoes, .int m_kept, .ref a_m_text, .int m_texted, .int m_at, .ref a_m_numbers, .ref a_m_then, .ref a_m_leans, .int m_draws, .int m_drawn, .int m_heards, .ref a_m_heardSet, .ref a_m_heardSum])), (a_m_w, .inl (cI, 106, .inl m_w))] s.heap.size = A at hD ⊢
  have hA : ∀ q : Nat, s.heap.size ≤ q → A q := fun q h => by rw [← hAe]; exact Or.inr h
  have hS : va_S A s.heap s.heap [] := va_S.rf
  generalize hQe : MQ below _ _ s _ _ A = QQ
  have hl := lv_entry ([.ref a_m, .int x1]) (n := 4) (Nat.le_of_ble_eq_true rfl)
  rw [lg_entry_eq]
  generalize (lg_sl ([.ref a_m, .int x1]) ++ List.replicate (4 - (lg_sl ([.ref a_m, .int x1])).length) Slot.unset).toArray = ls at hl ⊢
  have hl : lv_has ls 4 [(0, .ref a_m), (1, .int x1)] := hl
  have f_7 := hts (.fieldLink RX6 7 "RoundOfTheAModel" "w" "[I") (by decide +kernel)
  have in_X6 := (by decide +kernel : ∀ w ∈ wsX60, w ∈ wsX6_groupSet)
  rw [F_X6_groupSet] at h
  refine lv_iconst (v := (0 : Int32)) hx hb dX6_groupSet_0 (by decide) ?_
  refine lv_istore_n (lv' := [(2, .int (0 : Int32)), (0, .ref a_m), (1, .int x1)]) hx hb dX6_groupSet_1 rfl hl (by decide) rfl (fun ls hl => ?_)
  refine lv_iconst (v := (0 : Int32)) hx hb dX6_groupSet_2 (by decide) ?_
  refine lv_istore_n (lv' := [(3, .int (0 : Int32)), (2, .int (0 : Int32)), (0, .ref a_m), (1, .int x1)]) hx hb dX6_groupSet_3 rfl hl (by decide) rfl (fun ls hl => ?_)
  obtain ⟨j3885, hjj3885, h⟩ := ob h
  have Jj3885 : ∀ (H : Heap) (locs : List Loc), va_P (dC, dI) vwCl [(a_m, .inr (6, [.ref a_m_w, .ref a_m_d, .int m_undoes, .int m_kept, .ref a_m_text, .int m_texted, .int m_at, .ref a_m_numbers, .ref a_m_then, .ref a_m_leans, .int m_draws, .int m_drawn, .int m_heards, .ref a_m_heardSet, .ref a_m_heardSum])), (a_m_w, .inl (cI, 106, .inl m_w))] H → va_D A [(a_m, .inr (6, [.ref a_m_w, .ref a_m_d, .int m_undoes, .int m_kept, .ref a_m_text, .int m_texted, .int m_at, .ref a_m_numbers, .ref a_m_then, .ref a_m_leans, .int m_draws, .int m_drawn, .int m_heards, .ref a_m_heardSet, .ref a_m_heardSum])), (a_m_w, .inl (cI, 106, .inl m_w))] → va_S A s.heap H locs → ∀ ls : Array Slot, lv_has ls 4 [(0, .ref a_m), (1, .int x1), (2, .int j3885.1), (3, .int j3885.2)] → W p l e (headSpec wsX6_groupSet rm_X6_groupSet).room s m ([.ref a_m, .int x1] : List Value).toArray below meth c H locs 0 0 QQ (F0 m 43 ls []) := by
    intro H locs hP hD hS ls hl
    refine lv_iload_n hx hb dX6_groupSet_43 rfl (lv_at hl 2 rfl) ?_
    obtain rfl := Option.some.inj h
    subst hQe
    exact W.iret (v := j3885.1) hx hb hr (fun t ht hW => ⟨⟨j3885.1, (), rfl, rfl, ⟨by rw [ht]; exact hP, hD⟩⟩, hS.F ht⟩) hS.2.2 dX6_groupSet_44
  have K4 : ∀ (k : Nat) (y2_4 : Int32) (y3_4 : Int32), L_X6_groupSet_4 m_w x1 k y2_4 y3_4 = some j3885 → ∀ (H : Heap) (locs : List Loc), va_P (dC, dI) vwCl [(a_m, .inr (6, [.ref a_m_w, .ref a_m_d, .int m_undoes, .int m_kept, .ref a_m_text, .int m_texted, .int m_at, .ref a_m_numbers, .ref a_m_then, .ref a_m_leans, .int m_draws, .int m_drawn, .int m_heards, .ref a_m_heardSet, .ref a_m_heardSum])), (a_m_w, .inl (cI, 106, .inl m_w))] H → va_D A [(a_m, .inr (6, [.ref a_m_w, .ref a_m_d, .int m_undoes, .int m_kept, .ref a_m_text, .int m_texted, .int m_at, .ref a_m_numbers, .ref a_m_then, .ref a_m_leans, .int m_draws, .int m_drawn, .int m_heards, .ref a_m_heardSet, .ref a_m_heardSum])), (a_m_w, .inl (cI, 106, .inl m_w))] → va_S A s.heap H locs → ∀ ls : Array Slot, lv_has ls 4 [(0, .ref a_m), (1, .int x1), (2, .int y2_4), (3, .int y3_4)] → W p l e (headSpec wsX6_groupSet rm_X6_groupSet).room s m ([.ref a_m, .int x1] : List Value).toArray below meth c H locs 0 0 QQ (F0 m 4 ls []) := by
    intro k
    induction k with
    | zero =>
      intro y2_4 y3_4 h
      rw [L_X6_groupSet_4] at h
      cases h
    | succ k ih =>
      intro y2_4 y3_4 h H locs hP hD hS ls hl
      rw [L_X6_groupSet_4] at h
      refine lv_iload_n hx hb dX6_groupSet_4 rfl (lv_at hl 3 rfl) ?_
      refine lv_aload_n hx hb dX6_groupSet_5 rfl (lv_at hl 0 rfl) ?_
      refine va_get (D := (dC, dI)) (ci := 6) (v := .ref a_m_w) (C := RX6) (T := TX6) (N := 15) hx hb hts in_X6 hown hK hP 0 rfl rfl 0 (by decide) f_7 (fun _ h9 => h9) rfl dX6_groupSet_6 ?_
      refine lv_iconst (v := (0 : Int32)) hx hb dX6_groupSet_9 (by decide) ?_
      obtain ⟨v3886, hv3886, h⟩ := ob h
      refine k_ld hx hb hK hP 1 0 rfl rfl hv3886 dX6_groupSet_10 ?_
      refine lv_icmp_ge (tgt := 43) hx hb dX6_groupSet_11 (by decide) (fun c_11 => ?_) (fun c_11 => ?_)
      · have h := (if_pos c_11).symm.trans h
        obtain rfl := Option.some.inj h
        exact Jj3885 _ _ hP hD hS _ hl
      · have h := (if_neg c_11).symm.trans h
        refine lv_iload_n hx hb dX6_groupSet_14 rfl (lv_at hl 2 rfl) ?_
        refine lv_aload_n hx hb dX6_groupSet_15 rfl (lv_at hl 0 rfl) ?_
        refine va_get (D := (dC, dI)) (ci := 6) (v := .ref a_m_w) (C := RX6) (T := TX6) (N := 15) hx hb hts in_X6 hown hK hP 0 rfl rfl 0 (by decide) f_7 (fun _ h9 => h9) rfl dX6_groupSet_16 ?_
        refine lv_bipush (v := (33 : Int32)) hx hb dX6_groupSet_19 (by decide) ?_
        refine lv_iload_n hx hb dX6_groupSet_21 rfl (lv_at hl 3 rfl) ?_
        refine lv_iadd hx hb dX6_groupSet_22 ?_
        obtain ⟨v3887, hv3887, h⟩ := ob h
        refine k_ld hx hb hK hP 1 0 rfl rfl hv3887 dX6_groupSet_23 ?_
        refine lv_iload_n hx hb dX6_groupSet_24 rfl (lv_at hl 1 rfl) ?_
        obtain ⟨j3888, hjj3888, h⟩ := ob h
        have Jj3888 : ∀ (H : Heap) (locs : List Loc), va_P (dC, dI) vwCl [(a_m, .inr (6, [.ref a_m_w, .ref a_m_d, .int m_undoes, .int m_kept, .ref a_m_text, .int m_texted, .int m_at, .ref a_m_numbers, .ref a_m_then, .ref a_m_leans, .int m_draws, .int m_drawn, .int m_heards, .ref a_m_heardSet, .ref a_m_heardSum])), (a_m_w, .inl (cI, 106, .inl m_w))] H → va_D A [(a_m, .inr (6, [.ref a_m_w, .ref a_m_d, .int m_undoes, .int m_kept, .ref a_m_text, .int m_texted, .int m_at, .ref a_m_numbers, .ref a_m_then, .ref a_m_leans, .int m_draws, .int m_drawn, .int m_heards, .ref a_m_heardSet, .ref a_m_heardSum])), (a_m_w, .inl (cI, 106, .inl m_w))] → va_S A s.heap H locs → ∀ ls : Array Slot, lv_has ls 4 [(0, .ref a_m), (1, .int x1), (2, .int y2_4), (3, .int y3_4)] → W p l e (headSpec wsX6_groupSet rm_X6_groupSet).room s m ([.ref a_m, .int x1] : List Value).toArray below meth c H locs 0 0 QQ (F0 m 35 ls [.int j3888, .int y2_4]) := by
          intro H locs hP hD hS ls hl
          refine lv_ior hx hb dX6_groupSet_35 ?_
          refine lv_istore_n (lv' := [(2, .int (y2_4 ||| j3888)), (0, .ref a_m), (1, .int x1), (3, .int y3_4)]) hx hb dX6_groupSet_36 rfl hl (by decide) rfl (fun ls hl => ?_)
          refine lv_iinc (v := (y3_4 + (1 : Int32))) (lv' := [(3, .int (y3_4 + (1 : Int32))), (2, .int (y2_4 ||| j3888)), (0, .ref a_m), (1, .int x1)]) hx hb dX6_groupSet_37 hl (k := 3) rfl rfl (by decide) rfl (fun ls hl => ?_)
          refine lv_goto (tgt := 4) hx hb dX6_groupSet_40 (by decide) ?_
          exact ih _ _ h _ _ hP hD hS _ (lv_sub hl [2, 3, 1, 0] rfl)
        refine lv_icmp_ne (tgt := 34) hx hb dX6_groupSet_25 (by decide) (fun c_25 => ?_) (fun c_25 => ?_)
        · have h := (if_neg c_25).symm.trans hjj3888
          refine lv_iconst (v := (0 : Int32)) hx hb dX6_groupSet_34 (by decide) ?_
          obtain rfl := Option.some.inj h
          exact Jj3888 _ _ hP hD hS _ hl
        · have h := (if_pos c_25).symm.trans hjj3888
          refine lv_iconst (v := (1 : Int32)) hx hb dX6_groupSet_28 (by decide) ?_
          refine lv_iload_n hx hb dX6_groupSet_29 rfl (lv_at hl 3 rfl) ?_
          refine lv_ishl hx hb dX6_groupSet_30 ?_
          refine lv_goto (tgt := 35) hx hb dX6_groupSet_31 (by decide) ?_
          obtain rfl := Option.some.inj h
          exact Jj3888 _ _ hP hD hS _ hl
  exact K4 n (0 : Int32) (0 : Int32) hjj3885 _ _ hP hD hS _ (lv_sub hl [2, 3, 1, 0] rfl)
def rm_X6_rounds : Room := { frames := 4, cells := 0, slots := 0, locals := 93 }
set_option maxRecDepth 100000 in
set_option maxHeartbeats 8000000 in
theorem c_X6_rounds (l : Launch) (dC : Nat → ClassId) (dI : Nat → Nat → Nat) (cI cS : ClassId) (n sz : Nat) (a_m : Nat) (a_m_w : Nat) (a_m_d : Nat) (a_m_text : Nat) (a_m_numbers : Nat) (a_m_then : Nat) (a_m_leans : Nat) (a_m_heardSet : Nat) (a_m_heardSum : Nat) (m_w : Nat → Int32) (m_d : Nat → Int32) (m_undoes : Int32) (m_kept : Int32) (m_texted : Int32) (m_at : Int32) (m_then : Nat → Int32) (m_leans : Nat → Int32) (m_draws : Int32) (m_drawn : Int32) (m_heards : Int32) (res : Int32 × Int32 × (Nat → Int32) × (Nat → Int32))  (h : F_X6_rounds n m_w m_d m_then m_leans m_draws m_drawn = some res) : Met l yX6_rounds wsX6_rounds rm_X6_rounds (va_Pc [.ref a_m] (PRE (dC, dI) vwCl [(cI, .int), (cS, .object "RoundOfTheA$State")] sz [(a_m, .inr (6, [.ref a_m_w, .ref a_m_d, .int m_undoes, .int m_kept, .ref a_m_text, .int m_texted, .int m_at, .ref a_m_numbers, .ref a_m_then, .ref a_m_leans, .int m_draws, .int m_drawn, .int m_heards, .ref a_m_heardSet, .ref a_m_heardSum])), (a_m_w, .inl (cI, 106, .inl m_w)), (a_m_d, .inl (cI, 216, .inl m_d)), (a_m_then, .inl (cI, 8, .inl m_then)), (a_m_leans, .inl (cI, 8, .inl m_leans))])) (va_Qi (fun (r : Int32) (_ : Unit) => r = res.1) (fun u t => POST (dC, dI) vwCl [(a_m, .inr (6, [.ref a_m_w, .ref a_m_d, .int m_undoes, .int m_kept, .ref a_m_text, .int m_texted, .int m_at, .ref a_m_numbers, .ref a_m_then, .ref a_m_leans, .int m_draws, .int res.2.1, .int m_heards, .ref a_m_heardSet, .ref a_m_heardSum])), (a_m_w, .inl (cI, 106, .inl m_w)), (a_m_d, .inl (cI, 216, .inl res.2.2.1)), (a_m_then, .inl (cI, 8, .inl res.2.2.2)), (a_m_leans, .inl (cI, 8, .inl m_leans))] (va_A [(a_m, .inr (6, [.ref a_m_w, .ref a_m_d, .int m_undoes, .int m_kept, .ref a_m_text, .int m_texted, .int m_at, .ref a_m_numbers, .ref a_m_then, .ref a_m_leans, .int m_draws, .int m_drawn, .int m_heards, .ref a_m_heardSet, .ref a_m_heardSum])), (a_m_w, .inl (cI, 106, .inl m_w)), (a_m_d, .inl (cI, 216, .inl m_d)), (a_m_then, .inl (cI, 8, .inl m_then)), (a_m_leans, .inl (cI, 8, .inl m_leans))] sz) t) (va_A [(a_m, .inr (6, [.ref a_m_w, .ref a_m_d, .int m_undoes, .int m_kept, .ref a_m_text, .int m_texted, .int m_at, .ref a_m_numbers, .ref a_m_then, .ref a_m_leans, .int m_draws, .int m_drawn, .int m_heards, .ref a_m_heardSet, .ref a_m_heardSum])), (a_m_w, .inl (cI, 106, .inl m_w)), (a_m_d, .inl (cI, 216, .inl m_d)), (a_m_then, .inl (cI, 8, .inl m_then)), (a_m_leans, .inl (cI, 8, .inl m_leans))] sz)) 0 0 (va_A [(a_m, .inr (6, [.ref a_m_w, .ref a_m_d, .int m_undoes, .int m_kept, .ref a_m_text, .int m_texted, .int m_at, .ref a_m_numbers, .ref a_m_then, .ref a_m_leans, .int m_draws, .int m_drawn, .int m_heards, .ref a_m_heardSet, .ref a_m_heardSum])), (a_m_w, .inl (cI, 106, .inl m_w)), (a_m_d, .inl (cI, 216, .inl m_d)), (a_m_then, .inl (cI, 8, .inl m_then)), (a_m_leans, .inl (cI, 8, .inl m_leans))] sz) := by
  refine Met.ofW (cc := cX6_rounds) (maxL := 3) (ret := (some .int)) (by decide) rfl ?_
  intro p e s m args below meth c s₁ B hml hv
  obtain ⟨rfl, hsz, hN, hP, hK, hD0⟩ := hv
  have hx := B.exec
  have hb := B.bytes
  have hr := B.returns
  have hts := atoms_spec (ws := wsX6_rounds) B.pre
  have hown : s.vm.findClass RX6 = some m.cls := findClass_of_methodNamed B.named
  have hlocks := B.notSynchronized
  subst hsz
  have hD := hD0.self (sz := s.heap.size)
  generalize hAe : va_A [(a_m, .inr (6, [.ref a_m_w, .ref a_m_d, .int m_undoes, .int m_kept, .ref a_m_text, .int m_texted, .int m_at, .ref a_m_numbers, .ref a_m_then, .ref a_m_leans, .int m_draws, .int m_drawn, .int m_heards, .ref a_m_heardSet, .ref a_m_heardSum])), (a_m_w, .inl (cI, 106, .inl m_w)), (a_m_d, .inl (cI, 216, .inl m_d)), (a_m_then, .inl (cI, 8, .inl m_then)), (a_m_leans, .inl (cI, 8, .inl m_leans))] s.heap.size = A at hD ⊢
  have hA : ∀ q : Nat, s.heap.size ≤ q → A q := fun q h => by rw [← hAe]; exact Or.inr h
  have hS : va_S A s.heap s.heap [] := va_S.rf
  generalize hQe : MQ below _ _ s _ _ A = QQ
  have hl := lv_entry ([.ref a_m]) (n := 3) (Nat.le_of_ble_eq_true rfl)
  rw [lg_entry_eq]
  generalize (lg_sl ([.ref a_m]) ++ List.replicate (3 - (lg_sl ([.ref a_m])).length) Slot.unset).toArray = ls at hl ⊢
  have hl : lv_has ls 3 [(0, .ref a_m)] := hl
  rw [F_X6_rounds] at h
  refine lv_iconst (v := (0 : Int32)) hx hb dX6_rounds_0 (by decide) ?_
  refine lv_istore_n (lv' := [(1, .int (0 : Int32)), (0, .ref a_m)]) hx hb dX6_rounds_1 rfl hl (by decide) rfl (fun ls hl => ?_)
  refine lv_iconst (v := (0 : Int32)) hx hb dX6_rounds_2 (by decide) ?_
  refine lv_istore_n (lv' := [(2, .int (0 : Int32)), (1, .int (0 : Int32)), (0, .ref a_m)]) hx hb dX6_rounds_3 rfl hl (by decide) rfl (fun ls hl => ?_)
  obtain ⟨j3920, hjj3920, h⟩ := ob h
  have Jj3920 : ∀ (H : Heap) (locs : List Loc), va_P (dC, dI) vwCl [(a_m, .inr (6, [.ref a_m_w, .ref a_m_d, .int m_undoes, .int m_kept, .ref a_m_text, .int m_texted, .int m_at, .ref a_m_numbers, .ref a_m_then, .ref a_m_leans, .int m_draws, .int j3920.2.2.1, .int m_heards, .ref a_m_heardSet, .ref a_m_heardSum])), (a_m_w, .inl (cI, 106, .inl m_w)), (a_m_d, .inl (cI, 216, .inl j3920.2.2.2.1)), (a_m_then, .inl (cI, 8, .inl j3920.2.2.2.2)), (a_m_leans, .inl (cI, 8, .inl m_leans))] H → va_D A [(a_m, .inr (6, [.ref a_m_w, .ref a_m_d, .int m_undoes, .int m_kept, .ref a_m_text, .int m_texted, .int m_at, .ref a_m_numbers, .ref a_m_then, .ref a_m_leans, .int m_draws, .int j3920.2.2.1, .int m_heards, .ref a_m_heardSet, .ref a_m_heardSum])), (a_m_w, .inl (cI, 106, .inl m_w)), (a_m_d, .inl (cI, 216, .inl j3920.2.2.2.1)), (a_m_then, .inl (cI, 8, .inl j3920.2.2.2.2)), (a_m_leans, .inl (cI, 8, .inl m_leans))] → va_S A s.heap H locs → ∀ ls : Array Slot, lv_has ls 3 [(0, .ref a_m), (1, .int j3920.1), (2, .int j3920.2.1)] → W p l e (headSpec wsX6_rounds rm_X6_rounds).room s m ([.ref a_m] : List Value).toArray below meth c H locs 0 0 QQ (F0 m 27 ls []) := by
    intro H locs hP hD hS ls hl
    refine lv_iload_n hx hb dX6_rounds_27 rfl (lv_at hl 1 rfl) ?_
    obtain rfl := Option.some.inj h
    subst hQe
    exact W.iret (v := j3920.1) hx hb hr (fun t ht hW => ⟨⟨j3920.1, (), rfl, rfl, ⟨by rw [ht]; exact hP, hD⟩⟩, hS.F ht⟩) hS.2.2 dX6_rounds_28
  have K4 : ∀ (k : Nat) (y1_4 : Int32) (y2_4 : Int32) (m_11v_4 : Int32) (m_dv_4 : Nat → Int32) (m_thenv_4 : Nat → Int32), L_X6_rounds_4 n m_w m_leans m_draws k y1_4 y2_4 m_11v_4 m_dv_4 m_thenv_4 = some j3920 → ∀ (H : Heap) (locs : List Loc), va_P (dC, dI) vwCl [(a_m, .inr (6, [.ref a_m_w, .ref a_m_d, .int m_undoes, .int m_kept, .ref a_m_text, .int m_texted, .int m_at, .ref a_m_numbers, .ref a_m_then, .ref a_m_leans, .int m_draws, .int m_11v_4, .int m_heards, .ref a_m_heardSet, .ref a_m_heardSum])), (a_m_w, .inl (cI, 106, .inl m_w)), (a_m_d, .inl (cI, 216, .inl m_dv_4)), (a_m_then, .inl (cI, 8, .inl m_thenv_4)), (a_m_leans, .inl (cI, 8, .inl m_leans))] H → va_D A [(a_m, .inr (6, [.ref a_m_w, .ref a_m_d, .int m_undoes, .int m_kept, .ref a_m_text, .int m_texted, .int m_at, .ref a_m_numbers, .ref a_m_then, .ref a_m_leans, .int m_draws, .int m_11v_4, .int m_heards, .ref a_m_heardSet, .ref a_m_heardSum])), (a_m_w, .inl (cI, 106, .inl m_w)), (a_m_d, .inl (cI, 216, .inl m_dv_4)), (a_m_then, .inl (cI, 8, .inl m_thenv_4)), (a_m_leans, .inl (cI, 8, .inl m_leans))] → va_S A s.heap H locs → ∀ ls : Array Slot, lv_has ls 3 [(0, .ref a_m), (1, .int y1_4), (2, .int y2_4)] → W p l e (headSpec wsX6_rounds rm_X6_rounds).room s m ([.ref a_m] : List Value).toArray below meth c H locs 0 0 QQ (F0 m 4 ls []) := by
    intro k
    induction k with
    | zero =>
      intro y1_4 y2_4 m_11v_4 m_dv_4 m_thenv_4 h
      rw [L_X6_rounds_4] at h
      cases h
    | succ k ih =>
      intro y1_4 y2_4 m_11v_4 m_dv_4 m_thenv_4 h H locs hP hD hS ls hl
      rw [L_X6_rounds_4] at h
      refine lv_iload_n hx hb dX6_rounds_4 rfl (lv_at hl 2 rfl) ?_
      refine lv_iconst (v := (5 : Int32)) hx hb dX6_rounds_5 (by decide) ?_
      refine lv_icmp_ge (tgt := 27) hx hb dX6_rounds_6 (by decide) (fun c_6 => ?_) (fun c_6 => ?_)
      · have h := (if_pos c_6).symm.trans h
        obtain rfl := Option.some.inj h
        exact Jj3920 _ _ hP hD hS _ hl
      · have h := (if_neg c_6).symm.trans h
        refine lv_iload_n hx hb dX6_rounds_9 rfl (lv_at hl 1 rfl) ?_
        refine lv_aload_n hx hb dX6_rounds_10 rfl (lv_at hl 0 rfl) ?_
        refine lv_aload_n hx hb dX6_rounds_11 rfl (lv_at hl 0 rfl) ?_
        refine lv_iload_n hx hb dX6_rounds_12 rfl (lv_at hl 2 rfl) ?_
        obtain ⟨r3921, hr3921, h⟩ := ob h
        refine k_Vi (As := [.int y2_4]) (rest := [.ref a_m, .int y1_4]) (wr := [(a_m_d, .inl (cI, 216, .inl m_dv_4)), (a_m_then, .inl (cI, 8, .inl m_thenv_4)), (a_m_leans, .inl (cI, 8, .inl m_leans))]) (c_X6_groupSet l dC dI cI cS n _ a_m a_m_w a_m_d a_m_text a_m_numbers a_m_then a_m_leans a_m_heardSet a_m_heardSum m_w m_undoes m_kept m_texted m_at m_draws m_11v_4 m_heards y2_4 r3921 hr3921) (fun _ _ q => q) ⟨hx, hb, hml, hown, hts⟩ (cwV 1 hts gX6_rounds_X6_groupSet rfl rfl rfl (by decide +kernel) ⟨(Nat.le_of_ble_eq_true rfl), (Nat.le_of_ble_eq_true rfl)⟩) hN hK hP hD hS hA [0, 1] [2, 3, 4] rfl rfl (by decide) (by decide) (by decide) rfl rfl rfl hl.1 rfl (Nat.le_of_ble_eq_true rfl) dX6_rounds_13 ⟨(Nat.le_of_ble_eq_true rfl), (Nat.le_of_ble_eq_true rfl)⟩ (fun u3922 H locs _ hP hD hS => ?_)
        have hP : va_P (dC, dI) vwCl [(a_m_d, .inl (cI, 216, .inl m_dv_4)), (a_m_then, .inl (cI, 8, .inl m_thenv_4)), (a_m_leans, .inl (cI, 8, .inl m_leans)), (a_m, .inr (6, [.ref a_m_w, .ref a_m_d, .int m_undoes, .int m_kept, .ref a_m_text, .int m_texted, .int m_at, .ref a_m_numbers, .ref a_m_then, .ref a_m_leans, .int m_draws, .int m_11v_4, .int m_heards, .ref a_m_heardSet, .ref a_m_heardSum])), (a_m_w, .inl (cI, 106, .inl m_w))] H := hP
        have hD : va_D A [(a_m_d, .inl (cI, 216, .inl m_dv_4)), (a_m_then, .inl (cI, 8, .inl m_thenv_4)), (a_m_leans, .inl (cI, 8, .inl m_leans)), (a_m, .inr (6, [.ref a_m_w, .ref a_m_d, .int m_undoes, .int m_kept, .ref a_m_text, .int m_texted, .int m_at, .ref a_m_numbers, .ref a_m_then, .ref a_m_leans, .int m_draws, .int m_11v_4, .int m_heards, .ref a_m_heardSet, .ref a_m_heardSum])), (a_m_w, .inl (cI, 106, .inl m_w))] := hD
        obtain ⟨r3923, hr3923, h⟩ := ob h
        refine k_Vi (As := [.int r3921]) (rest := [.int y1_4]) (wr := []) (c_X6_tunes l dC dI cI cS n _ a_m a_m_w a_m_d a_m_text a_m_numbers a_m_then a_m_leans a_m_heardSet a_m_heardSum m_w m_dv_4 m_undoes m_kept m_texted m_at m_thenv_4 m_leans m_draws m_11v_4 m_heards r3921 r3923 hr3923) (fun _ _ q => q) ⟨hx, hb, hml, hown, hts⟩ (cwV 1 hts gX6_rounds_X6_tunes rfl rfl rfl (by decide +kernel) ⟨(Nat.le_of_ble_eq_true rfl), (Nat.le_of_ble_eq_true rfl)⟩) hN hK hP hD hS hA [3, 4, 0, 1, 2] [] rfl rfl (by decide) (by decide) (by decide) rfl rfl rfl hl.1 rfl (Nat.le_of_ble_eq_true rfl) dX6_rounds_16 ⟨(Nat.le_of_ble_eq_true rfl), (Nat.le_of_ble_eq_true rfl)⟩ (fun u3924 H locs _ hP hD hS => ?_)
        have hP : va_P (dC, dI) vwCl [(a_m, .inr (6, [.ref a_m_w, .ref a_m_d, .int m_undoes, .int m_kept, .ref a_m_text, .int m_texted, .int m_at, .ref a_m_numbers, .ref a_m_then, .ref a_m_leans, .int m_draws, .int r3923.2.1, .int m_heards, .ref a_m_heardSet, .ref a_m_heardSum])), (a_m_w, .inl (cI, 106, .inl m_w)), (a_m_d, .inl (cI, 216, .inl r3923.2.2.1)), (a_m_then, .inl (cI, 8, .inl r3923.2.2.2)), (a_m_leans, .inl (cI, 8, .inl m_leans))] H := hP
        have hD : va_D A [(a_m, .inr (6, [.ref a_m_w, .ref a_m_d, .int m_undoes, .int m_kept, .ref a_m_text, .int m_texted, .int m_at, .ref a_m_numbers, .ref a_m_then, .ref a_m_leans, .int m_draws, .int r3923.2.1, .int m_heards, .ref a_m_heardSet, .ref a_m_heardSum])), (a_m_w, .inl (cI, 106, .inl m_w)), (a_m_d, .inl (cI, 216, .inl r3923.2.2.1)), (a_m_then, .inl (cI, 8, .inl r3923.2.2.2)), (a_m_leans, .inl (cI, 8, .inl m_leans))] := hD
        refine lv_iadd hx hb dX6_rounds_19 ?_
        refine lv_istore_n (lv' := [(1, .int (y1_4 + r3923.1)), (0, .ref a_m), (2, .int y2_4)]) hx hb dX6_rounds_20 rfl hl (by decide) rfl (fun ls hl => ?_)
        refine lv_iinc (v := (y2_4 + (1 : Int32))) (lv' := [(2, .int (y2_4 + (1 : Int32))), (1, .int (y1_4 + r3923.1)), (0, .ref a_m)]) hx hb dX6_rounds_21 hl (k := 2) rfl rfl (by decide) rfl (fun ls hl => ?_)
        refine lv_goto (tgt := 4) hx hb dX6_rounds_24 (by decide) ?_
        exact ih _ _ _ _ _ h _ _ hP hD hS _ (lv_sub hl [2, 1, 0] rfl)
  exact K4 n (0 : Int32) (0 : Int32) m_drawn m_d m_then hjj3920 _ _ hP hD hS _ (lv_sub hl [2, 1, 0] rfl)
def rm_X6_spreadOf : Room := { frames := 0, cells := 0, slots := 0, locals := 0 }
set_option maxRecDepth 100000 in
set_option maxHeartbeats 8000000 in
theorem c_X6_spreadOf (l : Launch) (dC : Nat → ClassId) (dI : Nat → Nat → Nat) (cI cS : ClassId) (n sz : Nat) (a_m : Nat) (a_m_w : Nat) (a_m_d : Nat) (a_m_text : Nat) (a_m_numbers : Nat) (a_m_then : Nat) (a_m_leans : Nat) (a_m_heardSet : Nat) (a_m_heardSum : Nat) (m_w : Nat → Int32) (m_d : Nat → Int32) (m_undoes : Int32) (m_kept : Int32) (m_texted : Int32) (m_at : Int32) (m_draws : Int32) (m_drawn : Int32) (m_heards : Int32) (x1 : Int32) (res : Int32)  (h : F_X6_spreadOf n m_w m_d x1 = some res) : Met l yX6_spreadOf wsX6_spreadOf rm_X6_spreadOf (va_Pc [.ref a_m, .int x1] (PRE (dC, dI) vwCl [(cI, .int), (cS, .object "RoundOfTheA$State")] sz [(a_m, .inr (6, [.ref a_m_w, .ref a_m_d, .int m_undoes, .int m_kept, .ref a_m_text, .int m_texted, .int m_at, .ref a_m_numbers, .ref a_m_then, .ref a_m_leans, .int m_draws, .int m_drawn, .int m_heards, .ref a_m_heardSet, .ref a_m_heardSum])), (a_m_w, .inl (cI, 106, .inl m_w)), (a_m_d, .inl (cI, 216, .inl m_d))])) (va_Qi (fun (r : Int32) (_ : Unit) => r = res) (fun u t => POST (dC, dI) vwCl [(a_m, .inr (6, [.ref a_m_w, .ref a_m_d, .int m_undoes, .int m_kept, .ref a_m_text, .int m_texted, .int m_at, .ref a_m_numbers, .ref a_m_then, .ref a_m_leans, .int m_draws, .int m_drawn, .int m_heards, .ref a_m_heardSet, .ref a_m_heardSum])), (a_m_w, .inl (cI, 106, .inl m_w)), (a_m_d, .inl (cI, 216, .inl m_d))] (va_A [(a_m, .inr (6, [.ref a_m_w, .ref a_m_d, .int m_undoes, .int m_kept, .ref a_m_text, .int m_texted, .int m_at, .ref a_m_numbers, .ref a_m_then, .ref a_m_leans, .int m_draws, .int m_drawn, .int m_heards, .ref a_m_heardSet, .ref a_m_heardSum])), (a_m_w, .inl (cI, 106, .inl m_w)), (a_m_d, .inl (cI, 216, .inl m_d))] sz) t) (va_A [(a_m, .inr (6, [.ref a_m_w, .ref a_m_d, .int m_undoes, .int m_kept, .ref a_m_text, .int m_texted, .int m_at, .ref a_m_numbers, .ref a_m_then, .ref a_m_leans, .int m_draws, .int m_drawn, .int m_heards, .ref a_m_heardSet, .ref a_m_heardSum])), (a_m_w, .inl (cI, 106, .inl m_w)), (a_m_d, .inl (cI, 216, .inl m_d))] sz)) 0 0 (va_A [(a_m, .inr (6, [.ref a_m_w, .ref a_m_d, .int m_undoes, .int m_kept, .ref a_m_text, .int m_texted, .int m_at, .ref a_m_numbers, .ref a_m_then, .ref a_m_leans, .int m_draws, .int m_drawn, .int m_heards, .ref a_m_heardSet, .ref a_m_heardSum])), (a_m_w, .inl (cI, 106, .inl m_w)), (a_m_d, .inl (cI, 216, .inl m_d))] sz) := by
  refine Met.ofW (cc := cX6_spreadOf) (maxL := 6) (ret := (some .int)) (by decide) rfl ?_
  intro p e s m args below meth c s₁ B hml hv
  obtain ⟨rfl, hsz, hN, hP, hK, hD0⟩ := hv
  have hx := B.exec
  have hb := B.bytes
  have hr := B.returns
  have hts := atoms_spec (ws := wsX6_spreadOf) B.pre
  have hown : s.vm.findClass RX6 = some m.cls := findClass_of_methodNamed B.named
  have hlocks := B.notSynchronized
  subst hsz
  have hD := hD0.self (sz := s.heap.size)
  generalize hAe : va_A [(a_m, .inr (6, [.ref a_m_w, .ref a_m_d, .int m_undoes, .int m_kept, .ref a_m_text, .int m_texted, .int m_at, .ref a_m_numbers, .ref a_m_then, .ref a_m_leans, .int m_draws, .int m_drawn, .int m_heards, .ref a_m_heardSet, .ref a_m_heardSum])), (a_m_w, .inl (cI, 106, .inl m_w)), (a_m_d, .inl (cI, 216, .inl m_d))] s.heap.size = A at hD ⊢
  have hA : ∀ q : Nat, s.heap.size ≤ q → A q := fun q h => by rw [← hAe]; exact Or.inr h
  have hS : va_S A s.heap s.heap [] := va_S.rf
  generalize hQe : MQ below _ _ s _ _ A = QQ
  have hl := lv_entry ([.ref a_m, .int x1]) (n := 6) (Nat.le_of_ble_eq_true rfl)
  rw [lg_entry_eq]
  generalize (lg_sl ([.ref a_m, .int x1]) ++ List.replicate (6 - (lg_sl ([.ref a_m, .int x1])).length) Slot.unset).toArray = ls at hl ⊢
  have hl : lv_has ls 6 [(0, .ref a_m), (1, .int x1)] := hl
  have f_13 := hts (.fieldLink RX6 13 "RoundOfTheAModel" "d" "[I") (by decide +kernel)
  have in_X6 := (by decide +kernel : ∀ w ∈ wsX60, w ∈ wsX6_spreadOf)
  have f_7 := hts (.fieldLink RX6 7 "RoundOfTheAModel" "w" "[I") (by decide +kernel)
  rw [F_X6_spreadOf] at h
  refine lv_aload_n hx hb dX6_spreadOf_0 rfl (lv_at hl 0 rfl) ?_
  refine va_get (D := (dC, dI)) (ci := 6) (v := .ref a_m_d) (C := RX6) (T := TX6) (N := 15) hx hb hts in_X6 hown hK hP 0 rfl rfl 1 (by decide) f_13 (fun _ h9 => h9) rfl dX6_spreadOf_1 ?_
  refine lv_iload_n hx hb dX6_spreadOf_4 rfl (lv_at hl 1 rfl) ?_
  refine lv_iconst (v := (0 : Int32)) hx hb dX6_spreadOf_5 (by decide) ?_
  refine lv_iadd hx hb dX6_spreadOf_6 ?_
  obtain ⟨v3943, hv3943, h⟩ := ob h
  refine k_ld hx hb hK hP 2 0 rfl rfl hv3943 dX6_spreadOf_7 ?_
  refine lv_istore_n (lv' := [(2, .int v3943), (0, .ref a_m), (1, .int x1)]) hx hb dX6_spreadOf_8 rfl hl (by decide) rfl (fun ls hl => ?_)
  refine lv_aload_n hx hb dX6_spreadOf_9 rfl (lv_at hl 1 rfl) ?_
  refine va_get (D := (dC, dI)) (ci := 6) (v := .ref a_m_d) (C := RX6) (T := TX6) (N := 15) hx hb hts in_X6 hown hK hP 0 rfl rfl 1 (by decide) f_13 (fun _ h9 => h9) rfl dX6_spreadOf_10 ?_
  refine lv_iload_n hx hb dX6_spreadOf_13 rfl (lv_at hl 2 rfl) ?_
  refine lv_iconst (v := (0 : Int32)) hx hb dX6_spreadOf_14 (by decide) ?_
  refine lv_iadd hx hb dX6_spreadOf_15 ?_
  obtain ⟨v3944, hv3944, h⟩ := ob h
  refine k_ld hx hb hK hP 2 0 rfl rfl hv3944 dX6_spreadOf_16 ?_
  refine lv_istore_n (lv' := [(3, .int v3944), (2, .int v3943), (0, .ref a_m), (1, .int x1)]) hx hb dX6_spreadOf_17 rfl hl (by decide) rfl (fun ls hl => ?_)
  refine lv_iconst (v := (1 : Int32)) hx hb dX6_spreadOf_18 (by decide) ?_
  refine lv_istore (lv' := [(4, .int (1 : Int32)), (3, .int v3944), (2, .int v3943), (0, .ref a_m), (1, .int x1)]) hx hb dX6_spreadOf_19 hl (by decide) rfl (fun ls hl => ?_)
  obtain ⟨j3956, hjj3956, h⟩ := ob h
  have Jj3956 : ∀ (H : Heap) (locs : List Loc), va_P (dC, dI) vwCl [(a_m, .inr (6, [.ref a_m_w, .ref a_m_d, .int m_undoes, .int m_kept, .ref a_m_text, .int m_texted, .int m_at, .ref a_m_numbers, .ref a_m_then, .ref a_m_leans, .int m_draws, .int m_drawn, .int m_heards, .ref a_m_heardSet, .ref a_m_heardSum])), (a_m_w, .inl (cI, 106, .inl m_w)), (a_m_d, .inl (cI, 216, .inl m_d))] H → va_D A [(a_m, .inr (6, [.ref a_m_w, .ref a_m_d, .int m_undoes, .int m_kept, .ref a_m_text, .int m_texted, .int m_at, .ref a_m_numbers, .ref a_m_then, .ref a_m_leans, .int m_draws, .int m_drawn, .int m_heards, .ref a_m_heardSet, .ref a_m_heardSum])), (a_m_w, .inl (cI, 106, .inl m_w)), (a_m_d, .inl (cI, 216, .inl m_d))] → va_S A s.heap H locs → ∀ ls : Array Slot, lv_has ls 6 [(0, .ref a_m), (1, .int x1), (2, .int j3956.1), (3, .int j3956.2.1), (4, .int j3956.2.2)] → W p l e (headSpec wsX6_spreadOf rm_X6_spreadOf).room s m ([.ref a_m, .int x1] : List Value).toArray below meth c H locs 0 0 QQ (F0 m 77 ls []) := by
    intro H locs hP hD hS ls hl
    refine lv_iload_n hx hb dX6_spreadOf_77 rfl (lv_at hl 3 rfl) ?_
    refine lv_iload_n hx hb dX6_spreadOf_78 rfl (lv_at hl 2 rfl) ?_
    refine lv_isub hx hb dX6_spreadOf_79 ?_
    obtain rfl := Option.some.inj h
    subst hQe
    exact W.iret (v := (j3956.2.1 - j3956.1)) hx hb hr (fun t ht hW => ⟨⟨(j3956.2.1 - j3956.1), (), rfl, rfl, ⟨by rw [ht]; exact hP, hD⟩⟩, hS.F ht⟩) hS.2.2 dX6_spreadOf_80
  have K21 : ∀ (k : Nat) (y2_21 : Int32) (y3_21 : Int32) (y4_21 : Int32), L_X6_spreadOf_21 m_w m_d x1 k y2_21 y3_21 y4_21 = some j3956 → ∀ (H : Heap) (locs : List Loc), va_P (dC, dI) vwCl [(a_m, .inr (6, [.ref a_m_w, .ref a_m_d, .int m_undoes, .int m_kept, .ref a_m_text, .int m_texted, .int m_at, .ref a_m_numbers, .ref a_m_then, .ref a_m_leans, .int m_draws, .int m_drawn, .int m_heards, .ref a_m_heardSet, .ref a_m_heardSum])), (a_m_w, .inl (cI, 106, .inl m_w)), (a_m_d, .inl (cI, 216, .inl m_d))] H → va_D A [(a_m, .inr (6, [.ref a_m_w, .ref a_m_d, .int m_undoes, .int m_kept, .ref a_m_text, .int m_texted, .int m_at, .ref a_m_numbers, .ref a_m_then, .ref a_m_leans, .int m_draws, .int m_drawn, .int m_heards, .ref a_m_heardSet, .ref a_m_heardSum])), (a_m_w, .inl (cI, 106, .inl m_w)), (a_m_d, .inl (cI, 216, .inl m_d))] → va_S A s.heap H locs → ∀ ls : Array Slot, lv_has ls 6 [(0, .ref a_m), (1, .int x1), (2, .int y2_21), (3, .int y3_21), (4, .int y4_21)] → W p l e (headSpec wsX6_spreadOf rm_X6_spreadOf).room s m ([.ref a_m, .int x1] : List Value).toArray below meth c H locs 0 0 QQ (F0 m 21 ls []) := by
    intro k
    induction k with
    | zero =>
      intro y2_21 y3_21 y4_21 h
      rw [L_X6_spreadOf_21] at h
      cases h
    | succ k ih =>
      intro y2_21 y3_21 y4_21 h H locs hP hD hS ls hl
      rw [L_X6_spreadOf_21] at h
      refine lv_iload hx hb dX6_spreadOf_21 (lv_at hl 4 rfl) ?_
      refine lv_aload_n hx hb dX6_spreadOf_23 rfl (lv_at hl 0 rfl) ?_
      refine va_get (D := (dC, dI)) (ci := 6) (v := .ref a_m_w) (C := RX6) (T := TX6) (N := 15) hx hb hts in_X6 hown hK hP 0 rfl rfl 0 (by decide) f_7 (fun _ h9 => h9) rfl dX6_spreadOf_24 ?_
      refine lv_iconst (v := (0 : Int32)) hx hb dX6_spreadOf_27 (by decide) ?_
      obtain ⟨v3957, hv3957, h⟩ := ob h
      refine k_ld hx hb hK hP 1 0 rfl rfl hv3957 dX6_spreadOf_28 ?_
      refine lv_icmp_ge (tgt := 77) hx hb dX6_spreadOf_29 (by decide) (fun c_29 => ?_) (fun c_29 => ?_)
      · have h := (if_pos c_29).symm.trans h
        obtain rfl := Option.some.inj h
        exact Jj3956 _ _ hP hD hS _ hl
      · have h := (if_neg c_29).symm.trans h
        refine lv_aload_n hx hb dX6_spreadOf_32 rfl (lv_at hl 0 rfl) ?_
        refine va_get (D := (dC, dI)) (ci := 6) (v := .ref a_m_d) (C := RX6) (T := TX6) (N := 15) hx hb hts in_X6 hown hK hP 0 rfl rfl 1 (by decide) f_13 (fun _ h9 => h9) rfl dX6_spreadOf_33 ?_
        refine lv_iload_n hx hb dX6_spreadOf_36 rfl (lv_at hl 1 rfl) ?_
        refine lv_iconst (v := (0 : Int32)) hx hb dX6_spreadOf_37 (by decide) ?_
        refine lv_iadd hx hb dX6_spreadOf_38 ?_
        refine lv_iload hx hb dX6_spreadOf_39 (lv_at hl 4 rfl) ?_
        refine lv_iadd hx hb dX6_spreadOf_41 ?_
        obtain ⟨v3958, hv3958, h⟩ := ob h
        refine k_ld hx hb hK hP 2 0 rfl rfl hv3958 dX6_spreadOf_42 ?_
        refine lv_istore (lv' := [(5, .int v3958), (0, .ref a_m), (1, .int x1), (2, .int y2_21), (3, .int y3_21), (4, .int y4_21)]) hx hb dX6_spreadOf_43 hl (by decide) rfl (fun ls hl => ?_)
        refine lv_iload hx hb dX6_spreadOf_45 (lv_at hl 0 rfl) ?_
        refine lv_iload_n hx hb dX6_spreadOf_47 rfl (lv_at hl 3 rfl) ?_
        obtain ⟨j3959, hjj3959, h⟩ := ob h
        have Jj3959 : ∀ (H : Heap) (locs : List Loc), va_P (dC, dI) vwCl [(a_m, .inr (6, [.ref a_m_w, .ref a_m_d, .int m_undoes, .int m_kept, .ref a_m_text, .int m_texted, .int m_at, .ref a_m_numbers, .ref a_m_then, .ref a_m_leans, .int m_draws, .int m_drawn, .int m_heards, .ref a_m_heardSet, .ref a_m_heardSum])), (a_m_w, .inl (cI, 106, .inl m_w)), (a_m_d, .inl (cI, 216, .inl m_d))] H → va_D A [(a_m, .inr (6, [.ref a_m_w, .ref a_m_d, .int m_undoes, .int m_kept, .ref a_m_text, .int m_texted, .int m_at, .ref a_m_numbers, .ref a_m_then, .ref a_m_leans, .int m_draws, .int m_drawn, .int m_heards, .ref a_m_heardSet, .ref a_m_heardSum])), (a_m_w, .inl (cI, 106, .inl m_w)), (a_m_d, .inl (cI, 216, .inl m_d))] → va_S A s.heap H locs → ∀ ls : Array Slot, lv_has ls 6 [(0, .ref a_m), (1, .int x1), (2, .int y2_21), (3, .int y3_21), (4, .int y4_21), (5, .int v3958)] → W p l e (headSpec wsX6_spreadOf rm_X6_spreadOf).room s m ([.ref a_m, .int x1] : List Value).toArray below meth c H locs 0 0 QQ (F0 m 57 ls [.int j3959]) := by
          intro H locs hP hD hS ls hl
          refine lv_istore_n (lv' := [(2, .int j3959), (0, .ref a_m), (1, .int x1), (3, .int y3_21), (4, .int y4_21), (5, .int v3958)]) hx hb dX6_spreadOf_57 rfl hl (by decide) rfl (fun ls hl => ?_)
          refine lv_iload hx hb dX6_spreadOf_58 (lv_at hl 5 rfl) ?_
          refine lv_iload_n hx hb dX6_spreadOf_60 rfl (lv_at hl 3 rfl) ?_
          obtain ⟨j3960, hjj3960, h⟩ := ob h
          have Jj3960 : ∀ (H : Heap) (locs : List Loc), va_P (dC, dI) vwCl [(a_m, .inr (6, [.ref a_m_w, .ref a_m_d, .int m_undoes, .int m_kept, .ref a_m_text, .int m_texted, .int m_at, .ref a_m_numbers, .ref a_m_then, .ref a_m_leans, .int m_draws, .int m_drawn, .int m_heards, .ref a_m_heardSet, .ref a_m_heardSum])), (a_m_w, .inl (cI, 106, .inl m_w)), (a_m_d, .inl (cI, 216, .inl m_d))] H → va_D A [(a_m, .inr (6, [.ref a_m_w, .ref a_m_d, .int m_undoes, .int m_kept, .ref a_m_text, .int m_texted, .int m_at, .ref a_m_numbers, .ref a_m_then, .ref a_m_leans, .int m_draws, .int m_drawn, .int m_heards, .ref a_m_heardSet, .ref a_m_heardSum])), (a_m_w, .inl (cI, 106, .inl m_w)), (a_m_d, .inl (cI, 216, .inl m_d))] → va_S A s.heap H locs → ∀ ls : Array Slot, lv_has ls 6 [(0, .ref a_m), (1, .int x1), (2, .int j3959), (3, .int y3_21), (4, .int y4_21), (5, .int v3958)] → W p l e (headSpec wsX6_spreadOf rm_X6_spreadOf).room s m ([.ref a_m, .int x1] : List Value).toArray below meth c H locs 0 0 QQ (F0 m 70 ls [.int j3960]) := by
            intro H locs hP hD hS ls hl
            refine lv_istore_n (lv' := [(3, .int j3960), (0, .ref a_m), (1, .int x1), (2, .int j3959), (4, .int y4_21), (5, .int v3958)]) hx hb dX6_spreadOf_70 rfl hl (by decide) rfl (fun ls hl => ?_)
            refine lv_iinc (v := (y4_21 + (1 : Int32))) (lv' := [(4, .int (y4_21 + (1 : Int32))), (3, .int j3960), (0, .ref a_m), (1, .int x1), (2, .int j3959), (5, .int v3958)]) hx hb dX6_spreadOf_71 hl (k := 4) rfl rfl (by decide) rfl (fun ls hl => ?_)
            refine lv_goto (tgt := 21) hx hb dX6_spreadOf_74 (by decide) ?_
            exact ih _ _ _ h _ _ hP hD hS _ (lv_sub hl [2, 3, 4, 1, 0] rfl)
          refine lv_icmp_le (tgt := 69) hx hb dX6_spreadOf_61 (by decide) (fun c_61 => ?_) (fun c_61 => ?_)
          · have h := (if_pos c_61).symm.trans hjj3960
            refine lv_iload_n hx hb dX6_spreadOf_69 rfl (lv_at hl 3 rfl) ?_
            obtain rfl := Option.some.inj h
            exact Jj3960 _ _ hP hD hS _ (lv_sub hl [1, 2, 0, 3, 4, 5] rfl)
          · have h := (if_neg c_61).symm.trans hjj3960
            refine lv_iload hx hb dX6_spreadOf_64 (lv_at hl 5 rfl) ?_
            refine lv_goto (tgt := 70) hx hb dX6_spreadOf_66 (by decide) ?_
            obtain rfl := Option.some.inj h
            exact Jj3960 _ _ hP hD hS _ (lv_sub hl [1, 2, 0, 3, 4, 5] rfl)
        refine lv_icmp_ge (tgt := 56) hx hb dX6_spreadOf_48 (by decide) (fun c_48 => ?_) (fun c_48 => ?_)
        · have h := (if_pos c_48).symm.trans hjj3959
          refine lv_iload_n hx hb dX6_spreadOf_56 rfl (lv_at hl 3 rfl) ?_
          obtain rfl := Option.some.inj h
          exact Jj3959 _ _ hP hD hS _ (lv_sub hl [1, 2, 3, 4, 5, 0] rfl)
        · have h := (if_neg c_48).symm.trans hjj3959
          refine lv_iload hx hb dX6_spreadOf_51 (lv_at hl 0 rfl) ?_
          refine lv_goto (tgt := 57) hx hb dX6_spreadOf_53 (by decide) ?_
          obtain rfl := Option.some.inj h
          exact Jj3959 _ _ hP hD hS _ (lv_sub hl [1, 2, 3, 4, 5, 0] rfl)
  exact K21 n v3943 v3944 (1 : Int32) hjj3956 _ _ hP hD hS _ (lv_sub hl [3, 4, 2, 1, 0] rfl)
def rm_X6_heardOf : Room := { frames := 1, cells := 0, slots := 0, locals := 20 }
set_option maxRecDepth 100000 in
set_option maxHeartbeats 8000000 in
theorem c_X6_heardOf (l : Launch) (dC : Nat → ClassId) (dI : Nat → Nat → Nat) (cI cS : ClassId) (n sz : Nat) (a_m : Nat) (a_m_w : Nat) (a_m_d : Nat) (a_m_text : Nat) (a_m_numbers : Nat) (a_m_then : Nat) (a_m_leans : Nat) (a_m_heardSet : Nat) (a_m_heardSum : Nat) (m_w : Nat → Int32) (m_d : Nat → Int32) (m_undoes : Int32) (m_kept : Int32) (m_texted : Int32) (m_at : Int32) (m_draws : Int32) (m_drawn : Int32) (m_heards : Int32) (x1 : Int32) (res : Int32)  (h : F_X6_heardOf n m_w m_d x1 = some res) : Met l yX6_heardOf wsX6_heardOf rm_X6_heardOf (va_Pc [.ref a_m, .int x1] (PRE (dC, dI) vwCl [(cI, .int), (cS, .object "RoundOfTheA$State")] sz [(a_m, .inr (6, [.ref a_m_w, .ref a_m_d, .int m_undoes, .int m_kept, .ref a_m_text, .int m_texted, .int m_at, .ref a_m_numbers, .ref a_m_then, .ref a_m_leans, .int m_draws, .int m_drawn, .int m_heards, .ref a_m_heardSet, .ref a_m_heardSum])), (a_m_w, .inl (cI, 106, .inl m_w)), (a_m_d, .inl (cI, 216, .inl m_d))])) (va_Qi (fun (r : Int32) (_ : Unit) => r = res) (fun u t => POST (dC, dI) vwCl [(a_m, .inr (6, [.ref a_m_w, .ref a_m_d, .int m_undoes, .int m_kept, .ref a_m_text, .int m_texted, .int m_at, .ref a_m_numbers, .ref a_m_then, .ref a_m_leans, .int m_draws, .int m_drawn, .int m_heards, .ref a_m_heardSet, .ref a_m_heardSum])), (a_m_w, .inl (cI, 106, .inl m_w)), (a_m_d, .inl (cI, 216, .inl m_d))] (va_A [(a_m, .inr (6, [.ref a_m_w, .ref a_m_d, .int m_undoes, .int m_kept, .ref a_m_text, .int m_texted, .int m_at, .ref a_m_numbers, .ref a_m_then, .ref a_m_leans, .int m_draws, .int m_drawn, .int m_heards, .ref a_m_heardSet, .ref a_m_heardSum])), (a_m_w, .inl (cI, 106, .inl m_w)), (a_m_d, .inl (cI, 216, .inl m_d))] sz) t) (va_A [(a_m, .inr (6, [.ref a_m_w, .ref a_m_d, .int m_undoes, .int m_kept, .ref a_m_text, .int m_texted, .int m_at, .ref a_m_numbers, .ref a_m_then, .ref a_m_leans, .int m_draws, .int m_drawn, .int m_heards, .ref a_m_heardSet, .ref a_m_heardSum])), (a_m_w, .inl (cI, 106, .inl m_w)), (a_m_d, .inl (cI, 216, .inl m_d))] sz)) 0 0 (va_A [(a_m, .inr (6, [.ref a_m_w, .ref a_m_d, .int m_undoes, .int m_kept, .ref a_m_text, .int m_texted, .int m_at, .ref a_m_numbers, .ref a_m_then, .ref a_m_leans, .int m_draws, .int m_drawn, .int m_heards, .ref a_m_heardSet, .ref a_m_heardSum])), (a_m_w, .inl (cI, 106, .inl m_w)), (a_m_d, .inl (cI, 216, .inl m_d))] sz) := by
  refine Met.ofW (cc := cX6_heardOf) (maxL := 5) (ret := (some .int)) (by decide) rfl ?_
  intro p e s m args below meth c s₁ B hml hv
  obtain ⟨rfl, hsz, hN, hP, hK, hD0⟩ := hv
  have hx := B.exec
  have hb := B.bytes
  have hr := B.returns
  have hts := atoms_spec (ws := wsX6_heardOf) B.pre
  have hown : s.vm.findClass RX6 = some m.cls := findClass_of_methodNamed B.named
  have hlocks := B.notSynchronized
  subst hsz
  have hD := hD0.self (sz := s.heap.size)
  generalize hAe : va_A [(a_m, .inr (6, [.ref a_m_w, .ref a_m_d, .int m_undoes, .int m_kept, .ref a_m_text, .int m_texted, .int m_at, .ref a_m_numbers, .ref a_m_then, .ref a_m_leans, .int m_draws, .int m_drawn, .int m_heards, .ref a_m_heardSet, .ref a_m_heardSum])), (a_m_w, .inl (cI, 106, .inl m_w)), (a_m_d, .inl (cI, 216, .inl m_d))] s.heap.size = A at hD ⊢
  have hA : ∀ q : Nat, s.heap.size ≤ q → A q := fun q h => by rw [← hAe]; exact Or.inr h
  have hS : va_S A s.heap s.heap [] := va_S.rf
  generalize hQe : MQ below _ _ s _ _ A = QQ
  have hl := lv_entry ([.ref a_m, .int x1]) (n := 5) (Nat.le_of_ble_eq_true rfl)
  rw [lg_entry_eq]
  generalize (lg_sl ([.ref a_m, .int x1]) ++ List.replicate (5 - (lg_sl ([.ref a_m, .int x1])).length) Slot.unset).toArray = ls at hl ⊢
  have hl : lv_has ls 5 [(0, .ref a_m), (1, .int x1)] := hl
  have f_7 := hts (.fieldLink RX6 7 "RoundOfTheAModel" "w" "[I") (by decide +kernel)
  have in_X6 := (by decide +kernel : ∀ w ∈ wsX60, w ∈ wsX6_heardOf)
  have f_13 := hts (.fieldLink RX6 13 "RoundOfTheAModel" "d" "[I") (by decide +kernel)
  rw [F_X6_heardOf] at h
  refine lv_iconst (v := (0 : Int32)) hx hb dX6_heardOf_0 (by decide) ?_
  refine lv_istore_n (lv' := [(2, .int (0 : Int32)), (0, .ref a_m), (1, .int x1)]) hx hb dX6_heardOf_1 rfl hl (by decide) rfl (fun ls hl => ?_)
  refine lv_iconst (v := (0 : Int32)) hx hb dX6_heardOf_2 (by decide) ?_
  refine lv_istore_n (lv' := [(3, .int (0 : Int32)), (2, .int (0 : Int32)), (0, .ref a_m), (1, .int x1)]) hx hb dX6_heardOf_3 rfl hl (by decide) rfl (fun ls hl => ?_)
  obtain ⟨j4076, hjj4076, h⟩ := ob h
  have Jj4076 : ∀ (H : Heap) (locs : List Loc), va_P (dC, dI) vwCl [(a_m, .inr (6, [.ref a_m_w, .ref a_m_d, .int m_undoes, .int m_kept, .ref a_m_text, .int m_texted, .int m_at, .ref a_m_numbers, .ref a_m_then, .ref a_m_leans, .int m_draws, .int m_drawn, .int m_heards, .ref a_m_heardSet, .ref a_m_heardSum])), (a_m_w, .inl (cI, 106, .inl m_w)), (a_m_d, .inl (cI, 216, .inl m_d))] H → va_D A [(a_m, .inr (6, [.ref a_m_w, .ref a_m_d, .int m_undoes, .int m_kept, .ref a_m_text, .int m_texted, .int m_at, .ref a_m_numbers, .ref a_m_then, .ref a_m_leans, .int m_draws, .int m_drawn, .int m_heards, .ref a_m_heardSet, .ref a_m_heardSum])), (a_m_w, .inl (cI, 106, .inl m_w)), (a_m_d, .inl (cI, 216, .inl m_d))] → va_S A s.heap H locs → ∀ ls : Array Slot, lv_has ls 5 [(0, .ref a_m), (1, .int x1), (2, .int j4076.1), (3, .int j4076.2)] → W p l e (headSpec wsX6_heardOf rm_X6_heardOf).room s m ([.ref a_m, .int x1] : List Value).toArray below meth c H locs 0 0 QQ (F0 m 78 ls []) := by
    intro H locs hP hD hS ls hl
    refine lv_iload_n hx hb dX6_heardOf_78 rfl (lv_at hl 2 rfl) ?_
    obtain rfl := Option.some.inj h
    subst hQe
    exact W.iret (v := j4076.1) hx hb hr (fun t ht hW => ⟨⟨j4076.1, (), rfl, rfl, ⟨by rw [ht]; exact hP, hD⟩⟩, hS.F ht⟩) hS.2.2 dX6_heardOf_79
  have K4 : ∀ (k : Nat) (y2_4 : Int32) (y3_4 : Int32), L_X6_heardOf_4 n m_w m_d x1 k y2_4 y3_4 = some j4076 → ∀ (H : Heap) (locs : List Loc), va_P (dC, dI) vwCl [(a_m, .inr (6, [.ref a_m_w, .ref a_m_d, .int m_undoes, .int m_kept, .ref a_m_text, .int m_texted, .int m_at, .ref a_m_numbers, .ref a_m_then, .ref a_m_leans, .int m_draws, .int m_drawn, .int m_heards, .ref a_m_heardSet, .ref a_m_heardSum])), (a_m_w, .inl (cI, 106, .inl m_w)), (a_m_d, .inl (cI, 216, .inl m_d))] H → va_D A [(a_m, .inr (6, [.ref a_m_w, .ref a_m_d, .int m_undoes, .int m_kept, .ref a_m_text, .int m_texted, .int m_at, .ref a_m_numbers, .ref a_m_then, .ref a_m_leans, .int m_draws, .int m_drawn, .int m_heards, .ref a_m_heardSet, .ref a_m_heardSum])), (a_m_w, .inl (cI, 106, .inl m_w)), (a_m_d, .inl (cI, 216, .inl m_d))] → va_S A s.heap H locs → ∀ ls : Array Slot, lv_has ls 5 [(0, .ref a_m), (1, .int x1), (2, .int y2_4), (3, .int y3_4)] → W p l e (headSpec wsX6_heardOf rm_X6_heardOf).room s m ([.ref a_m, .int x1] : List Value).toArray below meth c H locs 0 0 QQ (F0 m 4 ls []) := by
    intro k
    induction k with
    | zero =>
      intro y2_4 y3_4 h
      rw [L_X6_heardOf_4] at h
      cases h
    | succ k ih =>
      intro y2_4 y3_4 h H locs hP hD hS ls hl
      rw [L_X6_heardOf_4] at h
      refine lv_iload_n hx hb dX6_heardOf_4 rfl (lv_at hl 3 rfl) ?_
      refine lv_aload_n hx hb dX6_heardOf_5 rfl (lv_at hl 0 rfl) ?_
      refine va_get (D := (dC, dI)) (ci := 6) (v := .ref a_m_w) (C := RX6) (T := TX6) (N := 15) hx hb hts in_X6 hown hK hP 0 rfl rfl 0 (by decide) f_7 (fun _ h9 => h9) rfl dX6_heardOf_6 ?_
      refine lv_iconst (v := (0 : Int32)) hx hb dX6_heardOf_9 (by decide) ?_
      obtain ⟨v4077, hv4077, h⟩ := ob h
      refine k_ld hx hb hK hP 1 0 rfl rfl hv4077 dX6_heardOf_10 ?_
      refine lv_icmp_ge (tgt := 78) hx hb dX6_heardOf_11 (by decide) (fun c_11 => ?_) (fun c_11 => ?_)
      · have h := (if_pos c_11).symm.trans h
        obtain rfl := Option.some.inj h
        exact Jj4076 _ _ hP hD hS _ hl
      · have h := (if_neg c_11).symm.trans h
        refine lv_iconst (v := (0 : Int32)) hx hb dX6_heardOf_14 (by decide) ?_
        refine lv_istore (lv' := [(4, .int (0 : Int32)), (0, .ref a_m), (1, .int x1), (2, .int y2_4), (3, .int y3_4)]) hx hb dX6_heardOf_15 hl (by decide) rfl (fun ls hl => ?_)
        obtain ⟨j4092, hjj4092, h⟩ := ob h
        have Jj4092 : ∀ (H : Heap) (locs : List Loc), va_P (dC, dI) vwCl [(a_m, .inr (6, [.ref a_m_w, .ref a_m_d, .int m_undoes, .int m_kept, .ref a_m_text, .int m_texted, .int m_at, .ref a_m_numbers, .ref a_m_then, .ref a_m_leans, .int m_draws, .int m_drawn, .int m_heards, .ref a_m_heardSet, .ref a_m_heardSum])), (a_m_w, .inl (cI, 106, .inl m_w)), (a_m_d, .inl (cI, 216, .inl m_d))] H → va_D A [(a_m, .inr (6, [.ref a_m_w, .ref a_m_d, .int m_undoes, .int m_kept, .ref a_m_text, .int m_texted, .int m_at, .ref a_m_numbers, .ref a_m_then, .ref a_m_leans, .int m_draws, .int m_drawn, .int m_heards, .ref a_m_heardSet, .ref a_m_heardSum])), (a_m_w, .inl (cI, 106, .inl m_w)), (a_m_d, .inl (cI, 216, .inl m_d))] → va_S A s.heap H locs → ∀ ls : Array Slot, lv_has ls 5 [(0, .ref a_m), (1, .int x1), (2, .int j4092.1), (3, .int y3_4), (4, .int j4092.2)] → W p l e (headSpec wsX6_heardOf rm_X6_heardOf).room s m ([.ref a_m, .int x1] : List Value).toArray below meth c H locs 0 0 QQ (F0 m 72 ls []) := by
          intro H locs hP hD hS ls hl
          refine lv_iinc (v := (y3_4 + (1 : Int32))) (lv' := [(3, .int (y3_4 + (1 : Int32))), (0, .ref a_m), (1, .int x1), (2, .int j4092.1), (4, .int j4092.2)]) hx hb dX6_heardOf_72 hl (k := 3) rfl rfl (by decide) rfl (fun ls hl => ?_)
          refine lv_goto (tgt := 4) hx hb dX6_heardOf_75 (by decide) ?_
          exact ih _ _ h _ _ hP hD hS _ (lv_sub hl [1, 2, 3, 0] rfl)
        have K17 : ∀ (k : Nat) (y2_17 : Int32) (y4_17 : Int32), L_X6_heardOf_17 n m_w m_d x1 y3_4 k y2_17 y4_17 = some j4092 → ∀ (H : Heap) (locs : List Loc), va_P (dC, dI) vwCl [(a_m, .inr (6, [.ref a_m_w, .ref a_m_d, .int m_undoes, .int m_kept, .ref a_m_text, .int m_texted, .int m_at, .ref a_m_numbers, .ref a_m_then, .ref a_m_leans, .int m_draws, .int m_drawn, .int m_heards, .ref a_m_heardSet, .ref a_m_heardSum])), (a_m_w, .inl (cI, 106, .inl m_w)), (a_m_d, .inl (cI, 216, .inl m_d))] H → va_D A [(a_m, .inr (6, [.ref a_m_w, .ref a_m_d, .int m_undoes, .int m_kept, .ref a_m_text, .int m_texted, .int m_at, .ref a_m_numbers, .ref a_m_then, .ref a_m_leans, .int m_draws, .int m_drawn, .int m_heards, .ref a_m_heardSet, .ref a_m_heardSum])), (a_m_w, .inl (cI, 106, .inl m_w)), (a_m_d, .inl (cI, 216, .inl m_d))] → va_S A s.heap H locs → ∀ ls : Array Slot, lv_has ls 5 [(0, .ref a_m), (1, .int x1), (2, .int y2_17), (3, .int y3_4), (4, .int y4_17)] → W p l e (headSpec wsX6_heardOf rm_X6_heardOf).room s m ([.ref a_m, .int x1] : List Value).toArray below meth c H locs 0 0 QQ (F0 m 17 ls []) := by
          intro k
          induction k with
          | zero =>
            intro y2_17 y4_17 h
            rw [L_X6_heardOf_17] at h
            cases h
          | succ k ih =>
            intro y2_17 y4_17 h H locs hP hD hS ls hl
            rw [L_X6_heardOf_17] at h
            refine lv_iload hx hb dX6_heardOf_17 (lv_at hl 4 rfl) ?_
            refine lv_iload_n hx hb dX6_heardOf_19 rfl (lv_at hl 3 rfl) ?_
            refine lv_icmp_ge (tgt := 72) hx hb dX6_heardOf_20 (by decide) (fun c_20 => ?_) (fun c_20 => ?_)
            · have h := (if_pos c_20).symm.trans h
              obtain rfl := Option.some.inj h
              exact Jj4092 _ _ hP hD hS _ hl
            · have h := (if_neg c_20).symm.trans h
              refine lv_iload_n hx hb dX6_heardOf_23 rfl (lv_at hl 2 rfl) ?_
              refine lv_aload_n hx hb dX6_heardOf_24 rfl (lv_at hl 0 rfl) ?_
              refine va_get (D := (dC, dI)) (ci := 6) (v := .ref a_m_d) (C := RX6) (T := TX6) (N := 15) hx hb hts in_X6 hown hK hP 0 rfl rfl 1 (by decide) f_13 (fun _ h9 => h9) rfl dX6_heardOf_25 ?_
              refine lv_iload_n hx hb dX6_heardOf_28 rfl (lv_at hl 1 rfl) ?_
              refine lv_iconst (v := (0 : Int32)) hx hb dX6_heardOf_29 (by decide) ?_
              refine lv_iadd hx hb dX6_heardOf_30 ?_
              refine lv_iload_n hx hb dX6_heardOf_31 rfl (lv_at hl 3 rfl) ?_
              refine lv_iadd hx hb dX6_heardOf_32 ?_
              obtain ⟨v4093, hv4093, h⟩ := ob h
              refine k_ld hx hb hK hP 2 0 rfl rfl hv4093 dX6_heardOf_33 ?_
              refine lv_aload_n hx hb dX6_heardOf_34 rfl (lv_at hl 0 rfl) ?_
              refine va_get (D := (dC, dI)) (ci := 6) (v := .ref a_m_d) (C := RX6) (T := TX6) (N := 15) hx hb hts in_X6 hown hK hP 0 rfl rfl 1 (by decide) f_13 (fun _ h9 => h9) rfl dX6_heardOf_35 ?_
              refine lv_iload_n hx hb dX6_heardOf_38 rfl (lv_at hl 1 rfl) ?_
              refine lv_iconst (v := (0 : Int32)) hx hb dX6_heardOf_39 (by decide) ?_
              refine lv_iadd hx hb dX6_heardOf_40 ?_
              refine lv_iload hx hb dX6_heardOf_41 (lv_at hl 4 rfl) ?_
              refine lv_iadd hx hb dX6_heardOf_43 ?_
              obtain ⟨v4094, hv4094, h⟩ := ob h
              refine k_ld hx hb hK hP 2 0 rfl rfl hv4094 dX6_heardOf_44 ?_
              refine lv_isub hx hb dX6_heardOf_45 ?_
              obtain ⟨r4095, hr4095, h⟩ := ob h
              refine k_Si (As := [.int (v4093 - v4094)]) (rest := [.int y2_17]) (c_X6_plain l dC dI cI cS n _ (v4093 - v4094) r4095 hr4095) (fun _ _ q => q) ⟨hx, hb, hml, hown, hts⟩ (va_cwS 1 hts gX6_heardOf_X6_plain rfl rfl rfl (by decide +kernel) ⟨(Nat.le_of_ble_eq_true rfl), (Nat.le_of_ble_eq_true rfl)⟩) hN hK hP hD hS hA rfl hl.1 rfl (Nat.le_of_ble_eq_true rfl) dX6_heardOf_46 ⟨(Nat.le_of_ble_eq_true rfl), (Nat.le_of_ble_eq_true rfl)⟩ (fun H locs hP hD hS => ?_)
              refine lv_aload_n hx hb dX6_heardOf_49 rfl (lv_at hl 0 rfl) ?_
              refine va_get (D := (dC, dI)) (ci := 6) (v := .ref a_m_w) (C := RX6) (T := TX6) (N := 15) hx hb hts in_X6 hown hK hP 0 rfl rfl 0 (by decide) f_7 (fun _ h9 => h9) rfl dX6_heardOf_50 ?_
              refine lv_bipush (v := (52 : Int32)) hx hb dX6_heardOf_53 (by decide) ?_
              obtain ⟨v4097, hv4097, h⟩ := ob h
              refine k_ld hx hb hK hP 1 0 rfl rfl hv4097 dX6_heardOf_55 ?_
              obtain ⟨j4098, hjj4098, h⟩ := ob h
              have Jj4098 : ∀ (H : Heap) (locs : List Loc), va_P (dC, dI) vwCl [(a_m, .inr (6, [.ref a_m_w, .ref a_m_d, .int m_undoes, .int m_kept, .ref a_m_text, .int m_texted, .int m_at, .ref a_m_numbers, .ref a_m_then, .ref a_m_leans, .int m_draws, .int m_drawn, .int m_heards, .ref a_m_heardSet, .ref a_m_heardSum])), (a_m_w, .inl (cI, 106, .inl m_w)), (a_m_d, .inl (cI, 216, .inl m_d))] H → va_D A [(a_m, .inr (6, [.ref a_m_w, .ref a_m_d, .int m_undoes, .int m_kept, .ref a_m_text, .int m_texted, .int m_at, .ref a_m_numbers, .ref a_m_then, .ref a_m_leans, .int m_draws, .int m_drawn, .int m_heards, .ref a_m_heardSet, .ref a_m_heardSum])), (a_m_w, .inl (cI, 106, .inl m_w)), (a_m_d, .inl (cI, 216, .inl m_d))] → va_S A s.heap H locs → ∀ ls : Array Slot, lv_has ls 5 [(0, .ref a_m), (1, .int x1), (2, .int y2_17), (3, .int y3_4), (4, .int y4_17)] → W p l e (headSpec wsX6_heardOf rm_X6_heardOf).room s m ([.ref a_m, .int x1] : List Value).toArray below meth c H locs 0 0 QQ (F0 m 64 ls [.int j4098, .int y2_17]) := by
                intro H locs hP hD hS ls hl
                refine lv_iadd hx hb dX6_heardOf_64 ?_
                refine lv_istore_n (lv' := [(2, .int (y2_17 + j4098)), (0, .ref a_m), (1, .int x1), (3, .int y3_4), (4, .int y4_17)]) hx hb dX6_heardOf_65 rfl hl (by decide) rfl (fun ls hl => ?_)
                refine lv_iinc (v := (y4_17 + (1 : Int32))) (lv' := [(4, .int (y4_17 + (1 : Int32))), (2, .int (y2_17 + j4098)), (0, .ref a_m), (1, .int x1), (3, .int y3_4)]) hx hb dX6_heardOf_66 hl (k := 4) rfl rfl (by decide) rfl (fun ls hl => ?_)
                refine lv_goto (tgt := 17) hx hb dX6_heardOf_69 (by decide) ?_
                exact ih _ _ h _ _ hP hD hS _ (lv_sub hl [2, 3, 1, 4, 0] rfl)
              refine lv_icmp_le (tgt := 63) hx hb dX6_heardOf_56 (by decide) (fun c_56 => ?_) (fun c_56 => ?_)
              · have h := (if_pos c_56).symm.trans hjj4098
                refine lv_iconst (v := (0 : Int32)) hx hb dX6_heardOf_63 (by decide) ?_
                obtain rfl := Option.some.inj h
                exact Jj4098 _ _ hP hD hS _ hl
              · have h := (if_neg c_56).symm.trans hjj4098
                refine lv_iconst (v := (1 : Int32)) hx hb dX6_heardOf_59 (by decide) ?_
                refine lv_goto (tgt := 64) hx hb dX6_heardOf_60 (by decide) ?_
                obtain rfl := Option.some.inj h
                exact Jj4098 _ _ hP hD hS _ hl
        exact K17 n y2_4 (0 : Int32) hjj4092 _ _ hP hD hS _ (lv_sub hl [1, 2, 3, 4, 0] rfl)
  exact K4 n (0 : Int32) (0 : Int32) hjj4076 _ _ hP hD hS _ (lv_sub hl [2, 3, 1, 0] rfl)
def rm_X6_minds : Room := { frames := 0, cells := 0, slots := 0, locals := 0 }
set_option maxRecDepth 100000 in
set_option maxHeartbeats 8000000 in
theorem c_X6_minds (l : Launch) (dC : Nat → ClassId) (dI : Nat → Nat → Nat) (cI cS : ClassId) (n sz : Nat) (a_m : Nat) (a_m_w : Nat) (a_m_d : Nat) (a_m_text : Nat) (a_m_numbers : Nat) (a_m_then : Nat) (a_m_leans : Nat) (a_m_heardSet : Nat) (a_m_heardSum : Nat) (m_d : Nat → Int32) (m_undoes : Int32) (m_kept : Int32) (m_texted : Int32) (m_at : Int32) (m_draws : Int32) (m_drawn : Int32) (m_heards : Int32) (res : Int32 × (Nat → Int32))  (h : F_X6_minds n m_d m_undoes = some res) : Met l yX6_minds wsX6_minds rm_X6_minds (va_Pc [.ref a_m] (PRE (dC, dI) vwCl [(cI, .int), (cS, .object "RoundOfTheA$State")] sz [(a_m, .inr (6, [.ref a_m_w, .ref a_m_d, .int m_undoes, .int m_kept, .ref a_m_text, .int m_texted, .int m_at, .ref a_m_numbers, .ref a_m_then, .ref a_m_leans, .int m_draws, .int m_drawn, .int m_heards, .ref a_m_heardSet, .ref a_m_heardSum])), (a_m_d, .inl (cI, 216, .inl m_d))])) (va_Qv (fun _ : Unit => True) (fun u t => POST (dC, dI) vwCl [(a_m, .inr (6, [.ref a_m_w, .ref a_m_d, .int res.1, .int m_kept, .ref a_m_text, .int m_texted, .int m_at, .ref a_m_numbers, .ref a_m_then, .ref a_m_leans, .int m_draws, .int m_drawn, .int m_heards, .ref a_m_heardSet, .ref a_m_heardSum])), (a_m_d, .inl (cI, 216, .inl res.2))] (va_A [(a_m, .inr (6, [.ref a_m_w, .ref a_m_d, .int m_undoes, .int m_kept, .ref a_m_text, .int m_texted, .int m_at, .ref a_m_numbers, .ref a_m_then, .ref a_m_leans, .int m_draws, .int m_drawn, .int m_heards, .ref a_m_heardSet, .ref a_m_heardSum])), (a_m_d, .inl (cI, 216, .inl m_d))] sz) t) (va_A [(a_m, .inr (6, [.ref a_m_w, .ref a_m_d, .int m_undoes, .int m_kept, .ref a_m_text, .int m_texted, .int m_at, .ref a_m_numbers, .ref a_m_then, .ref a_m_leans, .int m_draws, .int m_drawn, .int m_heards, .ref a_m_heardSet, .ref a_m_heardSum])), (a_m_d, .inl (cI, 216, .inl m_d))] sz)) 0 0 (va_A [(a_m, .inr (6, [.ref a_m_w, .ref a_m_d, .int m_undoes, .int m_kept, .ref a_m_text, .int m_texted, .int m_at, .ref a_m_numbers, .ref a_m_then, .ref a_m_leans, .int m_draws, .int m_drawn, .int m_heards, .ref a_m_heardSet, .ref a_m_heardSum])), (a_m_d, .inl (cI, 216, .inl m_d))] sz) := by
  refine Met.ofW (cc := cX6_minds) (maxL := 2) (ret := none) (by decide) rfl ?_
  intro p e s m args below meth c s₁ B hml hv
  obtain ⟨rfl, hsz, hN, hP, hK, hD0⟩ := hv
  have hx := B.exec
  have hb := B.bytes
  have hr := B.returns
  have hts := atoms_spec (ws := wsX6_minds) B.pre
  have hown : s.vm.findClass RX6 = some m.cls := findClass_of_methodNamed B.named
  have hlocks := B.notSynchronized
  subst hsz
  have hD := hD0.self (sz := s.heap.size)
  generalize hAe : va_A [(a_m, .inr (6, [.ref a_m_w, .ref a_m_d, .int m_undoes, .int m_kept, .ref a_m_text, .int m_texted, .int m_at, .ref a_m_numbers, .ref a_m_then, .ref a_m_leans, .int m_draws, .int m_drawn, .int m_heards, .ref a_m_heardSet, .ref a_m_heardSum])), (a_m_d, .inl (cI, 216, .inl m_d))] s.heap.size = A at hD ⊢
  have hA : ∀ q : Nat, s.heap.size ≤ q → A q := fun q h => by rw [← hAe]; exact Or.inr h
  have hS : va_S A s.heap s.heap [] := va_S.rf
  generalize hQe : MQ below _ _ s _ _ A = QQ
  have hl := lv_entry ([.ref a_m]) (n := 2) (Nat.le_of_ble_eq_true rfl)
  rw [lg_entry_eq]
  generalize (lg_sl ([.ref a_m]) ++ List.replicate (2 - (lg_sl ([.ref a_m])).length) Slot.unset).toArray = ls at hl ⊢
  have hl : lv_has ls 2 [(0, .ref a_m)] := hl
  have f_44 := hts (.fieldLink RX6 44 "RoundOfTheAModel" "undoes" "I") (by decide +kernel)
  have in_X6 := (by decide +kernel : ∀ w ∈ wsX60, w ∈ wsX6_minds)
  have f_13 := hts (.fieldLink RX6 13 "RoundOfTheAModel" "d" "[I") (by decide +kernel)
  rw [F_X6_minds] at h
  refine lv_aload_n hx hb dX6_minds_0 rfl (lv_at hl 0 rfl) ?_
  refine va_get (D := (dC, dI)) (ci := 6) (v := .int m_undoes) (C := RX6) (T := TX6) (N := 15) hx hb hts in_X6 hown hK hP 0 rfl rfl 2 (by decide) f_44 (fun _ h9 => h9) rfl dX6_minds_1 ?_
  refine lv_bipush (v := (8 : Int32)) hx hb dX6_minds_4 (by decide) ?_
  obtain ⟨j4136, hjj4136, h⟩ := ob h
  have Jj4136 : ∀ (H : Heap) (locs : List Loc), va_P (dC, dI) vwCl [(a_m, .inr (6, [.ref a_m_w, .ref a_m_d, .int j4136.1, .int m_kept, .ref a_m_text, .int m_texted, .int m_at, .ref a_m_numbers, .ref a_m_then, .ref a_m_leans, .int m_draws, .int m_drawn, .int m_heards, .ref a_m_heardSet, .ref a_m_heardSum])), (a_m_d, .inl (cI, 216, .inl j4136.2))] H → va_D A [(a_m, .inr (6, [.ref a_m_w, .ref a_m_d, .int j4136.1, .int m_kept, .ref a_m_text, .int m_texted, .int m_at, .ref a_m_numbers, .ref a_m_then, .ref a_m_leans, .int m_draws, .int m_drawn, .int m_heards, .ref a_m_heardSet, .ref a_m_heardSum])), (a_m_d, .inl (cI, 216, .inl j4136.2))] → va_S A s.heap H locs → ∀ ls : Array Slot, lv_has ls 2 [(0, .ref a_m)] → W p l e (headSpec wsX6_minds rm_X6_minds).room s m ([.ref a_m] : List Value).toArray below meth c H locs 0 0 QQ (F0 m 54 ls []) := by
    intro H locs hP hD hS ls hl
    refine lv_iconst (v := (0 : Int32)) hx hb dX6_minds_54 (by decide) ?_
    refine lv_istore_n (lv' := [(1, .int (0 : Int32)), (0, .ref a_m)]) hx hb dX6_minds_55 rfl hl (by decide) rfl (fun ls hl => ?_)
    obtain ⟨j4152, hjj4152, h⟩ := ob h
    have Jj4152 : ∀ (H : Heap) (locs : List Loc), va_P (dC, dI) vwCl [(a_m, .inr (6, [.ref a_m_w, .ref a_m_d, .int j4136.1, .int m_kept, .ref a_m_text, .int m_texted, .int m_at, .ref a_m_numbers, .ref a_m_then, .ref a_m_leans, .int m_draws, .int m_drawn, .int m_heards, .ref a_m_heardSet, .ref a_m_heardSum])), (a_m_d, .inl (cI, 216, .inl j4152.2))] H → va_D A [(a_m, .inr (6, [.ref a_m_w, .ref a_m_d, .int j4136.1, .int m_kept, .ref a_m_text, .int m_texted, .int m_at, .ref a_m_numbers, .ref a_m_then, .ref a_m_leans, .int m_draws, .int m_drawn, .int m_heards, .ref a_m_heardSet, .ref a_m_heardSum])), (a_m_d, .inl (cI, 216, .inl j4152.2))] → va_S A s.heap H locs → ∀ ls : Array Slot, lv_has ls 2 [(0, .ref a_m), (1, .int j4152.1)] → W p l e (headSpec wsX6_minds rm_X6_minds).room s m ([.ref a_m] : List Value).toArray below meth c H locs 0 0 QQ (F0 m 91 ls []) := by
      intro H locs hP hD hS ls hl
      refine lv_aload_n hx hb dX6_minds_91 rfl (lv_at hl 0 rfl) ?_
      refine lv_dup hx hb dX6_minds_92 rfl ?_
      refine va_get (D := (dC, dI)) (ci := 6) (v := .int j4136.1) (C := RX6) (T := TX6) (N := 15) hx hb hts in_X6 hown hK hP 0 rfl rfl 2 (by decide) f_44 (fun _ h9 => h9) rfl dX6_minds_93 ?_
      refine lv_iconst (v := (1 : Int32)) hx hb dX6_minds_96 (by decide) ?_
      refine lv_iadd hx hb dX6_minds_97 ?_
      refine va_put (D := (dC, dI)) (ci := 6) (v := .int (j4136.1 + (1 : Int32))) (ty := .int) (C := RX6) (T := TX6) (N := 15) hx hb hts in_X6 tyX6 tyX6_ok nmX6 hown hK hP hD hS 0 rfl rfl 2 (by decide) f_44 (fun _ h9 => h9) rfl (by decide +kernel) rfl rfl (Nat.le_of_ble_eq_true rfl) dX6_minds_98 (fun H locs hP hD hS => ?_)
      have hP : va_P (dC, dI) vwCl [(a_m, .inr (6, [.ref a_m_w, .ref a_m_d, .int (j4136.1 + (1 : Int32)), .int m_kept, .ref a_m_text, .int m_texted, .int m_at, .ref a_m_numbers, .ref a_m_then, .ref a_m_leans, .int m_draws, .int m_drawn, .int m_heards, .ref a_m_heardSet, .ref a_m_heardSum])), (a_m_d, .inl (cI, 216, .inl j4152.2))] H := hP
      have hD : va_D A [(a_m, .inr (6, [.ref a_m_w, .ref a_m_d, .int (j4136.1 + (1 : Int32)), .int m_kept, .ref a_m_text, .int m_texted, .int m_at, .ref a_m_numbers, .ref a_m_then, .ref a_m_leans, .int m_draws, .int m_drawn, .int m_heards, .ref a_m_heardSet, .ref a_m_heardSum])), (a_m_d, .inl (cI, 216, .inl j4152.2))] := hD
      obtain rfl := Option.some.inj h
      subst hQe
      exact W.vret hx hb hr (fun t ht hW => ⟨⟨(), rfl, trivial, ⟨by rw [ht]; exact hP, hD⟩⟩, hS.F ht⟩) hS.2.2 dX6_minds_101
    have K56 : ∀ (k : Nat) (y1_56 : Int32) (m_dv_56 : Nat → Int32), L_X6_minds_56 j4136 k y1_56 m_dv_56 = some j4152 → ∀ (H : Heap) (locs : List Loc), va_P (dC, dI) vwCl [(a_m, .inr (6, [.ref a_m_w, .ref a_m_d, .int j4136.1, .int m_kept, .ref a_m_text, .int m_texted, .int m_at, .ref a_m_numbers, .ref a_m_then, .ref a_m_leans, .int m_draws, .int m_drawn, .int m_heards, .ref a_m_heardSet, .ref a_m_heardSum])), (a_m_d, .inl (cI, 216, .inl m_dv_56))] H → va_D A [(a_m, .inr (6, [.ref a_m_w, .ref a_m_d, .int j4136.1, .int m_kept, .ref a_m_text, .int m_texted, .int m_at, .ref a_m_numbers, .ref a_m_then, .ref a_m_leans, .int m_draws, .int m_drawn, .int m_heards, .ref a_m_heardSet, .ref a_m_heardSum])), (a_m_d, .inl (cI, 216, .inl m_dv_56))] → va_S A s.heap H locs → ∀ ls : Array Slot, lv_has ls 2 [(0, .ref a_m), (1, .int y1_56)] → W p l e (headSpec wsX6_minds rm_X6_minds).room s m ([.ref a_m] : List Value).toArray below meth c H locs 0 0 QQ (F0 m 56 ls []) := by
      intro k
      induction k with
      | zero =>
        intro y1_56 m_dv_56 h
        rw [L_X6_minds_56] at h
        cases h
      | succ k ih =>
        intro y1_56 m_dv_56 h H locs hP hD hS ls hl
        rw [L_X6_minds_56] at h
        refine lv_iload_n hx hb dX6_minds_56 rfl (lv_at hl 1 rfl) ?_
        refine lv_bipush (v := (18 : Int32)) hx hb dX6_minds_57 (by decide) ?_
        refine lv_icmp_ge (tgt := 91) hx hb dX6_minds_59 (by decide) (fun c_59 => ?_) (fun c_59 => ?_)
        · have h := (if_pos c_59).symm.trans h
          obtain rfl := Option.some.inj h
          exact Jj4152 _ _ hP hD hS _ hl
        · have h := (if_neg c_59).symm.trans h
          refine lv_aload_n hx hb dX6_minds_62 rfl (lv_at hl 0 rfl) ?_
          refine va_get (D := (dC, dI)) (ci := 6) (v := .ref a_m_d) (C := RX6) (T := TX6) (N := 15) hx hb hts in_X6 hown hK hP 0 rfl rfl 1 (by decide) f_13 (fun _ h9 => h9) rfl dX6_minds_63 ?_
          refine lv_bipush (v := (54 : Int32)) hx hb dX6_minds_66 (by decide) ?_
          refine lv_bipush (v := (18 : Int32)) hx hb dX6_minds_68 (by decide) ?_
          refine lv_aload_n hx hb dX6_minds_70 rfl (lv_at hl 0 rfl) ?_
          refine va_get (D := (dC, dI)) (ci := 6) (v := .int j4136.1) (C := RX6) (T := TX6) (N := 15) hx hb hts in_X6 hown hK hP 0 rfl rfl 2 (by decide) f_44 (fun _ h9 => h9) rfl dX6_minds_71 ?_
          refine lv_imul hx hb dX6_minds_74 ?_
          refine lv_iadd hx hb dX6_minds_75 ?_
          refine lv_iload_n hx hb dX6_minds_76 rfl (lv_at hl 1 rfl) ?_
          refine lv_iadd hx hb dX6_minds_77 ?_
          refine lv_aload_n hx hb dX6_minds_78 rfl (lv_at hl 0 rfl) ?_
          refine va_get (D := (dC, dI)) (ci := 6) (v := .ref a_m_d) (C := RX6) (T := TX6) (N := 15) hx hb hts in_X6 hown hK hP 0 rfl rfl 1 (by decide) f_13 (fun _ h9 => h9) rfl dX6_minds_79 ?_
          refine lv_iload_n hx hb dX6_minds_82 rfl (lv_at hl 1 rfl) ?_
          obtain ⟨v4153, hv4153, h⟩ := ob h
          refine k_ld hx hb hK hP 1 0 rfl rfl hv4153 dX6_minds_83 ?_
          obtain ⟨g4154, hg4154, h⟩ := ob h
          refine k_st hx hb hK hP hD hS 1 0 rfl rfl hg4154 dX6_minds_84 (ws' := [(a_m, .inr (6, [.ref a_m_w, .ref a_m_d, .int j4136.1, .int m_kept, .ref a_m_text, .int m_texted, .int m_at, .ref a_m_numbers, .ref a_m_then, .ref a_m_leans, .int m_draws, .int m_drawn, .int m_heards, .ref a_m_heardSet, .ref a_m_heardSum])), (a_m_d, .inl (cI, 216, .inl g4154))]) rfl (fun H locs hP hD hS => ?_)
          refine lv_iinc (v := (y1_56 + (1 : Int32))) (lv' := [(1, .int (y1_56 + (1 : Int32))), (0, .ref a_m)]) hx hb dX6_minds_85 hl (k := 1) rfl rfl (by decide) rfl (fun ls hl => ?_)
          refine lv_goto (tgt := 56) hx hb dX6_minds_88 (by decide) ?_
          exact ih _ _ h _ _ hP hD hS _ (lv_sub hl [1, 0] rfl)
    exact K56 n (0 : Int32) j4136.2 hjj4152 _ _ hP hD hS _ (lv_sub hl [1, 0] rfl)
  refine lv_icmp_ne (tgt := 54) hx hb dX6_minds_6 (by decide) (fun c_6 => ?_) (fun c_6 => ?_)
  · have h := (if_neg c_6).symm.trans hjj4136
    obtain rfl := Option.some.inj h
    exact Jj4136 _ _ hP hD hS _ hl
  · have h := (if_pos c_6).symm.trans hjj4136
    refine lv_iconst (v := (0 : Int32)) hx hb dX6_minds_9 (by decide) ?_
    refine lv_istore_n (lv' := [(1, .int (0 : Int32)), (0, .ref a_m)]) hx hb dX6_minds_10 rfl hl (by decide) rfl (fun ls hl => ?_)
    obtain ⟨j4143, hjj4143, h⟩ := ob h
    have Jj4143 : ∀ (H : Heap) (locs : List Loc), va_P (dC, dI) vwCl [(a_m, .inr (6, [.ref a_m_w, .ref a_m_d, .int m_undoes, .int m_kept, .ref a_m_text, .int m_texted, .int m_at, .ref a_m_numbers, .ref a_m_then, .ref a_m_leans, .int m_draws, .int m_drawn, .int m_heards, .ref a_m_heardSet, .ref a_m_heardSum])), (a_m_d, .inl (cI, 216, .inl j4143.2))] H → va_D A [(a_m, .inr (6, [.ref a_m_w, .ref a_m_d, .int m_undoes, .int m_kept, .ref a_m_text, .int m_texted, .int m_at, .ref a_m_numbers, .ref a_m_then, .ref a_m_leans, .int m_draws, .int m_drawn, .int m_heards, .ref a_m_heardSet, .ref a_m_heardSum])), (a_m_d, .inl (cI, 216, .inl j4143.2))] → va_S A s.heap H locs → ∀ ls : Array Slot, lv_has ls 2 [(0, .ref a_m), (1, .int j4143.1)] → W p l e (headSpec wsX6_minds rm_X6_minds).room s m ([.ref a_m] : List Value).toArray below meth c H locs 0 0 QQ (F0 m 44 ls []) := by
      intro H locs hP hD hS ls hl
      refine lv_aload_n hx hb dX6_minds_44 rfl (lv_at hl 0 rfl) ?_
      refine lv_dup hx hb dX6_minds_45 rfl ?_
      refine va_get (D := (dC, dI)) (ci := 6) (v := .int m_undoes) (C := RX6) (T := TX6) (N := 15) hx hb hts in_X6 hown hK hP 0 rfl rfl 2 (by decide) f_44 (fun _ h9 => h9) rfl dX6_minds_46 ?_
      refine lv_iconst (v := (1 : Int32)) hx hb dX6_minds_49 (by decide) ?_
      refine lv_isub hx hb dX6_minds_50 ?_
      refine va_put (D := (dC, dI)) (ci := 6) (v := .int (m_undoes - (1 : Int32))) (ty := .int) (C := RX6) (T := TX6) (N := 15) hx hb hts in_X6 tyX6 tyX6_ok nmX6 hown hK hP hD hS 0 rfl rfl 2 (by decide) f_44 (fun _ h9 => h9) rfl (by decide +kernel) rfl rfl (Nat.le_of_ble_eq_true rfl) dX6_minds_51 (fun H locs hP hD hS => ?_)
      have hP : va_P (dC, dI) vwCl [(a_m, .inr (6, [.ref a_m_w, .ref a_m_d, .int (m_undoes - (1 : Int32)), .int m_kept, .ref a_m_text, .int m_texted, .int m_at, .ref a_m_numbers, .ref a_m_then, .ref a_m_leans, .int m_draws, .int m_drawn, .int m_heards, .ref a_m_heardSet, .ref a_m_heardSum])), (a_m_d, .inl (cI, 216, .inl j4143.2))] H := hP
      have hD : va_D A [(a_m, .inr (6, [.ref a_m_w, .ref a_m_d, .int (m_undoes - (1 : Int32)), .int m_kept, .ref a_m_text, .int m_texted, .int m_at, .ref a_m_numbers, .ref a_m_then, .ref a_m_leans, .int m_draws, .int m_drawn, .int m_heards, .ref a_m_heardSet, .ref a_m_heardSum])), (a_m_d, .inl (cI, 216, .inl j4143.2))] := hD
      obtain rfl := Option.some.inj h
      exact Jj4136 _ _ hP hD hS _ (lv_sub hl [0] rfl)
    have K11 : ∀ (k : Nat) (y1_11 : Int32) (m_dv_11 : Nat → Int32), L_X6_minds_11 k y1_11 m_dv_11 = some j4143 → ∀ (H : Heap) (locs : List Loc), va_P (dC, dI) vwCl [(a_m, .inr (6, [.ref a_m_w, .ref a_m_d, .int m_undoes, .int m_kept, .ref a_m_text, .int m_texted, .int m_at, .ref a_m_numbers, .ref a_m_then, .ref a_m_leans, .int m_draws, .int m_drawn, .int m_heards, .ref a_m_heardSet, .ref a_m_heardSum])), (a_m_d, .inl (cI, 216, .inl m_dv_11))] H → va_D A [(a_m, .inr (6, [.ref a_m_w, .ref a_m_d, .int m_undoes, .int m_kept, .ref a_m_text, .int m_texted, .int m_at, .ref a_m_numbers, .ref a_m_then, .ref a_m_leans, .int m_draws, .int m_drawn, .int m_heards, .ref a_m_heardSet, .ref a_m_heardSum])), (a_m_d, .inl (cI, 216, .inl m_dv_11))] → va_S A s.heap H locs → ∀ ls : Array Slot, lv_has ls 2 [(0, .ref a_m), (1, .int y1_11)] → W p l e (headSpec wsX6_minds rm_X6_minds).room s m ([.ref a_m] : List Value).toArray below meth c H locs 0 0 QQ (F0 m 11 ls []) := by
      intro k
      induction k with
      | zero =>
        intro y1_11 m_dv_11 h
        rw [L_X6_minds_11] at h
        cases h
      | succ k ih =>
        intro y1_11 m_dv_11 h H locs hP hD hS ls hl
        rw [L_X6_minds_11] at h
        refine lv_iload_n hx hb dX6_minds_11 rfl (lv_at hl 1 rfl) ?_
        refine lv_bipush (v := (126 : Int32)) hx hb dX6_minds_12 (by decide) ?_
        refine lv_icmp_ge (tgt := 44) hx hb dX6_minds_14 (by decide) (fun c_14 => ?_) (fun c_14 => ?_)
        · have h := (if_pos c_14).symm.trans h
          obtain rfl := Option.some.inj h
          exact Jj4143 _ _ hP hD hS _ hl
        · have h := (if_neg c_14).symm.trans h
          refine lv_aload_n hx hb dX6_minds_17 rfl (lv_at hl 0 rfl) ?_
          refine va_get (D := (dC, dI)) (ci := 6) (v := .ref a_m_d) (C := RX6) (T := TX6) (N := 15) hx hb hts in_X6 hown hK hP 0 rfl rfl 1 (by decide) f_13 (fun _ h9 => h9) rfl dX6_minds_18 ?_
          refine lv_bipush (v := (54 : Int32)) hx hb dX6_minds_21 (by decide) ?_
          refine lv_iload_n hx hb dX6_minds_23 rfl (lv_at hl 1 rfl) ?_
          refine lv_iadd hx hb dX6_minds_24 ?_
          refine lv_aload_n hx hb dX6_minds_25 rfl (lv_at hl 0 rfl) ?_
          refine va_get (D := (dC, dI)) (ci := 6) (v := .ref a_m_d) (C := RX6) (T := TX6) (N := 15) hx hb hts in_X6 hown hK hP 0 rfl rfl 1 (by decide) f_13 (fun _ h9 => h9) rfl dX6_minds_26 ?_
          refine lv_bipush (v := (54 : Int32)) hx hb dX6_minds_29 (by decide) ?_
          refine lv_iload_n hx hb dX6_minds_31 rfl (lv_at hl 1 rfl) ?_
          refine lv_iadd hx hb dX6_minds_32 ?_
          refine lv_bipush (v := (18 : Int32)) hx hb dX6_minds_33 (by decide) ?_
          refine lv_iadd hx hb dX6_minds_35 ?_
          obtain ⟨v4144, hv4144, h⟩ := ob h
          refine k_ld hx hb hK hP 1 0 rfl rfl hv4144 dX6_minds_36 ?_
          obtain ⟨g4145, hg4145, h⟩ := ob h
          refine k_st hx hb hK hP hD hS 1 0 rfl rfl hg4145 dX6_minds_37 (ws' := [(a_m, .inr (6, [.ref a_m_w, .ref a_m_d, .int m_undoes, .int m_kept, .ref a_m_text, .int m_texted, .int m_at, .ref a_m_numbers, .ref a_m_then, .ref a_m_leans, .int m_draws, .int m_drawn, .int m_heards, .ref a_m_heardSet, .ref a_m_heardSum])), (a_m_d, .inl (cI, 216, .inl g4145))]) rfl (fun H locs hP hD hS => ?_)
          refine lv_iinc (v := (y1_11 + (1 : Int32))) (lv' := [(1, .int (y1_11 + (1 : Int32))), (0, .ref a_m)]) hx hb dX6_minds_38 hl (k := 1) rfl rfl (by decide) rfl (fun ls hl => ?_)
          refine lv_goto (tgt := 11) hx hb dX6_minds_41 (by decide) ?_
          exact ih _ _ h _ _ hP hD hS _ (lv_sub hl [1, 0] rfl)
    exact K11 n (0 : Int32) m_d hjj4143 _ _ hP hD hS _ (lv_sub hl [1, 0] rfl)
def rm_X6_stays : Room := { frames := 0, cells := 0, slots := 0, locals := 0 }
set_option maxRecDepth 100000 in
set_option maxHeartbeats 8000000 in
theorem c_X6_stays (l : Launch) (dC : Nat → ClassId) (dI : Nat → Nat → Nat) (cI cS : ClassId) (n sz : Nat) (a_m : Nat) (a_m_w : Nat) (a_m_d : Nat) (a_m_text : Nat) (a_m_numbers : Nat) (a_m_then : Nat) (a_m_leans : Nat) (a_m_heardSet : Nat) (a_m_heardSum : Nat) (m_d : Nat → Int32) (m_undoes : Int32) (m_kept : Int32) (m_texted : Int32) (m_at : Int32) (m_draws : Int32) (m_drawn : Int32) (m_heards : Int32) (res : (Nat → Int32))  (h : F_X6_stays n m_d = some res) : Met l yX6_stays wsX6_stays rm_X6_stays (va_Pc [.ref a_m] (PRE (dC, dI) vwCl [(cI, .int), (cS, .object "RoundOfTheA$State")] sz [(a_m, .inr (6, [.ref a_m_w, .ref a_m_d, .int m_undoes, .int m_kept, .ref a_m_text, .int m_texted, .int m_at, .ref a_m_numbers, .ref a_m_then, .ref a_m_leans, .int m_draws, .int m_drawn, .int m_heards, .ref a_m_heardSet, .ref a_m_heardSum])), (a_m_d, .inl (cI, 216, .inl m_d))])) (va_Qv (fun _ : Unit => True) (fun u t => POST (dC, dI) vwCl [(a_m, .inr (6, [.ref a_m_w, .ref a_m_d, .int m_undoes, .int m_kept, .ref a_m_text, .int m_texted, .int m_at, .ref a_m_numbers, .ref a_m_then, .ref a_m_leans, .int m_draws, .int m_drawn, .int m_heards, .ref a_m_heardSet, .ref a_m_heardSum])), (a_m_d, .inl (cI, 216, .inl res))] (va_A [(a_m, .inr (6, [.ref a_m_w, .ref a_m_d, .int m_undoes, .int m_kept, .ref a_m_text, .int m_texted, .int m_at, .ref a_m_numbers, .ref a_m_then, .ref a_m_leans, .int m_draws, .int m_drawn, .int m_heards, .ref a_m_heardSet, .ref a_m_heardSum])), (a_m_d, .inl (cI, 216, .inl m_d))] sz) t) (va_A [(a_m, .inr (6, [.ref a_m_w, .ref a_m_d, .int m_undoes, .int m_kept, .ref a_m_text, .int m_texted, .int m_at, .ref a_m_numbers, .ref a_m_then, .ref a_m_leans, .int m_draws, .int m_drawn, .int m_heards, .ref a_m_heardSet, .ref a_m_heardSum])), (a_m_d, .inl (cI, 216, .inl m_d))] sz)) 0 0 (va_A [(a_m, .inr (6, [.ref a_m_w, .ref a_m_d, .int m_undoes, .int m_kept, .ref a_m_text, .int m_texted, .int m_at, .ref a_m_numbers, .ref a_m_then, .ref a_m_leans, .int m_draws, .int m_drawn, .int m_heards, .ref a_m_heardSet, .ref a_m_heardSum])), (a_m_d, .inl (cI, 216, .inl m_d))] sz) := by
  refine Met.ofW (cc := cX6_stays) (maxL := 2) (ret := none) (by decide) rfl ?_
  intro p e s m args below meth c s₁ B hml hv
  obtain ⟨rfl, hsz, hN, hP, hK, hD0⟩ := hv
  have hx := B.exec
  have hb := B.bytes
  have hr := B.returns
  have hts := atoms_spec (ws := wsX6_stays) B.pre
  have hown : s.vm.findClass RX6 = some m.cls := findClass_of_methodNamed B.named
  have hlocks := B.notSynchronized
  subst hsz
  have hD := hD0.self (sz := s.heap.size)
  generalize hAe : va_A [(a_m, .inr (6, [.ref a_m_w, .ref a_m_d, .int m_undoes, .int m_kept, .ref a_m_text, .int m_texted, .int m_at, .ref a_m_numbers, .ref a_m_then, .ref a_m_leans, .int m_draws, .int m_drawn, .int m_heards, .ref a_m_heardSet, .ref a_m_heardSum])), (a_m_d, .inl (cI, 216, .inl m_d))] s.heap.size = A at hD ⊢
  have hA : ∀ q : Nat, s.heap.size ≤ q → A q := fun q h => by rw [← hAe]; exact Or.inr h
  have hS : va_S A s.heap s.heap [] := va_S.rf
  generalize hQe : MQ below _ _ s _ _ A = QQ
  have hl := lv_entry ([.ref a_m]) (n := 2) (Nat.le_of_ble_eq_true rfl)
  rw [lg_entry_eq]
  generalize (lg_sl ([.ref a_m]) ++ List.replicate (2 - (lg_sl ([.ref a_m])).length) Slot.unset).toArray = ls at hl ⊢
  have hl : lv_has ls 2 [(0, .ref a_m)] := hl
  have f_13 := hts (.fieldLink RX6 13 "RoundOfTheAModel" "d" "[I") (by decide +kernel)
  have in_X6 := (by decide +kernel : ∀ w ∈ wsX60, w ∈ wsX6_stays)
  rw [F_X6_stays] at h
  refine lv_iconst (v := (0 : Int32)) hx hb dX6_stays_0 (by decide) ?_
  refine lv_istore_n (lv' := [(1, .int (0 : Int32)), (0, .ref a_m)]) hx hb dX6_stays_1 rfl hl (by decide) rfl (fun ls hl => ?_)
  obtain ⟨j4170, hjj4170, h⟩ := ob h
  have Jj4170 : ∀ (H : Heap) (locs : List Loc), va_P (dC, dI) vwCl [(a_m, .inr (6, [.ref a_m_w, .ref a_m_d, .int m_undoes, .int m_kept, .ref a_m_text, .int m_texted, .int m_at, .ref a_m_numbers, .ref a_m_then, .ref a_m_leans, .int m_draws, .int m_drawn, .int m_heards, .ref a_m_heardSet, .ref a_m_heardSum])), (a_m_d, .inl (cI, 216, .inl j4170.2))] H → va_D A [(a_m, .inr (6, [.ref a_m_w, .ref a_m_d, .int m_undoes, .int m_kept, .ref a_m_text, .int m_texted, .int m_at, .ref a_m_numbers, .ref a_m_then, .ref a_m_leans, .int m_draws, .int m_drawn, .int m_heards, .ref a_m_heardSet, .ref a_m_heardSum])), (a_m_d, .inl (cI, 216, .inl j4170.2))] → va_S A s.heap H locs → ∀ ls : Array Slot, lv_has ls 2 [(0, .ref a_m), (1, .int j4170.1)] → W p l e (headSpec wsX6_stays rm_X6_stays).room s m ([.ref a_m] : List Value).toArray below meth c H locs 0 0 QQ (F0 m 30 ls []) := by
    intro H locs hP hD hS ls hl
    obtain rfl := Option.some.inj h
    subst hQe
    exact W.vret hx hb hr (fun t ht hW => ⟨⟨(), rfl, trivial, ⟨by rw [ht]; exact hP, hD⟩⟩, hS.F ht⟩) hS.2.2 dX6_stays_30
  have K2 : ∀ (k : Nat) (y1_2 : Int32) (m_dv_2 : Nat → Int32), L_X6_stays_2 k y1_2 m_dv_2 = some j4170 → ∀ (H : Heap) (locs : List Loc), va_P (dC, dI) vwCl [(a_m, .inr (6, [.ref a_m_w, .ref a_m_d, .int m_undoes, .int m_kept, .ref a_m_text, .int m_texted, .int m_at, .ref a_m_numbers, .ref a_m_then, .ref a_m_leans, .int m_draws, .int m_drawn, .int m_heards, .ref a_m_heardSet, .ref a_m_heardSum])), (a_m_d, .inl (cI, 216, .inl m_dv_2))] H → va_D A [(a_m, .inr (6, [.ref a_m_w, .ref a_m_d, .int m_undoes, .int m_kept, .ref a_m_text, .int m_texted, .int m_at, .ref a_m_numbers, .ref a_m_then, .ref a_m_leans, .int m_draws, .int m_drawn, .int m_heards, .ref a_m_heardSet, .ref a_m_heardSum])), (a_m_d, .inl (cI, 216, .inl m_dv_2))] → va_S A s.heap H locs → ∀ ls : Array Slot, lv_has ls 2 [(0, .ref a_m), (1, .int y1_2)] → W p l e (headSpec wsX6_stays rm_X6_stays).room s m ([.ref a_m] : List Value).toArray below meth c H locs 0 0 QQ (F0 m 2 ls []) := by
    intro k
    induction k with
    | zero =>
      intro y1_2 m_dv_2 h
      rw [L_X6_stays_2] at h
      cases h
    | succ k ih =>
      intro y1_2 m_dv_2 h H locs hP hD hS ls hl
      rw [L_X6_stays_2] at h
      refine lv_iload_n hx hb dX6_stays_2 rfl (lv_at hl 1 rfl) ?_
      refine lv_bipush (v := (18 : Int32)) hx hb dX6_stays_3 (by decide) ?_
      refine lv_icmp_ge (tgt := 30) hx hb dX6_stays_5 (by decide) (fun c_5 => ?_) (fun c_5 => ?_)
      · have h := (if_pos c_5).symm.trans h
        obtain rfl := Option.some.inj h
        exact Jj4170 _ _ hP hD hS _ hl
      · have h := (if_neg c_5).symm.trans h
        refine lv_aload_n hx hb dX6_stays_8 rfl (lv_at hl 0 rfl) ?_
        refine va_get (D := (dC, dI)) (ci := 6) (v := .ref a_m_d) (C := RX6) (T := TX6) (N := 15) hx hb hts in_X6 hown hK hP 0 rfl rfl 1 (by decide) f_13 (fun _ h9 => h9) rfl dX6_stays_9 ?_
        refine lv_iload_n hx hb dX6_stays_12 rfl (lv_at hl 1 rfl) ?_
        refine lv_aload_n hx hb dX6_stays_13 rfl (lv_at hl 0 rfl) ?_
        refine va_get (D := (dC, dI)) (ci := 6) (v := .ref a_m_d) (C := RX6) (T := TX6) (N := 15) hx hb hts in_X6 hown hK hP 0 rfl rfl 1 (by decide) f_13 (fun _ h9 => h9) rfl dX6_stays_14 ?_
        refine lv_sipush (v := (198 : Int32)) hx hb dX6_stays_17 (by decide) ?_
        refine lv_iload_n hx hb dX6_stays_20 rfl (lv_at hl 1 rfl) ?_
        refine lv_iadd hx hb dX6_stays_21 ?_
        obtain ⟨v4171, hv4171, h⟩ := ob h
        refine k_ld hx hb hK hP 1 0 rfl rfl hv4171 dX6_stays_22 ?_
        obtain ⟨g4172, hg4172, h⟩ := ob h
        refine k_st hx hb hK hP hD hS 1 0 rfl rfl hg4172 dX6_stays_23 (ws' := [(a_m, .inr (6, [.ref a_m_w, .ref a_m_d, .int m_undoes, .int m_kept, .ref a_m_text, .int m_texted, .int m_at, .ref a_m_numbers, .ref a_m_then, .ref a_m_leans, .int m_draws, .int m_drawn, .int m_heards, .ref a_m_heardSet, .ref a_m_heardSum])), (a_m_d, .inl (cI, 216, .inl g4172))]) rfl (fun H locs hP hD hS => ?_)
        refine lv_iinc (v := (y1_2 + (1 : Int32))) (lv' := [(1, .int (y1_2 + (1 : Int32))), (0, .ref a_m)]) hx hb dX6_stays_24 hl (k := 1) rfl rfl (by decide) rfl (fun ls hl => ?_)
        refine lv_goto (tgt := 2) hx hb dX6_stays_27 (by decide) ?_
        exact ih _ _ h _ _ hP hD hS _ (lv_sub hl [1, 0] rfl)
  exact K2 n (0 : Int32) m_d hjj4170 _ _ hP hD hS _ (lv_sub hl [1, 0] rfl)
def rm_X6_tune : Room := { frames := 4, cells := 0, slots := 0, locals := 93 }
set_option maxRecDepth 100000 in
set_option maxHeartbeats 8000000 in
theorem c_X6_tune (l : Launch) (dC : Nat → ClassId) (dI : Nat → Nat → Nat) (cI cS : ClassId) (n sz : Nat) (a_m : Nat) (a_m_w : Nat) (a_m_d : Nat) (a_m_text : Nat) (a_m_numbers : Nat) (a_m_then : Nat) (a_m_leans : Nat) (a_m_heardSet : Nat) (a_m_heardSum : Nat) (m_w : Nat → Int32) (m_d : Nat → Int32) (m_undoes : Int32) (m_kept : Int32) (m_texted : Int32) (m_at : Int32) (m_then : Nat → Int32) (m_leans : Nat → Int32) (m_draws : Int32) (m_drawn : Int32) (m_heards : Int32) (x1 : Int32) (res : Int32 × Int32 × Int32 × Int32 × (Nat → Int32) × (Nat → Int32) × (Nat → Int32))  (h : F_X6_tune n m_w m_d m_undoes m_then m_leans m_draws m_drawn x1 = some res) : Met l yX6_tune wsX6_tune rm_X6_tune (va_Pc [.ref a_m, .int x1] (PRE (dC, dI) vwCl [(cI, .int), (cS, .object "RoundOfTheA$State")] sz [(a_m, .inr (6, [.ref a_m_w, .ref a_m_d, .int m_undoes, .int m_kept, .ref a_m_text, .int m_texted, .int m_at, .ref a_m_numbers, .ref a_m_then, .ref a_m_leans, .int m_draws, .int m_drawn, .int m_heards, .ref a_m_heardSet, .ref a_m_heardSum])), (a_m_w, .inl (cI, 106, .inl m_w)), (a_m_d, .inl (cI, 216, .inl m_d)), (a_m_then, .inl (cI, 8, .inl m_then)), (a_m_leans, .inl (cI, 8, .inl m_leans))])) (va_Qi (fun (r : Int32) (_ : Unit) => r = res.1) (fun u t => POST (dC, dI) vwCl [(a_m, .inr (6, [.ref a_m_w, .ref a_m_d, .int res.2.1, .int m_kept, .ref a_m_text, .int m_texted, .int m_at, .ref a_m_numbers, .ref a_m_then, .ref a_m_leans, .int res.2.2.1, .int res.2.2.2.1, .int m_heards, .ref a_m_heardSet, .ref a_m_heardSum])), (a_m_w, .inl (cI, 106, .inl m_w)), (a_m_d, .inl (cI, 216, .inl res.2.2.2.2.1)), (a_m_then, .inl (cI, 8, .inl res.2.2.2.2.2.1)), (a_m_leans, .inl (cI, 8, .inl res.2.2.2.2.2.2))] (va_A [(a_m, .inr (6, [.ref a_m_w, .ref a_m_d, .int m_undoes, .int m_kept, .ref a_m_text, .int m_texted, .int m_at, .ref a_m_numbers, .ref a_m_then, .ref a_m_leans, .int m_draws, .int m_drawn, .int m_heards, .ref a_m_heardSet, .ref a_m_heardSum])), (a_m_w, .inl (cI, 106, .inl m_w)), (a_m_d, .inl (cI, 216, .inl m_d)), (a_m_then, .inl (cI, 8, .inl m_then)), (a_m_leans, .inl (cI, 8, .inl m_leans))] sz) t) (va_A [(a_m, .inr (6, [.ref a_m_w, .ref a_m_d, .int m_undoes, .int m_kept, .ref a_m_text, .int m_texted, .int m_at, .ref a_m_numbers, .ref a_m_then, .ref a_m_leans, .int m_draws, .int m_drawn, .int m_heards, .ref a_m_heardSet, .ref a_m_heardSum])), (a_m_w, .inl (cI, 106, .inl m_w)), (a_m_d, .inl (cI, 216, .inl m_d)), (a_m_then, .inl (cI, 8, .inl m_then)), (a_m_leans, .inl (cI, 8, .inl m_leans))] sz)) 0 0 (va_A [(a_m, .inr (6, [.ref a_m_w, .ref a_m_d, .int m_undoes, .int m_kept, .ref a_m_text, .int m_texted, .int m_at, .ref a_m_numbers, .ref a_m_then, .ref a_m_leans, .int m_draws, .int m_drawn, .int m_heards, .ref a_m_heardSet, .ref a_m_heardSum])), (a_m_w, .inl (cI, 106, .inl m_w)), (a_m_d, .inl (cI, 216, .inl m_d)), (a_m_then, .inl (cI, 8, .inl m_then)), (a_m_leans, .inl (cI, 8, .inl m_leans))] sz) := by
  refine Met.ofW (cc := cX6_tune) (maxL := 3) (ret := (some .int)) (by decide) rfl ?_
  intro p e s m args below meth c s₁ B hml hv
  obtain ⟨rfl, hsz, hN, hP, hK, hD0⟩ := hv
  have hx := B.exec
  have hb := B.bytes
  have hr := B.returns
  have hts := atoms_spec (ws := wsX6_tune) B.pre
  have hown : s.vm.findClass RX6 = some m.cls := findClass_of_methodNamed B.named
  have hlocks := B.notSynchronized
  subst hsz
  have hD := hD0.self (sz := s.heap.size)
  generalize hAe : va_A [(a_m, .inr (6, [.ref a_m_w, .ref a_m_d, .int m_undoes, .int m_kept, .ref a_m_text, .int m_texted, .int m_at, .ref a_m_numbers, .ref a_m_then, .ref a_m_leans, .int m_draws, .int m_drawn, .int m_heards, .ref a_m_heardSet, .ref a_m_heardSum])), (a_m_w, .inl (cI, 106, .inl m_w)), (a_m_d, .inl (cI, 216, .inl m_d)), (a_m_then, .inl (cI, 8, .inl m_then)), (a_m_leans, .inl (cI, 8, .inl m_leans))] s.heap.size = A at hD ⊢
  have hA : ∀ q : Nat, s.heap.size ≤ q → A q := fun q h => by rw [← hAe]; exact Or.inr h
  have hS : va_S A s.heap s.heap [] := va_S.rf
  generalize hQe : MQ below _ _ s _ _ A = QQ
  have hl := lv_entry ([.ref a_m, .int x1]) (n := 3) (Nat.le_of_ble_eq_true rfl)
  rw [lg_entry_eq]
  generalize (lg_sl ([.ref a_m, .int x1]) ++ List.replicate (3 - (lg_sl ([.ref a_m, .int x1])).length) Slot.unset).toArray = ls at hl ⊢
  have hl : lv_has ls 3 [(0, .ref a_m), (1, .int x1)] := hl
  rw [F_X6_tune] at h
  refine lv_aload_n hx hb dX6_tune_0 rfl (lv_at hl 0 rfl) ?_
  refine lv_iload_n hx hb dX6_tune_1 rfl (lv_at hl 1 rfl) ?_
  obtain ⟨r4185, hr4185, h⟩ := ob h
  refine k_Vi (As := [.int x1]) (rest := []) (wr := [(a_m_d, .inl (cI, 216, .inl m_d)), (a_m_then, .inl (cI, 8, .inl m_then)), (a_m_leans, .inl (cI, 8, .inl m_leans))]) (c_X6_isSet l dC dI cI cS n _ a_m a_m_w a_m_d a_m_text a_m_numbers a_m_then a_m_leans a_m_heardSet a_m_heardSum m_w m_undoes m_kept m_texted m_at m_draws m_drawn m_heards x1 r4185 hr4185) (fun _ _ q => q) ⟨hx, hb, hml, hown, hts⟩ (cwV 1 hts gX6_tune_X6_isSet rfl rfl rfl (by decide +kernel) ⟨(Nat.le_of_ble_eq_true rfl), (Nat.le_of_ble_eq_true rfl)⟩) hN hK hP hD hS hA [0, 1] [2, 3, 4] rfl rfl (by decide) (by decide) (by decide) rfl rfl rfl hl.1 rfl (Nat.le_of_ble_eq_true rfl) dX6_tune_2 ⟨(Nat.le_of_ble_eq_true rfl), (Nat.le_of_ble_eq_true rfl)⟩ (fun u4186 H locs _ hP hD hS => ?_)
  have hP : va_P (dC, dI) vwCl [(a_m_d, .inl (cI, 216, .inl m_d)), (a_m_then, .inl (cI, 8, .inl m_then)), (a_m_leans, .inl (cI, 8, .inl m_leans)), (a_m, .inr (6, [.ref a_m_w, .ref a_m_d, .int m_undoes, .int m_kept, .ref a_m_text, .int m_texted, .int m_at, .ref a_m_numbers, .ref a_m_then, .ref a_m_leans, .int m_draws, .int m_drawn, .int m_heards, .ref a_m_heardSet, .ref a_m_heardSum])), (a_m_w, .inl (cI, 106, .inl m_w))] H := hP
  have hD : va_D A [(a_m_d, .inl (cI, 216, .inl m_d)), (a_m_then, .inl (cI, 8, .inl m_then)), (a_m_leans, .inl (cI, 8, .inl m_leans)), (a_m, .inr (6, [.ref a_m_w, .ref a_m_d, .int m_undoes, .int m_kept, .ref a_m_text, .int m_texted, .int m_at, .ref a_m_numbers, .ref a_m_then, .ref a_m_leans, .int m_draws, .int m_drawn, .int m_heards, .ref a_m_heardSet, .ref a_m_heardSum])), (a_m_w, .inl (cI, 106, .inl m_w))] := hD
  refine lv_if_eq (tgt := 12) hx hb dX6_tune_5 (by decide) (fun c_5 => ?_) (fun c_5 => ?_)
  · have h := (if_pos c_5).symm.trans h
    refine lv_iconst (v := (-1 : Int32)) hx hb dX6_tune_12 (by decide) ?_
    obtain rfl := Option.some.inj h
    subst hQe
    exact W.iret (v := (-1 : Int32)) hx hb hr (fun t ht hW => ⟨⟨(-1 : Int32), (), rfl, rfl, ⟨by rw [ht]; exact hP.sub [3, 4, 0, 1, 2] rfl, hD.sub [3, 4, 0, 1, 2] (by decide +kernel) rfl⟩⟩, hS.F ht⟩) hS.2.2 dX6_tune_13
  · have h := (if_neg c_5).symm.trans h
    refine lv_iload_n hx hb dX6_tune_8 rfl (lv_at hl 1 rfl) ?_
    refine lv_if_ne (tgt := 14) hx hb dX6_tune_9 (by decide) (fun c_9 => ?_) (fun c_9 => ?_)
    · have h := (if_neg c_9).symm.trans h
      refine lv_aload_n hx hb dX6_tune_14 rfl (lv_at hl 0 rfl) ?_
      obtain ⟨r4187, hr4187, h⟩ := ob h
      refine k_Vv (As := []) (rest := []) (wr := [(a_m_then, .inl (cI, 8, .inl m_then)), (a_m_leans, .inl (cI, 8, .inl m_leans)), (a_m_w, .inl (cI, 106, .inl m_w))]) (c_X6_minds l dC dI cI cS n _ a_m a_m_w a_m_d a_m_text a_m_numbers a_m_then a_m_leans a_m_heardSet a_m_heardSum m_d m_undoes m_kept m_texted m_at m_draws m_drawn m_heards r4187 hr4187) ⟨hx, hb, hml, hown, hts⟩ (cwV 0 hts gX6_tune_X6_minds rfl rfl rfl (by decide +kernel) ⟨(Nat.le_of_ble_eq_true rfl), (Nat.le_of_ble_eq_true rfl)⟩) hN hK hP hD hS hA [3, 0] [1, 2, 4] rfl rfl (by decide) (by decide) (by decide) rfl rfl rfl hl.1 rfl (Nat.le_of_ble_eq_true rfl) dX6_tune_15 ⟨(Nat.le_of_ble_eq_true rfl), (Nat.le_of_ble_eq_true rfl)⟩ (fun u4188 H locs _ hP hD hS => ?_)
      have hP : va_P (dC, dI) vwCl [(a_m_then, .inl (cI, 8, .inl m_then)), (a_m_leans, .inl (cI, 8, .inl m_leans)), (a_m_w, .inl (cI, 106, .inl m_w)), (a_m, .inr (6, [.ref a_m_w, .ref a_m_d, .int r4187.1, .int m_kept, .ref a_m_text, .int m_texted, .int m_at, .ref a_m_numbers, .ref a_m_then, .ref a_m_leans, .int m_draws, .int m_drawn, .int m_heards, .ref a_m_heardSet, .ref a_m_heardSum])), (a_m_d, .inl (cI, 216, .inl r4187.2))] H := hP
      have hD : va_D A [(a_m_then, .inl (cI, 8, .inl m_then)), (a_m_leans, .inl (cI, 8, .inl m_leans)), (a_m_w, .inl (cI, 106, .inl m_w)), (a_m, .inr (6, [.ref a_m_w, .ref a_m_d, .int r4187.1, .int m_kept, .ref a_m_text, .int m_texted, .int m_at, .ref a_m_numbers, .ref a_m_then, .ref a_m_leans, .int m_draws, .int m_drawn, .int m_heards, .ref a_m_heardSet, .ref a_m_heardSum])), (a_m_d, .inl (cI, 216, .inl r4187.2))] := hD
      refine lv_aload_n hx hb dX6_tune_18 rfl (lv_at hl 0 rfl) ?_
      obtain ⟨r4189, hr4189, h⟩ := ob h
      refine k_Vv (As := []) (rest := []) (wr := [(a_m_then, .inl (cI, 8, .inl m_then)), (a_m_leans, .inl (cI, 8, .inl m_leans)), (a_m_w, .inl (cI, 106, .inl m_w))]) (c_X6_lays l dC dI cI cS n _ a_m a_m_w a_m_d a_m_text a_m_numbers a_m_then a_m_leans a_m_heardSet a_m_heardSum r4187.2 r4187.1 m_kept m_texted m_at m_draws m_drawn m_heards r4189 hr4189) ⟨hx, hb, hml, hown, hts⟩ (cwV 0 hts gX6_tune_X6_lays rfl rfl rfl (by decide +kernel) ⟨(Nat.le_of_ble_eq_true rfl), (Nat.le_of_ble_eq_true rfl)⟩) hN hK hP hD hS hA [3, 4] [0, 1, 2] rfl rfl (by decide) (by decide) (by decide) rfl rfl rfl hl.1 rfl (Nat.le_of_ble_eq_true rfl) dX6_tune_19 ⟨(Nat.le_of_ble_eq_true rfl), (Nat.le_of_ble_eq_true rfl)⟩ (fun u4190 H locs _ hP hD hS => ?_)
      have hP : va_P (dC, dI) vwCl [(a_m_then, .inl (cI, 8, .inl m_then)), (a_m_leans, .inl (cI, 8, .inl m_leans)), (a_m_w, .inl (cI, 106, .inl m_w)), (a_m, .inr (6, [.ref a_m_w, .ref a_m_d, .int r4187.1, .int m_kept, .ref a_m_text, .int m_texted, .int m_at, .ref a_m_numbers, .ref a_m_then, .ref a_m_leans, .int m_draws, .int m_drawn, .int m_heards, .ref a_m_heardSet, .ref a_m_heardSum])), (a_m_d, .inl (cI, 216, .inl r4189))] H := hP
      have hD : va_D A [(a_m_then, .inl (cI, 8, .inl m_then)), (a_m_leans, .inl (cI, 8, .inl m_leans)), (a_m_w, .inl (cI, 106, .inl m_w)), (a_m, .inr (6, [.ref a_m_w, .ref a_m_d, .int r4187.1, .int m_kept, .ref a_m_text, .int m_texted, .int m_at, .ref a_m_numbers, .ref a_m_then, .ref a_m_leans, .int m_draws, .int m_drawn, .int m_heards, .ref a_m_heardSet, .ref a_m_heardSum])), (a_m_d, .inl (cI, 216, .inl r4189))] := hD
      refine lv_aload_n hx hb dX6_tune_22 rfl (lv_at hl 0 rfl) ?_
      obtain ⟨r4191, hr4191, h⟩ := ob h
      refine k_Vv (As := []) (rest := []) (wr := [(a_m_then, .inl (cI, 8, .inl m_then)), (a_m_d, .inl (cI, 216, .inl r4189))]) (c_X6_laysLeans l dC dI cI cS n _ a_m a_m_w a_m_d a_m_text a_m_numbers a_m_then a_m_leans a_m_heardSet a_m_heardSum m_w r4187.1 m_kept m_texted m_at m_leans m_draws m_drawn m_heards r4191 hr4191) ⟨hx, hb, hml, hown, hts⟩ (cwV 0 hts gX6_tune_X6_laysLeans rfl rfl rfl (by decide +kernel) ⟨(Nat.le_of_ble_eq_true rfl), (Nat.le_of_ble_eq_true rfl)⟩) hN hK hP hD hS hA [3, 2, 1] [0, 4] rfl rfl (by decide) (by decide) (by decide) rfl rfl rfl hl.1 rfl (Nat.le_of_ble_eq_true rfl) dX6_tune_23 ⟨(Nat.le_of_ble_eq_true rfl), (Nat.le_of_ble_eq_true rfl)⟩ (fun u4192 H locs _ hP hD hS => ?_)
      have hP : va_P (dC, dI) vwCl [(a_m_then, .inl (cI, 8, .inl m_then)), (a_m_d, .inl (cI, 216, .inl r4189)), (a_m, .inr (6, [.ref a_m_w, .ref a_m_d, .int r4187.1, .int m_kept, .ref a_m_text, .int m_texted, .int m_at, .ref a_m_numbers, .ref a_m_then, .ref a_m_leans, .int r4191.1, .int r4191.2.1, .int m_heards, .ref a_m_heardSet, .ref a_m_heardSum])), (a_m_w, .inl (cI, 106, .inl m_w)), (a_m_leans, .inl (cI, 8, .inl r4191.2.2))] H := hP
      have hD : va_D A [(a_m_then, .inl (cI, 8, .inl m_then)), (a_m_d, .inl (cI, 216, .inl r4189)), (a_m, .inr (6, [.ref a_m_w, .ref a_m_d, .int r4187.1, .int m_kept, .ref a_m_text, .int m_texted, .int m_at, .ref a_m_numbers, .ref a_m_then, .ref a_m_leans, .int r4191.1, .int r4191.2.1, .int m_heards, .ref a_m_heardSet, .ref a_m_heardSum])), (a_m_w, .inl (cI, 106, .inl m_w)), (a_m_leans, .inl (cI, 8, .inl r4191.2.2))] := hD
      refine lv_aload_n hx hb dX6_tune_26 rfl (lv_at hl 0 rfl) ?_
      refine lv_iload_n hx hb dX6_tune_27 rfl (lv_at hl 1 rfl) ?_
      obtain ⟨r4193, hr4193, h⟩ := ob h
      refine k_Vi (As := [.int x1]) (rest := []) (wr := []) (c_X6_tunes l dC dI cI cS n _ a_m a_m_w a_m_d a_m_text a_m_numbers a_m_then a_m_leans a_m_heardSet a_m_heardSum m_w r4189 r4187.1 m_kept m_texted m_at m_then r4191.2.2 r4191.1 r4191.2.1 m_heards x1 r4193 hr4193) (fun _ _ q => q) ⟨hx, hb, hml, hown, hts⟩ (cwV 1 hts gX6_tune_X6_tunes rfl rfl rfl (by decide +kernel) ⟨(Nat.le_of_ble_eq_true rfl), (Nat.le_of_ble_eq_true rfl)⟩) hN hK hP hD hS hA [2, 3, 1, 0, 4] [] rfl rfl (by decide) (by decide) (by decide) rfl rfl rfl hl.1 rfl (Nat.le_of_ble_eq_true rfl) dX6_tune_28 ⟨(Nat.le_of_ble_eq_true rfl), (Nat.le_of_ble_eq_true rfl)⟩ (fun u4194 H locs _ hP hD hS => ?_)
      have hP : va_P (dC, dI) vwCl [(a_m, .inr (6, [.ref a_m_w, .ref a_m_d, .int r4187.1, .int m_kept, .ref a_m_text, .int m_texted, .int m_at, .ref a_m_numbers, .ref a_m_then, .ref a_m_leans, .int r4191.1, .int r4193.2.1, .int m_heards, .ref a_m_heardSet, .ref a_m_heardSum])), (a_m_w, .inl (cI, 106, .inl m_w)), (a_m_d, .inl (cI, 216, .inl r4193.2.2.1)), (a_m_then, .inl (cI, 8, .inl r4193.2.2.2)), (a_m_leans, .inl (cI, 8, .inl r4191.2.2))] H := hP
      have hD : va_D A [(a_m, .inr (6, [.ref a_m_w, .ref a_m_d, .int r4187.1, .int m_kept, .ref a_m_text, .int m_texted, .int m_at, .ref a_m_numbers, .ref a_m_then, .ref a_m_leans, .int r4191.1, .int r4193.2.1, .int m_heards, .ref a_m_heardSet, .ref a_m_heardSum])), (a_m_w, .inl (cI, 106, .inl m_w)), (a_m_d, .inl (cI, 216, .inl r4193.2.2.1)), (a_m_then, .inl (cI, 8, .inl r4193.2.2.2)), (a_m_leans, .inl (cI, 8, .inl r4191.2.2))] := hD
      refine lv_istore_n (lv' := [(2, .int r4193.1), (0, .ref a_m), (1, .int x1)]) hx hb dX6_tune_31 rfl hl (by decide) rfl (fun ls hl => ?_)
      refine lv_aload_n hx hb dX6_tune_32 rfl (lv_at hl 1 rfl) ?_
      obtain ⟨r4195, hr4195, h⟩ := ob h
      refine k_Vv (As := []) (rest := []) (wr := [(a_m_w, .inl (cI, 106, .inl m_w)), (a_m_then, .inl (cI, 8, .inl r4193.2.2.2)), (a_m_leans, .inl (cI, 8, .inl r4191.2.2))]) (c_X6_stays l dC dI cI cS n _ a_m a_m_w a_m_d a_m_text a_m_numbers a_m_then a_m_leans a_m_heardSet a_m_heardSum r4193.2.2.1 r4187.1 m_kept m_texted m_at r4191.1 r4193.2.1 m_heards r4195 hr4195) ⟨hx, hb, hml, hown, hts⟩ (cwV 0 hts gX6_tune_X6_stays rfl rfl rfl (by decide +kernel) ⟨(Nat.le_of_ble_eq_true rfl), (Nat.le_of_ble_eq_true rfl)⟩) hN hK hP hD hS hA [0, 2] [1, 3, 4] rfl rfl (by decide) (by decide) (by decide) rfl rfl rfl hl.1 rfl (Nat.le_of_ble_eq_true rfl) dX6_tune_33 ⟨(Nat.le_of_ble_eq_true rfl), (Nat.le_of_ble_eq_true rfl)⟩ (fun u4196 H locs _ hP hD hS => ?_)
      have hP : va_P (dC, dI) vwCl [(a_m_w, .inl (cI, 106, .inl m_w)), (a_m_then, .inl (cI, 8, .inl r4193.2.2.2)), (a_m_leans, .inl (cI, 8, .inl r4191.2.2)), (a_m, .inr (6, [.ref a_m_w, .ref a_m_d, .int r4187.1, .int m_kept, .ref a_m_text, .int m_texted, .int m_at, .ref a_m_numbers, .ref a_m_then, .ref a_m_leans, .int r4191.1, .int r4193.2.1, .int m_heards, .ref a_m_heardSet, .ref a_m_heardSum])), (a_m_d, .inl (cI, 216, .inl r4195))] H := hP
      have hD : va_D A [(a_m_w, .inl (cI, 106, .inl m_w)), (a_m_then, .inl (cI, 8, .inl r4193.2.2.2)), (a_m_leans, .inl (cI, 8, .inl r4191.2.2)), (a_m, .inr (6, [.ref a_m_w, .ref a_m_d, .int r4187.1, .int m_kept, .ref a_m_text, .int m_texted, .int m_at, .ref a_m_numbers, .ref a_m_then, .ref a_m_leans, .int r4191.1, .int r4193.2.1, .int m_heards, .ref a_m_heardSet, .ref a_m_heardSum])), (a_m_d, .inl (cI, 216, .inl r4195))] := hD
      refine lv_iload_n hx hb dX6_tune_36 rfl (lv_at hl 0 rfl) ?_
      obtain rfl := Option.some.inj h
      subst hQe
      exact W.iret (v := r4193.1) hx hb hr (fun t ht hW => ⟨⟨r4193.1, (), rfl, rfl, ⟨by rw [ht]; exact hP.sub [3, 0, 4, 1, 2] rfl, hD.sub [3, 0, 4, 1, 2] (by decide +kernel) rfl⟩⟩, hS.F ht⟩) hS.2.2 dX6_tune_37
    · have h := (if_pos c_9).symm.trans h
      refine lv_iconst (v := (-1 : Int32)) hx hb dX6_tune_12 (by decide) ?_
      obtain rfl := Option.some.inj h
      subst hQe
      exact W.iret (v := (-1 : Int32)) hx hb hr (fun t ht hW => ⟨⟨(-1 : Int32), (), rfl, rfl, ⟨by rw [ht]; exact hP.sub [3, 4, 0, 1, 2] rfl, hD.sub [3, 4, 0, 1, 2] (by decide +kernel) rfl⟩⟩, hS.F ht⟩) hS.2.2 dX6_tune_13
def rm_X6_minutes : Room := { frames := 3, cells := 0, slots := 0, locals := 65 }
set_option maxRecDepth 100000 in
set_option maxHeartbeats 8000000 in
theorem c_X6_minutes (l : Launch) (dC : Nat → ClassId) (dI : Nat → Nat → Nat) (cI cS : ClassId) (n sz : Nat) (a_m : Nat) (a_m_w : Nat) (a_m_d : Nat) (a_m_text : Nat) (a_m_numbers : Nat) (a_m_then : Nat) (a_m_leans : Nat) (a_m_heardSet : Nat) (a_m_heardSum : Nat) (m_w : Nat → Int32) (m_d : Nat → Int32) (m_undoes : Int32) (m_kept : Int32) (m_texted : Int32) (m_at : Int32) (m_draws : Int32) (m_drawn : Int32) (m_heards : Int32) (x1 : Int32) (res : Int32 × Int32 × (Nat → Int32))  (h : F_X6_minutes n m_w m_d m_undoes x1 = some res) : Met l yX6_minutes wsX6_minutes rm_X6_minutes (va_Pc [.ref a_m, .int x1] (PRE (dC, dI) vwCl [(cI, .int), (cS, .object "RoundOfTheA$State")] sz [(a_m, .inr (6, [.ref a_m_w, .ref a_m_d, .int m_undoes, .int m_kept, .ref a_m_text, .int m_texted, .int m_at, .ref a_m_numbers, .ref a_m_then, .ref a_m_leans, .int m_draws, .int m_drawn, .int m_heards, .ref a_m_heardSet, .ref a_m_heardSum])), (a_m_w, .inl (cI, 106, .inl m_w)), (a_m_d, .inl (cI, 216, .inl m_d))])) (va_Qi (fun (r : Int32) (_ : Unit) => r = res.1) (fun u t => POST (dC, dI) vwCl [(a_m, .inr (6, [.ref a_m_w, .ref a_m_d, .int res.2.1, .int m_kept, .ref a_m_text, .int m_texted, .int m_at, .ref a_m_numbers, .ref a_m_then, .ref a_m_leans, .int m_draws, .int m_drawn, .int m_heards, .ref a_m_heardSet, .ref a_m_heardSum])), (a_m_w, .inl (cI, 106, .inl m_w)), (a_m_d, .inl (cI, 216, .inl res.2.2))] (va_A [(a_m, .inr (6, [.ref a_m_w, .ref a_m_d, .int m_undoes, .int m_kept, .ref a_m_text, .int m_texted, .int m_at, .ref a_m_numbers, .ref a_m_then, .ref a_m_leans, .int m_draws, .int m_drawn, .int m_heards, .ref a_m_heardSet, .ref a_m_heardSum])), (a_m_w, .inl (cI, 106, .inl m_w)), (a_m_d, .inl (cI, 216, .inl m_d))] sz) t) (va_A [(a_m, .inr (6, [.ref a_m_w, .ref a_m_d, .int m_undoes, .int m_kept, .ref a_m_text, .int m_texted, .int m_at, .ref a_m_numbers, .ref a_m_then, .ref a_m_leans, .int m_draws, .int m_drawn, .int m_heards, .ref a_m_heardSet, .ref a_m_heardSum])), (a_m_w, .inl (cI, 106, .inl m_w)), (a_m_d, .inl (cI, 216, .inl m_d))] sz)) 0 0 (va_A [(a_m, .inr (6, [.ref a_m_w, .ref a_m_d, .int m_undoes, .int m_kept, .ref a_m_text, .int m_texted, .int m_at, .ref a_m_numbers, .ref a_m_then, .ref a_m_leans, .int m_draws, .int m_drawn, .int m_heards, .ref a_m_heardSet, .ref a_m_heardSum])), (a_m_w, .inl (cI, 106, .inl m_w)), (a_m_d, .inl (cI, 216, .inl m_d))] sz) := by
  refine Met.ofW (cc := cX6_minutes) (maxL := 2) (ret := (some .int)) (by decide) rfl ?_
  intro p e s m args below meth c s₁ B hml hv
  obtain ⟨rfl, hsz, hN, hP, hK, hD0⟩ := hv
  have hx := B.exec
  have hb := B.bytes
  have hr := B.returns
  have hts := atoms_spec (ws := wsX6_minutes) B.pre
  have hown : s.vm.findClass RX6 = some m.cls := findClass_of_methodNamed B.named
  have hlocks := B.notSynchronized
  subst hsz
  have hD := hD0.self (sz := s.heap.size)
  generalize hAe : va_A [(a_m, .inr (6, [.ref a_m_w, .ref a_m_d, .int m_undoes, .int m_kept, .ref a_m_text, .int m_texted, .int m_at, .ref a_m_numbers, .ref a_m_then, .ref a_m_leans, .int m_draws, .int m_drawn, .int m_heards, .ref a_m_heardSet, .ref a_m_heardSum])), (a_m_w, .inl (cI, 106, .inl m_w)), (a_m_d, .inl (cI, 216, .inl m_d))] s.heap.size = A at hD ⊢
  have hA : ∀ q : Nat, s.heap.size ≤ q → A q := fun q h => by rw [← hAe]; exact Or.inr h
  have hS : va_S A s.heap s.heap [] := va_S.rf
  generalize hQe : MQ below _ _ s _ _ A = QQ
  have hl := lv_entry ([.ref a_m, .int x1]) (n := 2) (Nat.le_of_ble_eq_true rfl)
  rw [lg_entry_eq]
  generalize (lg_sl ([.ref a_m, .int x1]) ++ List.replicate (2 - (lg_sl ([.ref a_m, .int x1])).length) Slot.unset).toArray = ls at hl ⊢
  have hl : lv_has ls 2 [(0, .ref a_m), (1, .int x1)] := hl
  have k_80 := hts (.constantLong RX6 80 (60)) (by decide +kernel)
  have f_13 := hts (.fieldLink RX6 13 "RoundOfTheAModel" "d" "[I") (by decide +kernel)
  have in_X6 := (by decide +kernel : ∀ w ∈ wsX60, w ∈ wsX6_minutes)
  have k_161 := hts (.constant RX6 161 (99999)) (by decide +kernel)
  rw [F_X6_minutes] at h
  refine lv_iload_n hx hb dX6_minutes_0 rfl (lv_at hl 1 rfl) ?_
  refine lv_i2l (v := (Int32.toInt64 x1)) hx hb dX6_minutes_1 rfl ?_
  refine lv_lconst (v := (1 : Int64)) hx hb dX6_minutes_2 (by decide) ?_
  refine lv_ldc2 (v := (60 : Int64)) hx hb hown k_80 dX6_minutes_3 ?_
  obtain ⟨r4209, hr4209, h⟩ := ob h
  refine k_Si (As := [.long (Int32.toInt64 x1), .long (1 : Int64), .long (60 : Int64)]) (rest := []) (c_X6_in l dC dI cI cS n _ (Int32.toInt64 x1) (1 : Int64) (60 : Int64) r4209 hr4209) (fun _ _ q => q) ⟨hx, hb, hml, hown, hts⟩ (va_cwS 3 hts gX6_minutes_X6_in rfl rfl rfl (by decide +kernel) ⟨(Nat.le_of_ble_eq_true rfl), (Nat.le_of_ble_eq_true rfl)⟩) hN hK hP hD hS hA rfl hl.1 rfl (Nat.le_of_ble_eq_true rfl) dX6_minutes_6 ⟨(Nat.le_of_ble_eq_true rfl), (Nat.le_of_ble_eq_true rfl)⟩ (fun H locs hP hD hS => ?_)
  refine lv_if_ne (tgt := 14) hx hb dX6_minutes_9 (by decide) (fun c_9 => ?_) (fun c_9 => ?_)
  · have h := (if_neg c_9).symm.trans h
    refine lv_aload_n hx hb dX6_minutes_14 rfl (lv_at hl 0 rfl) ?_
    refine va_get (D := (dC, dI)) (ci := 6) (v := .ref a_m_d) (C := RX6) (T := TX6) (N := 15) hx hb hts in_X6 hown hK hP 0 rfl rfl 1 (by decide) f_13 (fun _ h9 => h9) rfl dX6_minutes_15 ?_
    refine lv_bipush (v := (9 : Int32)) hx hb dX6_minutes_18 (by decide) ?_
    obtain ⟨v4211, hv4211, h⟩ := ob h
    refine k_ld hx hb hK hP 2 0 rfl rfl hv4211 dX6_minutes_20 ?_
    refine lv_bipush (v := (60 : Int32)) hx hb dX6_minutes_21 (by decide) ?_
    refine lv_iload_n hx hb dX6_minutes_23 rfl (lv_at hl 1 rfl) ?_
    refine lv_imul hx hb dX6_minutes_24 ?_
    refine lv_iadd hx hb dX6_minutes_25 ?_
    refine lv_ldc (v := (99999 : Int32)) hx hb hown k_161 dX6_minutes_26 ?_
    refine lv_icmp_le (tgt := 34) hx hb dX6_minutes_28 (by decide) (fun c_28 => ?_) (fun c_28 => ?_)
    · have h := (if_pos c_28).symm.trans h
      refine lv_aload_n hx hb dX6_minutes_34 rfl (lv_at hl 0 rfl) ?_
      obtain ⟨r4212, hr4212, h⟩ := ob h
      refine k_Vv (As := []) (rest := []) (wr := [(a_m_w, .inl (cI, 106, .inl m_w))]) (c_X6_minds l dC dI cI cS n _ a_m a_m_w a_m_d a_m_text a_m_numbers a_m_then a_m_leans a_m_heardSet a_m_heardSum m_d m_undoes m_kept m_texted m_at m_draws m_drawn m_heards r4212 hr4212) ⟨hx, hb, hml, hown, hts⟩ (cwV 0 hts gX6_minutes_X6_minds rfl rfl rfl (by decide +kernel) ⟨(Nat.le_of_ble_eq_true rfl), (Nat.le_of_ble_eq_true rfl)⟩) hN hK hP hD hS hA [0, 2] [1] rfl rfl (by decide) (by decide) (by decide) rfl rfl rfl hl.1 rfl (Nat.le_of_ble_eq_true rfl) dX6_minutes_35 ⟨(Nat.le_of_ble_eq_true rfl), (Nat.le_of_ble_eq_true rfl)⟩ (fun u4213 H locs _ hP hD hS => ?_)
      have hP : va_P (dC, dI) vwCl [(a_m_w, .inl (cI, 106, .inl m_w)), (a_m, .inr (6, [.ref a_m_w, .ref a_m_d, .int r4212.1, .int m_kept, .ref a_m_text, .int m_texted, .int m_at, .ref a_m_numbers, .ref a_m_then, .ref a_m_leans, .int m_draws, .int m_drawn, .int m_heards, .ref a_m_heardSet, .ref a_m_heardSum])), (a_m_d, .inl (cI, 216, .inl r4212.2))] H := hP
      have hD : va_D A [(a_m_w, .inl (cI, 106, .inl m_w)), (a_m, .inr (6, [.ref a_m_w, .ref a_m_d, .int r4212.1, .int m_kept, .ref a_m_text, .int m_texted, .int m_at, .ref a_m_numbers, .ref a_m_then, .ref a_m_leans, .int m_draws, .int m_drawn, .int m_heards, .ref a_m_heardSet, .ref a_m_heardSum])), (a_m_d, .inl (cI, 216, .inl r4212.2))] := hD
      refine lv_aload_n hx hb dX6_minutes_38 rfl (lv_at hl 0 rfl) ?_
      obtain ⟨r4214, hr4214, h⟩ := ob h
      refine k_Vv (As := []) (rest := []) (wr := [(a_m_w, .inl (cI, 106, .inl m_w))]) (c_X6_lays l dC dI cI cS n _ a_m a_m_w a_m_d a_m_text a_m_numbers a_m_then a_m_leans a_m_heardSet a_m_heardSum r4212.2 r4212.1 m_kept m_texted m_at m_draws m_drawn m_heards r4214 hr4214) ⟨hx, hb, hml, hown, hts⟩ (cwV 0 hts gX6_minutes_X6_lays rfl rfl rfl (by decide +kernel) ⟨(Nat.le_of_ble_eq_true rfl), (Nat.le_of_ble_eq_true rfl)⟩) hN hK hP hD hS hA [1, 2] [0] rfl rfl (by decide) (by decide) (by decide) rfl rfl rfl hl.1 rfl (Nat.le_of_ble_eq_true rfl) dX6_minutes_39 ⟨(Nat.le_of_ble_eq_true rfl), (Nat.le_of_ble_eq_true rfl)⟩ (fun u4215 H locs _ hP hD hS => ?_)
      have hP : va_P (dC, dI) vwCl [(a_m_w, .inl (cI, 106, .inl m_w)), (a_m, .inr (6, [.ref a_m_w, .ref a_m_d, .int r4212.1, .int m_kept, .ref a_m_text, .int m_texted, .int m_at, .ref a_m_numbers, .ref a_m_then, .ref a_m_leans, .int m_draws, .int m_drawn, .int m_heards, .ref a_m_heardSet, .ref a_m_heardSum])), (a_m_d, .inl (cI, 216, .inl r4214))] H := hP
      have hD : va_D A [(a_m_w, .inl (cI, 106, .inl m_w)), (a_m, .inr (6, [.ref a_m_w, .ref a_m_d, .int r4212.1, .int m_kept, .ref a_m_text, .int m_texted, .int m_at, .ref a_m_numbers, .ref a_m_then, .ref a_m_leans, .int m_draws, .int m_drawn, .int m_heards, .ref a_m_heardSet, .ref a_m_heardSum])), (a_m_d, .inl (cI, 216, .inl r4214))] := hD
      refine lv_aload_n hx hb dX6_minutes_42 rfl (lv_at hl 0 rfl) ?_
      refine lv_bipush (v := (60 : Int32)) hx hb dX6_minutes_43 (by decide) ?_
      refine lv_iload_n hx hb dX6_minutes_45 rfl (lv_at hl 1 rfl) ?_
      refine lv_imul hx hb dX6_minutes_46 ?_
      obtain ⟨r4216, hr4216, h⟩ := ob h
      refine k_Vv (As := [.int ((60 : Int32) * x1)]) (rest := []) (wr := []) (c_X6_passes l dC dI cI cS n _ a_m a_m_w a_m_d a_m_text a_m_numbers a_m_then a_m_leans a_m_heardSet a_m_heardSum m_w r4214 r4212.1 m_kept m_texted m_at m_draws m_drawn m_heards ((60 : Int32) * x1) r4216 hr4216) ⟨hx, hb, hml, hown, hts⟩ (cwV 1 hts gX6_minutes_X6_passes rfl rfl rfl (by decide +kernel) ⟨(Nat.le_of_ble_eq_true rfl), (Nat.le_of_ble_eq_true rfl)⟩) hN hK hP hD hS hA [1, 0, 2] [] rfl rfl (by decide) (by decide) (by decide) rfl rfl rfl hl.1 rfl (Nat.le_of_ble_eq_true rfl) dX6_minutes_47 ⟨(Nat.le_of_ble_eq_true rfl), (Nat.le_of_ble_eq_true rfl)⟩ (fun u4217 H locs _ hP hD hS => ?_)
      have hP : va_P (dC, dI) vwCl [(a_m, .inr (6, [.ref a_m_w, .ref a_m_d, .int r4212.1, .int m_kept, .ref a_m_text, .int m_texted, .int m_at, .ref a_m_numbers, .ref a_m_then, .ref a_m_leans, .int m_draws, .int m_drawn, .int m_heards, .ref a_m_heardSet, .ref a_m_heardSum])), (a_m_w, .inl (cI, 106, .inl m_w)), (a_m_d, .inl (cI, 216, .inl r4216))] H := hP
      have hD : va_D A [(a_m, .inr (6, [.ref a_m_w, .ref a_m_d, .int r4212.1, .int m_kept, .ref a_m_text, .int m_texted, .int m_at, .ref a_m_numbers, .ref a_m_then, .ref a_m_leans, .int m_draws, .int m_drawn, .int m_heards, .ref a_m_heardSet, .ref a_m_heardSum])), (a_m_w, .inl (cI, 106, .inl m_w)), (a_m_d, .inl (cI, 216, .inl r4216))] := hD
      refine lv_aload_n hx hb dX6_minutes_50 rfl (lv_at hl 0 rfl) ?_
      obtain ⟨r4218, hr4218, h⟩ := ob h
      refine k_Vv (As := []) (rest := []) (wr := [(a_m_w, .inl (cI, 106, .inl m_w))]) (c_X6_stays l dC dI cI cS n _ a_m a_m_w a_m_d a_m_text a_m_numbers a_m_then a_m_leans a_m_heardSet a_m_heardSum r4216 r4212.1 m_kept m_texted m_at m_draws m_drawn m_heards r4218 hr4218) ⟨hx, hb, hml, hown, hts⟩ (cwV 0 hts gX6_minutes_X6_stays rfl rfl rfl (by decide +kernel) ⟨(Nat.le_of_ble_eq_true rfl), (Nat.le_of_ble_eq_true rfl)⟩) hN hK hP hD hS hA [0, 2] [1] rfl rfl (by decide) (by decide) (by decide) rfl rfl rfl hl.1 rfl (Nat.le_of_ble_eq_true rfl) dX6_minutes_51 ⟨(Nat.le_of_ble_eq_true rfl), (Nat.le_of_ble_eq_true rfl)⟩ (fun u4219 H locs _ hP hD hS => ?_)
      have hP : va_P (dC, dI) vwCl [(a_m_w, .inl (cI, 106, .inl m_w)), (a_m, .inr (6, [.ref a_m_w, .ref a_m_d, .int r4212.1, .int m_kept, .ref a_m_text, .int m_texted, .int m_at, .ref a_m_numbers, .ref a_m_then, .ref a_m_leans, .int m_draws, .int m_drawn, .int m_heards, .ref a_m_heardSet, .ref a_m_heardSum])), (a_m_d, .inl (cI, 216, .inl r4218))] H := hP
      have hD : va_D A [(a_m_w, .inl (cI, 106, .inl m_w)), (a_m, .inr (6, [.ref a_m_w, .ref a_m_d, .int r4212.1, .int m_kept, .ref a_m_text, .int m_texted, .int m_at, .ref a_m_numbers, .ref a_m_then, .ref a_m_leans, .int m_draws, .int m_drawn, .int m_heards, .ref a_m_heardSet, .ref a_m_heardSum])), (a_m_d, .inl (cI, 216, .inl r4218))] := hD
      refine lv_aload_n hx hb dX6_minutes_54 rfl (lv_at hl 0 rfl) ?_
      refine va_get (D := (dC, dI)) (ci := 6) (v := .ref a_m_d) (C := RX6) (T := TX6) (N := 15) hx hb hts in_X6 hown hK hP 1 rfl rfl 1 (by decide) f_13 (fun _ h9 => h9) rfl dX6_minutes_55 ?_
      refine lv_bipush (v := (9 : Int32)) hx hb dX6_minutes_58 (by decide) ?_
      obtain ⟨v4220, hv4220, h⟩ := ob h
      refine k_ld hx hb hK hP 2 0 rfl rfl hv4220 dX6_minutes_60 ?_
      obtain rfl := Option.some.inj h
      subst hQe
      exact W.iret (v := v4220) hx hb hr (fun t ht hW => ⟨⟨v4220, (), rfl, rfl, ⟨by rw [ht]; exact hP.sub [1, 0, 2] rfl, hD.sub [1, 0, 2] (by decide +kernel) rfl⟩⟩, hS.F ht⟩) hS.2.2 dX6_minutes_61
    · have h := (if_neg c_28).symm.trans h
      refine lv_bipush (v := (-2 : Int32)) hx hb dX6_minutes_31 (by decide) ?_
      obtain rfl := Option.some.inj h
      subst hQe
      exact W.iret (v := (-2 : Int32)) hx hb hr (fun t ht hW => ⟨⟨(-2 : Int32), (), rfl, rfl, ⟨by rw [ht]; exact hP, hD⟩⟩, hS.F ht⟩) hS.2.2 dX6_minutes_33
  · have h := (if_pos c_9).symm.trans h
    refine lv_iconst (v := (-1 : Int32)) hx hb dX6_minutes_12 (by decide) ?_
    obtain rfl := Option.some.inj h
    subst hQe
    exact W.iret (v := (-1 : Int32)) hx hb hr (fun t ht hW => ⟨⟨(-1 : Int32), (), rfl, rfl, ⟨by rw [ht]; exact hP, hD⟩⟩, hS.F ht⟩) hS.2.2 dX6_minutes_13
def rm_X6_isWhom : Room := { frames := 2, cells := 0, slots := 0, locals := 46 }
set_option maxRecDepth 100000 in
set_option maxHeartbeats 8000000 in
theorem c_X6_isWhom (l : Launch) (dC : Nat → ClassId) (dI : Nat → Nat → Nat) (cI cS : ClassId) (n sz : Nat) (a_m : Nat) (a_m_w : Nat) (a_m_d : Nat) (a_m_text : Nat) (a_m_numbers : Nat) (a_m_then : Nat) (a_m_leans : Nat) (a_m_heardSet : Nat) (a_m_heardSum : Nat) (m_w : Nat → Int32) (m_undoes : Int32) (m_kept : Int32) (m_texted : Int32) (m_at : Int32) (m_draws : Int32) (m_drawn : Int32) (m_heards : Int32) (x1 : Int32) (x2 : Int32) (res : Int32)  (h : F_X6_isWhom n m_w x1 x2 = some res) : Met l yX6_isWhom wsX6_isWhom rm_X6_isWhom (va_Pc [.ref a_m, .int x1, .int x2] (PRE (dC, dI) vwCl [(cI, .int), (cS, .object "RoundOfTheA$State")] sz [(a_m, .inr (6, [.ref a_m_w, .ref a_m_d, .int m_undoes, .int m_kept, .ref a_m_text, .int m_texted, .int m_at, .ref a_m_numbers, .ref a_m_then, .ref a_m_leans, .int m_draws, .int m_drawn, .int m_heards, .ref a_m_heardSet, .ref a_m_heardSum])), (a_m_w, .inl (cI, 106, .inl m_w))])) (va_Qi (fun (r : Int32) (_ : Unit) => r = res) (fun u t => POST (dC, dI) vwCl [(a_m, .inr (6, [.ref a_m_w, .ref a_m_d, .int m_undoes, .int m_kept, .ref a_m_text, .int m_texted, .int m_at, .ref a_m_numbers, .ref a_m_then, .ref a_m_leans, .int m_draws, .int m_drawn, .int m_heards, .ref a_m_heardSet, .ref a_m_heardSum])), (a_m_w, .inl (cI, 106, .inl m_w))] (va_A [(a_m, .inr (6, [.ref a_m_w, .ref a_m_d, .int m_undoes, .int m_kept, .ref a_m_text, .int m_texted, .int m_at, .ref a_m_numbers, .ref a_m_then, .ref a_m_leans, .int m_draws, .int m_drawn, .int m_heards, .ref a_m_heardSet, .ref a_m_heardSum])), (a_m_w, .inl (cI, 106, .inl m_w))] sz) t) (va_A [(a_m, .inr (6, [.ref a_m_w, .ref a_m_d, .int m_undoes, .int m_kept, .ref a_m_text, .int m_texted, .int m_at, .ref a_m_numbers, .ref a_m_then, .ref a_m_leans, .int m_draws, .int m_drawn, .int m_heards, .ref a_m_heardSet, .ref a_m_heardSum])), (a_m_w, .inl (cI, 106, .inl m_w))] sz)) 0 0 (va_A [(a_m, .inr (6, [.ref a_m_w, .ref a_m_d, .int m_undoes, .int m_kept, .ref a_m_text, .int m_texted, .int m_at, .ref a_m_numbers, .ref a_m_then, .ref a_m_leans, .int m_draws, .int m_drawn, .int m_heards, .ref a_m_heardSet, .ref a_m_heardSum])), (a_m_w, .inl (cI, 106, .inl m_w))] sz) := by
  refine Met.ofW (cc := cX6_isWhom) (maxL := 3) (ret := (some .boolean)) (by decide) rfl ?_
  intro p e s m args below meth c s₁ B hml hv
  obtain ⟨rfl, hsz, hN, hP, hK, hD0⟩ := hv
  have hx := B.exec
  have hb := B.bytes
  have hr := B.returns
  have hts := atoms_spec (ws := wsX6_isWhom) B.pre
  have hown : s.vm.findClass RX6 = some m.cls := findClass_of_methodNamed B.named
  have hlocks := B.notSynchronized
  subst hsz
  have hD := hD0.self (sz := s.heap.size)
  generalize hAe : va_A [(a_m, .inr (6, [.ref a_m_w, .ref a_m_d, .int m_undoes, .int m_kept, .ref a_m_text, .int m_texted, .int m_at, .ref a_m_numbers, .ref a_m_then, .ref a_m_leans, .int m_draws, .int m_drawn, .int m_heards, .ref a_m_heardSet, .ref a_m_heardSum])), (a_m_w, .inl (cI, 106, .inl m_w))] s.heap.size = A at hD ⊢
  have hA : ∀ q : Nat, s.heap.size ≤ q → A q := fun q h => by rw [← hAe]; exact Or.inr h
  have hS : va_S A s.heap s.heap [] := va_S.rf
  generalize hQe : MQ below _ _ s _ _ A = QQ
  have hl := lv_entry ([.ref a_m, .int x1, .int x2]) (n := 3) (Nat.le_of_ble_eq_true rfl)
  rw [lg_entry_eq]
  generalize (lg_sl ([.ref a_m, .int x1, .int x2]) ++ List.replicate (3 - (lg_sl ([.ref a_m, .int x1, .int x2])).length) Slot.unset).toArray = ls at hl ⊢
  have hl : lv_has ls 3 [(0, .ref a_m), (1, .int x1), (2, .int x2)] := hl
  rw [F_X6_isWhom] at h
  refine lv_iload_n hx hb dX6_isWhom_0 rfl (lv_at hl 2 rfl) ?_
  refine lv_iload_n hx hb dX6_isWhom_1 rfl (lv_at hl 1 rfl) ?_
  refine lv_icmp_eq (tgt := 29) hx hb dX6_isWhom_2 (by decide) (fun c_2 => ?_) (fun c_2 => ?_)
  · have h := (if_pos c_2).symm.trans h
    refine lv_iconst (v := (0 : Int32)) hx hb dX6_isWhom_29 (by decide) ?_
    obtain rfl := Option.some.inj h
    subst hQe
    exact W.zret (v := (0 : Int32)) (ty := .boolean) hx hb hr rfl (fun t ht hW => ⟨⟨(0 : Int32), (), rfl, rfl, ⟨by rw [ht]; exact hP, hD⟩⟩, hS.F ht⟩) hS.2.2 dX6_isWhom_30
  · have h := (if_neg c_2).symm.trans h
    refine lv_aload_n hx hb dX6_isWhom_5 rfl (lv_at hl 0 rfl) ?_
    refine lv_iload_n hx hb dX6_isWhom_6 rfl (lv_at hl 2 rfl) ?_
    obtain ⟨r4223, hr4223, h⟩ := ob h
    refine k_Vi (As := [.int x2]) (rest := []) (wr := []) (c_X6_isDesk l dC dI cI cS n _ a_m a_m_w a_m_d a_m_text a_m_numbers a_m_then a_m_leans a_m_heardSet a_m_heardSum m_w m_undoes m_kept m_texted m_at m_draws m_drawn m_heards x2 r4223 hr4223) (fun _ _ q => q) ⟨hx, hb, hml, hown, hts⟩ (cwV 1 hts gX6_isWhom_X6_isDesk rfl rfl rfl (by decide +kernel) ⟨(Nat.le_of_ble_eq_true rfl), (Nat.le_of_ble_eq_true rfl)⟩) hN hK hP hD hS hA [0, 1] [] rfl rfl (by decide) (by decide) (by decide) rfl rfl rfl hl.1 rfl (Nat.le_of_ble_eq_true rfl) dX6_isWhom_7 ⟨(Nat.le_of_ble_eq_true rfl), (Nat.le_of_ble_eq_true rfl)⟩ (fun u4224 H locs _ hP hD hS => ?_)
    have hP : va_P (dC, dI) vwCl [(a_m, .inr (6, [.ref a_m_w, .ref a_m_d, .int m_undoes, .int m_kept, .ref a_m_text, .int m_texted, .int m_at, .ref a_m_numbers, .ref a_m_then, .ref a_m_leans, .int m_draws, .int m_drawn, .int m_heards, .ref a_m_heardSet, .ref a_m_heardSum])), (a_m_w, .inl (cI, 106, .inl m_w))] H := hP
    have hD : va_D A [(a_m, .inr (6, [.ref a_m_w, .ref a_m_d, .int m_undoes, .int m_kept, .ref a_m_text, .int m_texted, .int m_at, .ref a_m_numbers, .ref a_m_then, .ref a_m_leans, .int m_draws, .int m_drawn, .int m_heards, .ref a_m_heardSet, .ref a_m_heardSum])), (a_m_w, .inl (cI, 106, .inl m_w))] := hD
    refine lv_if_ne (tgt := 25) hx hb dX6_isWhom_10 (by decide) (fun c_10 => ?_) (fun c_10 => ?_)
    · have h := (if_neg c_10).symm.trans h
      refine lv_iconst (v := (1 : Int32)) hx hb dX6_isWhom_25 (by decide) ?_
      refine lv_goto (tgt := 30) hx hb dX6_isWhom_26 (by decide) ?_
      obtain rfl := Option.some.inj h
      subst hQe
      exact W.zret (v := (1 : Int32)) (ty := .boolean) hx hb hr rfl (fun t ht hW => ⟨⟨(1 : Int32), (), rfl, rfl, ⟨by rw [ht]; exact hP, hD⟩⟩, hS.F ht⟩) hS.2.2 dX6_isWhom_30
    · have h := (if_pos c_10).symm.trans h
      refine lv_iload_n hx hb dX6_isWhom_13 rfl (lv_at hl 2 rfl) ?_
      refine lv_bipush (v := (8 : Int32)) hx hb dX6_isWhom_14 (by decide) ?_
      refine lv_icmp_eq (tgt := 25) hx hb dX6_isWhom_16 (by decide) (fun c_16 => ?_) (fun c_16 => ?_)
      · have h := (if_pos c_16).symm.trans h
        refine lv_iconst (v := (1 : Int32)) hx hb dX6_isWhom_25 (by decide) ?_
        refine lv_goto (tgt := 30) hx hb dX6_isWhom_26 (by decide) ?_
        obtain rfl := Option.some.inj h
        subst hQe
        exact W.zret (v := (1 : Int32)) (ty := .boolean) hx hb hr rfl (fun t ht hW => ⟨⟨(1 : Int32), (), rfl, rfl, ⟨by rw [ht]; exact hP, hD⟩⟩, hS.F ht⟩) hS.2.2 dX6_isWhom_30
      · have h := (if_neg c_16).symm.trans h
        refine lv_iload_n hx hb dX6_isWhom_19 rfl (lv_at hl 2 rfl) ?_
        refine lv_bipush (v := (9 : Int32)) hx hb dX6_isWhom_20 (by decide) ?_
        refine lv_icmp_ne (tgt := 29) hx hb dX6_isWhom_22 (by decide) (fun c_22 => ?_) (fun c_22 => ?_)
        · have h := (if_neg c_22).symm.trans h
          refine lv_iconst (v := (0 : Int32)) hx hb dX6_isWhom_29 (by decide) ?_
          obtain rfl := Option.some.inj h
          subst hQe
          exact W.zret (v := (0 : Int32)) (ty := .boolean) hx hb hr rfl (fun t ht hW => ⟨⟨(0 : Int32), (), rfl, rfl, ⟨by rw [ht]; exact hP, hD⟩⟩, hS.F ht⟩) hS.2.2 dX6_isWhom_30
        · have h := (if_pos c_22).symm.trans h
          refine lv_iconst (v := (1 : Int32)) hx hb dX6_isWhom_25 (by decide) ?_
          refine lv_goto (tgt := 30) hx hb dX6_isWhom_26 (by decide) ?_
          obtain rfl := Option.some.inj h
          subst hQe
          exact W.zret (v := (1 : Int32)) (ty := .boolean) hx hb hr rfl (fun t ht hW => ⟨⟨(1 : Int32), (), rfl, rfl, ⟨by rw [ht]; exact hP, hD⟩⟩, hS.F ht⟩) hS.2.2 dX6_isWhom_30
def rm_X6_hear : Room := { frames := 3, cells := 0, slots := 0, locals := 68 }
set_option maxRecDepth 100000 in
set_option maxHeartbeats 8000000 in
theorem c_X6_hear (l : Launch) (dC : Nat → ClassId) (dI : Nat → Nat → Nat) (cI cS : ClassId) (n sz : Nat) (a_m : Nat) (a_m_w : Nat) (a_m_d : Nat) (a_m_text : Nat) (a_m_numbers : Nat) (a_m_then : Nat) (a_m_leans : Nat) (a_m_heardSet : Nat) (a_m_heardSum : Nat) (m_w : Nat → Int32) (m_d : Nat → Int32) (m_undoes : Int32) (m_kept : Int32) (m_texted : Int32) (m_at : Int32) (m_draws : Int32) (m_drawn : Int32) (m_heards : Int32) (x1 : Int32) (x2 : Int32) (res : Int32 × Int32 × (Nat → Int32))  (h : F_X6_hear n m_w m_d m_undoes x1 x2 = some res) : Met l yX6_hear wsX6_hear rm_X6_hear (va_Pc [.ref a_m, .int x1, .int x2] (PRE (dC, dI) vwCl [(cI, .int), (cS, .object "RoundOfTheA$State")] sz [(a_m, .inr (6, [.ref a_m_w, .ref a_m_d, .int m_undoes, .int m_kept, .ref a_m_text, .int m_texted, .int m_at, .ref a_m_numbers, .ref a_m_then, .ref a_m_leans, .int m_draws, .int m_drawn, .int m_heards, .ref a_m_heardSet, .ref a_m_heardSum])), (a_m_w, .inl (cI, 106, .inl m_w)), (a_m_d, .inl (cI, 216, .inl m_d))])) (va_Qi (fun (r : Int32) (_ : Unit) => r = res.1) (fun u t => POST (dC, dI) vwCl [(a_m, .inr (6, [.ref a_m_w, .ref a_m_d, .int res.2.1, .int m_kept, .ref a_m_text, .int m_texted, .int m_at, .ref a_m_numbers, .ref a_m_then, .ref a_m_leans, .int m_draws, .int m_drawn, .int m_heards, .ref a_m_heardSet, .ref a_m_heardSum])), (a_m_w, .inl (cI, 106, .inl m_w)), (a_m_d, .inl (cI, 216, .inl res.2.2))] (va_A [(a_m, .inr (6, [.ref a_m_w, .ref a_m_d, .int m_undoes, .int m_kept, .ref a_m_text, .int m_texted, .int m_at, .ref a_m_numbers, .ref a_m_then, .ref a_m_leans, .int m_draws, .int m_drawn, .int m_heards, .ref a_m_heardSet, .ref a_m_heardSum])), (a_m_w, .inl (cI, 106, .inl m_w)), (a_m_d, .inl (cI, 216, .inl m_d))] sz) t) (va_A [(a_m, .inr (6, [.ref a_m_w, .ref a_m_d, .int m_undoes, .int m_kept, .ref a_m_text, .int m_texted, .int m_at, .ref a_m_numbers, .ref a_m_then, .ref a_m_leans, .int m_draws, .int m_drawn, .int m_heards, .ref a_m_heardSet, .ref a_m_heardSum])), (a_m_w, .inl (cI, 106, .inl m_w)), (a_m_d, .inl (cI, 216, .inl m_d))] sz)) 0 0 (va_A [(a_m, .inr (6, [.ref a_m_w, .ref a_m_d, .int m_undoes, .int m_kept, .ref a_m_text, .int m_texted, .int m_at, .ref a_m_numbers, .ref a_m_then, .ref a_m_leans, .int m_draws, .int m_drawn, .int m_heards, .ref a_m_heardSet, .ref a_m_heardSum])), (a_m_w, .inl (cI, 106, .inl m_w)), (a_m_d, .inl (cI, 216, .inl m_d))] sz) := by
  refine Met.ofW (cc := cX6_hear) (maxL := 4) (ret := (some .int)) (by decide) rfl ?_
  intro p e s m args below meth c s₁ B hml hv
  obtain ⟨rfl, hsz, hN, hP, hK, hD0⟩ := hv
  have hx := B.exec
  have hb := B.bytes
  have hr := B.returns
  have hts := atoms_spec (ws := wsX6_hear) B.pre
  have hown : s.vm.findClass RX6 = some m.cls := findClass_of_methodNamed B.named
  have hlocks := B.notSynchronized
  subst hsz
  have hD := hD0.self (sz := s.heap.size)
  generalize hAe : va_A [(a_m, .inr (6, [.ref a_m_w, .ref a_m_d, .int m_undoes, .int m_kept, .ref a_m_text, .int m_texted, .int m_at, .ref a_m_numbers, .ref a_m_then, .ref a_m_leans, .int m_draws, .int m_drawn, .int m_heards, .ref a_m_heardSet, .ref a_m_heardSum])), (a_m_w, .inl (cI, 106, .inl m_w)), (a_m_d, .inl (cI, 216, .inl m_d))] s.heap.size = A at hD ⊢
  have hA : ∀ q : Nat, s.heap.size ≤ q → A q := fun q h => by rw [← hAe]; exact Or.inr h
  have hS : va_S A s.heap s.heap [] := va_S.rf
  generalize hQe : MQ below _ _ s _ _ A = QQ
  have hl := lv_entry ([.ref a_m, .int x1, .int x2]) (n := 4) (Nat.le_of_ble_eq_true rfl)
  rw [lg_entry_eq]
  generalize (lg_sl ([.ref a_m, .int x1, .int x2]) ++ List.replicate (4 - (lg_sl ([.ref a_m, .int x1, .int x2])).length) Slot.unset).toArray = ls at hl ⊢
  have hl : lv_has ls 4 [(0, .ref a_m), (1, .int x1), (2, .int x2)] := hl
  have f_13 := hts (.fieldLink RX6 13 "RoundOfTheAModel" "d" "[I") (by decide +kernel)
  have in_X6 := (by decide +kernel : ∀ w ∈ wsX60, w ∈ wsX6_hear)
  rw [F_X6_hear] at h
  refine lv_aload_n hx hb dX6_hear_0 rfl (lv_at hl 0 rfl) ?_
  refine lv_iload_n hx hb dX6_hear_1 rfl (lv_at hl 1 rfl) ?_
  obtain ⟨r4233, hr4233, h⟩ := ob h
  refine k_Vi (As := [.int x1]) (rest := []) (wr := [(a_m_d, .inl (cI, 216, .inl m_d))]) (c_X6_isDesk l dC dI cI cS n _ a_m a_m_w a_m_d a_m_text a_m_numbers a_m_then a_m_leans a_m_heardSet a_m_heardSum m_w m_undoes m_kept m_texted m_at m_draws m_drawn m_heards x1 r4233 hr4233) (fun _ _ q => q) ⟨hx, hb, hml, hown, hts⟩ (cwV 1 hts gX6_hear_X6_isDesk rfl rfl rfl (by decide +kernel) ⟨(Nat.le_of_ble_eq_true rfl), (Nat.le_of_ble_eq_true rfl)⟩) hN hK hP hD hS hA [0, 1] [2] rfl rfl (by decide) (by decide) (by decide) rfl rfl rfl hl.1 rfl (Nat.le_of_ble_eq_true rfl) dX6_hear_2 ⟨(Nat.le_of_ble_eq_true rfl), (Nat.le_of_ble_eq_true rfl)⟩ (fun u4234 H locs _ hP hD hS => ?_)
  have hP : va_P (dC, dI) vwCl [(a_m_d, .inl (cI, 216, .inl m_d)), (a_m, .inr (6, [.ref a_m_w, .ref a_m_d, .int m_undoes, .int m_kept, .ref a_m_text, .int m_texted, .int m_at, .ref a_m_numbers, .ref a_m_then, .ref a_m_leans, .int m_draws, .int m_drawn, .int m_heards, .ref a_m_heardSet, .ref a_m_heardSum])), (a_m_w, .inl (cI, 106, .inl m_w))] H := hP
  have hD : va_D A [(a_m_d, .inl (cI, 216, .inl m_d)), (a_m, .inr (6, [.ref a_m_w, .ref a_m_d, .int m_undoes, .int m_kept, .ref a_m_text, .int m_texted, .int m_at, .ref a_m_numbers, .ref a_m_then, .ref a_m_leans, .int m_draws, .int m_drawn, .int m_heards, .ref a_m_heardSet, .ref a_m_heardSum])), (a_m_w, .inl (cI, 106, .inl m_w))] := hD
  refine lv_if_eq (tgt := 17) hx hb dX6_hear_5 (by decide) (fun c_5 => ?_) (fun c_5 => ?_)
  · have h := (if_pos c_5).symm.trans h
    refine lv_iconst (v := (-1 : Int32)) hx hb dX6_hear_17 (by decide) ?_
    obtain rfl := Option.some.inj h
    subst hQe
    exact W.iret (v := (-1 : Int32)) hx hb hr (fun t ht hW => ⟨⟨(-1 : Int32), (), rfl, rfl, ⟨by rw [ht]; exact hP.sub [1, 2, 0] rfl, hD.sub [1, 2, 0] (by decide +kernel) rfl⟩⟩, hS.F ht⟩) hS.2.2 dX6_hear_18
  · have h := (if_neg c_5).symm.trans h
    refine lv_aload_n hx hb dX6_hear_8 rfl (lv_at hl 0 rfl) ?_
    refine lv_iload_n hx hb dX6_hear_9 rfl (lv_at hl 1 rfl) ?_
    refine lv_iload_n hx hb dX6_hear_10 rfl (lv_at hl 2 rfl) ?_
    obtain ⟨r4235, hr4235, h⟩ := ob h
    refine k_Vi (As := [.int x1, .int x2]) (rest := []) (wr := [(a_m_d, .inl (cI, 216, .inl m_d))]) (c_X6_isWhom l dC dI cI cS n _ a_m a_m_w a_m_d a_m_text a_m_numbers a_m_then a_m_leans a_m_heardSet a_m_heardSum m_w m_undoes m_kept m_texted m_at m_draws m_drawn m_heards x1 x2 r4235 hr4235) (fun _ _ q => q) ⟨hx, hb, hml, hown, hts⟩ (cwV 2 hts gX6_hear_X6_isWhom rfl rfl rfl (by decide +kernel) ⟨(Nat.le_of_ble_eq_true rfl), (Nat.le_of_ble_eq_true rfl)⟩) hN hK hP hD hS hA [1, 2] [0] rfl rfl (by decide) (by decide) (by decide) rfl rfl rfl hl.1 rfl (Nat.le_of_ble_eq_true rfl) dX6_hear_11 ⟨(Nat.le_of_ble_eq_true rfl), (Nat.le_of_ble_eq_true rfl)⟩ (fun u4236 H locs _ hP hD hS => ?_)
    have hP : va_P (dC, dI) vwCl [(a_m_d, .inl (cI, 216, .inl m_d)), (a_m, .inr (6, [.ref a_m_w, .ref a_m_d, .int m_undoes, .int m_kept, .ref a_m_text, .int m_texted, .int m_at, .ref a_m_numbers, .ref a_m_then, .ref a_m_leans, .int m_draws, .int m_drawn, .int m_heards, .ref a_m_heardSet, .ref a_m_heardSum])), (a_m_w, .inl (cI, 106, .inl m_w))] H := hP
    have hD : va_D A [(a_m_d, .inl (cI, 216, .inl m_d)), (a_m, .inr (6, [.ref a_m_w, .ref a_m_d, .int m_undoes, .int m_kept, .ref a_m_text, .int m_texted, .int m_at, .ref a_m_numbers, .ref a_m_then, .ref a_m_leans, .int m_draws, .int m_drawn, .int m_heards, .ref a_m_heardSet, .ref a_m_heardSum])), (a_m_w, .inl (cI, 106, .inl m_w))] := hD
    refine lv_if_ne (tgt := 19) hx hb dX6_hear_14 (by decide) (fun c_14 => ?_) (fun c_14 => ?_)
    · have h := (if_neg c_14).symm.trans h
      refine lv_aload_n hx hb dX6_hear_19 rfl (lv_at hl 0 rfl) ?_
      obtain ⟨r4237, hr4237, h⟩ := ob h
      refine k_Vv (As := []) (rest := []) (wr := [(a_m_w, .inl (cI, 106, .inl m_w))]) (c_X6_minds l dC dI cI cS n _ a_m a_m_w a_m_d a_m_text a_m_numbers a_m_then a_m_leans a_m_heardSet a_m_heardSum m_d m_undoes m_kept m_texted m_at m_draws m_drawn m_heards r4237 hr4237) ⟨hx, hb, hml, hown, hts⟩ (cwV 0 hts gX6_hear_X6_minds rfl rfl rfl (by decide +kernel) ⟨(Nat.le_of_ble_eq_true rfl), (Nat.le_of_ble_eq_true rfl)⟩) hN hK hP hD hS hA [1, 0] [2] rfl rfl (by decide) (by decide) (by decide) rfl rfl rfl hl.1 rfl (Nat.le_of_ble_eq_true rfl) dX6_hear_20 ⟨(Nat.le_of_ble_eq_true rfl), (Nat.le_of_ble_eq_true rfl)⟩ (fun u4238 H locs _ hP hD hS => ?_)
      have hP : va_P (dC, dI) vwCl [(a_m_w, .inl (cI, 106, .inl m_w)), (a_m, .inr (6, [.ref a_m_w, .ref a_m_d, .int r4237.1, .int m_kept, .ref a_m_text, .int m_texted, .int m_at, .ref a_m_numbers, .ref a_m_then, .ref a_m_leans, .int m_draws, .int m_drawn, .int m_heards, .ref a_m_heardSet, .ref a_m_heardSum])), (a_m_d, .inl (cI, 216, .inl r4237.2))] H := hP
      have hD : va_D A [(a_m_w, .inl (cI, 106, .inl m_w)), (a_m, .inr (6, [.ref a_m_w, .ref a_m_d, .int r4237.1, .int m_kept, .ref a_m_text, .int m_texted, .int m_at, .ref a_m_numbers, .ref a_m_then, .ref a_m_leans, .int m_draws, .int m_drawn, .int m_heards, .ref a_m_heardSet, .ref a_m_heardSum])), (a_m_d, .inl (cI, 216, .inl r4237.2))] := hD
      refine lv_aload_n hx hb dX6_hear_23 rfl (lv_at hl 0 rfl) ?_
      refine va_get (D := (dC, dI)) (ci := 6) (v := .ref a_m_d) (C := RX6) (T := TX6) (N := 15) hx hb hts in_X6 hown hK hP 1 rfl rfl 1 (by decide) f_13 (fun _ h9 => h9) rfl dX6_hear_24 ?_
      refine lv_bipush (v := (10 : Int32)) hx hb dX6_hear_27 (by decide) ?_
      refine lv_iload_n hx hb dX6_hear_29 rfl (lv_at hl 1 rfl) ?_
      refine lv_iadd hx hb dX6_hear_30 ?_
      obtain ⟨v4239, hv4239, h⟩ := ob h
      refine k_ld hx hb hK hP 2 0 rfl rfl hv4239 dX6_hear_31 ?_
      refine lv_istore_n (lv' := [(3, .int v4239), (0, .ref a_m), (1, .int x1), (2, .int x2)]) hx hb dX6_hear_32 rfl hl (by decide) rfl (fun ls hl => ?_)
      refine lv_aload_n hx hb dX6_hear_33 rfl (lv_at hl 1 rfl) ?_
      refine va_get (D := (dC, dI)) (ci := 6) (v := .ref a_m_d) (C := RX6) (T := TX6) (N := 15) hx hb hts in_X6 hown hK hP 1 rfl rfl 1 (by decide) f_13 (fun _ h9 => h9) rfl dX6_hear_34 ?_
      refine lv_bipush (v := (10 : Int32)) hx hb dX6_hear_37 (by decide) ?_
      refine lv_iload_n hx hb dX6_hear_39 rfl (lv_at hl 2 rfl) ?_
      refine lv_iadd hx hb dX6_hear_40 ?_
      refine lv_iload_n hx hb dX6_hear_41 rfl (lv_at hl 3 rfl) ?_
      obtain ⟨g4240, hg4240, h⟩ := ob h
      refine k_st hx hb hK hP hD hS 2 0 rfl rfl hg4240 dX6_hear_42 (ws' := [(a_m_w, .inl (cI, 106, .inl m_w)), (a_m, .inr (6, [.ref a_m_w, .ref a_m_d, .int r4237.1, .int m_kept, .ref a_m_text, .int m_texted, .int m_at, .ref a_m_numbers, .ref a_m_then, .ref a_m_leans, .int m_draws, .int m_drawn, .int m_heards, .ref a_m_heardSet, .ref a_m_heardSum])), (a_m_d, .inl (cI, 216, .inl g4240))]) rfl (fun H locs hP hD hS => ?_)
      refine lv_iload_n hx hb dX6_hear_43 rfl (lv_at hl 0 rfl) ?_
      obtain rfl := Option.some.inj h
      subst hQe
      exact W.iret (v := v4239) hx hb hr (fun t ht hW => ⟨⟨v4239, (), rfl, rfl, ⟨by rw [ht]; exact hP.sub [1, 0, 2] rfl, hD.sub [1, 0, 2] (by decide +kernel) rfl⟩⟩, hS.F ht⟩) hS.2.2 dX6_hear_44
    · have h := (if_pos c_14).symm.trans h
      refine lv_iconst (v := (-1 : Int32)) hx hb dX6_hear_17 (by decide) ?_
      obtain rfl := Option.some.inj h
      subst hQe
      exact W.iret (v := (-1 : Int32)) hx hb hr (fun t ht hW => ⟨⟨(-1 : Int32), (), rfl, rfl, ⟨by rw [ht]; exact hP.sub [1, 2, 0] rfl, hD.sub [1, 2, 0] (by decide +kernel) rfl⟩⟩, hS.F ht⟩) hS.2.2 dX6_hear_18
def rm_X6_undo : Room := { frames := 0, cells := 0, slots := 0, locals := 0 }
set_option maxRecDepth 100000 in
set_option maxHeartbeats 8000000 in
theorem c_X6_undo (l : Launch) (dC : Nat → ClassId) (dI : Nat → Nat → Nat) (cI cS : ClassId) (n sz : Nat) (a_m : Nat) (a_m_w : Nat) (a_m_d : Nat) (a_m_text : Nat) (a_m_numbers : Nat) (a_m_then : Nat) (a_m_leans : Nat) (a_m_heardSet : Nat) (a_m_heardSum : Nat) (m_d : Nat → Int32) (m_undoes : Int32) (m_kept : Int32) (m_texted : Int32) (m_at : Int32) (m_draws : Int32) (m_drawn : Int32) (m_heards : Int32) (res : Int32 × Int32 × (Nat → Int32))  (h : F_X6_undo n m_d m_undoes = some res) : Met l yX6_undo wsX6_undo rm_X6_undo (va_Pc [.ref a_m] (PRE (dC, dI) vwCl [(cI, .int), (cS, .object "RoundOfTheA$State")] sz [(a_m, .inr (6, [.ref a_m_w, .ref a_m_d, .int m_undoes, .int m_kept, .ref a_m_text, .int m_texted, .int m_at, .ref a_m_numbers, .ref a_m_then, .ref a_m_leans, .int m_draws, .int m_drawn, .int m_heards, .ref a_m_heardSet, .ref a_m_heardSum])), (a_m_d, .inl (cI, 216, .inl m_d))])) (va_Qi (fun (r : Int32) (_ : Unit) => r = res.1) (fun u t => POST (dC, dI) vwCl [(a_m, .inr (6, [.ref a_m_w, .ref a_m_d, .int res.2.1, .int m_kept, .ref a_m_text, .int m_texted, .int m_at, .ref a_m_numbers, .ref a_m_then, .ref a_m_leans, .int m_draws, .int m_drawn, .int m_heards, .ref a_m_heardSet, .ref a_m_heardSum])), (a_m_d, .inl (cI, 216, .inl res.2.2))] (va_A [(a_m, .inr (6, [.ref a_m_w, .ref a_m_d, .int m_undoes, .int m_kept, .ref a_m_text, .int m_texted, .int m_at, .ref a_m_numbers, .ref a_m_then, .ref a_m_leans, .int m_draws, .int m_drawn, .int m_heards, .ref a_m_heardSet, .ref a_m_heardSum])), (a_m_d, .inl (cI, 216, .inl m_d))] sz) t) (va_A [(a_m, .inr (6, [.ref a_m_w, .ref a_m_d, .int m_undoes, .int m_kept, .ref a_m_text, .int m_texted, .int m_at, .ref a_m_numbers, .ref a_m_then, .ref a_m_leans, .int m_draws, .int m_drawn, .int m_heards, .ref a_m_heardSet, .ref a_m_heardSum])), (a_m_d, .inl (cI, 216, .inl m_d))] sz)) 0 0 (va_A [(a_m, .inr (6, [.ref a_m_w, .ref a_m_d, .int m_undoes, .int m_kept, .ref a_m_text, .int m_texted, .int m_at, .ref a_m_numbers, .ref a_m_then, .ref a_m_leans, .int m_draws, .int m_drawn, .int m_heards, .ref a_m_heardSet, .ref a_m_heardSum])), (a_m_d, .inl (cI, 216, .inl m_d))] sz) := by
  refine Met.ofW (cc := cX6_undo) (maxL := 2) (ret := (some .int)) (by decide) rfl ?_
  intro p e s m args below meth c s₁ B hml hv
  obtain ⟨rfl, hsz, hN, hP, hK, hD0⟩ := hv
  have hx := B.exec
  have hb := B.bytes
  have hr := B.returns
  have hts := atoms_spec (ws := wsX6_undo) B.pre
  have hown : s.vm.findClass RX6 = some m.cls := findClass_of_methodNamed B.named
  have hlocks := B.notSynchronized
  subst hsz
  have hD := hD0.self (sz := s.heap.size)
  generalize hAe : va_A [(a_m, .inr (6, [.ref a_m_w, .ref a_m_d, .int m_undoes, .int m_kept, .ref a_m_text, .int m_texted, .int m_at, .ref a_m_numbers, .ref a_m_then, .ref a_m_leans, .int m_draws, .int m_drawn, .int m_heards, .ref a_m_heardSet, .ref a_m_heardSum])), (a_m_d, .inl (cI, 216, .inl m_d))] s.heap.size = A at hD ⊢
  have hA : ∀ q : Nat, s.heap.size ≤ q → A q := fun q h => by rw [← hAe]; exact Or.inr h
  have hS : va_S A s.heap s.heap [] := va_S.rf
  generalize hQe : MQ below _ _ s _ _ A = QQ
  have hl := lv_entry ([.ref a_m]) (n := 2) (Nat.le_of_ble_eq_true rfl)
  rw [lg_entry_eq]
  generalize (lg_sl ([.ref a_m]) ++ List.replicate (2 - (lg_sl ([.ref a_m])).length) Slot.unset).toArray = ls at hl ⊢
  have hl : lv_has ls 2 [(0, .ref a_m)] := hl
  have f_44 := hts (.fieldLink RX6 44 "RoundOfTheAModel" "undoes" "I") (by decide +kernel)
  have in_X6 := (by decide +kernel : ∀ w ∈ wsX60, w ∈ wsX6_undo)
  have f_13 := hts (.fieldLink RX6 13 "RoundOfTheAModel" "d" "[I") (by decide +kernel)
  rw [F_X6_undo] at h
  refine lv_aload_n hx hb dX6_undo_0 rfl (lv_at hl 0 rfl) ?_
  refine va_get (D := (dC, dI)) (ci := 6) (v := .int m_undoes) (C := RX6) (T := TX6) (N := 15) hx hb hts in_X6 hown hK hP 0 rfl rfl 2 (by decide) f_44 (fun _ h9 => h9) rfl dX6_undo_1 ?_
  refine lv_if_ne (tgt := 10) hx hb dX6_undo_4 (by decide) (fun c_4 => ?_) (fun c_4 => ?_)
  · have h := (if_neg c_4).symm.trans h
    refine lv_aload_n hx hb dX6_undo_10 rfl (lv_at hl 0 rfl) ?_
    refine lv_dup hx hb dX6_undo_11 rfl ?_
    refine va_get (D := (dC, dI)) (ci := 6) (v := .int m_undoes) (C := RX6) (T := TX6) (N := 15) hx hb hts in_X6 hown hK hP 0 rfl rfl 2 (by decide) f_44 (fun _ h9 => h9) rfl dX6_undo_12 ?_
    refine lv_iconst (v := (1 : Int32)) hx hb dX6_undo_15 (by decide) ?_
    refine lv_isub hx hb dX6_undo_16 ?_
    refine va_put (D := (dC, dI)) (ci := 6) (v := .int (m_undoes - (1 : Int32))) (ty := .int) (C := RX6) (T := TX6) (N := 15) hx hb hts in_X6 tyX6 tyX6_ok nmX6 hown hK hP hD hS 0 rfl rfl 2 (by decide) f_44 (fun _ h9 => h9) rfl (by decide +kernel) rfl rfl (Nat.le_of_ble_eq_true rfl) dX6_undo_17 (fun H locs hP hD hS => ?_)
    have hP : va_P (dC, dI) vwCl [(a_m, .inr (6, [.ref a_m_w, .ref a_m_d, .int (m_undoes - (1 : Int32)), .int m_kept, .ref a_m_text, .int m_texted, .int m_at, .ref a_m_numbers, .ref a_m_then, .ref a_m_leans, .int m_draws, .int m_drawn, .int m_heards, .ref a_m_heardSet, .ref a_m_heardSum])), (a_m_d, .inl (cI, 216, .inl m_d))] H := hP
    have hD : va_D A [(a_m, .inr (6, [.ref a_m_w, .ref a_m_d, .int (m_undoes - (1 : Int32)), .int m_kept, .ref a_m_text, .int m_texted, .int m_at, .ref a_m_numbers, .ref a_m_then, .ref a_m_leans, .int m_draws, .int m_drawn, .int m_heards, .ref a_m_heardSet, .ref a_m_heardSum])), (a_m_d, .inl (cI, 216, .inl m_d))] := hD
    refine lv_iconst (v := (0 : Int32)) hx hb dX6_undo_20 (by decide) ?_
    refine lv_istore_n (lv' := [(1, .int (0 : Int32)), (0, .ref a_m)]) hx hb dX6_undo_21 rfl hl (by decide) rfl (fun ls hl => ?_)
    obtain ⟨j4256, hjj4256, h⟩ := ob h
    have Jj4256 : ∀ (H : Heap) (locs : List Loc), va_P (dC, dI) vwCl [(a_m, .inr (6, [.ref a_m_w, .ref a_m_d, .int (m_undoes - (1 : Int32)), .int m_kept, .ref a_m_text, .int m_texted, .int m_at, .ref a_m_numbers, .ref a_m_then, .ref a_m_leans, .int m_draws, .int m_drawn, .int m_heards, .ref a_m_heardSet, .ref a_m_heardSum])), (a_m_d, .inl (cI, 216, .inl j4256.2))] H → va_D A [(a_m, .inr (6, [.ref a_m_w, .ref a_m_d, .int (m_undoes - (1 : Int32)), .int m_kept, .ref a_m_text, .int m_texted, .int m_at, .ref a_m_numbers, .ref a_m_then, .ref a_m_leans, .int m_draws, .int m_drawn, .int m_heards, .ref a_m_heardSet, .ref a_m_heardSum])), (a_m_d, .inl (cI, 216, .inl j4256.2))] → va_S A s.heap H locs → ∀ ls : Array Slot, lv_has ls 2 [(0, .ref a_m), (1, .int j4256.1)] → W p l e (headSpec wsX6_undo rm_X6_undo).room s m ([.ref a_m] : List Value).toArray below meth c H locs 0 0 QQ (F0 m 57 ls []) := by
      intro H locs hP hD hS ls hl
      refine lv_aload_n hx hb dX6_undo_57 rfl (lv_at hl 0 rfl) ?_
      refine va_get (D := (dC, dI)) (ci := 6) (v := .int (m_undoes - (1 : Int32))) (C := RX6) (T := TX6) (N := 15) hx hb hts in_X6 hown hK hP 0 rfl rfl 2 (by decide) f_44 (fun _ h9 => h9) rfl dX6_undo_58 ?_
      obtain rfl := Option.some.inj h
      subst hQe
      exact W.iret (v := (m_undoes - (1 : Int32))) hx hb hr (fun t ht hW => ⟨⟨(m_undoes - (1 : Int32)), (), rfl, rfl, ⟨by rw [ht]; exact hP, hD⟩⟩, hS.F ht⟩) hS.2.2 dX6_undo_61
    have K22 : ∀ (k : Nat) (y1_22 : Int32) (m_dv_22 : Nat → Int32), L_X6_undo_22 m_undoes k y1_22 m_dv_22 = some j4256 → ∀ (H : Heap) (locs : List Loc), va_P (dC, dI) vwCl [(a_m, .inr (6, [.ref a_m_w, .ref a_m_d, .int (m_undoes - (1 : Int32)), .int m_kept, .ref a_m_text, .int m_texted, .int m_at, .ref a_m_numbers, .ref a_m_then, .ref a_m_leans, .int m_draws, .int m_drawn, .int m_heards, .ref a_m_heardSet, .ref a_m_heardSum])), (a_m_d, .inl (cI, 216, .inl m_dv_22))] H → va_D A [(a_m, .inr (6, [.ref a_m_w, .ref a_m_d, .int (m_undoes - (1 : Int32)), .int m_kept, .ref a_m_text, .int m_texted, .int m_at, .ref a_m_numbers, .ref a_m_then, .ref a_m_leans, .int m_draws, .int m_drawn, .int m_heards, .ref a_m_heardSet, .ref a_m_heardSum])), (a_m_d, .inl (cI, 216, .inl m_dv_22))] → va_S A s.heap H locs → ∀ ls : Array Slot, lv_has ls 2 [(0, .ref a_m), (1, .int y1_22)] → W p l e (headSpec wsX6_undo rm_X6_undo).room s m ([.ref a_m] : List Value).toArray below meth c H locs 0 0 QQ (F0 m 22 ls []) := by
      intro k
      induction k with
      | zero =>
        intro y1_22 m_dv_22 h
        rw [L_X6_undo_22] at h
        cases h
      | succ k ih =>
        intro y1_22 m_dv_22 h H locs hP hD hS ls hl
        rw [L_X6_undo_22] at h
        refine lv_iload_n hx hb dX6_undo_22 rfl (lv_at hl 1 rfl) ?_
        refine lv_bipush (v := (18 : Int32)) hx hb dX6_undo_23 (by decide) ?_
        refine lv_icmp_ge (tgt := 57) hx hb dX6_undo_25 (by decide) (fun c_25 => ?_) (fun c_25 => ?_)
        · have h := (if_pos c_25).symm.trans h
          obtain rfl := Option.some.inj h
          exact Jj4256 _ _ hP hD hS _ hl
        · have h := (if_neg c_25).symm.trans h
          refine lv_aload_n hx hb dX6_undo_28 rfl (lv_at hl 0 rfl) ?_
          refine va_get (D := (dC, dI)) (ci := 6) (v := .ref a_m_d) (C := RX6) (T := TX6) (N := 15) hx hb hts in_X6 hown hK hP 0 rfl rfl 1 (by decide) f_13 (fun _ h9 => h9) rfl dX6_undo_29 ?_
          refine lv_iload_n hx hb dX6_undo_32 rfl (lv_at hl 1 rfl) ?_
          refine lv_aload_n hx hb dX6_undo_33 rfl (lv_at hl 0 rfl) ?_
          refine va_get (D := (dC, dI)) (ci := 6) (v := .ref a_m_d) (C := RX6) (T := TX6) (N := 15) hx hb hts in_X6 hown hK hP 0 rfl rfl 1 (by decide) f_13 (fun _ h9 => h9) rfl dX6_undo_34 ?_
          refine lv_bipush (v := (54 : Int32)) hx hb dX6_undo_37 (by decide) ?_
          refine lv_bipush (v := (18 : Int32)) hx hb dX6_undo_39 (by decide) ?_
          refine lv_aload_n hx hb dX6_undo_41 rfl (lv_at hl 0 rfl) ?_
          refine va_get (D := (dC, dI)) (ci := 6) (v := .int (m_undoes - (1 : Int32))) (C := RX6) (T := TX6) (N := 15) hx hb hts in_X6 hown hK hP 0 rfl rfl 2 (by decide) f_44 (fun _ h9 => h9) rfl dX6_undo_42 ?_
          refine lv_imul hx hb dX6_undo_45 ?_
          refine lv_iadd hx hb dX6_undo_46 ?_
          refine lv_iload_n hx hb dX6_undo_47 rfl (lv_at hl 1 rfl) ?_
          refine lv_iadd hx hb dX6_undo_48 ?_
          obtain ⟨v4257, hv4257, h⟩ := ob h
          refine k_ld hx hb hK hP 1 0 rfl rfl hv4257 dX6_undo_49 ?_
          obtain ⟨g4258, hg4258, h⟩ := ob h
          refine k_st hx hb hK hP hD hS 1 0 rfl rfl hg4258 dX6_undo_50 (ws' := [(a_m, .inr (6, [.ref a_m_w, .ref a_m_d, .int (m_undoes - (1 : Int32)), .int m_kept, .ref a_m_text, .int m_texted, .int m_at, .ref a_m_numbers, .ref a_m_then, .ref a_m_leans, .int m_draws, .int m_drawn, .int m_heards, .ref a_m_heardSet, .ref a_m_heardSum])), (a_m_d, .inl (cI, 216, .inl g4258))]) rfl (fun H locs hP hD hS => ?_)
          refine lv_iinc (v := (y1_22 + (1 : Int32))) (lv' := [(1, .int (y1_22 + (1 : Int32))), (0, .ref a_m)]) hx hb dX6_undo_51 hl (k := 1) rfl rfl (by decide) rfl (fun ls hl => ?_)
          refine lv_goto (tgt := 22) hx hb dX6_undo_54 (by decide) ?_
          exact ih _ _ h _ _ hP hD hS _ (lv_sub hl [1, 0] rfl)
    exact K22 n (0 : Int32) m_d hjj4256 _ _ hP hD hS _ (lv_sub hl [1, 0] rfl)
  · have h := (if_pos c_4).symm.trans h
    refine lv_bipush (v := (-2 : Int32)) hx hb dX6_undo_7 (by decide) ?_
    obtain rfl := Option.some.inj h
    subst hQe
    exact W.iret (v := (-2 : Int32)) hx hb hr (fun t ht hW => ⟨⟨(-2 : Int32), (), rfl, rfl, ⟨by rw [ht]; exact hP, hD⟩⟩, hS.F ht⟩) hS.2.2 dX6_undo_9
def rm_X6_spread : Room := { frames := 1, cells := 0, slots := 0, locals := 25 }
set_option maxRecDepth 100000 in
set_option maxHeartbeats 8000000 in
theorem c_X6_spread (l : Launch) (dC : Nat → ClassId) (dI : Nat → Nat → Nat) (cI cS : ClassId) (n sz : Nat) (a_m : Nat) (a_m_w : Nat) (a_m_d : Nat) (a_m_text : Nat) (a_m_numbers : Nat) (a_m_then : Nat) (a_m_leans : Nat) (a_m_heardSet : Nat) (a_m_heardSum : Nat) (m_w : Nat → Int32) (m_d : Nat → Int32) (m_undoes : Int32) (m_kept : Int32) (m_texted : Int32) (m_at : Int32) (m_draws : Int32) (m_drawn : Int32) (m_heards : Int32) (res : Int32)  (h : F_X6_spread n m_w m_d = some res) : Met l yX6_spread wsX6_spread rm_X6_spread (va_Pc [.ref a_m] (PRE (dC, dI) vwCl [(cI, .int), (cS, .object "RoundOfTheA$State")] sz [(a_m, .inr (6, [.ref a_m_w, .ref a_m_d, .int m_undoes, .int m_kept, .ref a_m_text, .int m_texted, .int m_at, .ref a_m_numbers, .ref a_m_then, .ref a_m_leans, .int m_draws, .int m_drawn, .int m_heards, .ref a_m_heardSet, .ref a_m_heardSum])), (a_m_w, .inl (cI, 106, .inl m_w)), (a_m_d, .inl (cI, 216, .inl m_d))])) (va_Qi (fun (r : Int32) (_ : Unit) => r = res) (fun u t => POST (dC, dI) vwCl [(a_m, .inr (6, [.ref a_m_w, .ref a_m_d, .int m_undoes, .int m_kept, .ref a_m_text, .int m_texted, .int m_at, .ref a_m_numbers, .ref a_m_then, .ref a_m_leans, .int m_draws, .int m_drawn, .int m_heards, .ref a_m_heardSet, .ref a_m_heardSum])), (a_m_w, .inl (cI, 106, .inl m_w)), (a_m_d, .inl (cI, 216, .inl m_d))] (va_A [(a_m, .inr (6, [.ref a_m_w, .ref a_m_d, .int m_undoes, .int m_kept, .ref a_m_text, .int m_texted, .int m_at, .ref a_m_numbers, .ref a_m_then, .ref a_m_leans, .int m_draws, .int m_drawn, .int m_heards, .ref a_m_heardSet, .ref a_m_heardSum])), (a_m_w, .inl (cI, 106, .inl m_w)), (a_m_d, .inl (cI, 216, .inl m_d))] sz) t) (va_A [(a_m, .inr (6, [.ref a_m_w, .ref a_m_d, .int m_undoes, .int m_kept, .ref a_m_text, .int m_texted, .int m_at, .ref a_m_numbers, .ref a_m_then, .ref a_m_leans, .int m_draws, .int m_drawn, .int m_heards, .ref a_m_heardSet, .ref a_m_heardSum])), (a_m_w, .inl (cI, 106, .inl m_w)), (a_m_d, .inl (cI, 216, .inl m_d))] sz)) 0 0 (va_A [(a_m, .inr (6, [.ref a_m_w, .ref a_m_d, .int m_undoes, .int m_kept, .ref a_m_text, .int m_texted, .int m_at, .ref a_m_numbers, .ref a_m_then, .ref a_m_leans, .int m_draws, .int m_drawn, .int m_heards, .ref a_m_heardSet, .ref a_m_heardSum])), (a_m_w, .inl (cI, 106, .inl m_w)), (a_m_d, .inl (cI, 216, .inl m_d))] sz) := by
  refine Met.ofW (cc := cX6_spread) (maxL := 1) (ret := (some .int)) (by decide) rfl ?_
  intro p e s m args below meth c s₁ B hml hv
  obtain ⟨rfl, hsz, hN, hP, hK, hD0⟩ := hv
  have hx := B.exec
  have hb := B.bytes
  have hr := B.returns
  have hts := atoms_spec (ws := wsX6_spread) B.pre
  have hown : s.vm.findClass RX6 = some m.cls := findClass_of_methodNamed B.named
  have hlocks := B.notSynchronized
  subst hsz
  have hD := hD0.self (sz := s.heap.size)
  generalize hAe : va_A [(a_m, .inr (6, [.ref a_m_w, .ref a_m_d, .int m_undoes, .int m_kept, .ref a_m_text, .int m_texted, .int m_at, .ref a_m_numbers, .ref a_m_then, .ref a_m_leans, .int m_draws, .int m_drawn, .int m_heards, .ref a_m_heardSet, .ref a_m_heardSum])), (a_m_w, .inl (cI, 106, .inl m_w)), (a_m_d, .inl (cI, 216, .inl m_d))] s.heap.size = A at hD ⊢
  have hA : ∀ q : Nat, s.heap.size ≤ q → A q := fun q h => by rw [← hAe]; exact Or.inr h
  have hS : va_S A s.heap s.heap [] := va_S.rf
  generalize hQe : MQ below _ _ s _ _ A = QQ
  have hl := lv_entry ([.ref a_m]) (n := 1) (Nat.le_of_ble_eq_true rfl)
  rw [lg_entry_eq]
  generalize (lg_sl ([.ref a_m]) ++ List.replicate (1 - (lg_sl ([.ref a_m])).length) Slot.unset).toArray = ls at hl ⊢
  have hl : lv_has ls 1 [(0, .ref a_m)] := hl
  rw [F_X6_spread] at h
  refine lv_aload_n hx hb dX6_spread_0 rfl (lv_at hl 0 rfl) ?_
  refine lv_iconst (v := (0 : Int32)) hx hb dX6_spread_1 (by decide) ?_
  obtain ⟨r4261, hr4261, h⟩ := ob h
  refine k_Vi (As := [.int (0 : Int32)]) (rest := []) (wr := []) (c_X6_spreadOf l dC dI cI cS n _ a_m a_m_w a_m_d a_m_text a_m_numbers a_m_then a_m_leans a_m_heardSet a_m_heardSum m_w m_d m_undoes m_kept m_texted m_at m_draws m_drawn m_heards (0 : Int32) r4261 hr4261) (fun _ _ q => q) ⟨hx, hb, hml, hown, hts⟩ (cwV 1 hts gX6_spread_X6_spreadOf rfl rfl rfl (by decide +kernel) ⟨(Nat.le_of_ble_eq_true rfl), (Nat.le_of_ble_eq_true rfl)⟩) hN hK hP hD hS hA [0, 1, 2] [] rfl rfl (by decide) (by decide) (by decide) rfl rfl rfl hl.1 rfl (Nat.le_of_ble_eq_true rfl) dX6_spread_2 ⟨(Nat.le_of_ble_eq_true rfl), (Nat.le_of_ble_eq_true rfl)⟩ (fun u4262 H locs _ hP hD hS => ?_)
  have hP : va_P (dC, dI) vwCl [(a_m, .inr (6, [.ref a_m_w, .ref a_m_d, .int m_undoes, .int m_kept, .ref a_m_text, .int m_texted, .int m_at, .ref a_m_numbers, .ref a_m_then, .ref a_m_leans, .int m_draws, .int m_drawn, .int m_heards, .ref a_m_heardSet, .ref a_m_heardSum])), (a_m_w, .inl (cI, 106, .inl m_w)), (a_m_d, .inl (cI, 216, .inl m_d))] H := hP
  have hD : va_D A [(a_m, .inr (6, [.ref a_m_w, .ref a_m_d, .int m_undoes, .int m_kept, .ref a_m_text, .int m_texted, .int m_at, .ref a_m_numbers, .ref a_m_then, .ref a_m_leans, .int m_draws, .int m_drawn, .int m_heards, .ref a_m_heardSet, .ref a_m_heardSum])), (a_m_w, .inl (cI, 106, .inl m_w)), (a_m_d, .inl (cI, 216, .inl m_d))] := hD
  obtain rfl := Option.some.inj h
  subst hQe
  exact W.iret (v := r4261) hx hb hr (fun t ht hW => ⟨⟨r4261, (), rfl, rfl, ⟨by rw [ht]; exact hP, hD⟩⟩, hS.F ht⟩) hS.2.2 dX6_spread_5
def rm_X6_heard : Room := { frames := 2, cells := 0, slots := 0, locals := 44 }
set_option maxRecDepth 100000 in
set_option maxHeartbeats 8000000 in
theorem c_X6_heard (l : Launch) (dC : Nat → ClassId) (dI : Nat → Nat → Nat) (cI cS : ClassId) (n sz : Nat) (a_m : Nat) (a_m_w : Nat) (a_m_d : Nat) (a_m_text : Nat) (a_m_numbers : Nat) (a_m_then : Nat) (a_m_leans : Nat) (a_m_heardSet : Nat) (a_m_heardSum : Nat) (m_w : Nat → Int32) (m_d : Nat → Int32) (m_undoes : Int32) (m_kept : Int32) (m_texted : Int32) (m_at : Int32) (m_draws : Int32) (m_drawn : Int32) (m_heards : Int32) (res : Int32)  (h : F_X6_heard n m_w m_d = some res) : Met l yX6_heard wsX6_heard rm_X6_heard (va_Pc [.ref a_m] (PRE (dC, dI) vwCl [(cI, .int), (cS, .object "RoundOfTheA$State")] sz [(a_m, .inr (6, [.ref a_m_w, .ref a_m_d, .int m_undoes, .int m_kept, .ref a_m_text, .int m_texted, .int m_at, .ref a_m_numbers, .ref a_m_then, .ref a_m_leans, .int m_draws, .int m_drawn, .int m_heards, .ref a_m_heardSet, .ref a_m_heardSum])), (a_m_w, .inl (cI, 106, .inl m_w)), (a_m_d, .inl (cI, 216, .inl m_d))])) (va_Qi (fun (r : Int32) (_ : Unit) => r = res) (fun u t => POST (dC, dI) vwCl [(a_m, .inr (6, [.ref a_m_w, .ref a_m_d, .int m_undoes, .int m_kept, .ref a_m_text, .int m_texted, .int m_at, .ref a_m_numbers, .ref a_m_then, .ref a_m_leans, .int m_draws, .int m_drawn, .int m_heards, .ref a_m_heardSet, .ref a_m_heardSum])), (a_m_w, .inl (cI, 106, .inl m_w)), (a_m_d, .inl (cI, 216, .inl m_d))] (va_A [(a_m, .inr (6, [.ref a_m_w, .ref a_m_d, .int m_undoes, .int m_kept, .ref a_m_text, .int m_texted, .int m_at, .ref a_m_numbers, .ref a_m_then, .ref a_m_leans, .int m_draws, .int m_drawn, .int m_heards, .ref a_m_heardSet, .ref a_m_heardSum])), (a_m_w, .inl (cI, 106, .inl m_w)), (a_m_d, .inl (cI, 216, .inl m_d))] sz) t) (va_A [(a_m, .inr (6, [.ref a_m_w, .ref a_m_d, .int m_undoes, .int m_kept, .ref a_m_text, .int m_texted, .int m_at, .ref a_m_numbers, .ref a_m_then, .ref a_m_leans, .int m_draws, .int m_drawn, .int m_heards, .ref a_m_heardSet, .ref a_m_heardSum])), (a_m_w, .inl (cI, 106, .inl m_w)), (a_m_d, .inl (cI, 216, .inl m_d))] sz)) 0 0 (va_A [(a_m, .inr (6, [.ref a_m_w, .ref a_m_d, .int m_undoes, .int m_kept, .ref a_m_text, .int m_texted, .int m_at, .ref a_m_numbers, .ref a_m_then, .ref a_m_leans, .int m_draws, .int m_drawn, .int m_heards, .ref a_m_heardSet, .ref a_m_heardSum])), (a_m_w, .inl (cI, 106, .inl m_w)), (a_m_d, .inl (cI, 216, .inl m_d))] sz) := by
  refine Met.ofW (cc := cX6_heard) (maxL := 1) (ret := (some .int)) (by decide) rfl ?_
  intro p e s m args below meth c s₁ B hml hv
  obtain ⟨rfl, hsz, hN, hP, hK, hD0⟩ := hv
  have hx := B.exec
  have hb := B.bytes
  have hr := B.returns
  have hts := atoms_spec (ws := wsX6_heard) B.pre
  have hown : s.vm.findClass RX6 = some m.cls := findClass_of_methodNamed B.named
  have hlocks := B.notSynchronized
  subst hsz
  have hD := hD0.self (sz := s.heap.size)
  generalize hAe : va_A [(a_m, .inr (6, [.ref a_m_w, .ref a_m_d, .int m_undoes, .int m_kept, .ref a_m_text, .int m_texted, .int m_at, .ref a_m_numbers, .ref a_m_then, .ref a_m_leans, .int m_draws, .int m_drawn, .int m_heards, .ref a_m_heardSet, .ref a_m_heardSum])), (a_m_w, .inl (cI, 106, .inl m_w)), (a_m_d, .inl (cI, 216, .inl m_d))] s.heap.size = A at hD ⊢
  have hA : ∀ q : Nat, s.heap.size ≤ q → A q := fun q h => by rw [← hAe]; exact Or.inr h
  have hS : va_S A s.heap s.heap [] := va_S.rf
  generalize hQe : MQ below _ _ s _ _ A = QQ
  have hl := lv_entry ([.ref a_m]) (n := 1) (Nat.le_of_ble_eq_true rfl)
  rw [lg_entry_eq]
  generalize (lg_sl ([.ref a_m]) ++ List.replicate (1 - (lg_sl ([.ref a_m])).length) Slot.unset).toArray = ls at hl ⊢
  have hl : lv_has ls 1 [(0, .ref a_m)] := hl
  rw [F_X6_heard] at h
  refine lv_aload_n hx hb dX6_heard_0 rfl (lv_at hl 0 rfl) ?_
  refine lv_iconst (v := (0 : Int32)) hx hb dX6_heard_1 (by decide) ?_
  obtain ⟨r4265, hr4265, h⟩ := ob h
  refine k_Vi (As := [.int (0 : Int32)]) (rest := []) (wr := []) (c_X6_heardOf l dC dI cI cS n _ a_m a_m_w a_m_d a_m_text a_m_numbers a_m_then a_m_leans a_m_heardSet a_m_heardSum m_w m_d m_undoes m_kept m_texted m_at m_draws m_drawn m_heards (0 : Int32) r4265 hr4265) (fun _ _ q => q) ⟨hx, hb, hml, hown, hts⟩ (cwV 1 hts gX6_heard_X6_heardOf rfl rfl rfl (by decide +kernel) ⟨(Nat.le_of_ble_eq_true rfl), (Nat.le_of_ble_eq_true rfl)⟩) hN hK hP hD hS hA [0, 1, 2] [] rfl rfl (by decide) (by decide) (by decide) rfl rfl rfl hl.1 rfl (Nat.le_of_ble_eq_true rfl) dX6_heard_2 ⟨(Nat.le_of_ble_eq_true rfl), (Nat.le_of_ble_eq_true rfl)⟩ (fun u4266 H locs _ hP hD hS => ?_)
  have hP : va_P (dC, dI) vwCl [(a_m, .inr (6, [.ref a_m_w, .ref a_m_d, .int m_undoes, .int m_kept, .ref a_m_text, .int m_texted, .int m_at, .ref a_m_numbers, .ref a_m_then, .ref a_m_leans, .int m_draws, .int m_drawn, .int m_heards, .ref a_m_heardSet, .ref a_m_heardSum])), (a_m_w, .inl (cI, 106, .inl m_w)), (a_m_d, .inl (cI, 216, .inl m_d))] H := hP
  have hD : va_D A [(a_m, .inr (6, [.ref a_m_w, .ref a_m_d, .int m_undoes, .int m_kept, .ref a_m_text, .int m_texted, .int m_at, .ref a_m_numbers, .ref a_m_then, .ref a_m_leans, .int m_draws, .int m_drawn, .int m_heards, .ref a_m_heardSet, .ref a_m_heardSum])), (a_m_w, .inl (cI, 106, .inl m_w)), (a_m_d, .inl (cI, 216, .inl m_d))] := hD
  obtain rfl := Option.some.inj h
  subst hQe
  exact W.iret (v := r4265) hx hb hr (fun t ht hW => ⟨⟨r4265, (), rfl, rfl, ⟨by rw [ht]; exact hP, hD⟩⟩, hS.F ht⟩) hS.2.2 dX6_heard_5
def rm_X6_common : Room := { frames := 0, cells := 0, slots := 0, locals := 0 }
set_option maxRecDepth 100000 in
set_option maxHeartbeats 8000000 in
theorem c_X6_common (l : Launch) (dC : Nat → ClassId) (dI : Nat → Nat → Nat) (cI cS : ClassId) (n sz : Nat) (x0 : Int32) (x1 : Int32) (res : Int32)  (h : F_X6_common n x0 x1 = some res) : Met l yX6_common wsX6_common rm_X6_common (va_Pc [.int x0, .int x1] (PRE (dC, dI) vwCl [(cI, .int), (cS, .object "RoundOfTheA$State")] sz [])) (va_Qi (fun (r : Int32) (_ : Unit) => r = res) (fun u t => POST (dC, dI) vwCl [] (va_A [] sz) t) (va_A [] sz)) 0 0 (va_A [] sz) := by
  refine Met.ofW (cc := cX6_common) (maxL := 5) (ret := (some .int)) (by decide) rfl ?_
  intro p e s m args below meth c s₁ B hml hv
  obtain ⟨rfl, hsz, hN, hP, hK, hD0⟩ := hv
  have hx := B.exec
  have hb := B.bytes
  have hr := B.returns
  have hts := atoms_spec (ws := wsX6_common) B.pre
  have hown : s.vm.findClass RX6 = some m.cls := findClass_of_methodNamed B.named
  have hlocks := B.notSynchronized
  subst hsz
  have hD := hD0.self (sz := s.heap.size)
  generalize hAe : va_A [] s.heap.size = A at hD ⊢
  have hA : ∀ q : Nat, s.heap.size ≤ q → A q := fun q h => by rw [← hAe]; exact Or.inr h
  have hS : va_S A s.heap s.heap [] := va_S.rf
  generalize hQe : MQ below _ _ s _ _ A = QQ
  have hl := lv_entry ([.int x0, .int x1]) (n := 5) (Nat.le_of_ble_eq_true rfl)
  rw [lg_entry_eq]
  generalize (lg_sl ([.int x0, .int x1]) ++ List.replicate (5 - (lg_sl ([.int x0, .int x1])).length) Slot.unset).toArray = ls at hl ⊢
  have hl : lv_has ls 5 [(0, .int x0), (1, .int x1)] := hl
  rw [F_X6_common] at h
  refine lv_iload_n hx hb dX6_common_0 rfl (lv_at hl 0 rfl) ?_
  refine lv_istore_n (lv' := [(2, .int x0), (0, .int x0), (1, .int x1)]) hx hb dX6_common_1 rfl hl (by decide) rfl (fun ls hl => ?_)
  refine lv_iload_n hx hb dX6_common_2 rfl (lv_at hl 2 rfl) ?_
  refine lv_istore_n (lv' := [(3, .int x1), (2, .int x0), (0, .int x0), (1, .int x1)]) hx hb dX6_common_3 rfl hl (by decide) rfl (fun ls hl => ?_)
  obtain ⟨j4277, hjj4277, h⟩ := ob h
  have Jj4277 : ∀ (H : Heap) (locs : List Loc), va_P (dC, dI) vwCl [] H → va_D A [] → va_S A s.heap H locs → ∀ ls : Array Slot, lv_has ls 5 [(0, .int x0), (1, .int x1), (2, .int j4277.1), (3, .int j4277.2)] → W p l e (headSpec wsX6_common rm_X6_common).room s m ([.int x0, .int x1] : List Value).toArray below meth c H locs 0 0 QQ (F0 m 21 ls []) := by
    intro H locs hP hD hS ls hl
    refine lv_iload_n hx hb dX6_common_21 rfl (lv_at hl 2 rfl) ?_
    obtain rfl := Option.some.inj h
    subst hQe
    exact W.iret (v := j4277.1) hx hb hr (fun t ht hW => ⟨⟨j4277.1, (), rfl, rfl, ⟨by rw [ht]; exact hP, hD⟩⟩, hS.F ht⟩) hS.2.2 dX6_common_22
  have K4 : ∀ (k : Nat) (y2_4 : Int32) (y3_4 : Int32), L_X6_common_4 k y2_4 y3_4 = some j4277 → ∀ (H : Heap) (locs : List Loc), va_P (dC, dI) vwCl [] H → va_D A [] → va_S A s.heap H locs → ∀ ls : Array Slot, lv_has ls 5 [(0, .int x0), (1, .int x1), (2, .int y2_4), (3, .int y3_4)] → W p l e (headSpec wsX6_common rm_X6_common).room s m ([.int x0, .int x1] : List Value).toArray below meth c H locs 0 0 QQ (F0 m 4 ls []) := by
    intro k
    induction k with
    | zero =>
      intro y2_4 y3_4 h
      rw [L_X6_common_4] at h
      cases h
    | succ k ih =>
      intro y2_4 y3_4 h H locs hP hD hS ls hl
      rw [L_X6_common_4] at h
      refine lv_iload_n hx hb dX6_common_4 rfl (lv_at hl 3 rfl) ?_
      refine lv_if_eq (tgt := 21) hx hb dX6_common_5 (by decide) (fun c_5 => ?_) (fun c_5 => ?_)
      · have h := (if_pos c_5).symm.trans h
        obtain rfl := Option.some.inj h
        exact Jj4277 _ _ hP hD hS _ hl
      · have h := (if_neg c_5).symm.trans h
        refine lv_iload_n hx hb dX6_common_8 rfl (lv_at hl 2 rfl) ?_
        refine lv_iload_n hx hb dX6_common_9 rfl (lv_at hl 3 rfl) ?_
        obtain ⟨u4278, hu4278, h⟩ := ob h
        refine lv_irem hx hb dX6_common_10 (nz_some hu4278) ?_
        refine lv_istore (lv' := [(4, .int (y2_4 - y2_4 / y3_4 * y3_4)), (0, .int x0), (1, .int x1), (2, .int y2_4), (3, .int y3_4)]) hx hb dX6_common_11 hl (by decide) rfl (fun ls hl => ?_)
        refine lv_iload_n hx hb dX6_common_13 rfl (lv_at hl 4 rfl) ?_
        refine lv_istore_n (lv' := [(2, .int y3_4), (4, .int (y2_4 - y2_4 / y3_4 * y3_4)), (0, .int x0), (1, .int x1), (3, .int y3_4)]) hx hb dX6_common_14 rfl hl (by decide) rfl (fun ls hl => ?_)
        refine lv_iload hx hb dX6_common_15 (lv_at hl 1 rfl) ?_
        refine lv_istore_n (lv' := [(3, .int (y2_4 - y2_4 / y3_4 * y3_4)), (2, .int y3_4), (4, .int (y2_4 - y2_4 / y3_4 * y3_4)), (0, .int x0), (1, .int x1)]) hx hb dX6_common_17 rfl hl (by decide) rfl (fun ls hl => ?_)
        refine lv_goto (tgt := 4) hx hb dX6_common_18 (by decide) ?_
        exact ih _ _ h _ _ hP hD hS _ (lv_sub hl [3, 4, 1, 0] rfl)
  exact K4 n x0 x1 hjj4277 _ _ hP hD hS _ (lv_sub hl [2, 3, 1, 0] rfl)
def rm_X6_mean : Room := { frames := 1, cells := 0, slots := 0, locals := 25 }
set_option maxRecDepth 100000 in
set_option maxHeartbeats 8000000 in
theorem c_X6_mean (l : Launch) (dC : Nat → ClassId) (dI : Nat → Nat → Nat) (cI cS : ClassId) (n sz : Nat) (a_m : Nat) (a_m_w : Nat) (a_m_d : Nat) (a_m_text : Nat) (a_m_numbers : Nat) (a_m_then : Nat) (a_m_leans : Nat) (a_m_heardSet : Nat) (a_m_heardSum : Nat) (m_w : Nat → Int32) (m_d : Nat → Int32) (m_undoes : Int32) (m_kept : Int32) (m_texted : Int32) (m_at : Int32) (m_draws : Int32) (m_drawn : Int32) (m_heards : Int32) (x1 : Int32) (res : Int32)  (h : F_X6_mean n m_w m_d x1 = some res) : Met l yX6_mean wsX6_mean rm_X6_mean (va_Pc [.ref a_m, .int x1] (PRE (dC, dI) vwCl [(cI, .int), (cS, .object "RoundOfTheA$State")] sz [(a_m, .inr (6, [.ref a_m_w, .ref a_m_d, .int m_undoes, .int m_kept, .ref a_m_text, .int m_texted, .int m_at, .ref a_m_numbers, .ref a_m_then, .ref a_m_leans, .int m_draws, .int m_drawn, .int m_heards, .ref a_m_heardSet, .ref a_m_heardSum])), (a_m_w, .inl (cI, 106, .inl m_w)), (a_m_d, .inl (cI, 216, .inl m_d))])) (va_Qi (fun (r : Int32) (_ : Unit) => r = res) (fun u t => POST (dC, dI) vwCl [(a_m, .inr (6, [.ref a_m_w, .ref a_m_d, .int m_undoes, .int m_kept, .ref a_m_text, .int m_texted, .int m_at, .ref a_m_numbers, .ref a_m_then, .ref a_m_leans, .int m_draws, .int m_drawn, .int m_heards, .ref a_m_heardSet, .ref a_m_heardSum])), (a_m_w, .inl (cI, 106, .inl m_w)), (a_m_d, .inl (cI, 216, .inl m_d))] (va_A [(a_m, .inr (6, [.ref a_m_w, .ref a_m_d, .int m_undoes, .int m_kept, .ref a_m_text, .int m_texted, .int m_at, .ref a_m_numbers, .ref a_m_then, .ref a_m_leans, .int m_draws, .int m_drawn, .int m_heards, .ref a_m_heardSet, .ref a_m_heardSum])), (a_m_w, .inl (cI, 106, .inl m_w)), (a_m_d, .inl (cI, 216, .inl m_d))] sz) t) (va_A [(a_m, .inr (6, [.ref a_m_w, .ref a_m_d, .int m_undoes, .int m_kept, .ref a_m_text, .int m_texted, .int m_at, .ref a_m_numbers, .ref a_m_then, .ref a_m_leans, .int m_draws, .int m_drawn, .int m_heards, .ref a_m_heardSet, .ref a_m_heardSum])), (a_m_w, .inl (cI, 106, .inl m_w)), (a_m_d, .inl (cI, 216, .inl m_d))] sz)) 0 0 (va_A [(a_m, .inr (6, [.ref a_m_w, .ref a_m_d, .int m_undoes, .int m_kept, .ref a_m_text, .int m_texted, .int m_at, .ref a_m_numbers, .ref a_m_then, .ref a_m_leans, .int m_draws, .int m_drawn, .int m_heards, .ref a_m_heardSet, .ref a_m_heardSum])), (a_m_w, .inl (cI, 106, .inl m_w)), (a_m_d, .inl (cI, 216, .inl m_d))] sz) := by
  refine Met.ofW (cc := cX6_mean) (maxL := 4) (ret := (some .int)) (by decide) rfl ?_
  intro p e s m args below meth c s₁ B hml hv
  obtain ⟨rfl, hsz, hN, hP, hK, hD0⟩ := hv
  have hx := B.exec
  have hb := B.bytes
  have hr := B.returns
  have hts := atoms_spec (ws := wsX6_mean) B.pre
  have hown : s.vm.findClass RX6 = some m.cls := findClass_of_methodNamed B.named
  have hlocks := B.notSynchronized
  subst hsz
  have hD := hD0.self (sz := s.heap.size)
  generalize hAe : va_A [(a_m, .inr (6, [.ref a_m_w, .ref a_m_d, .int m_undoes, .int m_kept, .ref a_m_text, .int m_texted, .int m_at, .ref a_m_numbers, .ref a_m_then, .ref a_m_leans, .int m_draws, .int m_drawn, .int m_heards, .ref a_m_heardSet, .ref a_m_heardSum])), (a_m_w, .inl (cI, 106, .inl m_w)), (a_m_d, .inl (cI, 216, .inl m_d))] s.heap.size = A at hD ⊢
  have hA : ∀ q : Nat, s.heap.size ≤ q → A q := fun q h => by rw [← hAe]; exact Or.inr h
  have hS : va_S A s.heap s.heap [] := va_S.rf
  generalize hQe : MQ below _ _ s _ _ A = QQ
  have hl := lv_entry ([.ref a_m, .int x1]) (n := 4) (Nat.le_of_ble_eq_true rfl)
  rw [lg_entry_eq]
  generalize (lg_sl ([.ref a_m, .int x1]) ++ List.replicate (4 - (lg_sl ([.ref a_m, .int x1])).length) Slot.unset).toArray = ls at hl ⊢
  have hl : lv_has ls 4 [(0, .ref a_m), (1, .int x1)] := hl
  have f_7 := hts (.fieldLink RX6 7 "RoundOfTheAModel" "w" "[I") (by decide +kernel)
  have in_X6 := (by decide +kernel : ∀ w ∈ wsX60, w ∈ wsX6_mean)
  have f_13 := hts (.fieldLink RX6 13 "RoundOfTheAModel" "d" "[I") (by decide +kernel)
  rw [F_X6_mean] at h
  refine lv_iload_n hx hb dX6_mean_0 rfl (lv_at hl 1 rfl) ?_
  refine lv_i2l (v := (Int32.toInt64 x1)) hx hb dX6_mean_1 rfl ?_
  refine lv_lconst (v := (0 : Int64)) hx hb dX6_mean_2 (by decide) ?_
  refine lv_lconst (v := (1 : Int64)) hx hb dX6_mean_3 (by decide) ?_
  obtain ⟨r4297, hr4297, h⟩ := ob h
  refine k_Si (As := [.long (Int32.toInt64 x1), .long (0 : Int64), .long (1 : Int64)]) (rest := []) (c_X6_in l dC dI cI cS n _ (Int32.toInt64 x1) (0 : Int64) (1 : Int64) r4297 hr4297) (fun _ _ q => q) ⟨hx, hb, hml, hown, hts⟩ (va_cwS 3 hts gX6_mean_X6_in rfl rfl rfl (by decide +kernel) ⟨(Nat.le_of_ble_eq_true rfl), (Nat.le_of_ble_eq_true rfl)⟩) hN hK hP hD hS hA rfl hl.1 rfl (Nat.le_of_ble_eq_true rfl) dX6_mean_4 ⟨(Nat.le_of_ble_eq_true rfl), (Nat.le_of_ble_eq_true rfl)⟩ (fun H locs hP hD hS => ?_)
  refine lv_if_ne (tgt := 12) hx hb dX6_mean_7 (by decide) (fun c_7 => ?_) (fun c_7 => ?_)
  · have h := (if_neg c_7).symm.trans h
    refine lv_sipush (v := (1000 : Int32)) hx hb dX6_mean_12 (by decide) ?_
    refine lv_aload_n hx hb dX6_mean_15 rfl (lv_at hl 0 rfl) ?_
    refine va_get (D := (dC, dI)) (ci := 6) (v := .ref a_m_w) (C := RX6) (T := TX6) (N := 15) hx hb hts in_X6 hown hK hP 0 rfl rfl 0 (by decide) f_7 (fun _ h9 => h9) rfl dX6_mean_16 ?_
    refine lv_iconst (v := (0 : Int32)) hx hb dX6_mean_19 (by decide) ?_
    obtain ⟨v4299, hv4299, h⟩ := ob h
    refine k_ld hx hb hK hP 1 0 rfl rfl hv4299 dX6_mean_20 ?_
    refine lv_imul hx hb dX6_mean_21 ?_
    refine lv_istore_n (lv' := [(2, .int ((1000 : Int32) * v4299)), (0, .ref a_m), (1, .int x1)]) hx hb dX6_mean_22 rfl hl (by decide) rfl (fun ls hl => ?_)
    refine lv_iconst (v := (0 : Int32)) hx hb dX6_mean_23 (by decide) ?_
    refine lv_istore_n (lv' := [(3, .int (0 : Int32)), (2, .int ((1000 : Int32) * v4299)), (0, .ref a_m), (1, .int x1)]) hx hb dX6_mean_24 rfl hl (by decide) rfl (fun ls hl => ?_)
    obtain ⟨j4306, hjj4306, h⟩ := ob h
    have Jj4306 : ∀ (H : Heap) (locs : List Loc), va_P (dC, dI) vwCl [(a_m, .inr (6, [.ref a_m_w, .ref a_m_d, .int m_undoes, .int m_kept, .ref a_m_text, .int m_texted, .int m_at, .ref a_m_numbers, .ref a_m_then, .ref a_m_leans, .int m_draws, .int m_drawn, .int m_heards, .ref a_m_heardSet, .ref a_m_heardSum])), (a_m_w, .inl (cI, 106, .inl m_w)), (a_m_d, .inl (cI, 216, .inl m_d))] H → va_D A [(a_m, .inr (6, [.ref a_m_w, .ref a_m_d, .int m_undoes, .int m_kept, .ref a_m_text, .int m_texted, .int m_at, .ref a_m_numbers, .ref a_m_then, .ref a_m_leans, .int m_draws, .int m_drawn, .int m_heards, .ref a_m_heardSet, .ref a_m_heardSum])), (a_m_w, .inl (cI, 106, .inl m_w)), (a_m_d, .inl (cI, 216, .inl m_d))] → va_S A s.heap H locs → ∀ ls : Array Slot, lv_has ls 4 [(0, .ref a_m), (1, .int x1), (2, .int j4306.1), (3, .int j4306.2)] → W p l e (headSpec wsX6_mean rm_X6_mean).room s m ([.ref a_m, .int x1] : List Value).toArray below meth c H locs 0 0 QQ (F0 m 52 ls []) := by
      intro H locs hP hD hS ls hl
      refine lv_iload_n hx hb dX6_mean_52 rfl (lv_at hl 2 rfl) ?_
      refine lv_aload_n hx hb dX6_mean_53 rfl (lv_at hl 0 rfl) ?_
      refine va_get (D := (dC, dI)) (ci := 6) (v := .ref a_m_w) (C := RX6) (T := TX6) (N := 15) hx hb hts in_X6 hown hK hP 0 rfl rfl 0 (by decide) f_7 (fun _ h9 => h9) rfl dX6_mean_54 ?_
      refine lv_iconst (v := (0 : Int32)) hx hb dX6_mean_57 (by decide) ?_
      obtain ⟨v4309, hv4309, h⟩ := ob h
      refine k_ld hx hb hK hP 1 0 rfl rfl hv4309 dX6_mean_58 ?_
      obtain ⟨r4310, hr4310, h⟩ := ob h
      refine k_Si (As := [.int j4306.1, .int v4309]) (rest := []) (c_X6_common l dC dI cI cS n _ j4306.1 v4309 r4310 hr4310) (fun _ _ q => q) ⟨hx, hb, hml, hown, hts⟩ (va_cwS 2 hts gX6_mean_X6_common rfl rfl rfl (by decide +kernel) ⟨(Nat.le_of_ble_eq_true rfl), (Nat.le_of_ble_eq_true rfl)⟩) hN hK hP hD hS hA rfl hl.1 rfl (Nat.le_of_ble_eq_true rfl) dX6_mean_59 ⟨(Nat.le_of_ble_eq_true rfl), (Nat.le_of_ble_eq_true rfl)⟩ (fun H locs hP hD hS => ?_)
      refine lv_istore_n (lv' := [(3, .int r4310), (0, .ref a_m), (1, .int x1), (2, .int j4306.1)]) hx hb dX6_mean_62 rfl hl (by decide) rfl (fun ls hl => ?_)
      refine lv_iload_n hx hb dX6_mean_63 rfl (lv_at hl 2 rfl) ?_
      refine lv_if_ne (tgt := 73) hx hb dX6_mean_64 (by decide) (fun c_64 => ?_) (fun c_64 => ?_)
      · have h := (if_neg c_64).symm.trans h
        refine lv_aload_n hx hb dX6_mean_73 rfl (lv_at hl 1 rfl) ?_
        refine va_get (D := (dC, dI)) (ci := 6) (v := .ref a_m_w) (C := RX6) (T := TX6) (N := 15) hx hb hts in_X6 hown hK hP 0 rfl rfl 0 (by decide) f_7 (fun _ h9 => h9) rfl dX6_mean_74 ?_
        refine lv_iconst (v := (0 : Int32)) hx hb dX6_mean_77 (by decide) ?_
        obtain ⟨v4312, hv4312, h⟩ := ob h
        refine k_ld hx hb hK hP 1 0 rfl rfl hv4312 dX6_mean_78 ?_
        refine lv_iload_n hx hb dX6_mean_79 rfl (lv_at hl 0 rfl) ?_
        obtain ⟨u4313, hu4313, h⟩ := ob h
        refine lv_idiv hx hb dX6_mean_80 (nz_some hu4313) ?_
        obtain rfl := Option.some.inj h
        subst hQe
        exact W.iret (v := (v4312 / r4310)) hx hb hr (fun t ht hW => ⟨⟨(v4312 / r4310), (), rfl, rfl, ⟨by rw [ht]; exact hP, hD⟩⟩, hS.F ht⟩) hS.2.2 dX6_mean_81
      · have h := (if_pos c_64).symm.trans h
        refine lv_iload_n hx hb dX6_mean_67 rfl (lv_at hl 3 rfl) ?_
        refine lv_iload_n hx hb dX6_mean_68 rfl (lv_at hl 0 rfl) ?_
        obtain ⟨u4314, hu4314, h⟩ := ob h
        refine lv_idiv hx hb dX6_mean_69 (nz_some hu4314) ?_
        refine lv_goto (tgt := 81) hx hb dX6_mean_70 (by decide) ?_
        obtain rfl := Option.some.inj h
        subst hQe
        exact W.iret (v := (j4306.1 / r4310)) hx hb hr (fun t ht hW => ⟨⟨(j4306.1 / r4310), (), rfl, rfl, ⟨by rw [ht]; exact hP, hD⟩⟩, hS.F ht⟩) hS.2.2 dX6_mean_81
    have K25 : ∀ (k : Nat) (y2_25 : Int32) (y3_25 : Int32), L_X6_mean_25 m_w m_d k y2_25 y3_25 = some j4306 → ∀ (H : Heap) (locs : List Loc), va_P (dC, dI) vwCl [(a_m, .inr (6, [.ref a_m_w, .ref a_m_d, .int m_undoes, .int m_kept, .ref a_m_text, .int m_texted, .int m_at, .ref a_m_numbers, .ref a_m_then, .ref a_m_leans, .int m_draws, .int m_drawn, .int m_heards, .ref a_m_heardSet, .ref a_m_heardSum])), (a_m_w, .inl (cI, 106, .inl m_w)), (a_m_d, .inl (cI, 216, .inl m_d))] H → va_D A [(a_m, .inr (6, [.ref a_m_w, .ref a_m_d, .int m_undoes, .int m_kept, .ref a_m_text, .int m_texted, .int m_at, .ref a_m_numbers, .ref a_m_then, .ref a_m_leans, .int m_draws, .int m_drawn, .int m_heards, .ref a_m_heardSet, .ref a_m_heardSum])), (a_m_w, .inl (cI, 106, .inl m_w)), (a_m_d, .inl (cI, 216, .inl m_d))] → va_S A s.heap H locs → ∀ ls : Array Slot, lv_has ls 4 [(0, .ref a_m), (1, .int x1), (2, .int y2_25), (3, .int y3_25)] → W p l e (headSpec wsX6_mean rm_X6_mean).room s m ([.ref a_m, .int x1] : List Value).toArray below meth c H locs 0 0 QQ (F0 m 25 ls []) := by
      intro k
      induction k with
      | zero =>
        intro y2_25 y3_25 h
        rw [L_X6_mean_25] at h
        cases h
      | succ k ih =>
        intro y2_25 y3_25 h H locs hP hD hS ls hl
        rw [L_X6_mean_25] at h
        refine lv_iload_n hx hb dX6_mean_25 rfl (lv_at hl 3 rfl) ?_
        refine lv_aload_n hx hb dX6_mean_26 rfl (lv_at hl 0 rfl) ?_
        refine va_get (D := (dC, dI)) (ci := 6) (v := .ref a_m_w) (C := RX6) (T := TX6) (N := 15) hx hb hts in_X6 hown hK hP 0 rfl rfl 0 (by decide) f_7 (fun _ h9 => h9) rfl dX6_mean_27 ?_
        refine lv_iconst (v := (0 : Int32)) hx hb dX6_mean_30 (by decide) ?_
        obtain ⟨v4307, hv4307, h⟩ := ob h
        refine k_ld hx hb hK hP 1 0 rfl rfl hv4307 dX6_mean_31 ?_
        refine lv_icmp_ge (tgt := 52) hx hb dX6_mean_32 (by decide) (fun c_32 => ?_) (fun c_32 => ?_)
        · have h := (if_pos c_32).symm.trans h
          obtain rfl := Option.some.inj h
          exact Jj4306 _ _ hP hD hS _ hl
        · have h := (if_neg c_32).symm.trans h
          refine lv_iload_n hx hb dX6_mean_35 rfl (lv_at hl 2 rfl) ?_
          refine lv_aload_n hx hb dX6_mean_36 rfl (lv_at hl 0 rfl) ?_
          refine va_get (D := (dC, dI)) (ci := 6) (v := .ref a_m_d) (C := RX6) (T := TX6) (N := 15) hx hb hts in_X6 hown hK hP 0 rfl rfl 1 (by decide) f_13 (fun _ h9 => h9) rfl dX6_mean_37 ?_
          refine lv_iconst (v := (0 : Int32)) hx hb dX6_mean_40 (by decide) ?_
          refine lv_iload_n hx hb dX6_mean_41 rfl (lv_at hl 3 rfl) ?_
          refine lv_iadd hx hb dX6_mean_42 ?_
          obtain ⟨v4308, hv4308, h⟩ := ob h
          refine k_ld hx hb hK hP 2 0 rfl rfl hv4308 dX6_mean_43 ?_
          refine lv_iadd hx hb dX6_mean_44 ?_
          refine lv_istore_n (lv' := [(2, .int (y2_25 + v4308)), (0, .ref a_m), (1, .int x1), (3, .int y3_25)]) hx hb dX6_mean_45 rfl hl (by decide) rfl (fun ls hl => ?_)
          refine lv_iinc (v := (y3_25 + (1 : Int32))) (lv' := [(3, .int (y3_25 + (1 : Int32))), (2, .int (y2_25 + v4308)), (0, .ref a_m), (1, .int x1)]) hx hb dX6_mean_46 hl (k := 3) rfl rfl (by decide) rfl (fun ls hl => ?_)
          refine lv_goto (tgt := 25) hx hb dX6_mean_49 (by decide) ?_
          exact ih _ _ h _ _ hP hD hS _ (lv_sub hl [2, 3, 1, 0] rfl)
    exact K25 n ((1000 : Int32) * v4299) (0 : Int32) hjj4306 _ _ hP hD hS _ (lv_sub hl [2, 3, 1, 0] rfl)
  · have h := (if_pos c_7).symm.trans h
    refine lv_iconst (v := (-1 : Int32)) hx hb dX6_mean_10 (by decide) ?_
    obtain rfl := Option.some.inj h
    subst hQe
    exact W.iret (v := (-1 : Int32)) hx hb hr (fun t ht hW => ⟨⟨(-1 : Int32), (), rfl, rfl, ⟨by rw [ht]; exact hP, hD⟩⟩, hS.F ht⟩) hS.2.2 dX6_mean_11
def rm_X6_round : Room := { frames := 5, cells := 0, slots := 0, locals := 115 }
set_option maxRecDepth 100000 in
set_option maxHeartbeats 8000000 in
theorem c_X6_round (l : Launch) (dC : Nat → ClassId) (dI : Nat → Nat → Nat) (cI cS : ClassId) (n sz : Nat) (a_m : Nat) (a_m_w : Nat) (a_m_d : Nat) (a_m_text : Nat) (a_m_numbers : Nat) (a_m_then : Nat) (a_m_leans : Nat) (a_m_heardSet : Nat) (a_m_heardSum : Nat) (m_w : Nat → Int32) (m_d : Nat → Int32) (m_undoes : Int32) (m_kept : Int32) (m_texted : Int32) (m_at : Int32) (m_then : Nat → Int32) (m_leans : Nat → Int32) (m_draws : Int32) (m_drawn : Int32) (m_heards : Int32) (x1 : Int32) (res : Int32 × Int32 × Int32 × (Nat → Int32) × (Nat → Int32) × (Nat → Int32))  (h : F_X6_round n m_w m_d m_then m_leans m_draws m_drawn x1 = some res) : Met l yX6_round wsX6_round rm_X6_round (va_Pc [.ref a_m, .int x1] (PRE (dC, dI) vwCl [(cI, .int), (cS, .object "RoundOfTheA$State")] sz [(a_m, .inr (6, [.ref a_m_w, .ref a_m_d, .int m_undoes, .int m_kept, .ref a_m_text, .int m_texted, .int m_at, .ref a_m_numbers, .ref a_m_then, .ref a_m_leans, .int m_draws, .int m_drawn, .int m_heards, .ref a_m_heardSet, .ref a_m_heardSum])), (a_m_w, .inl (cI, 106, .inl m_w)), (a_m_d, .inl (cI, 216, .inl m_d)), (a_m_then, .inl (cI, 8, .inl m_then)), (a_m_leans, .inl (cI, 8, .inl m_leans))])) (va_Qi (fun (r : Int32) (_ : Unit) => r = res.1) (fun u t => POST (dC, dI) vwCl [(a_m, .inr (6, [.ref a_m_w, .ref a_m_d, .int m_undoes, .int m_kept, .ref a_m_text, .int m_texted, .int m_at, .ref a_m_numbers, .ref a_m_then, .ref a_m_leans, .int res.2.1, .int res.2.2.1, .int m_heards, .ref a_m_heardSet, .ref a_m_heardSum])), (a_m_w, .inl (cI, 106, .inl m_w)), (a_m_d, .inl (cI, 216, .inl res.2.2.2.1)), (a_m_then, .inl (cI, 8, .inl res.2.2.2.2.1)), (a_m_leans, .inl (cI, 8, .inl res.2.2.2.2.2))] (va_A [(a_m, .inr (6, [.ref a_m_w, .ref a_m_d, .int m_undoes, .int m_kept, .ref a_m_text, .int m_texted, .int m_at, .ref a_m_numbers, .ref a_m_then, .ref a_m_leans, .int m_draws, .int m_drawn, .int m_heards, .ref a_m_heardSet, .ref a_m_heardSum])), (a_m_w, .inl (cI, 106, .inl m_w)), (a_m_d, .inl (cI, 216, .inl m_d)), (a_m_then, .inl (cI, 8, .inl m_then)), (a_m_leans, .inl (cI, 8, .inl m_leans))] sz) t) (va_A [(a_m, .inr (6, [.ref a_m_w, .ref a_m_d, .int m_undoes, .int m_kept, .ref a_m_text, .int m_texted, .int m_at, .ref a_m_numbers, .ref a_m_then, .ref a_m_leans, .int m_draws, .int m_drawn, .int m_heards, .ref a_m_heardSet, .ref a_m_heardSum])), (a_m_w, .inl (cI, 106, .inl m_w)), (a_m_d, .inl (cI, 216, .inl m_d)), (a_m_then, .inl (cI, 8, .inl m_then)), (a_m_leans, .inl (cI, 8, .inl m_leans))] sz)) 0 0 (va_A [(a_m, .inr (6, [.ref a_m_w, .ref a_m_d, .int m_undoes, .int m_kept, .ref a_m_text, .int m_texted, .int m_at, .ref a_m_numbers, .ref a_m_then, .ref a_m_leans, .int m_draws, .int m_drawn, .int m_heards, .ref a_m_heardSet, .ref a_m_heardSum])), (a_m_w, .inl (cI, 106, .inl m_w)), (a_m_d, .inl (cI, 216, .inl m_d)), (a_m_then, .inl (cI, 8, .inl m_then)), (a_m_leans, .inl (cI, 8, .inl m_leans))] sz) := by
  refine Met.ofW (cc := cX6_round) (maxL := 3) (ret := (some .int)) (by decide) rfl ?_
  intro p e s m args below meth c s₁ B hml hv
  obtain ⟨rfl, hsz, hN, hP, hK, hD0⟩ := hv
  have hx := B.exec
  have hb := B.bytes
  have hr := B.returns
  have hts := atoms_spec (ws := wsX6_round) B.pre
  have hown : s.vm.findClass RX6 = some m.cls := findClass_of_methodNamed B.named
  have hlocks := B.notSynchronized
  subst hsz
  have hD := hD0.self (sz := s.heap.size)
  generalize hAe : va_A [(a_m, .inr (6, [.ref a_m_w, .ref a_m_d, .int m_undoes, .int m_kept, .ref a_m_text, .int m_texted, .int m_at, .ref a_m_numbers, .ref a_m_then, .ref a_m_leans, .int m_draws, .int m_drawn, .int m_heards, .ref a_m_heardSet, .ref a_m_heardSum])), (a_m_w, .inl (cI, 106, .inl m_w)), (a_m_d, .inl (cI, 216, .inl m_d)), (a_m_then, .inl (cI, 8, .inl m_then)), (a_m_leans, .inl (cI, 8, .inl m_leans))] s.heap.size = A at hD ⊢
  have hA : ∀ q : Nat, s.heap.size ≤ q → A q := fun q h => by rw [← hAe]; exact Or.inr h
  have hS : va_S A s.heap s.heap [] := va_S.rf
  generalize hQe : MQ below _ _ s _ _ A = QQ
  have hl := lv_entry ([.ref a_m, .int x1]) (n := 3) (Nat.le_of_ble_eq_true rfl)
  rw [lg_entry_eq]
  generalize (lg_sl ([.ref a_m, .int x1]) ++ List.replicate (3 - (lg_sl ([.ref a_m, .int x1])).length) Slot.unset).toArray = ls at hl ⊢
  have hl : lv_has ls 3 [(0, .ref a_m), (1, .int x1)] := hl
  have k_175 := hts (.constantLong RX6 175 (-2)) (by decide +kernel)
  have f_7 := hts (.fieldLink RX6 7 "RoundOfTheAModel" "w" "[I") (by decide +kernel)
  have in_X6 := (by decide +kernel : ∀ w ∈ wsX60, w ∈ wsX6_round)
  have f_13 := hts (.fieldLink RX6 13 "RoundOfTheAModel" "d" "[I") (by decide +kernel)
  rw [F_X6_round] at h
  refine lv_iload_n hx hb dX6_round_0 rfl (lv_at hl 1 rfl) ?_
  refine lv_i2l (v := (Int32.toInt64 x1)) hx hb dX6_round_1 rfl ?_
  refine lv_ldc2 (v := (-2 : Int64)) hx hb hown k_175 dX6_round_2 ?_
  refine lv_aload_n hx hb dX6_round_5 rfl (lv_at hl 0 rfl) ?_
  refine va_get (D := (dC, dI)) (ci := 6) (v := .ref a_m_w) (C := RX6) (T := TX6) (N := 15) hx hb hts in_X6 hown hK hP 0 rfl rfl 0 (by decide) f_7 (fun _ h9 => h9) rfl dX6_round_6 ?_
  refine lv_iconst (v := (0 : Int32)) hx hb dX6_round_9 (by decide) ?_
  obtain ⟨v4327, hv4327, h⟩ := ob h
  refine k_ld hx hb hK hP 1 0 rfl rfl hv4327 dX6_round_10 ?_
  refine lv_iconst (v := (1 : Int32)) hx hb dX6_round_11 (by decide) ?_
  refine lv_isub hx hb dX6_round_12 ?_
  refine lv_i2l (v := (Int32.toInt64 (v4327 - (1 : Int32)))) hx hb dX6_round_13 rfl ?_
  obtain ⟨r4328, hr4328, h⟩ := ob h
  refine k_Si (As := [.long (Int32.toInt64 x1), .long (-2 : Int64), .long (Int32.toInt64 (v4327 - (1 : Int32)))]) (rest := []) (c_X6_in l dC dI cI cS n _ (Int32.toInt64 x1) (-2 : Int64) (Int32.toInt64 (v4327 - (1 : Int32))) r4328 hr4328) (fun _ _ q => q) ⟨hx, hb, hml, hown, hts⟩ (va_cwS 3 hts gX6_round_X6_in rfl rfl rfl (by decide +kernel) ⟨(Nat.le_of_ble_eq_true rfl), (Nat.le_of_ble_eq_true rfl)⟩) hN hK hP hD hS hA rfl hl.1 rfl (Nat.le_of_ble_eq_true rfl) dX6_round_14 ⟨(Nat.le_of_ble_eq_true rfl), (Nat.le_of_ble_eq_true rfl)⟩ (fun H locs hP hD hS => ?_)
  refine lv_if_ne (tgt := 22) hx hb dX6_round_17 (by decide) (fun c_17 => ?_) (fun c_17 => ?_)
  · have h := (if_neg c_17).symm.trans h
    refine lv_aload_n hx hb dX6_round_22 rfl (lv_at hl 0 rfl) ?_
    obtain ⟨r4330, hr4330, h⟩ := ob h
    refine k_Vv (As := []) (rest := []) (wr := [(a_m_w, .inl (cI, 106, .inl m_w)), (a_m_then, .inl (cI, 8, .inl m_then)), (a_m_leans, .inl (cI, 8, .inl m_leans))]) (c_X6_lays l dC dI cI cS n _ a_m a_m_w a_m_d a_m_text a_m_numbers a_m_then a_m_leans a_m_heardSet a_m_heardSum m_d m_undoes m_kept m_texted m_at m_draws m_drawn m_heards r4330 hr4330) ⟨hx, hb, hml, hown, hts⟩ (cwV 0 hts gX6_round_X6_lays rfl rfl rfl (by decide +kernel) ⟨(Nat.le_of_ble_eq_true rfl), (Nat.le_of_ble_eq_true rfl)⟩) hN hK hP hD hS hA [0, 2] [1, 3, 4] rfl rfl (by decide) (by decide) (by decide) rfl rfl rfl hl.1 rfl (Nat.le_of_ble_eq_true rfl) dX6_round_23 ⟨(Nat.le_of_ble_eq_true rfl), (Nat.le_of_ble_eq_true rfl)⟩ (fun u4331 H locs _ hP hD hS => ?_)
    have hP : va_P (dC, dI) vwCl [(a_m_w, .inl (cI, 106, .inl m_w)), (a_m_then, .inl (cI, 8, .inl m_then)), (a_m_leans, .inl (cI, 8, .inl m_leans)), (a_m, .inr (6, [.ref a_m_w, .ref a_m_d, .int m_undoes, .int m_kept, .ref a_m_text, .int m_texted, .int m_at, .ref a_m_numbers, .ref a_m_then, .ref a_m_leans, .int m_draws, .int m_drawn, .int m_heards, .ref a_m_heardSet, .ref a_m_heardSum])), (a_m_d, .inl (cI, 216, .inl r4330))] H := hP
    have hD : va_D A [(a_m_w, .inl (cI, 106, .inl m_w)), (a_m_then, .inl (cI, 8, .inl m_then)), (a_m_leans, .inl (cI, 8, .inl m_leans)), (a_m, .inr (6, [.ref a_m_w, .ref a_m_d, .int m_undoes, .int m_kept, .ref a_m_text, .int m_texted, .int m_at, .ref a_m_numbers, .ref a_m_then, .ref a_m_leans, .int m_draws, .int m_drawn, .int m_heards, .ref a_m_heardSet, .ref a_m_heardSum])), (a_m_d, .inl (cI, 216, .inl r4330))] := hD
    refine lv_aload_n hx hb dX6_round_26 rfl (lv_at hl 0 rfl) ?_
    obtain ⟨r4332, hr4332, h⟩ := ob h
    refine k_Vv (As := []) (rest := []) (wr := [(a_m_then, .inl (cI, 8, .inl m_then)), (a_m_d, .inl (cI, 216, .inl r4330))]) (c_X6_laysLeans l dC dI cI cS n _ a_m a_m_w a_m_d a_m_text a_m_numbers a_m_then a_m_leans a_m_heardSet a_m_heardSum m_w m_undoes m_kept m_texted m_at m_leans m_draws m_drawn m_heards r4332 hr4332) ⟨hx, hb, hml, hown, hts⟩ (cwV 0 hts gX6_round_X6_laysLeans rfl rfl rfl (by decide +kernel) ⟨(Nat.le_of_ble_eq_true rfl), (Nat.le_of_ble_eq_true rfl)⟩) hN hK hP hD hS hA [3, 0, 2] [1, 4] rfl rfl (by decide) (by decide) (by decide) rfl rfl rfl hl.1 rfl (Nat.le_of_ble_eq_true rfl) dX6_round_27 ⟨(Nat.le_of_ble_eq_true rfl), (Nat.le_of_ble_eq_true rfl)⟩ (fun u4333 H locs _ hP hD hS => ?_)
    have hP : va_P (dC, dI) vwCl [(a_m_then, .inl (cI, 8, .inl m_then)), (a_m_d, .inl (cI, 216, .inl r4330)), (a_m, .inr (6, [.ref a_m_w, .ref a_m_d, .int m_undoes, .int m_kept, .ref a_m_text, .int m_texted, .int m_at, .ref a_m_numbers, .ref a_m_then, .ref a_m_leans, .int r4332.1, .int r4332.2.1, .int m_heards, .ref a_m_heardSet, .ref a_m_heardSum])), (a_m_w, .inl (cI, 106, .inl m_w)), (a_m_leans, .inl (cI, 8, .inl r4332.2.2))] H := hP
    have hD : va_D A [(a_m_then, .inl (cI, 8, .inl m_then)), (a_m_d, .inl (cI, 216, .inl r4330)), (a_m, .inr (6, [.ref a_m_w, .ref a_m_d, .int m_undoes, .int m_kept, .ref a_m_text, .int m_texted, .int m_at, .ref a_m_numbers, .ref a_m_then, .ref a_m_leans, .int r4332.1, .int r4332.2.1, .int m_heards, .ref a_m_heardSet, .ref a_m_heardSum])), (a_m_w, .inl (cI, 106, .inl m_w)), (a_m_leans, .inl (cI, 8, .inl r4332.2.2))] := hD
    refine lv_aload_n hx hb dX6_round_30 rfl (lv_at hl 0 rfl) ?_
    obtain ⟨r4334, hr4334, h⟩ := ob h
    refine k_Vi (As := []) (rest := []) (wr := []) (c_X6_rounds l dC dI cI cS n _ a_m a_m_w a_m_d a_m_text a_m_numbers a_m_then a_m_leans a_m_heardSet a_m_heardSum m_w r4330 m_undoes m_kept m_texted m_at m_then r4332.2.2 r4332.1 r4332.2.1 m_heards r4334 hr4334) (fun _ _ q => q) ⟨hx, hb, hml, hown, hts⟩ (cwV 0 hts gX6_round_X6_rounds rfl rfl rfl (by decide +kernel) ⟨(Nat.le_of_ble_eq_true rfl), (Nat.le_of_ble_eq_true rfl)⟩) hN hK hP hD hS hA [2, 3, 1, 0, 4] [] rfl rfl (by decide) (by decide) (by decide) rfl rfl rfl hl.1 rfl (Nat.le_of_ble_eq_true rfl) dX6_round_31 ⟨(Nat.le_of_ble_eq_true rfl), (Nat.le_of_ble_eq_true rfl)⟩ (fun u4335 H locs _ hP hD hS => ?_)
    have hP : va_P (dC, dI) vwCl [(a_m, .inr (6, [.ref a_m_w, .ref a_m_d, .int m_undoes, .int m_kept, .ref a_m_text, .int m_texted, .int m_at, .ref a_m_numbers, .ref a_m_then, .ref a_m_leans, .int r4332.1, .int r4334.2.1, .int m_heards, .ref a_m_heardSet, .ref a_m_heardSum])), (a_m_w, .inl (cI, 106, .inl m_w)), (a_m_d, .inl (cI, 216, .inl r4334.2.2.1)), (a_m_then, .inl (cI, 8, .inl r4334.2.2.2)), (a_m_leans, .inl (cI, 8, .inl r4332.2.2))] H := hP
    have hD : va_D A [(a_m, .inr (6, [.ref a_m_w, .ref a_m_d, .int m_undoes, .int m_kept, .ref a_m_text, .int m_texted, .int m_at, .ref a_m_numbers, .ref a_m_then, .ref a_m_leans, .int r4332.1, .int r4334.2.1, .int m_heards, .ref a_m_heardSet, .ref a_m_heardSum])), (a_m_w, .inl (cI, 106, .inl m_w)), (a_m_d, .inl (cI, 216, .inl r4334.2.2.1)), (a_m_then, .inl (cI, 8, .inl r4334.2.2.2)), (a_m_leans, .inl (cI, 8, .inl r4332.2.2))] := hD
    refine lv_istore_n (lv' := [(2, .int r4334.1), (0, .ref a_m), (1, .int x1)]) hx hb dX6_round_34 rfl hl (by decide) rfl (fun ls hl => ?_)
    refine lv_iload_n hx hb dX6_round_35 rfl (lv_at hl 2 rfl) ?_
    refine lv_iconst (v := (-1 : Int32)) hx hb dX6_round_36 (by decide) ?_
    refine lv_icmp_ne (tgt := 50) hx hb dX6_round_37 (by decide) (fun c_37 => ?_) (fun c_37 => ?_)
    · have h := (if_neg c_37).symm.trans h
      refine lv_iload_n hx hb dX6_round_50 rfl (lv_at hl 2 rfl) ?_
      refine lv_bipush (v := (-2 : Int32)) hx hb dX6_round_51 (by decide) ?_
      refine lv_icmp_ne (tgt := 60) hx hb dX6_round_53 (by decide) (fun c_53 => ?_) (fun c_53 => ?_)
      · have h := (if_neg c_53).symm.trans h
        refine lv_aload_n hx hb dX6_round_60 rfl (lv_at hl 1 rfl) ?_
        refine va_get (D := (dC, dI)) (ci := 6) (v := .ref a_m_d) (C := RX6) (T := TX6) (N := 15) hx hb hts in_X6 hown hK hP 0 rfl rfl 1 (by decide) f_13 (fun _ h9 => h9) rfl dX6_round_61 ?_
        refine lv_sipush (v := (198 : Int32)) hx hb dX6_round_64 (by decide) ?_
        refine lv_iload_n hx hb dX6_round_67 rfl (lv_at hl 2 rfl) ?_
        refine lv_iadd hx hb dX6_round_68 ?_
        obtain ⟨v4336, hv4336, h⟩ := ob h
        refine k_ld hx hb hK hP 2 0 rfl rfl hv4336 dX6_round_69 ?_
        refine lv_sipush (v := (1000 : Int32)) hx hb dX6_round_70 (by decide) ?_
        refine lv_iadd hx hb dX6_round_73 ?_
        obtain rfl := Option.some.inj h
        subst hQe
        exact W.iret (v := (v4336 + (1000 : Int32))) hx hb hr (fun t ht hW => ⟨⟨(v4336 + (1000 : Int32)), (), rfl, rfl, ⟨by rw [ht]; exact hP, hD⟩⟩, hS.F ht⟩) hS.2.2 dX6_round_74
      · have h := (if_pos c_53).symm.trans h
        refine lv_iload_n hx hb dX6_round_56 rfl (lv_at hl 0 rfl) ?_
        refine lv_goto (tgt := 74) hx hb dX6_round_57 (by decide) ?_
        obtain rfl := Option.some.inj h
        subst hQe
        exact W.iret (v := r4334.1) hx hb hr (fun t ht hW => ⟨⟨r4334.1, (), rfl, rfl, ⟨by rw [ht]; exact hP, hD⟩⟩, hS.F ht⟩) hS.2.2 dX6_round_74
    · have h := (if_pos c_37).symm.trans h
      refine lv_aload_n hx hb dX6_round_40 rfl (lv_at hl 1 rfl) ?_
      refine lv_sipush (v := (198 : Int32)) hx hb dX6_round_41 (by decide) ?_
      obtain ⟨r4337, hr4337, h⟩ := ob h
      refine k_Vi (As := [.int (198 : Int32)]) (rest := []) (wr := [(a_m_then, .inl (cI, 8, .inl r4334.2.2.2)), (a_m_leans, .inl (cI, 8, .inl r4332.2.2))]) (c_X6_spreadOf l dC dI cI cS n _ a_m a_m_w a_m_d a_m_text a_m_numbers a_m_then a_m_leans a_m_heardSet a_m_heardSum m_w r4334.2.2.1 m_undoes m_kept m_texted m_at r4332.1 r4334.2.1 m_heards (198 : Int32) r4337 hr4337) (fun _ _ q => q) ⟨hx, hb, hml, hown, hts⟩ (cwV 1 hts gX6_round_X6_spreadOf rfl rfl rfl (by decide +kernel) ⟨(Nat.le_of_ble_eq_true rfl), (Nat.le_of_ble_eq_true rfl)⟩) hN hK hP hD hS hA [0, 1, 2] [3, 4] rfl rfl (by decide) (by decide) (by decide) rfl rfl rfl hl.1 rfl (Nat.le_of_ble_eq_true rfl) dX6_round_44 ⟨(Nat.le_of_ble_eq_true rfl), (Nat.le_of_ble_eq_true rfl)⟩ (fun u4338 H locs _ hP hD hS => ?_)
      have hP : va_P (dC, dI) vwCl [(a_m_then, .inl (cI, 8, .inl r4334.2.2.2)), (a_m_leans, .inl (cI, 8, .inl r4332.2.2)), (a_m, .inr (6, [.ref a_m_w, .ref a_m_d, .int m_undoes, .int m_kept, .ref a_m_text, .int m_texted, .int m_at, .ref a_m_numbers, .ref a_m_then, .ref a_m_leans, .int r4332.1, .int r4334.2.1, .int m_heards, .ref a_m_heardSet, .ref a_m_heardSum])), (a_m_w, .inl (cI, 106, .inl m_w)), (a_m_d, .inl (cI, 216, .inl r4334.2.2.1))] H := hP
      have hD : va_D A [(a_m_then, .inl (cI, 8, .inl r4334.2.2.2)), (a_m_leans, .inl (cI, 8, .inl r4332.2.2)), (a_m, .inr (6, [.ref a_m_w, .ref a_m_d, .int m_undoes, .int m_kept, .ref a_m_text, .int m_texted, .int m_at, .ref a_m_numbers, .ref a_m_then, .ref a_m_leans, .int r4332.1, .int r4334.2.1, .int m_heards, .ref a_m_heardSet, .ref a_m_heardSum])), (a_m_w, .inl (cI, 106, .inl m_w)), (a_m_d, .inl (cI, 216, .inl r4334.2.2.1))] := hD
      refine lv_goto (tgt := 74) hx hb dX6_round_47 (by decide) ?_
      obtain rfl := Option.some.inj h
      subst hQe
      exact W.iret (v := r4337) hx hb hr (fun t ht hW => ⟨⟨r4337, (), rfl, rfl, ⟨by rw [ht]; exact hP.sub [2, 3, 4, 0, 1] rfl, hD.sub [2, 3, 4, 0, 1] (by decide +kernel) rfl⟩⟩, hS.F ht⟩) hS.2.2 dX6_round_74
  · have h := (if_pos c_17).symm.trans h
    refine lv_iconst (v := (-1 : Int32)) hx hb dX6_round_20 (by decide) ?_
    obtain rfl := Option.some.inj h
    subst hQe
    exact W.iret (v := (-1 : Int32)) hx hb hr (fun t ht hW => ⟨⟨(-1 : Int32), (), rfl, rfl, ⟨by rw [ht]; exact hP, hD⟩⟩, hS.F ht⟩) hS.2.2 dX6_round_21
def rm_X6_halves : Room := { frames := 4, cells := 0, slots := 0, locals := 93 }
set_option maxRecDepth 100000 in
set_option maxHeartbeats 8000000 in
theorem c_X6_halves (l : Launch) (dC : Nat → ClassId) (dI : Nat → Nat → Nat) (cI cS : ClassId) (n sz : Nat) (a_m : Nat) (a_m_w : Nat) (a_m_d : Nat) (a_m_text : Nat) (a_m_numbers : Nat) (a_m_then : Nat) (a_m_leans : Nat) (a_m_heardSet : Nat) (a_m_heardSum : Nat) (m_w : Nat → Int32) (m_d : Nat → Int32) (m_undoes : Int32) (m_kept : Int32) (m_texted : Int32) (m_at : Int32) (m_then : Nat → Int32) (m_leans : Nat → Int32) (m_draws : Int32) (m_drawn : Int32) (m_heards : Int32) (x1 : Int32) (res : Int32 × Int32 × Int32 × (Nat → Int32) × (Nat → Int32) × (Nat → Int32))  (h : F_X6_halves n m_w m_d m_then m_leans m_draws m_drawn x1 = some res) : Met l yX6_halves wsX6_halves rm_X6_halves (va_Pc [.ref a_m, .int x1] (PRE (dC, dI) vwCl [(cI, .int), (cS, .object "RoundOfTheA$State")] sz [(a_m, .inr (6, [.ref a_m_w, .ref a_m_d, .int m_undoes, .int m_kept, .ref a_m_text, .int m_texted, .int m_at, .ref a_m_numbers, .ref a_m_then, .ref a_m_leans, .int m_draws, .int m_drawn, .int m_heards, .ref a_m_heardSet, .ref a_m_heardSum])), (a_m_w, .inl (cI, 106, .inl m_w)), (a_m_d, .inl (cI, 216, .inl m_d)), (a_m_then, .inl (cI, 8, .inl m_then)), (a_m_leans, .inl (cI, 8, .inl m_leans))])) (va_Qi (fun (r : Int32) (_ : Unit) => r = res.1) (fun u t => POST (dC, dI) vwCl [(a_m, .inr (6, [.ref a_m_w, .ref a_m_d, .int m_undoes, .int m_kept, .ref a_m_text, .int m_texted, .int m_at, .ref a_m_numbers, .ref a_m_then, .ref a_m_leans, .int res.2.1, .int res.2.2.1, .int m_heards, .ref a_m_heardSet, .ref a_m_heardSum])), (a_m_w, .inl (cI, 106, .inl m_w)), (a_m_d, .inl (cI, 216, .inl res.2.2.2.1)), (a_m_then, .inl (cI, 8, .inl res.2.2.2.2.1)), (a_m_leans, .inl (cI, 8, .inl res.2.2.2.2.2))] (va_A [(a_m, .inr (6, [.ref a_m_w, .ref a_m_d, .int m_undoes, .int m_kept, .ref a_m_text, .int m_texted, .int m_at, .ref a_m_numbers, .ref a_m_then, .ref a_m_leans, .int m_draws, .int m_drawn, .int m_heards, .ref a_m_heardSet, .ref a_m_heardSum])), (a_m_w, .inl (cI, 106, .inl m_w)), (a_m_d, .inl (cI, 216, .inl m_d)), (a_m_then, .inl (cI, 8, .inl m_then)), (a_m_leans, .inl (cI, 8, .inl m_leans))] sz) t) (va_A [(a_m, .inr (6, [.ref a_m_w, .ref a_m_d, .int m_undoes, .int m_kept, .ref a_m_text, .int m_texted, .int m_at, .ref a_m_numbers, .ref a_m_then, .ref a_m_leans, .int m_draws, .int m_drawn, .int m_heards, .ref a_m_heardSet, .ref a_m_heardSum])), (a_m_w, .inl (cI, 106, .inl m_w)), (a_m_d, .inl (cI, 216, .inl m_d)), (a_m_then, .inl (cI, 8, .inl m_then)), (a_m_leans, .inl (cI, 8, .inl m_leans))] sz)) 0 0 (va_A [(a_m, .inr (6, [.ref a_m_w, .ref a_m_d, .int m_undoes, .int m_kept, .ref a_m_text, .int m_texted, .int m_at, .ref a_m_numbers, .ref a_m_then, .ref a_m_leans, .int m_draws, .int m_drawn, .int m_heards, .ref a_m_heardSet, .ref a_m_heardSum])), (a_m_w, .inl (cI, 106, .inl m_w)), (a_m_d, .inl (cI, 216, .inl m_d)), (a_m_then, .inl (cI, 8, .inl m_then)), (a_m_leans, .inl (cI, 8, .inl m_leans))] sz) := by
  refine Met.ofW (cc := cX6_halves) (maxL := 9) (ret := (some .int)) (by decide) rfl ?_
  intro p e s m args below meth c s₁ B hml hv
  obtain ⟨rfl, hsz, hN, hP, hK, hD0⟩ := hv
  have hx := B.exec
  have hb := B.bytes
  have hr := B.returns
  have hts := atoms_spec (ws := wsX6_halves) B.pre
  have hown : s.vm.findClass RX6 = some m.cls := findClass_of_methodNamed B.named
  have hlocks := B.notSynchronized
  subst hsz
  have hD := hD0.self (sz := s.heap.size)
  generalize hAe : va_A [(a_m, .inr (6, [.ref a_m_w, .ref a_m_d, .int m_undoes, .int m_kept, .ref a_m_text, .int m_texted, .int m_at, .ref a_m_numbers, .ref a_m_then, .ref a_m_leans, .int m_draws, .int m_drawn, .int m_heards, .ref a_m_heardSet, .ref a_m_heardSum])), (a_m_w, .inl (cI, 106, .inl m_w)), (a_m_d, .inl (cI, 216, .inl m_d)), (a_m_then, .inl (cI, 8, .inl m_then)), (a_m_leans, .inl (cI, 8, .inl m_leans))] s.heap.size = A at hD ⊢
  have hA : ∀ q : Nat, s.heap.size ≤ q → A q := fun q h => by rw [← hAe]; exact Or.inr h
  have hS : va_S A s.heap s.heap [] := va_S.rf
  generalize hQe : MQ below _ _ s _ _ A = QQ
  have hl := lv_entry ([.ref a_m, .int x1]) (n := 9) (Nat.le_of_ble_eq_true rfl)
  rw [lg_entry_eq]
  generalize (lg_sl ([.ref a_m, .int x1]) ++ List.replicate (9 - (lg_sl ([.ref a_m, .int x1])).length) Slot.unset).toArray = ls at hl ⊢
  have hl : lv_has ls 9 [(0, .ref a_m), (1, .int x1)] := hl
  have k_180 := hts (.constantLong RX6 180 (2)) (by decide +kernel)
  have f_7 := hts (.fieldLink RX6 7 "RoundOfTheAModel" "w" "[I") (by decide +kernel)
  have in_X6 := (by decide +kernel : ∀ w ∈ wsX60, w ∈ wsX6_halves)
  rw [F_X6_halves] at h
  refine lv_iload_n hx hb dX6_halves_0 rfl (lv_at hl 1 rfl) ?_
  refine lv_i2l (v := (Int32.toInt64 x1)) hx hb dX6_halves_1 rfl ?_
  refine lv_lconst (v := (0 : Int64)) hx hb dX6_halves_2 (by decide) ?_
  refine lv_ldc2 (v := (2 : Int64)) hx hb hown k_180 dX6_halves_3 ?_
  obtain ⟨r4379, hr4379, h⟩ := ob h
  refine k_Si (As := [.long (Int32.toInt64 x1), .long (0 : Int64), .long (2 : Int64)]) (rest := []) (c_X6_in l dC dI cI cS n _ (Int32.toInt64 x1) (0 : Int64) (2 : Int64) r4379 hr4379) (fun _ _ q => q) ⟨hx, hb, hml, hown, hts⟩ (va_cwS 3 hts gX6_halves_X6_in rfl rfl rfl (by decide +kernel) ⟨(Nat.le_of_ble_eq_true rfl), (Nat.le_of_ble_eq_true rfl)⟩) hN hK hP hD hS hA rfl hl.1 rfl (Nat.le_of_ble_eq_true rfl) dX6_halves_6 ⟨(Nat.le_of_ble_eq_true rfl), (Nat.le_of_ble_eq_true rfl)⟩ (fun H locs hP hD hS => ?_)
  refine lv_if_ne (tgt := 14) hx hb dX6_halves_9 (by decide) (fun c_9 => ?_) (fun c_9 => ?_)
  · have h := (if_neg c_9).symm.trans h
    refine lv_iconst (v := (1 : Int32)) hx hb dX6_halves_14 (by decide) ?_
    refine lv_aload_n hx hb dX6_halves_15 rfl (lv_at hl 0 rfl) ?_
    refine va_get (D := (dC, dI)) (ci := 6) (v := .ref a_m_w) (C := RX6) (T := TX6) (N := 15) hx hb hts in_X6 hown hK hP 0 rfl rfl 0 (by decide) f_7 (fun _ h9 => h9) rfl dX6_halves_16 ?_
    refine lv_iconst (v := (0 : Int32)) hx hb dX6_halves_19 (by decide) ?_
    obtain ⟨v4381, hv4381, h⟩ := ob h
    refine k_ld hx hb hK hP 1 0 rfl rfl hv4381 dX6_halves_20 ?_
    refine lv_ishl hx hb dX6_halves_21 ?_
    refine lv_iconst (v := (1 : Int32)) hx hb dX6_halves_22 (by decide) ?_
    refine lv_isub hx hb dX6_halves_23 ?_
    refine lv_istore_n (lv' := [(2, .int (((1 : Int32) <<< (v4381 &&& 31)) - (1 : Int32))), (0, .ref a_m), (1, .int x1)]) hx hb dX6_halves_24 rfl hl (by decide) rfl (fun ls hl => ?_)
    refine lv_bipush (v := (-4 : Int32)) hx hb dX6_halves_25 (by decide) ?_
    refine lv_istore_n (lv' := [(3, .int (-4 : Int32)), (2, .int (((1 : Int32) <<< (v4381 &&& 31)) - (1 : Int32))), (0, .ref a_m), (1, .int x1)]) hx hb dX6_halves_27 rfl hl (by decide) rfl (fun ls hl => ?_)
    refine lv_iconst (v := (0 : Int32)) hx hb dX6_halves_28 (by decide) ?_
    refine lv_istore (lv' := [(4, .int (0 : Int32)), (3, .int (-4 : Int32)), (2, .int (((1 : Int32) <<< (v4381 &&& 31)) - (1 : Int32))), (0, .ref a_m), (1, .int x1)]) hx hb dX6_halves_29 hl (by decide) rfl (fun ls hl => ?_)
    refine lv_iconst (v := (0 : Int32)) hx hb dX6_halves_31 (by decide) ?_
    refine lv_istore (lv' := [(5, .int (0 : Int32)), (4, .int (0 : Int32)), (3, .int (-4 : Int32)), (2, .int (((1 : Int32) <<< (v4381 &&& 31)) - (1 : Int32))), (0, .ref a_m), (1, .int x1)]) hx hb dX6_halves_32 hl (by decide) rfl (fun ls hl => ?_)
    refine lv_aload_n hx hb dX6_halves_34 rfl (lv_at hl 4 rfl) ?_
    obtain ⟨r4382, hr4382, h⟩ := ob h
    refine k_Vv (As := []) (rest := []) (wr := [(a_m_d, .inl (cI, 216, .inl m_d)), (a_m_then, .inl (cI, 8, .inl m_then))]) (c_X6_laysLeans l dC dI cI cS n _ a_m a_m_w a_m_d a_m_text a_m_numbers a_m_then a_m_leans a_m_heardSet a_m_heardSum m_w m_undoes m_kept m_texted m_at m_leans m_draws m_drawn m_heards r4382 hr4382) ⟨hx, hb, hml, hown, hts⟩ (cwV 0 hts gX6_halves_X6_laysLeans rfl rfl rfl (by decide +kernel) ⟨(Nat.le_of_ble_eq_true rfl), (Nat.le_of_ble_eq_true rfl)⟩) hN hK hP hD hS hA [0, 1, 4] [2, 3] rfl rfl (by decide) (by decide) (by decide) rfl rfl rfl hl.1 rfl (Nat.le_of_ble_eq_true rfl) dX6_halves_35 ⟨(Nat.le_of_ble_eq_true rfl), (Nat.le_of_ble_eq_true rfl)⟩ (fun u4383 H locs _ hP hD hS => ?_)
    have hP : va_P (dC, dI) vwCl [(a_m_d, .inl (cI, 216, .inl m_d)), (a_m_then, .inl (cI, 8, .inl m_then)), (a_m, .inr (6, [.ref a_m_w, .ref a_m_d, .int m_undoes, .int m_kept, .ref a_m_text, .int m_texted, .int m_at, .ref a_m_numbers, .ref a_m_then, .ref a_m_leans, .int r4382.1, .int r4382.2.1, .int m_heards, .ref a_m_heardSet, .ref a_m_heardSum])), (a_m_w, .inl (cI, 106, .inl m_w)), (a_m_leans, .inl (cI, 8, .inl r4382.2.2))] H := hP
    have hD : va_D A [(a_m_d, .inl (cI, 216, .inl m_d)), (a_m_then, .inl (cI, 8, .inl m_then)), (a_m, .inr (6, [.ref a_m_w, .ref a_m_d, .int m_undoes, .int m_kept, .ref a_m_text, .int m_texted, .int m_at, .ref a_m_numbers, .ref a_m_then, .ref a_m_leans, .int r4382.1, .int r4382.2.1, .int m_heards, .ref a_m_heardSet, .ref a_m_heardSum])), (a_m_w, .inl (cI, 106, .inl m_w)), (a_m_leans, .inl (cI, 8, .inl r4382.2.2))] := hD
    refine lv_iconst (v := (0 : Int32)) hx hb dX6_halves_38 (by decide) ?_
    refine lv_istore (lv' := [(6, .int (0 : Int32)), (5, .int (0 : Int32)), (4, .int (0 : Int32)), (3, .int (-4 : Int32)), (2, .int (((1 : Int32) <<< (v4381 &&& 31)) - (1 : Int32))), (0, .ref a_m), (1, .int x1)]) hx hb dX6_halves_39 hl (by decide) rfl (fun ls hl => ?_)
    obtain ⟨j4409, hjj4409, h⟩ := ob h
    have Jj4409 : ∀ (H : Heap) (locs : List Loc), va_P (dC, dI) vwCl [(a_m_d, .inl (cI, 216, .inl j4409.2.2.2.2.1)), (a_m_then, .inl (cI, 8, .inl j4409.2.2.2.2.2.1)), (a_m, .inr (6, [.ref a_m_w, .ref a_m_d, .int m_undoes, .int m_kept, .ref a_m_text, .int m_texted, .int m_at, .ref a_m_numbers, .ref a_m_then, .ref a_m_leans, .int r4382.1, .int j4409.2.2.2.2.2.2, .int m_heards, .ref a_m_heardSet, .ref a_m_heardSum])), (a_m_w, .inl (cI, 106, .inl m_w)), (a_m_leans, .inl (cI, 8, .inl r4382.2.2))] H → va_D A [(a_m_d, .inl (cI, 216, .inl j4409.2.2.2.2.1)), (a_m_then, .inl (cI, 8, .inl j4409.2.2.2.2.2.1)), (a_m, .inr (6, [.ref a_m_w, .ref a_m_d, .int m_undoes, .int m_kept, .ref a_m_text, .int m_texted, .int m_at, .ref a_m_numbers, .ref a_m_then, .ref a_m_leans, .int r4382.1, .int j4409.2.2.2.2.2.2, .int m_heards, .ref a_m_heardSet, .ref a_m_heardSum])), (a_m_w, .inl (cI, 106, .inl m_w)), (a_m_leans, .inl (cI, 8, .inl r4382.2.2))] → va_S A s.heap H locs → ∀ ls : Array Slot, lv_has ls 9 [(0, .ref a_m), (1, .int x1), (2, .int (((1 : Int32) <<< (v4381 &&& 31)) - (1 : Int32))), (3, .int j4409.1), (4, .int j4409.2.1), (5, .int j4409.2.2.1), (6, .int j4409.2.2.2.1)] → W p l e (headSpec wsX6_halves rm_X6_halves).room s m ([.ref a_m, .int x1] : List Value).toArray below meth c H locs 0 0 QQ (F0 m 123 ls []) := by
      intro H locs hP hD hS ls hl
      refine lv_iload_n hx hb dX6_halves_123 rfl (lv_at hl 1 rfl) ?_
      refine lv_if_ne (tgt := 131) hx hb dX6_halves_124 (by decide) (fun c_124 => ?_) (fun c_124 => ?_)
      · have h := (if_neg c_124).symm.trans h
        refine lv_iload_n hx hb dX6_halves_131 rfl (lv_at hl 1 rfl) ?_
        refine lv_iconst (v := (1 : Int32)) hx hb dX6_halves_132 (by decide) ?_
        refine lv_icmp_ne (tgt := 141) hx hb dX6_halves_133 (by decide) (fun c_133 => ?_) (fun c_133 => ?_)
        · have h := (if_neg c_133).symm.trans h
          refine lv_iload hx hb dX6_halves_141 (lv_at hl 5 rfl) ?_
          obtain rfl := Option.some.inj h
          subst hQe
          exact W.iret (v := j4409.2.2.1) hx hb hr (fun t ht hW => ⟨⟨j4409.2.2.1, (), rfl, rfl, ⟨by rw [ht]; exact hP.sub [2, 3, 0, 1, 4] rfl, hD.sub [2, 3, 0, 1, 4] (by decide +kernel) rfl⟩⟩, hS.F ht⟩) hS.2.2 dX6_halves_143
        · have h := (if_pos c_133).symm.trans h
          refine lv_iload hx hb dX6_halves_136 (lv_at hl 4 rfl) ?_
          refine lv_goto (tgt := 143) hx hb dX6_halves_138 (by decide) ?_
          obtain rfl := Option.some.inj h
          subst hQe
          exact W.iret (v := j4409.2.1) hx hb hr (fun t ht hW => ⟨⟨j4409.2.1, (), rfl, rfl, ⟨by rw [ht]; exact hP.sub [2, 3, 0, 1, 4] rfl, hD.sub [2, 3, 0, 1, 4] (by decide +kernel) rfl⟩⟩, hS.F ht⟩) hS.2.2 dX6_halves_143
      · have h := (if_pos c_124).symm.trans h
        refine lv_iload_n hx hb dX6_halves_127 rfl (lv_at hl 3 rfl) ?_
        refine lv_goto (tgt := 143) hx hb dX6_halves_128 (by decide) ?_
        obtain rfl := Option.some.inj h
        subst hQe
        exact W.iret (v := j4409.1) hx hb hr (fun t ht hW => ⟨⟨j4409.1, (), rfl, rfl, ⟨by rw [ht]; exact hP.sub [2, 3, 0, 1, 4] rfl, hD.sub [2, 3, 0, 1, 4] (by decide +kernel) rfl⟩⟩, hS.F ht⟩) hS.2.2 dX6_halves_143
    have K41 : ∀ (k : Nat) (y3_41 : Int32) (y4_41 : Int32) (y5_41 : Int32) (y6_41 : Int32) (m_dv_41 : Nat → Int32) (m_thenv_41 : Nat → Int32) (m_11v_41 : Int32), L_X6_halves_41 n m_w v4381 r4382 k y3_41 y4_41 y5_41 y6_41 m_dv_41 m_thenv_41 m_11v_41 = some j4409 → ∀ (H : Heap) (locs : List Loc), va_P (dC, dI) vwCl [(a_m_d, .inl (cI, 216, .inl m_dv_41)), (a_m_then, .inl (cI, 8, .inl m_thenv_41)), (a_m, .inr (6, [.ref a_m_w, .ref a_m_d, .int m_undoes, .int m_kept, .ref a_m_text, .int m_texted, .int m_at, .ref a_m_numbers, .ref a_m_then, .ref a_m_leans, .int r4382.1, .int m_11v_41, .int m_heards, .ref a_m_heardSet, .ref a_m_heardSum])), (a_m_w, .inl (cI, 106, .inl m_w)), (a_m_leans, .inl (cI, 8, .inl r4382.2.2))] H → va_D A [(a_m_d, .inl (cI, 216, .inl m_dv_41)), (a_m_then, .inl (cI, 8, .inl m_thenv_41)), (a_m, .inr (6, [.ref a_m_w, .ref a_m_d, .int m_undoes, .int m_kept, .ref a_m_text, .int m_texted, .int m_at, .ref a_m_numbers, .ref a_m_then, .ref a_m_leans, .int r4382.1, .int m_11v_41, .int m_heards, .ref a_m_heardSet, .ref a_m_heardSum])), (a_m_w, .inl (cI, 106, .inl m_w)), (a_m_leans, .inl (cI, 8, .inl r4382.2.2))] → va_S A s.heap H locs → ∀ ls : Array Slot, lv_has ls 9 [(0, .ref a_m), (1, .int x1), (2, .int (((1 : Int32) <<< (v4381 &&& 31)) - (1 : Int32))), (3, .int y3_41), (4, .int y4_41), (5, .int y5_41), (6, .int y6_41)] → W p l e (headSpec wsX6_halves rm_X6_halves).room s m ([.ref a_m, .int x1] : List Value).toArray below meth c H locs 0 0 QQ (F0 m 41 ls []) := by
      intro k
      induction k with
      | zero =>
        intro y3_41 y4_41 y5_41 y6_41 m_dv_41 m_thenv_41 m_11v_41 h
        rw [L_X6_halves_41] at h
        cases h
      | succ k ih =>
        intro y3_41 y4_41 y5_41 y6_41 m_dv_41 m_thenv_41 m_11v_41 h H locs hP hD hS ls hl
        rw [L_X6_halves_41] at h
        refine lv_iload hx hb dX6_halves_41 (lv_at hl 6 rfl) ?_
        refine lv_iload_n hx hb dX6_halves_43 rfl (lv_at hl 2 rfl) ?_
        refine lv_icmp_gt (tgt := 123) hx hb dX6_halves_44 (by decide) (fun c_44 => ?_) (fun c_44 => ?_)
        · have h := (if_pos c_44).symm.trans h
          obtain rfl := Option.some.inj h
          exact Jj4409 _ _ hP hD hS _ hl
        · have h := (if_neg c_44).symm.trans h
          refine lv_aload_n hx hb dX6_halves_47 rfl (lv_at hl 0 rfl) ?_
          obtain ⟨r4410, hr4410, h⟩ := ob h
          refine k_Vv (As := []) (rest := []) (wr := [(a_m_then, .inl (cI, 8, .inl m_thenv_41)), (a_m_w, .inl (cI, 106, .inl m_w)), (a_m_leans, .inl (cI, 8, .inl r4382.2.2))]) (c_X6_lays l dC dI cI cS n _ a_m a_m_w a_m_d a_m_text a_m_numbers a_m_then a_m_leans a_m_heardSet a_m_heardSum m_dv_41 m_undoes m_kept m_texted m_at r4382.1 m_11v_41 m_heards r4410 hr4410) ⟨hx, hb, hml, hown, hts⟩ (cwV 0 hts gX6_halves_X6_lays rfl rfl rfl (by decide +kernel) ⟨(Nat.le_of_ble_eq_true rfl), (Nat.le_of_ble_eq_true rfl)⟩) hN hK hP hD hS hA [2, 0] [1, 3, 4] rfl rfl (by decide) (by decide) (by decide) rfl rfl rfl hl.1 rfl (Nat.le_of_ble_eq_true rfl) dX6_halves_48 ⟨(Nat.le_of_ble_eq_true rfl), (Nat.le_of_ble_eq_true rfl)⟩ (fun u4411 H locs _ hP hD hS => ?_)
          have hP : va_P (dC, dI) vwCl [(a_m_then, .inl (cI, 8, .inl m_thenv_41)), (a_m_w, .inl (cI, 106, .inl m_w)), (a_m_leans, .inl (cI, 8, .inl r4382.2.2)), (a_m, .inr (6, [.ref a_m_w, .ref a_m_d, .int m_undoes, .int m_kept, .ref a_m_text, .int m_texted, .int m_at, .ref a_m_numbers, .ref a_m_then, .ref a_m_leans, .int r4382.1, .int m_11v_41, .int m_heards, .ref a_m_heardSet, .ref a_m_heardSum])), (a_m_d, .inl (cI, 216, .inl r4410))] H := hP
          have hD : va_D A [(a_m_then, .inl (cI, 8, .inl m_thenv_41)), (a_m_w, .inl (cI, 106, .inl m_w)), (a_m_leans, .inl (cI, 8, .inl r4382.2.2)), (a_m, .inr (6, [.ref a_m_w, .ref a_m_d, .int m_undoes, .int m_kept, .ref a_m_text, .int m_texted, .int m_at, .ref a_m_numbers, .ref a_m_then, .ref a_m_leans, .int r4382.1, .int m_11v_41, .int m_heards, .ref a_m_heardSet, .ref a_m_heardSum])), (a_m_d, .inl (cI, 216, .inl r4410))] := hD
          refine lv_aload_n hx hb dX6_halves_51 rfl (lv_at hl 0 rfl) ?_
          refine lv_iload hx hb dX6_halves_52 (lv_at hl 6 rfl) ?_
          obtain ⟨r4412, hr4412, h⟩ := ob h
          refine k_Vi (As := [.int y6_41]) (rest := []) (wr := []) (c_X6_tunes l dC dI cI cS n _ a_m a_m_w a_m_d a_m_text a_m_numbers a_m_then a_m_leans a_m_heardSet a_m_heardSum m_w r4410 m_undoes m_kept m_texted m_at m_thenv_41 r4382.2.2 r4382.1 m_11v_41 m_heards y6_41 r4412 hr4412) (fun _ _ q => q) ⟨hx, hb, hml, hown, hts⟩ (cwV 1 hts gX6_halves_X6_tunes rfl rfl rfl (by decide +kernel) ⟨(Nat.le_of_ble_eq_true rfl), (Nat.le_of_ble_eq_true rfl)⟩) hN hK hP hD hS hA [3, 1, 4, 0, 2] [] rfl rfl (by decide) (by decide) (by decide) rfl rfl rfl hl.1 rfl (Nat.le_of_ble_eq_true rfl) dX6_halves_54 ⟨(Nat.le_of_ble_eq_true rfl), (Nat.le_of_ble_eq_true rfl)⟩ (fun u4413 H locs _ hP hD hS => ?_)
          have hP : va_P (dC, dI) vwCl [(a_m, .inr (6, [.ref a_m_w, .ref a_m_d, .int m_undoes, .int m_kept, .ref a_m_text, .int m_texted, .int m_at, .ref a_m_numbers, .ref a_m_then, .ref a_m_leans, .int r4382.1, .int r4412.2.1, .int m_heards, .ref a_m_heardSet, .ref a_m_heardSum])), (a_m_w, .inl (cI, 106, .inl m_w)), (a_m_d, .inl (cI, 216, .inl r4412.2.2.1)), (a_m_then, .inl (cI, 8, .inl r4412.2.2.2)), (a_m_leans, .inl (cI, 8, .inl r4382.2.2))] H := hP
          have hD : va_D A [(a_m, .inr (6, [.ref a_m_w, .ref a_m_d, .int m_undoes, .int m_kept, .ref a_m_text, .int m_texted, .int m_at, .ref a_m_numbers, .ref a_m_then, .ref a_m_leans, .int r4382.1, .int r4412.2.1, .int m_heards, .ref a_m_heardSet, .ref a_m_heardSum])), (a_m_w, .inl (cI, 106, .inl m_w)), (a_m_d, .inl (cI, 216, .inl r4412.2.2.1)), (a_m_then, .inl (cI, 8, .inl r4412.2.2.2)), (a_m_leans, .inl (cI, 8, .inl r4382.2.2))] := hD
          refine lv_aload_n hx hb dX6_halves_57 rfl (lv_at hl 0 rfl) ?_
          refine lv_iload_n hx hb dX6_halves_58 rfl (lv_at hl 2 rfl) ?_
          refine lv_iload hx hb dX6_halves_59 (lv_at hl 6 rfl) ?_
          refine lv_iconst (v := (-1 : Int32)) hx hb dX6_halves_61 (by decide) ?_
          refine lv_ixor hx hb dX6_halves_62 ?_
          refine lv_iand hx hb dX6_halves_63 ?_
          obtain ⟨r4414, hr4414, h⟩ := ob h
          refine k_Vi (As := [.int ((((1 : Int32) <<< (v4381 &&& 31)) - (1 : Int32)) &&& (y6_41 ^^^ (-1 : Int32)))]) (rest := [.int r4412.1]) (wr := []) (c_X6_tunes l dC dI cI cS n _ a_m a_m_w a_m_d a_m_text a_m_numbers a_m_then a_m_leans a_m_heardSet a_m_heardSum m_w r4412.2.2.1 m_undoes m_kept m_texted m_at r4412.2.2.2 r4382.2.2 r4382.1 r4412.2.1 m_heards ((((1 : Int32) <<< (v4381 &&& 31)) - (1 : Int32)) &&& (y6_41 ^^^ (-1 : Int32))) r4414 hr4414) (fun _ _ q => q) ⟨hx, hb, hml, hown, hts⟩ (cwV 1 hts gX6_halves_X6_tunes rfl rfl rfl (by decide +kernel) ⟨(Nat.le_of_ble_eq_true rfl), (Nat.le_of_ble_eq_true rfl)⟩) hN hK hP hD hS hA [0, 1, 2, 3, 4] [] rfl rfl (by decide) (by decide) (by decide) rfl rfl rfl hl.1 rfl (Nat.le_of_ble_eq_true rfl) dX6_halves_64 ⟨(Nat.le_of_ble_eq_true rfl), (Nat.le_of_ble_eq_true rfl)⟩ (fun u4415 H locs _ hP hD hS => ?_)
          have hP : va_P (dC, dI) vwCl [(a_m, .inr (6, [.ref a_m_w, .ref a_m_d, .int m_undoes, .int m_kept, .ref a_m_text, .int m_texted, .int m_at, .ref a_m_numbers, .ref a_m_then, .ref a_m_leans, .int r4382.1, .int r4414.2.1, .int m_heards, .ref a_m_heardSet, .ref a_m_heardSum])), (a_m_w, .inl (cI, 106, .inl m_w)), (a_m_d, .inl (cI, 216, .inl r4414.2.2.1)), (a_m_then, .inl (cI, 8, .inl r4414.2.2.2)), (a_m_leans, .inl (cI, 8, .inl r4382.2.2))] H := hP
          have hD : va_D A [(a_m, .inr (6, [.ref a_m_w, .ref a_m_d, .int m_undoes, .int m_kept, .ref a_m_text, .int m_texted, .int m_at, .ref a_m_numbers, .ref a_m_then, .ref a_m_leans, .int r4382.1, .int r4414.2.1, .int m_heards, .ref a_m_heardSet, .ref a_m_heardSum])), (a_m_w, .inl (cI, 106, .inl m_w)), (a_m_d, .inl (cI, 216, .inl r4414.2.2.1)), (a_m_then, .inl (cI, 8, .inl r4414.2.2.2)), (a_m_leans, .inl (cI, 8, .inl r4382.2.2))] := hD
          refine lv_iadd hx hb dX6_halves_67 ?_
          refine lv_istore (lv' := [(7, .int (r4412.1 + r4414.1)), (0, .ref a_m), (1, .int x1), (2, .int (((1 : Int32) <<< (v4381 &&& 31)) - (1 : Int32))), (3, .int y3_41), (4, .int y4_41), (5, .int y5_41), (6, .int y6_41)]) hx hb dX6_halves_68 hl (by decide) rfl (fun ls hl => ?_)
          refine lv_aload_n hx hb dX6_halves_70 rfl (lv_at hl 1 rfl) ?_
          refine lv_sipush (v := (198 : Int32)) hx hb dX6_halves_71 (by decide) ?_
          obtain ⟨r4416, hr4416, h⟩ := ob h
          refine k_Vi (As := [.int (198 : Int32)]) (rest := []) (wr := [(a_m_then, .inl (cI, 8, .inl r4414.2.2.2)), (a_m_leans, .inl (cI, 8, .inl r4382.2.2))]) (c_X6_spreadOf l dC dI cI cS n _ a_m a_m_w a_m_d a_m_text a_m_numbers a_m_then a_m_leans a_m_heardSet a_m_heardSum m_w r4414.2.2.1 m_undoes m_kept m_texted m_at r4382.1 r4414.2.1 m_heards (198 : Int32) r4416 hr4416) (fun _ _ q => q) ⟨hx, hb, hml, hown, hts⟩ (cwV 1 hts gX6_halves_X6_spreadOf rfl rfl rfl (by decide +kernel) ⟨(Nat.le_of_ble_eq_true rfl), (Nat.le_of_ble_eq_true rfl)⟩) hN hK hP hD hS hA [0, 1, 2] [3, 4] rfl rfl (by decide) (by decide) (by decide) rfl rfl rfl hl.1 rfl (Nat.le_of_ble_eq_true rfl) dX6_halves_74 ⟨(Nat.le_of_ble_eq_true rfl), (Nat.le_of_ble_eq_true rfl)⟩ (fun u4417 H locs _ hP hD hS => ?_)
          have hP : va_P (dC, dI) vwCl [(a_m_then, .inl (cI, 8, .inl r4414.2.2.2)), (a_m_leans, .inl (cI, 8, .inl r4382.2.2)), (a_m, .inr (6, [.ref a_m_w, .ref a_m_d, .int m_undoes, .int m_kept, .ref a_m_text, .int m_texted, .int m_at, .ref a_m_numbers, .ref a_m_then, .ref a_m_leans, .int r4382.1, .int r4414.2.1, .int m_heards, .ref a_m_heardSet, .ref a_m_heardSum])), (a_m_w, .inl (cI, 106, .inl m_w)), (a_m_d, .inl (cI, 216, .inl r4414.2.2.1))] H := hP
          have hD : va_D A [(a_m_then, .inl (cI, 8, .inl r4414.2.2.2)), (a_m_leans, .inl (cI, 8, .inl r4382.2.2)), (a_m, .inr (6, [.ref a_m_w, .ref a_m_d, .int m_undoes, .int m_kept, .ref a_m_text, .int m_texted, .int m_at, .ref a_m_numbers, .ref a_m_then, .ref a_m_leans, .int r4382.1, .int r4414.2.1, .int m_heards, .ref a_m_heardSet, .ref a_m_heardSum])), (a_m_w, .inl (cI, 106, .inl m_w)), (a_m_d, .inl (cI, 216, .inl r4414.2.2.1))] := hD
          refine lv_istore (lv' := [(8, .int r4416), (7, .int (r4412.1 + r4414.1)), (0, .ref a_m), (1, .int x1), (2, .int (((1 : Int32) <<< (v4381 &&& 31)) - (1 : Int32))), (3, .int y3_41), (4, .int y4_41), (5, .int y5_41), (6, .int y6_41)]) hx hb dX6_halves_77 hl (by decide) rfl (fun ls hl => ?_)
          refine lv_iload_n hx hb dX6_halves_79 rfl (lv_at hl 5 rfl) ?_
          refine lv_bipush (v := (-4 : Int32)) hx hb dX6_halves_80 (by decide) ?_
          obtain ⟨j4418, hjj4418, h⟩ := ob h
          have Jj4418 : ∀ (H : Heap) (locs : List Loc), va_P (dC, dI) vwCl [(a_m_then, .inl (cI, 8, .inl r4414.2.2.2)), (a_m_leans, .inl (cI, 8, .inl r4382.2.2)), (a_m, .inr (6, [.ref a_m_w, .ref a_m_d, .int m_undoes, .int m_kept, .ref a_m_text, .int m_texted, .int m_at, .ref a_m_numbers, .ref a_m_then, .ref a_m_leans, .int r4382.1, .int r4414.2.1, .int m_heards, .ref a_m_heardSet, .ref a_m_heardSum])), (a_m_w, .inl (cI, 106, .inl m_w)), (a_m_d, .inl (cI, 216, .inl r4414.2.2.1))] H → va_D A [(a_m_then, .inl (cI, 8, .inl r4414.2.2.2)), (a_m_leans, .inl (cI, 8, .inl r4382.2.2)), (a_m, .inr (6, [.ref a_m_w, .ref a_m_d, .int m_undoes, .int m_kept, .ref a_m_text, .int m_texted, .int m_at, .ref a_m_numbers, .ref a_m_then, .ref a_m_leans, .int r4382.1, .int r4414.2.1, .int m_heards, .ref a_m_heardSet, .ref a_m_heardSum])), (a_m_w, .inl (cI, 106, .inl m_w)), (a_m_d, .inl (cI, 216, .inl r4414.2.2.1))] → va_S A s.heap H locs → ∀ ls : Array Slot, lv_has ls 9 [(0, .ref a_m), (1, .int x1), (2, .int (((1 : Int32) <<< (v4381 &&& 31)) - (1 : Int32))), (3, .int j4418.1), (4, .int j4418.2.1), (5, .int j4418.2.2), (6, .int y6_41), (7, .int (r4412.1 + r4414.1)), (8, .int r4416)] → W p l e (headSpec wsX6_halves rm_X6_halves).room s m ([.ref a_m, .int x1] : List Value).toArray below meth c H locs 0 0 QQ (F0 m 117 ls []) := by
            intro H locs hP hD hS ls hl
            refine lv_iinc (v := (y6_41 + (1 : Int32))) (lv' := [(6, .int (y6_41 + (1 : Int32))), (0, .ref a_m), (1, .int x1), (2, .int (((1 : Int32) <<< (v4381 &&& 31)) - (1 : Int32))), (3, .int j4418.1), (4, .int j4418.2.1), (5, .int j4418.2.2), (7, .int (r4412.1 + r4414.1)), (8, .int r4416)]) hx hb dX6_halves_117 hl (k := 6) rfl rfl (by decide) rfl (fun ls hl => ?_)
            refine lv_goto (tgt := 41) hx hb dX6_halves_120 (by decide) ?_
            exact ih _ _ _ _ _ _ _ h _ _ (hP.sub [4, 0, 2, 3, 1] rfl) (hD.sub [4, 0, 2, 3, 1] (by decide +kernel) rfl) hS _ (lv_sub hl [1, 2, 3, 4, 5, 6, 0] rfl)
          refine lv_icmp_eq (tgt := 106) hx hb dX6_halves_82 (by decide) (fun c_82 => ?_) (fun c_82 => ?_)
          · have h := (if_pos c_82).symm.trans hjj4418
            refine lv_iload hx hb dX6_halves_106 (lv_at hl 8 rfl) ?_
            refine lv_istore_n (lv' := [(3, .int y6_41), (8, .int r4416), (7, .int (r4412.1 + r4414.1)), (0, .ref a_m), (1, .int x1), (2, .int (((1 : Int32) <<< (v4381 &&& 31)) - (1 : Int32))), (4, .int y4_41), (5, .int y5_41), (6, .int y6_41)]) hx hb dX6_halves_108 rfl hl (by decide) rfl (fun ls hl => ?_)
            refine lv_iload hx hb dX6_halves_109 (lv_at hl 1 rfl) ?_
            refine lv_istore (lv' := [(4, .int r4416), (3, .int y6_41), (8, .int r4416), (7, .int (r4412.1 + r4414.1)), (0, .ref a_m), (1, .int x1), (2, .int (((1 : Int32) <<< (v4381 &&& 31)) - (1 : Int32))), (5, .int y5_41), (6, .int y6_41)]) hx hb dX6_halves_111 hl (by decide) rfl (fun ls hl => ?_)
            refine lv_iload hx hb dX6_halves_113 (lv_at hl 3 rfl) ?_
            refine lv_istore (lv' := [(5, .int (r4412.1 + r4414.1)), (4, .int r4416), (3, .int y6_41), (8, .int r4416), (7, .int (r4412.1 + r4414.1)), (0, .ref a_m), (1, .int x1), (2, .int (((1 : Int32) <<< (v4381 &&& 31)) - (1 : Int32))), (6, .int y6_41)]) hx hb dX6_halves_115 hl (by decide) rfl (fun ls hl => ?_)
            obtain rfl := Option.some.inj h
            exact Jj4418 _ _ hP hD hS _ (lv_sub hl [5, 6, 7, 2, 1, 0, 8, 4, 3] rfl)
          · have h := (if_neg c_82).symm.trans hjj4418
            refine lv_iload hx hb dX6_halves_85 (lv_at hl 0 rfl) ?_
            refine lv_iload hx hb dX6_halves_87 (lv_at hl 6 rfl) ?_
            refine lv_icmp_lt (tgt := 106) hx hb dX6_halves_89 (by decide) (fun c_89 => ?_) (fun c_89 => ?_)
            · have h := (if_pos c_89).symm.trans h
              refine lv_iload hx hb dX6_halves_106 (lv_at hl 8 rfl) ?_
              refine lv_istore_n (lv' := [(3, .int y6_41), (8, .int r4416), (7, .int (r4412.1 + r4414.1)), (0, .ref a_m), (1, .int x1), (2, .int (((1 : Int32) <<< (v4381 &&& 31)) - (1 : Int32))), (4, .int y4_41), (5, .int y5_41), (6, .int y6_41)]) hx hb dX6_halves_108 rfl hl (by decide) rfl (fun ls hl => ?_)
              refine lv_iload hx hb dX6_halves_109 (lv_at hl 1 rfl) ?_
              refine lv_istore (lv' := [(4, .int r4416), (3, .int y6_41), (8, .int r4416), (7, .int (r4412.1 + r4414.1)), (0, .ref a_m), (1, .int x1), (2, .int (((1 : Int32) <<< (v4381 &&& 31)) - (1 : Int32))), (5, .int y5_41), (6, .int y6_41)]) hx hb dX6_halves_111 hl (by decide) rfl (fun ls hl => ?_)
              refine lv_iload hx hb dX6_halves_113 (lv_at hl 3 rfl) ?_
              refine lv_istore (lv' := [(5, .int (r4412.1 + r4414.1)), (4, .int r4416), (3, .int y6_41), (8, .int r4416), (7, .int (r4412.1 + r4414.1)), (0, .ref a_m), (1, .int x1), (2, .int (((1 : Int32) <<< (v4381 &&& 31)) - (1 : Int32))), (6, .int y6_41)]) hx hb dX6_halves_115 hl (by decide) rfl (fun ls hl => ?_)
              obtain rfl := Option.some.inj h
              exact Jj4418 _ _ hP hD hS _ (lv_sub hl [5, 6, 7, 2, 1, 0, 8, 4, 3] rfl)
            · have h := (if_neg c_89).symm.trans h
              refine lv_iload hx hb dX6_halves_92 (lv_at hl 0 rfl) ?_
              refine lv_iload hx hb dX6_halves_94 (lv_at hl 6 rfl) ?_
              refine lv_icmp_ne (tgt := 117) hx hb dX6_halves_96 (by decide) (fun c_96 => ?_) (fun c_96 => ?_)
              · have h := (if_neg c_96).symm.trans h
                obtain rfl := Option.some.inj h
                exact Jj4418 _ _ hP hD hS _ (lv_sub hl [2, 3, 4, 5, 6, 7, 8, 1, 0] rfl)
              · have h := (if_pos c_96).symm.trans h
                refine lv_iload hx hb dX6_halves_99 (lv_at hl 1 rfl) ?_
                refine lv_iload hx hb dX6_halves_101 (lv_at hl 7 rfl) ?_
                refine lv_icmp_ge (tgt := 117) hx hb dX6_halves_103 (by decide) (fun c_103 => ?_) (fun c_103 => ?_)
                · have h := (if_pos c_103).symm.trans h
                  obtain rfl := Option.some.inj h
                  exact Jj4418 _ _ hP hD hS _ (lv_sub hl [2, 3, 4, 5, 6, 7, 8, 1, 0] rfl)
                · have h := (if_neg c_103).symm.trans h
                  refine lv_iload hx hb dX6_halves_106 (lv_at hl 8 rfl) ?_
                  refine lv_istore_n (lv' := [(3, .int y6_41), (8, .int r4416), (7, .int (r4412.1 + r4414.1)), (0, .ref a_m), (1, .int x1), (2, .int (((1 : Int32) <<< (v4381 &&& 31)) - (1 : Int32))), (4, .int y4_41), (5, .int y5_41), (6, .int y6_41)]) hx hb dX6_halves_108 rfl hl (by decide) rfl (fun ls hl => ?_)
                  refine lv_iload hx hb dX6_halves_109 (lv_at hl 1 rfl) ?_
                  refine lv_istore (lv' := [(4, .int r4416), (3, .int y6_41), (8, .int r4416), (7, .int (r4412.1 + r4414.1)), (0, .ref a_m), (1, .int x1), (2, .int (((1 : Int32) <<< (v4381 &&& 31)) - (1 : Int32))), (5, .int y5_41), (6, .int y6_41)]) hx hb dX6_halves_111 hl (by decide) rfl (fun ls hl => ?_)
                  refine lv_iload hx hb dX6_halves_113 (lv_at hl 3 rfl) ?_
                  refine lv_istore (lv' := [(5, .int (r4412.1 + r4414.1)), (4, .int r4416), (3, .int y6_41), (8, .int r4416), (7, .int (r4412.1 + r4414.1)), (0, .ref a_m), (1, .int x1), (2, .int (((1 : Int32) <<< (v4381 &&& 31)) - (1 : Int32))), (6, .int y6_41)]) hx hb dX6_halves_115 hl (by decide) rfl (fun ls hl => ?_)
                  obtain rfl := Option.some.inj h
                  exact Jj4418 _ _ hP hD hS _ (lv_sub hl [5, 6, 7, 2, 1, 0, 8, 4, 3] rfl)
    exact K41 n (-4 : Int32) (0 : Int32) (0 : Int32) (0 : Int32) m_d m_then r4382.2.1 hjj4409 _ _ hP hD hS _ (lv_sub hl [5, 6, 4, 3, 2, 1, 0] rfl)
  · have h := (if_pos c_9).symm.trans h
    refine lv_iconst (v := (-1 : Int32)) hx hb dX6_halves_12 (by decide) ?_
    obtain rfl := Option.some.inj h
    subst hQe
    exact W.iret (v := (-1 : Int32)) hx hb hr (fun t ht hW => ⟨⟨(-1 : Int32), (), rfl, rfl, ⟨by rw [ht]; exact hP, hD⟩⟩, hS.F ht⟩) hS.2.2 dX6_halves_13
def rm_X6_way : Room := { frames := 2, cells := 0, slots := 0, locals := 46 }
set_option maxRecDepth 100000 in
set_option maxHeartbeats 8000000 in
theorem c_X6_way (l : Launch) (dC : Nat → ClassId) (dI : Nat → Nat → Nat) (cI cS : ClassId) (n sz : Nat) (a_m : Nat) (a_m_w : Nat) (a_m_d : Nat) (a_m_text : Nat) (a_m_numbers : Nat) (a_m_then : Nat) (a_m_leans : Nat) (a_m_heardSet : Nat) (a_m_heardSum : Nat) (m_w : Nat → Int32) (m_d : Nat → Int32) (m_undoes : Int32) (m_kept : Int32) (m_texted : Int32) (m_at : Int32) (m_draws : Int32) (m_drawn : Int32) (m_heards : Int32) (x1 : Int32) (x2 : Int32) (res : Int32)  (h : F_X6_way n m_w m_d x1 x2 = some res) : Met l yX6_way wsX6_way rm_X6_way (va_Pc [.ref a_m, .int x1, .int x2] (PRE (dC, dI) vwCl [(cI, .int), (cS, .object "RoundOfTheA$State")] sz [(a_m, .inr (6, [.ref a_m_w, .ref a_m_d, .int m_undoes, .int m_kept, .ref a_m_text, .int m_texted, .int m_at, .ref a_m_numbers, .ref a_m_then, .ref a_m_leans, .int m_draws, .int m_drawn, .int m_heards, .ref a_m_heardSet, .ref a_m_heardSum])), (a_m_w, .inl (cI, 106, .inl m_w)), (a_m_d, .inl (cI, 216, .inl m_d))])) (va_Qi (fun (r : Int32) (_ : Unit) => r = res) (fun u t => POST (dC, dI) vwCl [(a_m, .inr (6, [.ref a_m_w, .ref a_m_d, .int m_undoes, .int m_kept, .ref a_m_text, .int m_texted, .int m_at, .ref a_m_numbers, .ref a_m_then, .ref a_m_leans, .int m_draws, .int m_drawn, .int m_heards, .ref a_m_heardSet, .ref a_m_heardSum])), (a_m_w, .inl (cI, 106, .inl m_w)), (a_m_d, .inl (cI, 216, .inl m_d))] (va_A [(a_m, .inr (6, [.ref a_m_w, .ref a_m_d, .int m_undoes, .int m_kept, .ref a_m_text, .int m_texted, .int m_at, .ref a_m_numbers, .ref a_m_then, .ref a_m_leans, .int m_draws, .int m_drawn, .int m_heards, .ref a_m_heardSet, .ref a_m_heardSum])), (a_m_w, .inl (cI, 106, .inl m_w)), (a_m_d, .inl (cI, 216, .inl m_d))] sz) t) (va_A [(a_m, .inr (6, [.ref a_m_w, .ref a_m_d, .int m_undoes, .int m_kept, .ref a_m_text, .int m_texted, .int m_at, .ref a_m_numbers, .ref a_m_then, .ref a_m_leans, .int m_draws, .int m_drawn, .int m_heards, .ref a_m_heardSet, .ref a_m_heardSum])), (a_m_w, .inl (cI, 106, .inl m_w)), (a_m_d, .inl (cI, 216, .inl m_d))] sz)) 0 0 (va_A [(a_m, .inr (6, [.ref a_m_w, .ref a_m_d, .int m_undoes, .int m_kept, .ref a_m_text, .int m_texted, .int m_at, .ref a_m_numbers, .ref a_m_then, .ref a_m_leans, .int m_draws, .int m_drawn, .int m_heards, .ref a_m_heardSet, .ref a_m_heardSum])), (a_m_w, .inl (cI, 106, .inl m_w)), (a_m_d, .inl (cI, 216, .inl m_d))] sz) := by
  refine Met.ofW (cc := cX6_way) (maxL := 6) (ret := (some .int)) (by decide) rfl ?_
  intro p e s m args below meth c s₁ B hml hv
  obtain ⟨rfl, hsz, hN, hP, hK, hD0⟩ := hv
  have hx := B.exec
  have hb := B.bytes
  have hr := B.returns
  have hts := atoms_spec (ws := wsX6_way) B.pre
  have hown : s.vm.findClass RX6 = some m.cls := findClass_of_methodNamed B.named
  have hlocks := B.notSynchronized
  subst hsz
  have hD := hD0.self (sz := s.heap.size)
  generalize hAe : va_A [(a_m, .inr (6, [.ref a_m_w, .ref a_m_d, .int m_undoes, .int m_kept, .ref a_m_text, .int m_texted, .int m_at, .ref a_m_numbers, .ref a_m_then, .ref a_m_leans, .int m_draws, .int m_drawn, .int m_heards, .ref a_m_heardSet, .ref a_m_heardSum])), (a_m_w, .inl (cI, 106, .inl m_w)), (a_m_d, .inl (cI, 216, .inl m_d))] s.heap.size = A at hD ⊢
  have hA : ∀ q : Nat, s.heap.size ≤ q → A q := fun q h => by rw [← hAe]; exact Or.inr h
  have hS : va_S A s.heap s.heap [] := va_S.rf
  generalize hQe : MQ below _ _ s _ _ A = QQ
  have hl := lv_entry ([.ref a_m, .int x1, .int x2]) (n := 6) (Nat.le_of_ble_eq_true rfl)
  rw [lg_entry_eq]
  generalize (lg_sl ([.ref a_m, .int x1, .int x2]) ++ List.replicate (6 - (lg_sl ([.ref a_m, .int x1, .int x2])).length) Slot.unset).toArray = ls at hl ⊢
  have hl : lv_has ls 6 [(0, .ref a_m), (1, .int x1), (2, .int x2)] := hl
  have f_13 := hts (.fieldLink RX6 13 "RoundOfTheAModel" "d" "[I") (by decide +kernel)
  have in_X6 := (by decide +kernel : ∀ w ∈ wsX60, w ∈ wsX6_way)
  have f_7 := hts (.fieldLink RX6 7 "RoundOfTheAModel" "w" "[I") (by decide +kernel)
  rw [F_X6_way] at h
  refine lv_aload_n hx hb dX6_way_0 rfl (lv_at hl 0 rfl) ?_
  refine lv_iload_n hx hb dX6_way_1 rfl (lv_at hl 1 rfl) ?_
  obtain ⟨r4442, hr4442, h⟩ := ob h
  refine k_Vi (As := [.int x1]) (rest := []) (wr := [(a_m_d, .inl (cI, 216, .inl m_d))]) (c_X6_isDesk l dC dI cI cS n _ a_m a_m_w a_m_d a_m_text a_m_numbers a_m_then a_m_leans a_m_heardSet a_m_heardSum m_w m_undoes m_kept m_texted m_at m_draws m_drawn m_heards x1 r4442 hr4442) (fun _ _ q => q) ⟨hx, hb, hml, hown, hts⟩ (cwV 1 hts gX6_way_X6_isDesk rfl rfl rfl (by decide +kernel) ⟨(Nat.le_of_ble_eq_true rfl), (Nat.le_of_ble_eq_true rfl)⟩) hN hK hP hD hS hA [0, 1] [2] rfl rfl (by decide) (by decide) (by decide) rfl rfl rfl hl.1 rfl (Nat.le_of_ble_eq_true rfl) dX6_way_2 ⟨(Nat.le_of_ble_eq_true rfl), (Nat.le_of_ble_eq_true rfl)⟩ (fun u4443 H locs _ hP hD hS => ?_)
  have hP : va_P (dC, dI) vwCl [(a_m_d, .inl (cI, 216, .inl m_d)), (a_m, .inr (6, [.ref a_m_w, .ref a_m_d, .int m_undoes, .int m_kept, .ref a_m_text, .int m_texted, .int m_at, .ref a_m_numbers, .ref a_m_then, .ref a_m_leans, .int m_draws, .int m_drawn, .int m_heards, .ref a_m_heardSet, .ref a_m_heardSum])), (a_m_w, .inl (cI, 106, .inl m_w))] H := hP
  have hD : va_D A [(a_m_d, .inl (cI, 216, .inl m_d)), (a_m, .inr (6, [.ref a_m_w, .ref a_m_d, .int m_undoes, .int m_kept, .ref a_m_text, .int m_texted, .int m_at, .ref a_m_numbers, .ref a_m_then, .ref a_m_leans, .int m_draws, .int m_drawn, .int m_heards, .ref a_m_heardSet, .ref a_m_heardSum])), (a_m_w, .inl (cI, 106, .inl m_w))] := hD
  refine lv_if_eq (tgt := 18) hx hb dX6_way_5 (by decide) (fun c_5 => ?_) (fun c_5 => ?_)
  · have h := (if_pos c_5).symm.trans h
    refine lv_iconst (v := (-1 : Int32)) hx hb dX6_way_18 (by decide) ?_
    obtain rfl := Option.some.inj h
    subst hQe
    exact W.iret (v := (-1 : Int32)) hx hb hr (fun t ht hW => ⟨⟨(-1 : Int32), (), rfl, rfl, ⟨by rw [ht]; exact hP.sub [1, 2, 0] rfl, hD.sub [1, 2, 0] (by decide +kernel) rfl⟩⟩, hS.F ht⟩) hS.2.2 dX6_way_19
  · have h := (if_neg c_5).symm.trans h
    refine lv_iload_n hx hb dX6_way_8 rfl (lv_at hl 2 rfl) ?_
    refine lv_i2l (v := (Int32.toInt64 x2)) hx hb dX6_way_9 rfl ?_
    refine lv_lconst (v := (0 : Int64)) hx hb dX6_way_10 (by decide) ?_
    refine lv_lconst (v := (1 : Int64)) hx hb dX6_way_11 (by decide) ?_
    obtain ⟨r4444, hr4444, h⟩ := ob h
    refine k_Si (As := [.long (Int32.toInt64 x2), .long (0 : Int64), .long (1 : Int64)]) (rest := []) (c_X6_in l dC dI cI cS n _ (Int32.toInt64 x2) (0 : Int64) (1 : Int64) r4444 hr4444) (fun _ _ q => q) ⟨hx, hb, hml, hown, hts⟩ (va_cwS 3 hts gX6_way_X6_in rfl rfl rfl (by decide +kernel) ⟨(Nat.le_of_ble_eq_true rfl), (Nat.le_of_ble_eq_true rfl)⟩) hN hK hP hD hS hA rfl hl.1 rfl (Nat.le_of_ble_eq_true rfl) dX6_way_12 ⟨(Nat.le_of_ble_eq_true rfl), (Nat.le_of_ble_eq_true rfl)⟩ (fun H locs hP hD hS => ?_)
    refine lv_if_ne (tgt := 20) hx hb dX6_way_15 (by decide) (fun c_15 => ?_) (fun c_15 => ?_)
    · have h := (if_neg c_15).symm.trans h
      refine lv_iload_n hx hb dX6_way_20 rfl (lv_at hl 1 rfl) ?_
      refine lv_istore_n (lv' := [(3, .int x1), (0, .ref a_m), (1, .int x1), (2, .int x2)]) hx hb dX6_way_21 rfl hl (by decide) rfl (fun ls hl => ?_)
      refine lv_iconst (v := (0 : Int32)) hx hb dX6_way_22 (by decide) ?_
      refine lv_istore (lv' := [(4, .int (0 : Int32)), (3, .int x1), (0, .ref a_m), (1, .int x1), (2, .int x2)]) hx hb dX6_way_23 hl (by decide) rfl (fun ls hl => ?_)
      refine lv_iconst (v := (0 : Int32)) hx hb dX6_way_25 (by decide) ?_
      refine lv_istore (lv' := [(5, .int (0 : Int32)), (4, .int (0 : Int32)), (3, .int x1), (0, .ref a_m), (1, .int x1), (2, .int x2)]) hx hb dX6_way_26 hl (by decide) rfl (fun ls hl => ?_)
      obtain ⟨j4459, hjj4459, h⟩ := ob h
      have Jj4459 : ∀ (H : Heap) (locs : List Loc), va_P (dC, dI) vwCl [(a_m_d, .inl (cI, 216, .inl m_d)), (a_m, .inr (6, [.ref a_m_w, .ref a_m_d, .int m_undoes, .int m_kept, .ref a_m_text, .int m_texted, .int m_at, .ref a_m_numbers, .ref a_m_then, .ref a_m_leans, .int m_draws, .int m_drawn, .int m_heards, .ref a_m_heardSet, .ref a_m_heardSum])), (a_m_w, .inl (cI, 106, .inl m_w))] H → va_D A [(a_m_d, .inl (cI, 216, .inl m_d)), (a_m, .inr (6, [.ref a_m_w, .ref a_m_d, .int m_undoes, .int m_kept, .ref a_m_text, .int m_texted, .int m_at, .ref a_m_numbers, .ref a_m_then, .ref a_m_leans, .int m_draws, .int m_drawn, .int m_heards, .ref a_m_heardSet, .ref a_m_heardSum])), (a_m_w, .inl (cI, 106, .inl m_w))] → va_S A s.heap H locs → ∀ ls : Array Slot, lv_has ls 6 [(0, .ref a_m), (1, .int x1), (2, .int x2), (3, .int j4459.1), (4, .int j4459.2.1), (5, .int j4459.2.2)] → W p l e (headSpec wsX6_way rm_X6_way).room s m ([.ref a_m, .int x1, .int x2] : List Value).toArray below meth c H locs 0 0 QQ (F0 m 91 ls []) := by
        intro H locs hP hD hS ls hl
        refine lv_iload_n hx hb dX6_way_91 rfl (lv_at hl 3 rfl) ?_
        refine lv_bipush (v := (8 : Int32)) hx hb dX6_way_92 (by decide) ?_
        refine lv_icmp_ge (tgt := 102) hx hb dX6_way_94 (by decide) (fun c_94 => ?_) (fun c_94 => ?_)
        · have h := (if_pos c_94).symm.trans h
          refine lv_iload_n hx hb dX6_way_102 rfl (lv_at hl 2 rfl) ?_
          refine lv_if_ne (tgt := 111) hx hb dX6_way_103 (by decide) (fun c_103 => ?_) (fun c_103 => ?_)
          · have h := (if_neg c_103).symm.trans h
            refine lv_iload hx hb dX6_way_111 (lv_at hl 5 rfl) ?_
            refine lv_bipush (v := (100 : Int32)) hx hb dX6_way_113 (by decide) ?_
            refine lv_iadd hx hb dX6_way_115 ?_
            obtain rfl := Option.some.inj h
            subst hQe
            exact W.iret (v := (j4459.2.2 + (100 : Int32))) hx hb hr (fun t ht hW => ⟨⟨(j4459.2.2 + (100 : Int32)), (), rfl, rfl, ⟨by rw [ht]; exact hP.sub [1, 2, 0] rfl, hD.sub [1, 2, 0] (by decide +kernel) rfl⟩⟩, hS.F ht⟩) hS.2.2 dX6_way_116
          · have h := (if_pos c_103).symm.trans h
            refine lv_iload hx hb dX6_way_106 (lv_at hl 4 rfl) ?_
            refine lv_goto (tgt := 116) hx hb dX6_way_108 (by decide) ?_
            obtain rfl := Option.some.inj h
            subst hQe
            exact W.iret (v := j4459.2.1) hx hb hr (fun t ht hW => ⟨⟨j4459.2.1, (), rfl, rfl, ⟨by rw [ht]; exact hP.sub [1, 2, 0] rfl, hD.sub [1, 2, 0] (by decide +kernel) rfl⟩⟩, hS.F ht⟩) hS.2.2 dX6_way_116
        · have h := (if_neg c_94).symm.trans h
          refine lv_bipush (v := (-4 : Int32)) hx hb dX6_way_97 (by decide) ?_
          refine lv_goto (tgt := 116) hx hb dX6_way_99 (by decide) ?_
          obtain rfl := Option.some.inj h
          subst hQe
          exact W.iret (v := (-4 : Int32)) hx hb hr (fun t ht hW => ⟨⟨(-4 : Int32), (), rfl, rfl, ⟨by rw [ht]; exact hP.sub [1, 2, 0] rfl, hD.sub [1, 2, 0] (by decide +kernel) rfl⟩⟩, hS.F ht⟩) hS.2.2 dX6_way_116
      have K28 : ∀ (k : Nat) (y3_28 : Int32) (y4_28 : Int32) (y5_28 : Int32), L_X6_way_28 m_w m_d k y3_28 y4_28 y5_28 = some j4459 → ∀ (H : Heap) (locs : List Loc), va_P (dC, dI) vwCl [(a_m_d, .inl (cI, 216, .inl m_d)), (a_m, .inr (6, [.ref a_m_w, .ref a_m_d, .int m_undoes, .int m_kept, .ref a_m_text, .int m_texted, .int m_at, .ref a_m_numbers, .ref a_m_then, .ref a_m_leans, .int m_draws, .int m_drawn, .int m_heards, .ref a_m_heardSet, .ref a_m_heardSum])), (a_m_w, .inl (cI, 106, .inl m_w))] H → va_D A [(a_m_d, .inl (cI, 216, .inl m_d)), (a_m, .inr (6, [.ref a_m_w, .ref a_m_d, .int m_undoes, .int m_kept, .ref a_m_text, .int m_texted, .int m_at, .ref a_m_numbers, .ref a_m_then, .ref a_m_leans, .int m_draws, .int m_drawn, .int m_heards, .ref a_m_heardSet, .ref a_m_heardSum])), (a_m_w, .inl (cI, 106, .inl m_w))] → va_S A s.heap H locs → ∀ ls : Array Slot, lv_has ls 6 [(0, .ref a_m), (1, .int x1), (2, .int x2), (3, .int y3_28), (4, .int y4_28), (5, .int y5_28)] → W p l e (headSpec wsX6_way rm_X6_way).room s m ([.ref a_m, .int x1, .int x2] : List Value).toArray below meth c H locs 0 0 QQ (F0 m 28 ls []) := by
        intro k
        induction k with
        | zero =>
          intro y3_28 y4_28 y5_28 h
          rw [L_X6_way_28] at h
          cases h
        | succ k ih =>
          intro y3_28 y4_28 y5_28 h H locs hP hD hS ls hl
          rw [L_X6_way_28] at h
          refine lv_iload_n hx hb dX6_way_28 rfl (lv_at hl 3 rfl) ?_
          refine lv_bipush (v := (8 : Int32)) hx hb dX6_way_29 (by decide) ?_
          refine lv_icmp_ge (tgt := 91) hx hb dX6_way_31 (by decide) (fun c_31 => ?_) (fun c_31 => ?_)
          · have h := (if_pos c_31).symm.trans h
            obtain rfl := Option.some.inj h
            exact Jj4459 _ _ hP hD hS _ hl
          · have h := (if_neg c_31).symm.trans h
            refine lv_iload hx hb dX6_way_34 (lv_at hl 4 rfl) ?_
            refine lv_bipush (v := (8 : Int32)) hx hb dX6_way_36 (by decide) ?_
            refine lv_icmp_gt (tgt := 91) hx hb dX6_way_38 (by decide) (fun c_38 => ?_) (fun c_38 => ?_)
            · have h := (if_pos c_38).symm.trans h
              obtain rfl := Option.some.inj h
              exact Jj4459 _ _ hP hD hS _ hl
            · have h := (if_neg c_38).symm.trans h
              refine lv_iload hx hb dX6_way_41 (lv_at hl 5 rfl) ?_
              refine lv_aload_n hx hb dX6_way_43 rfl (lv_at hl 0 rfl) ?_
              refine va_get (D := (dC, dI)) (ci := 6) (v := .ref a_m_d) (C := RX6) (T := TX6) (N := 15) hx hb hts in_X6 hown hK hP 1 rfl rfl 1 (by decide) f_13 (fun _ h9 => h9) rfl dX6_way_44 ?_
              refine lv_bipush (v := (10 : Int32)) hx hb dX6_way_47 (by decide) ?_
              refine lv_iload_n hx hb dX6_way_49 rfl (lv_at hl 3 rfl) ?_
              refine lv_iadd hx hb dX6_way_50 ?_
              obtain ⟨v4460, hv4460, h⟩ := ob h
              refine k_ld hx hb hK hP 0 0 rfl rfl hv4460 dX6_way_51 ?_
              refine lv_bipush (v := (8 : Int32)) hx hb dX6_way_52 (by decide) ?_
              obtain ⟨j4462, hjj4462, h⟩ := ob h
              have Jj4462 : ∀ (H : Heap) (locs : List Loc), va_P (dC, dI) vwCl [(a_m_d, .inl (cI, 216, .inl m_d)), (a_m, .inr (6, [.ref a_m_w, .ref a_m_d, .int m_undoes, .int m_kept, .ref a_m_text, .int m_texted, .int m_at, .ref a_m_numbers, .ref a_m_then, .ref a_m_leans, .int m_draws, .int m_drawn, .int m_heards, .ref a_m_heardSet, .ref a_m_heardSum])), (a_m_w, .inl (cI, 106, .inl m_w))] H → va_D A [(a_m_d, .inl (cI, 216, .inl m_d)), (a_m, .inr (6, [.ref a_m_w, .ref a_m_d, .int m_undoes, .int m_kept, .ref a_m_text, .int m_texted, .int m_at, .ref a_m_numbers, .ref a_m_then, .ref a_m_leans, .int m_draws, .int m_drawn, .int m_heards, .ref a_m_heardSet, .ref a_m_heardSum])), (a_m_w, .inl (cI, 106, .inl m_w))] → va_S A s.heap H locs → ∀ ls : Array Slot, lv_has ls 6 [(0, .ref a_m), (1, .int x1), (2, .int x2), (3, .int y3_28), (4, .int y4_28), (5, .int y5_28)] → W p l e (headSpec wsX6_way rm_X6_way).room s m ([.ref a_m, .int x1, .int x2] : List Value).toArray below meth c H locs 0 0 QQ (F0 m 72 ls [.int j4462, .int y5_28]) := by
                intro H locs hP hD hS ls hl
                refine lv_iadd hx hb dX6_way_72 ?_
                refine lv_istore (lv' := [(5, .int (y5_28 + j4462)), (0, .ref a_m), (1, .int x1), (2, .int x2), (3, .int y3_28), (4, .int y4_28)]) hx hb dX6_way_73 hl (by decide) rfl (fun ls hl => ?_)
                refine lv_aload_n hx hb dX6_way_75 rfl (lv_at hl 1 rfl) ?_
                refine va_get (D := (dC, dI)) (ci := 6) (v := .ref a_m_d) (C := RX6) (T := TX6) (N := 15) hx hb hts in_X6 hown hK hP 1 rfl rfl 1 (by decide) f_13 (fun _ h9 => h9) rfl dX6_way_76 ?_
                refine lv_bipush (v := (10 : Int32)) hx hb dX6_way_79 (by decide) ?_
                refine lv_iload_n hx hb dX6_way_81 rfl (lv_at hl 4 rfl) ?_
                refine lv_iadd hx hb dX6_way_82 ?_
                obtain ⟨v4464, hv4464, h⟩ := ob h
                refine k_ld hx hb hK hP 0 0 rfl rfl hv4464 dX6_way_83 ?_
                refine lv_istore_n (lv' := [(3, .int v4464), (5, .int (y5_28 + j4462)), (0, .ref a_m), (1, .int x1), (2, .int x2), (4, .int y4_28)]) hx hb dX6_way_84 rfl hl (by decide) rfl (fun ls hl => ?_)
                refine lv_iinc (v := (y4_28 + (1 : Int32))) (lv' := [(4, .int (y4_28 + (1 : Int32))), (3, .int v4464), (5, .int (y5_28 + j4462)), (0, .ref a_m), (1, .int x1), (2, .int x2)]) hx hb dX6_way_85 hl (k := 5) rfl rfl (by decide) rfl (fun ls hl => ?_)
                refine lv_goto (tgt := 28) hx hb dX6_way_88 (by decide) ?_
                exact ih _ _ _ h _ _ hP hD hS _ (lv_sub hl [3, 4, 5, 1, 0, 2] rfl)
              refine lv_icmp_ne (tgt := 61) hx hb dX6_way_54 (by decide) (fun c_54 => ?_) (fun c_54 => ?_)
              · have h := (if_neg c_54).symm.trans hjj4462
                refine lv_aload_n hx hb dX6_way_61 rfl (lv_at hl 0 rfl) ?_
                refine va_get (D := (dC, dI)) (ci := 6) (v := .ref a_m_w) (C := RX6) (T := TX6) (N := 15) hx hb hts in_X6 hown hK hP 1 rfl rfl 0 (by decide) f_7 (fun _ h9 => h9) rfl dX6_way_62 ?_
                refine lv_bipush (v := (9 : Int32)) hx hb dX6_way_65 (by decide) ?_
                refine lv_iload_n hx hb dX6_way_67 rfl (lv_at hl 3 rfl) ?_
                refine lv_iadd hx hb dX6_way_68 ?_
                obtain ⟨v4463, hv4463, h⟩ := ob h
                refine k_ld hx hb hK hP 2 0 rfl rfl hv4463 dX6_way_69 ?_
                refine lv_iconst (v := (3 : Int32)) hx hb dX6_way_70 (by decide) ?_
                refine lv_isub hx hb dX6_way_71 ?_
                obtain rfl := Option.some.inj h
                exact Jj4462 _ _ hP hD hS _ hl
              · have h := (if_pos c_54).symm.trans hjj4462
                refine lv_iconst (v := (0 : Int32)) hx hb dX6_way_57 (by decide) ?_
                refine lv_goto (tgt := 72) hx hb dX6_way_58 (by decide) ?_
                obtain rfl := Option.some.inj h
                exact Jj4462 _ _ hP hD hS _ hl
      exact K28 n x1 (0 : Int32) (0 : Int32) hjj4459 _ _ hP hD hS _ (lv_sub hl [3, 4, 5, 2, 1, 0] rfl)
    · have h := (if_pos c_15).symm.trans h
      refine lv_iconst (v := (-1 : Int32)) hx hb dX6_way_18 (by decide) ?_
      obtain rfl := Option.some.inj h
      subst hQe
      exact W.iret (v := (-1 : Int32)) hx hb hr (fun t ht hW => ⟨⟨(-1 : Int32), (), rfl, rfl, ⟨by rw [ht]; exact hP.sub [1, 2, 0] rfl, hD.sub [1, 2, 0] (by decide +kernel) rfl⟩⟩, hS.F ht⟩) hS.2.2 dX6_way_19
def rm_X6_ear : Room := { frames := 5, cells := 0, slots := 0, locals := 115 }
set_option maxRecDepth 100000 in
set_option maxHeartbeats 8000000 in
theorem c_X6_ear (l : Launch) (dC : Nat → ClassId) (dI : Nat → Nat → Nat) (cI cS : ClassId) (n sz : Nat) (a_m : Nat) (a_m_w : Nat) (a_m_d : Nat) (a_m_text : Nat) (a_m_numbers : Nat) (a_m_then : Nat) (a_m_leans : Nat) (a_m_heardSet : Nat) (a_m_heardSum : Nat) (m_w : Nat → Int32) (m_d : Nat → Int32) (m_undoes : Int32) (m_kept : Int32) (m_texted : Int32) (m_at : Int32) (m_then : Nat → Int32) (m_leans : Nat → Int32) (m_draws : Int32) (m_drawn : Int32) (m_heards : Int32) (x1 : Int32) (x2 : Int32) (res : Int32 × Int32 × Int32 × (Nat → Int32) × (Nat → Int32) × (Nat → Int32))  (h : F_X6_ear n m_w m_d m_then m_leans m_draws m_drawn x1 x2 = some res) : Met l yX6_ear wsX6_ear rm_X6_ear (va_Pc [.ref a_m, .int x1, .int x2] (PRE (dC, dI) vwCl [(cI, .int), (cS, .object "RoundOfTheA$State")] sz [(a_m, .inr (6, [.ref a_m_w, .ref a_m_d, .int m_undoes, .int m_kept, .ref a_m_text, .int m_texted, .int m_at, .ref a_m_numbers, .ref a_m_then, .ref a_m_leans, .int m_draws, .int m_drawn, .int m_heards, .ref a_m_heardSet, .ref a_m_heardSum])), (a_m_w, .inl (cI, 106, .inl m_w)), (a_m_d, .inl (cI, 216, .inl m_d)), (a_m_then, .inl (cI, 8, .inl m_then)), (a_m_leans, .inl (cI, 8, .inl m_leans))])) (va_Qi (fun (r : Int32) (_ : Unit) => r = res.1) (fun u t => POST (dC, dI) vwCl [(a_m, .inr (6, [.ref a_m_w, .ref a_m_d, .int m_undoes, .int m_kept, .ref a_m_text, .int m_texted, .int m_at, .ref a_m_numbers, .ref a_m_then, .ref a_m_leans, .int res.2.1, .int res.2.2.1, .int m_heards, .ref a_m_heardSet, .ref a_m_heardSum])), (a_m_w, .inl (cI, 106, .inl m_w)), (a_m_d, .inl (cI, 216, .inl res.2.2.2.1)), (a_m_then, .inl (cI, 8, .inl res.2.2.2.2.1)), (a_m_leans, .inl (cI, 8, .inl res.2.2.2.2.2))] (va_A [(a_m, .inr (6, [.ref a_m_w, .ref a_m_d, .int m_undoes, .int m_kept, .ref a_m_text, .int m_texted, .int m_at, .ref a_m_numbers, .ref a_m_then, .ref a_m_leans, .int m_draws, .int m_drawn, .int m_heards, .ref a_m_heardSet, .ref a_m_heardSum])), (a_m_w, .inl (cI, 106, .inl m_w)), (a_m_d, .inl (cI, 216, .inl m_d)), (a_m_then, .inl (cI, 8, .inl m_then)), (a_m_leans, .inl (cI, 8, .inl m_leans))] sz) t) (va_A [(a_m, .inr (6, [.ref a_m_w, .ref a_m_d, .int m_undoes, .int m_kept, .ref a_m_text, .int m_texted, .int m_at, .ref a_m_numbers, .ref a_m_then, .ref a_m_leans, .int m_draws, .int m_drawn, .int m_heards, .ref a_m_heardSet, .ref a_m_heardSum])), (a_m_w, .inl (cI, 106, .inl m_w)), (a_m_d, .inl (cI, 216, .inl m_d)), (a_m_then, .inl (cI, 8, .inl m_then)), (a_m_leans, .inl (cI, 8, .inl m_leans))] sz)) 0 0 (va_A [(a_m, .inr (6, [.ref a_m_w, .ref a_m_d, .int m_undoes, .int m_kept, .ref a_m_text, .int m_texted, .int m_at, .ref a_m_numbers, .ref a_m_then, .ref a_m_leans, .int m_draws, .int m_drawn, .int m_heards, .ref a_m_heardSet, .ref a_m_heardSum])), (a_m_w, .inl (cI, 106, .inl m_w)), (a_m_d, .inl (cI, 216, .inl m_d)), (a_m_then, .inl (cI, 8, .inl m_then)), (a_m_leans, .inl (cI, 8, .inl m_leans))] sz) := by
  refine Met.ofW (cc := cX6_ear) (maxL := 8) (ret := (some .int)) (by decide) rfl ?_
  intro p e s m args below meth c s₁ B hml hv
  obtain ⟨rfl, hsz, hN, hP, hK, hD0⟩ := hv
  have hx := B.exec
  have hb := B.bytes
  have hr := B.returns
  have hts := atoms_spec (ws := wsX6_ear) B.pre
  have hown : s.vm.findClass RX6 = some m.cls := findClass_of_methodNamed B.named
  have hlocks := B.notSynchronized
  subst hsz
  have hD := hD0.self (sz := s.heap.size)
  generalize hAe : va_A [(a_m, .inr (6, [.ref a_m_w, .ref a_m_d, .int m_undoes, .int m_kept, .ref a_m_text, .int m_texted, .int m_at, .ref a_m_numbers, .ref a_m_then, .ref a_m_leans, .int m_draws, .int m_drawn, .int m_heards, .ref a_m_heardSet, .ref a_m_heardSum])), (a_m_w, .inl (cI, 106, .inl m_w)), (a_m_d, .inl (cI, 216, .inl m_d)), (a_m_then, .inl (cI, 8, .inl m_then)), (a_m_leans, .inl (cI, 8, .inl m_leans))] s.heap.size = A at hD ⊢
  have hA : ∀ q : Nat, s.heap.size ≤ q → A q := fun q h => by rw [← hAe]; exact Or.inr h
  have hS : va_S A s.heap s.heap [] := va_S.rf
  generalize hQe : MQ below _ _ s _ _ A = QQ
  have hl := lv_entry ([.ref a_m, .int x1, .int x2]) (n := 8) (Nat.le_of_ble_eq_true rfl)
  rw [lg_entry_eq]
  generalize (lg_sl ([.ref a_m, .int x1, .int x2]) ++ List.replicate (8 - (lg_sl ([.ref a_m, .int x1, .int x2])).length) Slot.unset).toArray = ls at hl ⊢
  have hl : lv_has ls 8 [(0, .ref a_m), (1, .int x1), (2, .int x2)] := hl
  have f_7 := hts (.fieldLink RX6 7 "RoundOfTheAModel" "w" "[I") (by decide +kernel)
  have in_X6 := (by decide +kernel : ∀ w ∈ wsX60, w ∈ wsX6_ear)
  have f_13 := hts (.fieldLink RX6 13 "RoundOfTheAModel" "d" "[I") (by decide +kernel)
  rw [F_X6_ear] at h
  refine lv_aload_n hx hb dX6_ear_0 rfl (lv_at hl 0 rfl) ?_
  refine lv_iload_n hx hb dX6_ear_1 rfl (lv_at hl 1 rfl) ?_
  obtain ⟨r4572, hr4572, h⟩ := ob h
  refine k_Vi (As := [.int x1]) (rest := []) (wr := [(a_m_d, .inl (cI, 216, .inl m_d)), (a_m_then, .inl (cI, 8, .inl m_then)), (a_m_leans, .inl (cI, 8, .inl m_leans))]) (c_X6_isDesk l dC dI cI cS n _ a_m a_m_w a_m_d a_m_text a_m_numbers a_m_then a_m_leans a_m_heardSet a_m_heardSum m_w m_undoes m_kept m_texted m_at m_draws m_drawn m_heards x1 r4572 hr4572) (fun _ _ q => q) ⟨hx, hb, hml, hown, hts⟩ (cwV 1 hts gX6_ear_X6_isDesk rfl rfl rfl (by decide +kernel) ⟨(Nat.le_of_ble_eq_true rfl), (Nat.le_of_ble_eq_true rfl)⟩) hN hK hP hD hS hA [0, 1] [2, 3, 4] rfl rfl (by decide) (by decide) (by decide) rfl rfl rfl hl.1 rfl (Nat.le_of_ble_eq_true rfl) dX6_ear_2 ⟨(Nat.le_of_ble_eq_true rfl), (Nat.le_of_ble_eq_true rfl)⟩ (fun u4573 H locs _ hP hD hS => ?_)
  have hP : va_P (dC, dI) vwCl [(a_m_d, .inl (cI, 216, .inl m_d)), (a_m_then, .inl (cI, 8, .inl m_then)), (a_m_leans, .inl (cI, 8, .inl m_leans)), (a_m, .inr (6, [.ref a_m_w, .ref a_m_d, .int m_undoes, .int m_kept, .ref a_m_text, .int m_texted, .int m_at, .ref a_m_numbers, .ref a_m_then, .ref a_m_leans, .int m_draws, .int m_drawn, .int m_heards, .ref a_m_heardSet, .ref a_m_heardSum])), (a_m_w, .inl (cI, 106, .inl m_w))] H := hP
  have hD : va_D A [(a_m_d, .inl (cI, 216, .inl m_d)), (a_m_then, .inl (cI, 8, .inl m_then)), (a_m_leans, .inl (cI, 8, .inl m_leans)), (a_m, .inr (6, [.ref a_m_w, .ref a_m_d, .int m_undoes, .int m_kept, .ref a_m_text, .int m_texted, .int m_at, .ref a_m_numbers, .ref a_m_then, .ref a_m_leans, .int m_draws, .int m_drawn, .int m_heards, .ref a_m_heardSet, .ref a_m_heardSum])), (a_m_w, .inl (cI, 106, .inl m_w))] := hD
  refine lv_if_eq (tgt := 18) hx hb dX6_ear_5 (by decide) (fun c_5 => ?_) (fun c_5 => ?_)
  · have h := (if_pos c_5).symm.trans h
    refine lv_iconst (v := (-1 : Int32)) hx hb dX6_ear_18 (by decide) ?_
    obtain rfl := Option.some.inj h
    subst hQe
    exact W.iret (v := (-1 : Int32)) hx hb hr (fun t ht hW => ⟨⟨(-1 : Int32), (), rfl, rfl, ⟨by rw [ht]; exact hP.sub [3, 4, 0, 1, 2] rfl, hD.sub [3, 4, 0, 1, 2] (by decide +kernel) rfl⟩⟩, hS.F ht⟩) hS.2.2 dX6_ear_19
  · have h := (if_neg c_5).symm.trans h
    refine lv_iload_n hx hb dX6_ear_8 rfl (lv_at hl 2 rfl) ?_
    refine lv_i2l (v := (Int32.toInt64 x2)) hx hb dX6_ear_9 rfl ?_
    refine lv_lconst (v := (0 : Int64)) hx hb dX6_ear_10 (by decide) ?_
    refine lv_lconst (v := (1 : Int64)) hx hb dX6_ear_11 (by decide) ?_
    obtain ⟨r4574, hr4574, h⟩ := ob h
    refine k_Si (As := [.long (Int32.toInt64 x2), .long (0 : Int64), .long (1 : Int64)]) (rest := []) (c_X6_in l dC dI cI cS n _ (Int32.toInt64 x2) (0 : Int64) (1 : Int64) r4574 hr4574) (fun _ _ q => q) ⟨hx, hb, hml, hown, hts⟩ (va_cwS 3 hts gX6_ear_X6_in rfl rfl rfl (by decide +kernel) ⟨(Nat.le_of_ble_eq_true rfl), (Nat.le_of_ble_eq_true rfl)⟩) hN hK hP hD hS hA rfl hl.1 rfl (Nat.le_of_ble_eq_true rfl) dX6_ear_12 ⟨(Nat.le_of_ble_eq_true rfl), (Nat.le_of_ble_eq_true rfl)⟩ (fun H locs hP hD hS => ?_)
    refine lv_if_ne (tgt := 20) hx hb dX6_ear_15 (by decide) (fun c_15 => ?_) (fun c_15 => ?_)
    · have h := (if_neg c_15).symm.trans h
      refine lv_aload_n hx hb dX6_ear_20 rfl (lv_at hl 0 rfl) ?_
      refine va_get (D := (dC, dI)) (ci := 6) (v := .ref a_m_w) (C := RX6) (T := TX6) (N := 15) hx hb hts in_X6 hown hK hP 3 rfl rfl 0 (by decide) f_7 (fun _ h9 => h9) rfl dX6_ear_21 ?_
      refine lv_iconst (v := (1 : Int32)) hx hb dX6_ear_24 (by decide) ?_
      refine lv_iload_n hx hb dX6_ear_25 rfl (lv_at hl 1 rfl) ?_
      refine lv_iadd hx hb dX6_ear_26 ?_
      obtain ⟨v4576, hv4576, h⟩ := ob h
      refine k_ld hx hb hK hP 4 0 rfl rfl hv4576 dX6_ear_27 ?_
      refine lv_iconst (v := (2 : Int32)) hx hb dX6_ear_28 (by decide) ?_
      refine lv_icmp_ne (tgt := 35) hx hb dX6_ear_29 (by decide) (fun c_29 => ?_) (fun c_29 => ?_)
      · have h := (if_neg c_29).symm.trans h
        refine lv_bipush (v := (-4 : Int32)) hx hb dX6_ear_35 (by decide) ?_
        refine lv_istore_n (lv' := [(3, .int (-4 : Int32)), (0, .ref a_m), (1, .int x1), (2, .int x2)]) hx hb dX6_ear_37 rfl hl (by decide) rfl (fun ls hl => ?_)
        refine lv_iconst (v := (0 : Int32)) hx hb dX6_ear_38 (by decide) ?_
        refine lv_istore (lv' := [(4, .int (0 : Int32)), (3, .int (-4 : Int32)), (0, .ref a_m), (1, .int x1), (2, .int x2)]) hx hb dX6_ear_39 hl (by decide) rfl (fun ls hl => ?_)
        refine lv_iconst (v := (0 : Int32)) hx hb dX6_ear_41 (by decide) ?_
        refine lv_istore (lv' := [(5, .int (0 : Int32)), (4, .int (0 : Int32)), (3, .int (-4 : Int32)), (0, .ref a_m), (1, .int x1), (2, .int x2)]) hx hb dX6_ear_42 hl (by decide) rfl (fun ls hl => ?_)
        obtain ⟨j4647, hjj4647, h⟩ := ob h
        have Jj4647 : ∀ (H : Heap) (locs : List Loc), va_P (dC, dI) vwCl [(a_m_d, .inl (cI, 216, .inl j4647.2.2.2.1)), (a_m_then, .inl (cI, 8, .inl j4647.2.2.2.2.1)), (a_m_leans, .inl (cI, 8, .inl j4647.2.2.2.2.2.1)), (a_m, .inr (6, [.ref a_m_w, .ref a_m_d, .int m_undoes, .int m_kept, .ref a_m_text, .int m_texted, .int m_at, .ref a_m_numbers, .ref a_m_then, .ref a_m_leans, .int j4647.2.2.2.2.2.2.1, .int j4647.2.2.2.2.2.2.2, .int m_heards, .ref a_m_heardSet, .ref a_m_heardSum])), (a_m_w, .inl (cI, 106, .inl m_w))] H → va_D A [(a_m_d, .inl (cI, 216, .inl j4647.2.2.2.1)), (a_m_then, .inl (cI, 8, .inl j4647.2.2.2.2.1)), (a_m_leans, .inl (cI, 8, .inl j4647.2.2.2.2.2.1)), (a_m, .inr (6, [.ref a_m_w, .ref a_m_d, .int m_undoes, .int m_kept, .ref a_m_text, .int m_texted, .int m_at, .ref a_m_numbers, .ref a_m_then, .ref a_m_leans, .int j4647.2.2.2.2.2.2.1, .int j4647.2.2.2.2.2.2.2, .int m_heards, .ref a_m_heardSet, .ref a_m_heardSum])), (a_m_w, .inl (cI, 106, .inl m_w))] → va_S A s.heap H locs → ∀ ls : Array Slot, lv_has ls 8 [(0, .ref a_m), (1, .int x1), (2, .int x2), (3, .int j4647.1), (4, .int j4647.2.1), (5, .int j4647.2.2.1)] → W p l e (headSpec wsX6_ear rm_X6_ear).room s m ([.ref a_m, .int x1, .int x2] : List Value).toArray below meth c H locs 0 0 QQ (F0 m 160 ls []) := by
          intro H locs hP hD hS ls hl
          refine lv_iload_n hx hb dX6_ear_160 rfl (lv_at hl 2 rfl) ?_
          refine lv_if_ne (tgt := 168) hx hb dX6_ear_161 (by decide) (fun c_161 => ?_) (fun c_161 => ?_)
          · have h := (if_neg c_161).symm.trans h
            refine lv_iload hx hb dX6_ear_168 (lv_at hl 4 rfl) ?_
            obtain rfl := Option.some.inj h
            subst hQe
            exact W.iret (v := j4647.2.1) hx hb hr (fun t ht hW => ⟨⟨j4647.2.1, (), rfl, rfl, ⟨by rw [ht]; exact hP.sub [3, 4, 0, 1, 2] rfl, hD.sub [3, 4, 0, 1, 2] (by decide +kernel) rfl⟩⟩, hS.F ht⟩) hS.2.2 dX6_ear_170
          · have h := (if_pos c_161).symm.trans h
            refine lv_iload_n hx hb dX6_ear_164 rfl (lv_at hl 3 rfl) ?_
            refine lv_goto (tgt := 170) hx hb dX6_ear_165 (by decide) ?_
            obtain rfl := Option.some.inj h
            subst hQe
            exact W.iret (v := j4647.1) hx hb hr (fun t ht hW => ⟨⟨j4647.1, (), rfl, rfl, ⟨by rw [ht]; exact hP.sub [3, 4, 0, 1, 2] rfl, hD.sub [3, 4, 0, 1, 2] (by decide +kernel) rfl⟩⟩, hS.F ht⟩) hS.2.2 dX6_ear_170
        have K44 : ∀ (k : Nat) (y3_44 : Int32) (y4_44 : Int32) (y5_44 : Int32) (m_dv_44 : Nat → Int32) (m_thenv_44 : Nat → Int32) (m_leansv_44 : Nat → Int32) (m_10v_44 : Int32) (m_11v_44 : Int32), L_X6_ear_44 n m_w x1 k y3_44 y4_44 y5_44 m_dv_44 m_thenv_44 m_leansv_44 m_10v_44 m_11v_44 = some j4647 → ∀ (H : Heap) (locs : List Loc), va_P (dC, dI) vwCl [(a_m_d, .inl (cI, 216, .inl m_dv_44)), (a_m_then, .inl (cI, 8, .inl m_thenv_44)), (a_m_leans, .inl (cI, 8, .inl m_leansv_44)), (a_m, .inr (6, [.ref a_m_w, .ref a_m_d, .int m_undoes, .int m_kept, .ref a_m_text, .int m_texted, .int m_at, .ref a_m_numbers, .ref a_m_then, .ref a_m_leans, .int m_10v_44, .int m_11v_44, .int m_heards, .ref a_m_heardSet, .ref a_m_heardSum])), (a_m_w, .inl (cI, 106, .inl m_w))] H → va_D A [(a_m_d, .inl (cI, 216, .inl m_dv_44)), (a_m_then, .inl (cI, 8, .inl m_thenv_44)), (a_m_leans, .inl (cI, 8, .inl m_leansv_44)), (a_m, .inr (6, [.ref a_m_w, .ref a_m_d, .int m_undoes, .int m_kept, .ref a_m_text, .int m_texted, .int m_at, .ref a_m_numbers, .ref a_m_then, .ref a_m_leans, .int m_10v_44, .int m_11v_44, .int m_heards, .ref a_m_heardSet, .ref a_m_heardSum])), (a_m_w, .inl (cI, 106, .inl m_w))] → va_S A s.heap H locs → ∀ ls : Array Slot, lv_has ls 8 [(0, .ref a_m), (1, .int x1), (2, .int x2), (3, .int y3_44), (4, .int y4_44), (5, .int y5_44)] → W p l e (headSpec wsX6_ear rm_X6_ear).room s m ([.ref a_m, .int x1, .int x2] : List Value).toArray below meth c H locs 0 0 QQ (F0 m 44 ls []) := by
          intro k
          induction k with
          | zero =>
            intro y3_44 y4_44 y5_44 m_dv_44 m_thenv_44 m_leansv_44 m_10v_44 m_11v_44 h
            rw [L_X6_ear_44] at h
            cases h
          | succ k ih =>
            intro y3_44 y4_44 y5_44 m_dv_44 m_thenv_44 m_leansv_44 m_10v_44 m_11v_44 h H locs hP hD hS ls hl
            rw [L_X6_ear_44] at h
            refine lv_iload hx hb dX6_ear_44 (lv_at hl 5 rfl) ?_
            refine lv_bipush (v := (9 : Int32)) hx hb dX6_ear_46 (by decide) ?_
            refine lv_icmp_gt (tgt := 160) hx hb dX6_ear_48 (by decide) (fun c_48 => ?_) (fun c_48 => ?_)
            · have h := (if_pos c_48).symm.trans h
              obtain rfl := Option.some.inj h
              exact Jj4647 _ _ hP hD hS _ hl
            · have h := (if_neg c_48).symm.trans h
              refine lv_iload hx hb dX6_ear_51 (lv_at hl 5 rfl) ?_
              refine lv_bipush (v := (8 : Int32)) hx hb dX6_ear_53 (by decide) ?_
              obtain ⟨j4663, hjj4663, h⟩ := ob h
              have Jj4663 : ∀ (H : Heap) (locs : List Loc), va_P (dC, dI) vwCl [(a_m_d, .inl (cI, 216, .inl j4663.2.2.1)), (a_m_then, .inl (cI, 8, .inl j4663.2.2.2.1)), (a_m_leans, .inl (cI, 8, .inl j4663.2.2.2.2.1)), (a_m, .inr (6, [.ref a_m_w, .ref a_m_d, .int m_undoes, .int m_kept, .ref a_m_text, .int m_texted, .int m_at, .ref a_m_numbers, .ref a_m_then, .ref a_m_leans, .int j4663.2.2.2.2.2.1, .int j4663.2.2.2.2.2.2, .int m_heards, .ref a_m_heardSet, .ref a_m_heardSum])), (a_m_w, .inl (cI, 106, .inl m_w))] H → va_D A [(a_m_d, .inl (cI, 216, .inl j4663.2.2.1)), (a_m_then, .inl (cI, 8, .inl j4663.2.2.2.1)), (a_m_leans, .inl (cI, 8, .inl j4663.2.2.2.2.1)), (a_m, .inr (6, [.ref a_m_w, .ref a_m_d, .int m_undoes, .int m_kept, .ref a_m_text, .int m_texted, .int m_at, .ref a_m_numbers, .ref a_m_then, .ref a_m_leans, .int j4663.2.2.2.2.2.1, .int j4663.2.2.2.2.2.2, .int m_heards, .ref a_m_heardSet, .ref a_m_heardSum])), (a_m_w, .inl (cI, 106, .inl m_w))] → va_S A s.heap H locs → ∀ ls : Array Slot, lv_has ls 8 [(0, .ref a_m), (1, .int x1), (2, .int x2), (3, .int j4663.1), (4, .int j4663.2.1), (5, .int y5_44)] → W p l e (headSpec wsX6_ear rm_X6_ear).room s m ([.ref a_m, .int x1, .int x2] : List Value).toArray below meth c H locs 0 0 QQ (F0 m 154 ls []) := by
                intro H locs hP hD hS ls hl
                refine lv_iinc (v := (y5_44 + (1 : Int32))) (lv' := [(5, .int (y5_44 + (1 : Int32))), (0, .ref a_m), (1, .int x1), (2, .int x2), (3, .int j4663.1), (4, .int j4663.2.1)]) hx hb dX6_ear_154 hl (k := 5) rfl rfl (by decide) rfl (fun ls hl => ?_)
                refine lv_goto (tgt := 44) hx hb dX6_ear_157 (by decide) ?_
                exact ih _ _ _ _ _ _ _ _ h _ _ hP hD hS _ (lv_sub hl [1, 2, 3, 4, 5, 0] rfl)
              refine lv_icmp_eq (tgt := 154) hx hb dX6_ear_55 (by decide) (fun c_55 => ?_) (fun c_55 => ?_)
              · have h := (if_pos c_55).symm.trans hjj4663
                obtain rfl := Option.some.inj h
                exact Jj4663 _ _ hP hD hS _ hl
              · have h := (if_neg c_55).symm.trans hjj4663
                refine lv_aload_n hx hb dX6_ear_58 rfl (lv_at hl 0 rfl) ?_
                refine lv_iload_n hx hb dX6_ear_59 rfl (lv_at hl 1 rfl) ?_
                refine lv_iload hx hb dX6_ear_60 (lv_at hl 5 rfl) ?_
                obtain ⟨r4664, hr4664, h⟩ := ob h
                refine k_Vi (As := [.int x1, .int y5_44]) (rest := []) (wr := [(a_m_d, .inl (cI, 216, .inl m_dv_44)), (a_m_then, .inl (cI, 8, .inl m_thenv_44)), (a_m_leans, .inl (cI, 8, .inl m_leansv_44))]) (c_X6_isWhom l dC dI cI cS n _ a_m a_m_w a_m_d a_m_text a_m_numbers a_m_then a_m_leans a_m_heardSet a_m_heardSum m_w m_undoes m_kept m_texted m_at m_10v_44 m_11v_44 m_heards x1 y5_44 r4664 hr4664) (fun _ _ q => q) ⟨hx, hb, hml, hown, hts⟩ (cwV 2 hts gX6_ear_X6_isWhom rfl rfl rfl (by decide +kernel) ⟨(Nat.le_of_ble_eq_true rfl), (Nat.le_of_ble_eq_true rfl)⟩) hN hK hP hD hS hA [3, 4] [0, 1, 2] rfl rfl (by decide) (by decide) (by decide) rfl rfl rfl hl.1 rfl (Nat.le_of_ble_eq_true rfl) dX6_ear_62 ⟨(Nat.le_of_ble_eq_true rfl), (Nat.le_of_ble_eq_true rfl)⟩ (fun u4665 H locs _ hP hD hS => ?_)
                have hP : va_P (dC, dI) vwCl [(a_m_d, .inl (cI, 216, .inl m_dv_44)), (a_m_then, .inl (cI, 8, .inl m_thenv_44)), (a_m_leans, .inl (cI, 8, .inl m_leansv_44)), (a_m, .inr (6, [.ref a_m_w, .ref a_m_d, .int m_undoes, .int m_kept, .ref a_m_text, .int m_texted, .int m_at, .ref a_m_numbers, .ref a_m_then, .ref a_m_leans, .int m_10v_44, .int m_11v_44, .int m_heards, .ref a_m_heardSet, .ref a_m_heardSum])), (a_m_w, .inl (cI, 106, .inl m_w))] H := hP
                have hD : va_D A [(a_m_d, .inl (cI, 216, .inl m_dv_44)), (a_m_then, .inl (cI, 8, .inl m_thenv_44)), (a_m_leans, .inl (cI, 8, .inl m_leansv_44)), (a_m, .inr (6, [.ref a_m_w, .ref a_m_d, .int m_undoes, .int m_kept, .ref a_m_text, .int m_texted, .int m_at, .ref a_m_numbers, .ref a_m_then, .ref a_m_leans, .int m_10v_44, .int m_11v_44, .int m_heards, .ref a_m_heardSet, .ref a_m_heardSum])), (a_m_w, .inl (cI, 106, .inl m_w))] := hD
                refine lv_if_eq (tgt := 154) hx hb dX6_ear_65 (by decide) (fun c_65 => ?_) (fun c_65 => ?_)
                · have h := (if_pos c_65).symm.trans h
                  obtain rfl := Option.some.inj h
                  exact Jj4663 _ _ hP hD hS _ hl
                · have h := (if_neg c_65).symm.trans h
                  refine lv_aload_n hx hb dX6_ear_68 rfl (lv_at hl 0 rfl) ?_
                  obtain ⟨r4666, hr4666, h⟩ := ob h
                  refine k_Vv (As := []) (rest := []) (wr := [(a_m_then, .inl (cI, 8, .inl m_thenv_44)), (a_m_leans, .inl (cI, 8, .inl m_leansv_44)), (a_m_w, .inl (cI, 106, .inl m_w))]) (c_X6_lays l dC dI cI cS n _ a_m a_m_w a_m_d a_m_text a_m_numbers a_m_then a_m_leans a_m_heardSet a_m_heardSum m_dv_44 m_undoes m_kept m_texted m_at m_10v_44 m_11v_44 m_heards r4666 hr4666) ⟨hx, hb, hml, hown, hts⟩ (cwV 0 hts gX6_ear_X6_lays rfl rfl rfl (by decide +kernel) ⟨(Nat.le_of_ble_eq_true rfl), (Nat.le_of_ble_eq_true rfl)⟩) hN hK hP hD hS hA [3, 0] [1, 2, 4] rfl rfl (by decide) (by decide) (by decide) rfl rfl rfl hl.1 rfl (Nat.le_of_ble_eq_true rfl) dX6_ear_69 ⟨(Nat.le_of_ble_eq_true rfl), (Nat.le_of_ble_eq_true rfl)⟩ (fun u4667 H locs _ hP hD hS => ?_)
                  have hP : va_P (dC, dI) vwCl [(a_m_then, .inl (cI, 8, .inl m_thenv_44)), (a_m_leans, .inl (cI, 8, .inl m_leansv_44)), (a_m_w, .inl (cI, 106, .inl m_w)), (a_m, .inr (6, [.ref a_m_w, .ref a_m_d, .int m_undoes, .int m_kept, .ref a_m_text, .int m_texted, .int m_at, .ref a_m_numbers, .ref a_m_then, .ref a_m_leans, .int m_10v_44, .int m_11v_44, .int m_heards, .ref a_m_heardSet, .ref a_m_heardSum])), (a_m_d, .inl (cI, 216, .inl r4666))] H := hP
                  have hD : va_D A [(a_m_then, .inl (cI, 8, .inl m_thenv_44)), (a_m_leans, .inl (cI, 8, .inl m_leansv_44)), (a_m_w, .inl (cI, 106, .inl m_w)), (a_m, .inr (6, [.ref a_m_w, .ref a_m_d, .int m_undoes, .int m_kept, .ref a_m_text, .int m_texted, .int m_at, .ref a_m_numbers, .ref a_m_then, .ref a_m_leans, .int m_10v_44, .int m_11v_44, .int m_heards, .ref a_m_heardSet, .ref a_m_heardSum])), (a_m_d, .inl (cI, 216, .inl r4666))] := hD
                  refine lv_aload_n hx hb dX6_ear_72 rfl (lv_at hl 0 rfl) ?_
                  obtain ⟨r4668, hr4668, h⟩ := ob h
                  refine k_Vv (As := []) (rest := []) (wr := [(a_m_then, .inl (cI, 8, .inl m_thenv_44)), (a_m_d, .inl (cI, 216, .inl r4666))]) (c_X6_laysLeans l dC dI cI cS n _ a_m a_m_w a_m_d a_m_text a_m_numbers a_m_then a_m_leans a_m_heardSet a_m_heardSum m_w m_undoes m_kept m_texted m_at m_leansv_44 m_10v_44 m_11v_44 m_heards r4668 hr4668) ⟨hx, hb, hml, hown, hts⟩ (cwV 0 hts gX6_ear_X6_laysLeans rfl rfl rfl (by decide +kernel) ⟨(Nat.le_of_ble_eq_true rfl), (Nat.le_of_ble_eq_true rfl)⟩) hN hK hP hD hS hA [3, 2, 1] [0, 4] rfl rfl (by decide) (by decide) (by decide) rfl rfl rfl hl.1 rfl (Nat.le_of_ble_eq_true rfl) dX6_ear_73 ⟨(Nat.le_of_ble_eq_true rfl), (Nat.le_of_ble_eq_true rfl)⟩ (fun u4669 H locs _ hP hD hS => ?_)
                  have hP : va_P (dC, dI) vwCl [(a_m_then, .inl (cI, 8, .inl m_thenv_44)), (a_m_d, .inl (cI, 216, .inl r4666)), (a_m, .inr (6, [.ref a_m_w, .ref a_m_d, .int m_undoes, .int m_kept, .ref a_m_text, .int m_texted, .int m_at, .ref a_m_numbers, .ref a_m_then, .ref a_m_leans, .int r4668.1, .int r4668.2.1, .int m_heards, .ref a_m_heardSet, .ref a_m_heardSum])), (a_m_w, .inl (cI, 106, .inl m_w)), (a_m_leans, .inl (cI, 8, .inl r4668.2.2))] H := hP
                  have hD : va_D A [(a_m_then, .inl (cI, 8, .inl m_thenv_44)), (a_m_d, .inl (cI, 216, .inl r4666)), (a_m, .inr (6, [.ref a_m_w, .ref a_m_d, .int m_undoes, .int m_kept, .ref a_m_text, .int m_texted, .int m_at, .ref a_m_numbers, .ref a_m_then, .ref a_m_leans, .int r4668.1, .int r4668.2.1, .int m_heards, .ref a_m_heardSet, .ref a_m_heardSum])), (a_m_w, .inl (cI, 106, .inl m_w)), (a_m_leans, .inl (cI, 8, .inl r4668.2.2))] := hD
                  refine lv_aload_n hx hb dX6_ear_76 rfl (lv_at hl 0 rfl) ?_
                  refine va_get (D := (dC, dI)) (ci := 6) (v := .ref a_m_d) (C := RX6) (T := TX6) (N := 15) hx hb hts in_X6 hown hK hP 2 rfl rfl 1 (by decide) f_13 (fun _ h9 => h9) rfl dX6_ear_77 ?_
                  refine lv_sipush (v := (208 : Int32)) hx hb dX6_ear_80 (by decide) ?_
                  refine lv_iload_n hx hb dX6_ear_83 rfl (lv_at hl 1 rfl) ?_
                  refine lv_iadd hx hb dX6_ear_84 ?_
                  refine lv_iload hx hb dX6_ear_85 (lv_at hl 5 rfl) ?_
                  obtain ⟨g4670, hg4670, h⟩ := ob h
                  refine k_st hx hb hK hP hD hS 1 0 rfl rfl hg4670 dX6_ear_87 (ws' := [(a_m_then, .inl (cI, 8, .inl m_thenv_44)), (a_m_d, .inl (cI, 216, .inl g4670)), (a_m, .inr (6, [.ref a_m_w, .ref a_m_d, .int m_undoes, .int m_kept, .ref a_m_text, .int m_texted, .int m_at, .ref a_m_numbers, .ref a_m_then, .ref a_m_leans, .int r4668.1, .int r4668.2.1, .int m_heards, .ref a_m_heardSet, .ref a_m_heardSum])), (a_m_w, .inl (cI, 106, .inl m_w)), (a_m_leans, .inl (cI, 8, .inl r4668.2.2))]) rfl (fun H locs hP hD hS => ?_)
                  refine lv_aload_n hx hb dX6_ear_88 rfl (lv_at hl 0 rfl) ?_
                  obtain ⟨r4671, hr4671, h⟩ := ob h
                  refine k_Vi (As := []) (rest := []) (wr := []) (c_X6_rounds l dC dI cI cS n _ a_m a_m_w a_m_d a_m_text a_m_numbers a_m_then a_m_leans a_m_heardSet a_m_heardSum m_w g4670 m_undoes m_kept m_texted m_at m_thenv_44 r4668.2.2 r4668.1 r4668.2.1 m_heards r4671 hr4671) (fun _ _ q => q) ⟨hx, hb, hml, hown, hts⟩ (cwV 0 hts gX6_ear_X6_rounds rfl rfl rfl (by decide +kernel) ⟨(Nat.le_of_ble_eq_true rfl), (Nat.le_of_ble_eq_true rfl)⟩) hN hK hP hD hS hA [2, 3, 1, 0, 4] [] rfl rfl (by decide) (by decide) (by decide) rfl rfl rfl hl.1 rfl (Nat.le_of_ble_eq_true rfl) dX6_ear_89 ⟨(Nat.le_of_ble_eq_true rfl), (Nat.le_of_ble_eq_true rfl)⟩ (fun u4672 H locs _ hP hD hS => ?_)
                  have hP : va_P (dC, dI) vwCl [(a_m, .inr (6, [.ref a_m_w, .ref a_m_d, .int m_undoes, .int m_kept, .ref a_m_text, .int m_texted, .int m_at, .ref a_m_numbers, .ref a_m_then, .ref a_m_leans, .int r4668.1, .int r4671.2.1, .int m_heards, .ref a_m_heardSet, .ref a_m_heardSum])), (a_m_w, .inl (cI, 106, .inl m_w)), (a_m_d, .inl (cI, 216, .inl r4671.2.2.1)), (a_m_then, .inl (cI, 8, .inl r4671.2.2.2)), (a_m_leans, .inl (cI, 8, .inl r4668.2.2))] H := hP
                  have hD : va_D A [(a_m, .inr (6, [.ref a_m_w, .ref a_m_d, .int m_undoes, .int m_kept, .ref a_m_text, .int m_texted, .int m_at, .ref a_m_numbers, .ref a_m_then, .ref a_m_leans, .int r4668.1, .int r4671.2.1, .int m_heards, .ref a_m_heardSet, .ref a_m_heardSum])), (a_m_w, .inl (cI, 106, .inl m_w)), (a_m_d, .inl (cI, 216, .inl r4671.2.2.1)), (a_m_then, .inl (cI, 8, .inl r4671.2.2.2)), (a_m_leans, .inl (cI, 8, .inl r4668.2.2))] := hD
                  refine lv_pop hx hb dX6_ear_92 rfl ?_
                  refine lv_aload_n hx hb dX6_ear_93 rfl (lv_at hl 0 rfl) ?_
                  refine va_get (D := (dC, dI)) (ci := 6) (v := .ref a_m_d) (C := RX6) (T := TX6) (N := 15) hx hb hts in_X6 hown hK hP 0 rfl rfl 1 (by decide) f_13 (fun _ h9 => h9) rfl dX6_ear_94 ?_
                  refine lv_sipush (v := (198 : Int32)) hx hb dX6_ear_97 (by decide) ?_
                  refine lv_iload_n hx hb dX6_ear_100 rfl (lv_at hl 1 rfl) ?_
                  refine lv_iadd hx hb dX6_ear_101 ?_
                  obtain ⟨v4673, hv4673, h⟩ := ob h
                  refine k_ld hx hb hK hP 2 0 rfl rfl hv4673 dX6_ear_102 ?_
                  obtain ⟨r4674, hr4674, h⟩ := ob h
                  refine k_Si (As := [.int v4673]) (rest := []) (c_X6_plain l dC dI cI cS n _ v4673 r4674 hr4674) (fun _ _ q => q) ⟨hx, hb, hml, hown, hts⟩ (va_cwS 1 hts gX6_ear_X6_plain rfl rfl rfl (by decide +kernel) ⟨(Nat.le_of_ble_eq_true rfl), (Nat.le_of_ble_eq_true rfl)⟩) hN hK hP hD hS hA rfl hl.1 rfl (Nat.le_of_ble_eq_true rfl) dX6_ear_103 ⟨(Nat.le_of_ble_eq_true rfl), (Nat.le_of_ble_eq_true rfl)⟩ (fun H locs hP hD hS => ?_)
                  refine lv_istore (lv' := [(6, .int r4674), (0, .ref a_m), (1, .int x1), (2, .int x2), (3, .int y3_44), (4, .int y4_44), (5, .int y5_44)]) hx hb dX6_ear_106 hl (by decide) rfl (fun ls hl => ?_)
                  refine lv_iload_n hx hb dX6_ear_108 rfl (lv_at hl 4 rfl) ?_
                  refine lv_bipush (v := (-4 : Int32)) hx hb dX6_ear_109 (by decide) ?_
                  obtain ⟨j4676, hjj4676, h⟩ := ob h
                  have Jj4676 : ∀ (H : Heap) (locs : List Loc), va_P (dC, dI) vwCl [(a_m, .inr (6, [.ref a_m_w, .ref a_m_d, .int m_undoes, .int m_kept, .ref a_m_text, .int m_texted, .int m_at, .ref a_m_numbers, .ref a_m_then, .ref a_m_leans, .int r4668.1, .int r4671.2.1, .int m_heards, .ref a_m_heardSet, .ref a_m_heardSum])), (a_m_w, .inl (cI, 106, .inl m_w)), (a_m_d, .inl (cI, 216, .inl r4671.2.2.1)), (a_m_then, .inl (cI, 8, .inl r4671.2.2.2)), (a_m_leans, .inl (cI, 8, .inl r4668.2.2))] H → va_D A [(a_m, .inr (6, [.ref a_m_w, .ref a_m_d, .int m_undoes, .int m_kept, .ref a_m_text, .int m_texted, .int m_at, .ref a_m_numbers, .ref a_m_then, .ref a_m_leans, .int r4668.1, .int r4671.2.1, .int m_heards, .ref a_m_heardSet, .ref a_m_heardSum])), (a_m_w, .inl (cI, 106, .inl m_w)), (a_m_d, .inl (cI, 216, .inl r4671.2.2.1)), (a_m_then, .inl (cI, 8, .inl r4671.2.2.2)), (a_m_leans, .inl (cI, 8, .inl r4668.2.2))] → va_S A s.heap H locs → ∀ ls : Array Slot, lv_has ls 8 [(0, .ref a_m), (1, .int x1), (2, .int x2), (3, .int y3_44), (4, .int y4_44), (5, .int y5_44), (6, .int r4674)] → W p l e (headSpec wsX6_ear rm_X6_ear).room s m ([.ref a_m, .int x1, .int x2] : List Value).toArray below meth c H locs 0 0 QQ (F0 m 126 ls [.int j4676]) := by
                    intro H locs hP hD hS ls hl
                    refine lv_istore (lv' := [(7, .int j4676), (0, .ref a_m), (1, .int x1), (2, .int x2), (3, .int y3_44), (4, .int y4_44), (5, .int y5_44), (6, .int r4674)]) hx hb dX6_ear_126 hl (by decide) rfl (fun ls hl => ?_)
                    refine lv_iload hx hb dX6_ear_128 (lv_at hl 0 rfl) ?_
                    obtain ⟨j4677, hjj4677, h⟩ := ob h
                    have Jj4677 : ∀ (H : Heap) (locs : List Loc), va_P (dC, dI) vwCl [(a_m, .inr (6, [.ref a_m_w, .ref a_m_d, .int m_undoes, .int m_kept, .ref a_m_text, .int m_texted, .int m_at, .ref a_m_numbers, .ref a_m_then, .ref a_m_leans, .int r4668.1, .int r4671.2.1, .int m_heards, .ref a_m_heardSet, .ref a_m_heardSum])), (a_m_w, .inl (cI, 106, .inl m_w)), (a_m_d, .inl (cI, 216, .inl r4671.2.2.1)), (a_m_then, .inl (cI, 8, .inl r4671.2.2.2)), (a_m_leans, .inl (cI, 8, .inl r4668.2.2))] H → va_D A [(a_m, .inr (6, [.ref a_m_w, .ref a_m_d, .int m_undoes, .int m_kept, .ref a_m_text, .int m_texted, .int m_at, .ref a_m_numbers, .ref a_m_then, .ref a_m_leans, .int r4668.1, .int r4671.2.1, .int m_heards, .ref a_m_heardSet, .ref a_m_heardSum])), (a_m_w, .inl (cI, 106, .inl m_w)), (a_m_d, .inl (cI, 216, .inl r4671.2.2.1)), (a_m_then, .inl (cI, 8, .inl r4671.2.2.2)), (a_m_leans, .inl (cI, 8, .inl r4668.2.2))] → va_S A s.heap H locs → ∀ ls : Array Slot, lv_has ls 8 [(0, .ref a_m), (1, .int x1), (2, .int x2), (3, .int y3_44), (4, .int y4_44), (5, .int y5_44), (6, .int r4674), (7, .int j4676)] → W p l e (headSpec wsX6_ear rm_X6_ear).room s m ([.ref a_m, .int x1, .int x2] : List Value).toArray below meth c H locs 0 0 QQ (F0 m 139 ls [.int j4677]) := by
                      intro H locs hP hD hS ls hl
                      refine lv_istore_n (lv' := [(3, .int j4677), (0, .ref a_m), (1, .int x1), (2, .int x2), (4, .int y4_44), (5, .int y5_44), (6, .int r4674), (7, .int j4676)]) hx hb dX6_ear_139 rfl hl (by decide) rfl (fun ls hl => ?_)
                      refine lv_iload hx hb dX6_ear_140 (lv_at hl 7 rfl) ?_
                      obtain ⟨j4678, hjj4678, h⟩ := ob h
                      have Jj4678 : ∀ (H : Heap) (locs : List Loc), va_P (dC, dI) vwCl [(a_m, .inr (6, [.ref a_m_w, .ref a_m_d, .int m_undoes, .int m_kept, .ref a_m_text, .int m_texted, .int m_at, .ref a_m_numbers, .ref a_m_then, .ref a_m_leans, .int r4668.1, .int r4671.2.1, .int m_heards, .ref a_m_heardSet, .ref a_m_heardSum])), (a_m_w, .inl (cI, 106, .inl m_w)), (a_m_d, .inl (cI, 216, .inl r4671.2.2.1)), (a_m_then, .inl (cI, 8, .inl r4671.2.2.2)), (a_m_leans, .inl (cI, 8, .inl r4668.2.2))] H → va_D A [(a_m, .inr (6, [.ref a_m_w, .ref a_m_d, .int m_undoes, .int m_kept, .ref a_m_text, .int m_texted, .int m_at, .ref a_m_numbers, .ref a_m_then, .ref a_m_leans, .int r4668.1, .int r4671.2.1, .int m_heards, .ref a_m_heardSet, .ref a_m_heardSum])), (a_m_w, .inl (cI, 106, .inl m_w)), (a_m_d, .inl (cI, 216, .inl r4671.2.2.1)), (a_m_then, .inl (cI, 8, .inl r4671.2.2.2)), (a_m_leans, .inl (cI, 8, .inl r4668.2.2))] → va_S A s.heap H locs → ∀ ls : Array Slot, lv_has ls 8 [(0, .ref a_m), (1, .int x1), (2, .int x2), (3, .int j4677), (4, .int y4_44), (5, .int y5_44), (6, .int r4674), (7, .int j4676)] → W p l e (headSpec wsX6_ear rm_X6_ear).room s m ([.ref a_m, .int x1, .int x2] : List Value).toArray below meth c H locs 0 0 QQ (F0 m 152 ls [.int j4678]) := by
                        intro H locs hP hD hS ls hl
                        refine lv_istore (lv' := [(4, .int j4678), (0, .ref a_m), (1, .int x1), (2, .int x2), (3, .int j4677), (5, .int y5_44), (6, .int r4674), (7, .int j4676)]) hx hb dX6_ear_152 hl (by decide) rfl (fun ls hl => ?_)
                        obtain rfl := Option.some.inj h
                        exact Jj4663 _ _ (hP.sub [2, 3, 4, 0, 1] rfl) (hD.sub [2, 3, 4, 0, 1] (by decide +kernel) rfl) hS _ (lv_sub hl [1, 2, 3, 4, 0, 5] rfl)
                      refine lv_if_eq (tgt := 150) hx hb dX6_ear_142 (by decide) (fun c_142 => ?_) (fun c_142 => ?_)
                      · have h := (if_pos c_142).symm.trans hjj4678
                        refine lv_iload hx hb dX6_ear_150 (lv_at hl 4 rfl) ?_
                        obtain rfl := Option.some.inj h
                        exact Jj4678 _ _ hP hD hS _ (lv_sub hl [1, 2, 3, 0, 4, 5, 6, 7] rfl)
                      · have h := (if_neg c_142).symm.trans hjj4678
                        refine lv_iload hx hb dX6_ear_145 (lv_at hl 6 rfl) ?_
                        refine lv_goto (tgt := 152) hx hb dX6_ear_147 (by decide) ?_
                        obtain rfl := Option.some.inj h
                        exact Jj4678 _ _ hP hD hS _ (lv_sub hl [1, 2, 3, 0, 4, 5, 6, 7] rfl)
                    refine lv_if_eq (tgt := 138) hx hb dX6_ear_130 (by decide) (fun c_130 => ?_) (fun c_130 => ?_)
                    · have h := (if_pos c_130).symm.trans hjj4677
                      refine lv_iload_n hx hb dX6_ear_138 rfl (lv_at hl 4 rfl) ?_
                      obtain rfl := Option.some.inj h
                      exact Jj4677 _ _ hP hD hS _ (lv_sub hl [1, 2, 3, 4, 5, 6, 7, 0] rfl)
                    · have h := (if_neg c_130).symm.trans hjj4677
                      refine lv_iload hx hb dX6_ear_133 (lv_at hl 6 rfl) ?_
                      refine lv_goto (tgt := 139) hx hb dX6_ear_135 (by decide) ?_
                      obtain rfl := Option.some.inj h
                      exact Jj4677 _ _ hP hD hS _ (lv_sub hl [1, 2, 3, 4, 5, 6, 7, 0] rfl)
                  refine lv_icmp_eq (tgt := 121) hx hb dX6_ear_111 (by decide) (fun c_111 => ?_) (fun c_111 => ?_)
                  · have h := (if_pos c_111).symm.trans hjj4676
                    refine lv_iconst (v := (1 : Int32)) hx hb dX6_ear_121 (by decide) ?_
                    refine lv_goto (tgt := 126) hx hb dX6_ear_122 (by decide) ?_
                    obtain rfl := Option.some.inj h
                    exact Jj4676 _ _ hP hD hS _ (lv_sub hl [1, 2, 3, 4, 5, 6, 0] rfl)
                  · have h := (if_neg c_111).symm.trans hjj4676
                    refine lv_iload hx hb dX6_ear_114 (lv_at hl 0 rfl) ?_
                    refine lv_iload hx hb dX6_ear_116 (lv_at hl 5 rfl) ?_
                    refine lv_icmp_ge (tgt := 125) hx hb dX6_ear_118 (by decide) (fun c_118 => ?_) (fun c_118 => ?_)
                    · have h := (if_pos c_118).symm.trans h
                      refine lv_iconst (v := (0 : Int32)) hx hb dX6_ear_125 (by decide) ?_
                      obtain rfl := Option.some.inj h
                      exact Jj4676 _ _ hP hD hS _ (lv_sub hl [1, 2, 3, 4, 5, 6, 0] rfl)
                    · have h := (if_neg c_118).symm.trans h
                      refine lv_iconst (v := (1 : Int32)) hx hb dX6_ear_121 (by decide) ?_
                      refine lv_goto (tgt := 126) hx hb dX6_ear_122 (by decide) ?_
                      obtain rfl := Option.some.inj h
                      exact Jj4676 _ _ hP hD hS _ (lv_sub hl [1, 2, 3, 4, 5, 6, 0] rfl)
        exact K44 n (-4 : Int32) (0 : Int32) (0 : Int32) m_d m_then m_leans m_draws m_drawn hjj4647 _ _ hP hD hS _ (lv_sub hl [3, 4, 5, 2, 1, 0] rfl)
      · have h := (if_pos c_29).symm.trans h
        refine lv_bipush (v := (-2 : Int32)) hx hb dX6_ear_32 (by decide) ?_
        obtain rfl := Option.some.inj h
        subst hQe
        exact W.iret (v := (-2 : Int32)) hx hb hr (fun t ht hW => ⟨⟨(-2 : Int32), (), rfl, rfl, ⟨by rw [ht]; exact hP.sub [3, 4, 0, 1, 2] rfl, hD.sub [3, 4, 0, 1, 2] (by decide +kernel) rfl⟩⟩, hS.F ht⟩) hS.2.2 dX6_ear_34
    · have h := (if_pos c_15).symm.trans h
      refine lv_iconst (v := (-1 : Int32)) hx hb dX6_ear_18 (by decide) ?_
      obtain rfl := Option.some.inj h
      subst hQe
      exact W.iret (v := (-1 : Int32)) hx hb hr (fun t ht hW => ⟨⟨(-1 : Int32), (), rfl, rfl, ⟨by rw [ht]; exact hP.sub [3, 4, 0, 1, 2] rfl, hD.sub [3, 4, 0, 1, 2] (by decide +kernel) rfl⟩⟩, hS.F ht⟩) hS.2.2 dX6_ear_19
def rm_X6_again : Room := { frames := 3, cells := 0, slots := 0, locals := 65 }
set_option maxRecDepth 100000 in
set_option maxHeartbeats 8000000 in
theorem c_X6_again (l : Launch) (dC : Nat → ClassId) (dI : Nat → Nat → Nat) (cI cS : ClassId) (n sz : Nat) (a_m : Nat) (a_m_w : Nat) (a_m_d : Nat) (a_m_text : Nat) (a_m_numbers : Nat) (a_m_then : Nat) (a_m_leans : Nat) (a_m_heardSet : Nat) (a_m_heardSum : Nat) (m_w : Nat → Int32) (m_d : Nat → Int32) (m_undoes : Int32) (m_kept : Int32) (m_texted : Int32) (m_at : Int32) (m_draws : Int32) (m_drawn : Int32) (m_heards : Int32) (res : Int32 × (Nat → Int32))  (h : F_X6_again n m_w m_d = some res) : Met l yX6_again wsX6_again rm_X6_again (va_Pc [.ref a_m] (PRE (dC, dI) vwCl [(cI, .int), (cS, .object "RoundOfTheA$State")] sz [(a_m, .inr (6, [.ref a_m_w, .ref a_m_d, .int m_undoes, .int m_kept, .ref a_m_text, .int m_texted, .int m_at, .ref a_m_numbers, .ref a_m_then, .ref a_m_leans, .int m_draws, .int m_drawn, .int m_heards, .ref a_m_heardSet, .ref a_m_heardSum])), (a_m_w, .inl (cI, 106, .inl m_w)), (a_m_d, .inl (cI, 216, .inl m_d))])) (va_Qi (fun (r : Int32) (_ : Unit) => r = res.1) (fun u t => POST (dC, dI) vwCl [(a_m, .inr (6, [.ref a_m_w, .ref a_m_d, .int m_undoes, .int m_kept, .ref a_m_text, .int m_texted, .int m_at, .ref a_m_numbers, .ref a_m_then, .ref a_m_leans, .int m_draws, .int m_drawn, .int m_heards, .ref a_m_heardSet, .ref a_m_heardSum])), (a_m_w, .inl (cI, 106, .inl m_w)), (a_m_d, .inl (cI, 216, .inl res.2))] (va_A [(a_m, .inr (6, [.ref a_m_w, .ref a_m_d, .int m_undoes, .int m_kept, .ref a_m_text, .int m_texted, .int m_at, .ref a_m_numbers, .ref a_m_then, .ref a_m_leans, .int m_draws, .int m_drawn, .int m_heards, .ref a_m_heardSet, .ref a_m_heardSum])), (a_m_w, .inl (cI, 106, .inl m_w)), (a_m_d, .inl (cI, 216, .inl m_d))] sz) t) (va_A [(a_m, .inr (6, [.ref a_m_w, .ref a_m_d, .int m_undoes, .int m_kept, .ref a_m_text, .int m_texted, .int m_at, .ref a_m_numbers, .ref a_m_then, .ref a_m_leans, .int m_draws, .int m_drawn, .int m_heards, .ref a_m_heardSet, .ref a_m_heardSum])), (a_m_w, .inl (cI, 106, .inl m_w)), (a_m_d, .inl (cI, 216, .inl m_d))] sz)) 0 0 (va_A [(a_m, .inr (6, [.ref a_m_w, .ref a_m_d, .int m_undoes, .int m_kept, .ref a_m_text, .int m_texted, .int m_at, .ref a_m_numbers, .ref a_m_then, .ref a_m_leans, .int m_draws, .int m_drawn, .int m_heards, .ref a_m_heardSet, .ref a_m_heardSum])), (a_m_w, .inl (cI, 106, .inl m_w)), (a_m_d, .inl (cI, 216, .inl m_d))] sz) := by
  refine Met.ofW (cc := cX6_again) (maxL := 2) (ret := (some .int)) (by decide) rfl ?_
  intro p e s m args below meth c s₁ B hml hv
  obtain ⟨rfl, hsz, hN, hP, hK, hD0⟩ := hv
  have hx := B.exec
  have hb := B.bytes
  have hr := B.returns
  have hts := atoms_spec (ws := wsX6_again) B.pre
  have hown : s.vm.findClass RX6 = some m.cls := findClass_of_methodNamed B.named
  have hlocks := B.notSynchronized
  subst hsz
  have hD := hD0.self (sz := s.heap.size)
  generalize hAe : va_A [(a_m, .inr (6, [.ref a_m_w, .ref a_m_d, .int m_undoes, .int m_kept, .ref a_m_text, .int m_texted, .int m_at, .ref a_m_numbers, .ref a_m_then, .ref a_m_leans, .int m_draws, .int m_drawn, .int m_heards, .ref a_m_heardSet, .ref a_m_heardSum])), (a_m_w, .inl (cI, 106, .inl m_w)), (a_m_d, .inl (cI, 216, .inl m_d))] s.heap.size = A at hD ⊢
  have hA : ∀ q : Nat, s.heap.size ≤ q → A q := fun q h => by rw [← hAe]; exact Or.inr h
  have hS : va_S A s.heap s.heap [] := va_S.rf
  generalize hQe : MQ below _ _ s _ _ A = QQ
  have hl := lv_entry ([.ref a_m]) (n := 2) (Nat.le_of_ble_eq_true rfl)
  rw [lg_entry_eq]
  generalize (lg_sl ([.ref a_m]) ++ List.replicate (2 - (lg_sl ([.ref a_m])).length) Slot.unset).toArray = ls at hl ⊢
  have hl : lv_has ls 2 [(0, .ref a_m)] := hl
  have f_7 := hts (.fieldLink RX6 7 "RoundOfTheAModel" "w" "[I") (by decide +kernel)
  have in_X6 := (by decide +kernel : ∀ w ∈ wsX60, w ∈ wsX6_again)
  rw [F_X6_again] at h
  refine lv_aload_n hx hb dX6_again_0 rfl (lv_at hl 0 rfl) ?_
  obtain ⟨r4698, hr4698, h⟩ := ob h
  refine k_Vv (As := []) (rest := []) (wr := [(a_m_w, .inl (cI, 106, .inl m_w))]) (c_X6_lays l dC dI cI cS n _ a_m a_m_w a_m_d a_m_text a_m_numbers a_m_then a_m_leans a_m_heardSet a_m_heardSum m_d m_undoes m_kept m_texted m_at m_draws m_drawn m_heards r4698 hr4698) ⟨hx, hb, hml, hown, hts⟩ (cwV 0 hts gX6_again_X6_lays rfl rfl rfl (by decide +kernel) ⟨(Nat.le_of_ble_eq_true rfl), (Nat.le_of_ble_eq_true rfl)⟩) hN hK hP hD hS hA [0, 2] [1] rfl rfl (by decide) (by decide) (by decide) rfl rfl rfl hl.1 rfl (Nat.le_of_ble_eq_true rfl) dX6_again_1 ⟨(Nat.le_of_ble_eq_true rfl), (Nat.le_of_ble_eq_true rfl)⟩ (fun u4699 H locs _ hP hD hS => ?_)
  have hP : va_P (dC, dI) vwCl [(a_m_w, .inl (cI, 106, .inl m_w)), (a_m, .inr (6, [.ref a_m_w, .ref a_m_d, .int m_undoes, .int m_kept, .ref a_m_text, .int m_texted, .int m_at, .ref a_m_numbers, .ref a_m_then, .ref a_m_leans, .int m_draws, .int m_drawn, .int m_heards, .ref a_m_heardSet, .ref a_m_heardSum])), (a_m_d, .inl (cI, 216, .inl r4698))] H := hP
  have hD : va_D A [(a_m_w, .inl (cI, 106, .inl m_w)), (a_m, .inr (6, [.ref a_m_w, .ref a_m_d, .int m_undoes, .int m_kept, .ref a_m_text, .int m_texted, .int m_at, .ref a_m_numbers, .ref a_m_then, .ref a_m_leans, .int m_draws, .int m_drawn, .int m_heards, .ref a_m_heardSet, .ref a_m_heardSum])), (a_m_d, .inl (cI, 216, .inl r4698))] := hD
  refine lv_iconst (v := (0 : Int32)) hx hb dX6_again_4 (by decide) ?_
  refine lv_istore_n (lv' := [(1, .int (0 : Int32)), (0, .ref a_m)]) hx hb dX6_again_5 rfl hl (by decide) rfl (fun ls hl => ?_)
  have K6 : ∀ (k : Nat) (y1_6 : Int32) (m_dv_6 : Nat → Int32), L_X6_again_6 n m_w k y1_6 m_dv_6 = some res → ∀ (H : Heap) (locs : List Loc), va_P (dC, dI) vwCl [(a_m_w, .inl (cI, 106, .inl m_w)), (a_m, .inr (6, [.ref a_m_w, .ref a_m_d, .int m_undoes, .int m_kept, .ref a_m_text, .int m_texted, .int m_at, .ref a_m_numbers, .ref a_m_then, .ref a_m_leans, .int m_draws, .int m_drawn, .int m_heards, .ref a_m_heardSet, .ref a_m_heardSum])), (a_m_d, .inl (cI, 216, .inl m_dv_6))] H → va_D A [(a_m_w, .inl (cI, 106, .inl m_w)), (a_m, .inr (6, [.ref a_m_w, .ref a_m_d, .int m_undoes, .int m_kept, .ref a_m_text, .int m_texted, .int m_at, .ref a_m_numbers, .ref a_m_then, .ref a_m_leans, .int m_draws, .int m_drawn, .int m_heards, .ref a_m_heardSet, .ref a_m_heardSum])), (a_m_d, .inl (cI, 216, .inl m_dv_6))] → va_S A s.heap H locs → ∀ ls : Array Slot, lv_has ls 2 [(0, .ref a_m), (1, .int y1_6)] → W p l e (headSpec wsX6_again rm_X6_again).room s m ([.ref a_m] : List Value).toArray below meth c H locs 0 0 QQ (F0 m 6 ls []) := by
    intro k
    induction k with
    | zero =>
      intro y1_6 m_dv_6 h
      rw [L_X6_again_6] at h
      cases h
    | succ k ih =>
      intro y1_6 m_dv_6 h H locs hP hD hS ls hl
      rw [L_X6_again_6] at h
      refine lv_iload_n hx hb dX6_again_6 rfl (lv_at hl 1 rfl) ?_
      refine lv_bipush (v := (100 : Int32)) hx hb dX6_again_7 (by decide) ?_
      refine lv_icmp_ge (tgt := 43) hx hb dX6_again_9 (by decide) (fun c_9 => ?_) (fun c_9 => ?_)
      · have h := (if_pos c_9).symm.trans h
        refine lv_bipush (v := (-4 : Int32)) hx hb dX6_again_43 (by decide) ?_
        obtain rfl := Option.some.inj h
        subst hQe
        exact W.iret (v := (-4 : Int32)) hx hb hr (fun t ht hW => ⟨⟨(-4 : Int32), (), rfl, rfl, ⟨by rw [ht]; exact hP.sub [1, 0, 2] rfl, hD.sub [1, 0, 2] (by decide +kernel) rfl⟩⟩, hS.F ht⟩) hS.2.2 dX6_again_45
      · have h := (if_neg c_9).symm.trans h
        refine lv_aload_n hx hb dX6_again_12 rfl (lv_at hl 0 rfl) ?_
        refine lv_sipush (v := (198 : Int32)) hx hb dX6_again_13 (by decide) ?_
        obtain ⟨r4712, hr4712, h⟩ := ob h
        refine k_Vi (As := [.int (198 : Int32)]) (rest := []) (wr := []) (c_X6_spreadOf l dC dI cI cS n _ a_m a_m_w a_m_d a_m_text a_m_numbers a_m_then a_m_leans a_m_heardSet a_m_heardSum m_w m_dv_6 m_undoes m_kept m_texted m_at m_draws m_drawn m_heards (198 : Int32) r4712 hr4712) (fun _ _ q => q) ⟨hx, hb, hml, hown, hts⟩ (cwV 1 hts gX6_again_X6_spreadOf rfl rfl rfl (by decide +kernel) ⟨(Nat.le_of_ble_eq_true rfl), (Nat.le_of_ble_eq_true rfl)⟩) hN hK hP hD hS hA [1, 0, 2] [] rfl rfl (by decide) (by decide) (by decide) rfl rfl rfl hl.1 rfl (Nat.le_of_ble_eq_true rfl) dX6_again_16 ⟨(Nat.le_of_ble_eq_true rfl), (Nat.le_of_ble_eq_true rfl)⟩ (fun u4713 H locs _ hP hD hS => ?_)
        have hP : va_P (dC, dI) vwCl [(a_m, .inr (6, [.ref a_m_w, .ref a_m_d, .int m_undoes, .int m_kept, .ref a_m_text, .int m_texted, .int m_at, .ref a_m_numbers, .ref a_m_then, .ref a_m_leans, .int m_draws, .int m_drawn, .int m_heards, .ref a_m_heardSet, .ref a_m_heardSum])), (a_m_w, .inl (cI, 106, .inl m_w)), (a_m_d, .inl (cI, 216, .inl m_dv_6))] H := hP
        have hD : va_D A [(a_m, .inr (6, [.ref a_m_w, .ref a_m_d, .int m_undoes, .int m_kept, .ref a_m_text, .int m_texted, .int m_at, .ref a_m_numbers, .ref a_m_then, .ref a_m_leans, .int m_draws, .int m_drawn, .int m_heards, .ref a_m_heardSet, .ref a_m_heardSum])), (a_m_w, .inl (cI, 106, .inl m_w)), (a_m_d, .inl (cI, 216, .inl m_dv_6))] := hD
        refine lv_aload_n hx hb dX6_again_19 rfl (lv_at hl 0 rfl) ?_
        refine va_get (D := (dC, dI)) (ci := 6) (v := .ref a_m_w) (C := RX6) (T := TX6) (N := 15) hx hb hts in_X6 hown hK hP 0 rfl rfl 0 (by decide) f_7 (fun _ h9 => h9) rfl dX6_again_20 ?_
        refine lv_bipush (v := (52 : Int32)) hx hb dX6_again_23 (by decide) ?_
        obtain ⟨v4714, hv4714, h⟩ := ob h
        refine k_ld hx hb hK hP 1 0 rfl rfl hv4714 dX6_again_25 ?_
        refine lv_icmp_le (tgt := 31) hx hb dX6_again_26 (by decide) (fun c_26 => ?_) (fun c_26 => ?_)
        · have h := (if_pos c_26).symm.trans h
          refine lv_aload_n hx hb dX6_again_31 rfl (lv_at hl 0 rfl) ?_
          refine lv_bipush (v := (60 : Int32)) hx hb dX6_again_32 (by decide) ?_
          obtain ⟨r4715, hr4715, h⟩ := ob h
          refine k_Vv (As := [.int (60 : Int32)]) (rest := []) (wr := []) (c_X6_passes l dC dI cI cS n _ a_m a_m_w a_m_d a_m_text a_m_numbers a_m_then a_m_leans a_m_heardSet a_m_heardSum m_w m_dv_6 m_undoes m_kept m_texted m_at m_draws m_drawn m_heards (60 : Int32) r4715 hr4715) ⟨hx, hb, hml, hown, hts⟩ (cwV 1 hts gX6_again_X6_passes rfl rfl rfl (by decide +kernel) ⟨(Nat.le_of_ble_eq_true rfl), (Nat.le_of_ble_eq_true rfl)⟩) hN hK hP hD hS hA [0, 1, 2] [] rfl rfl (by decide) (by decide) (by decide) rfl rfl rfl hl.1 rfl (Nat.le_of_ble_eq_true rfl) dX6_again_34 ⟨(Nat.le_of_ble_eq_true rfl), (Nat.le_of_ble_eq_true rfl)⟩ (fun u4716 H locs _ hP hD hS => ?_)
          have hP : va_P (dC, dI) vwCl [(a_m, .inr (6, [.ref a_m_w, .ref a_m_d, .int m_undoes, .int m_kept, .ref a_m_text, .int m_texted, .int m_at, .ref a_m_numbers, .ref a_m_then, .ref a_m_leans, .int m_draws, .int m_drawn, .int m_heards, .ref a_m_heardSet, .ref a_m_heardSum])), (a_m_w, .inl (cI, 106, .inl m_w)), (a_m_d, .inl (cI, 216, .inl r4715))] H := hP
          have hD : va_D A [(a_m, .inr (6, [.ref a_m_w, .ref a_m_d, .int m_undoes, .int m_kept, .ref a_m_text, .int m_texted, .int m_at, .ref a_m_numbers, .ref a_m_then, .ref a_m_leans, .int m_draws, .int m_drawn, .int m_heards, .ref a_m_heardSet, .ref a_m_heardSum])), (a_m_w, .inl (cI, 106, .inl m_w)), (a_m_d, .inl (cI, 216, .inl r4715))] := hD
          refine lv_iinc (v := (y1_6 + (1 : Int32))) (lv' := [(1, .int (y1_6 + (1 : Int32))), (0, .ref a_m)]) hx hb dX6_again_37 hl (k := 1) rfl rfl (by decide) rfl (fun ls hl => ?_)
          refine lv_goto (tgt := 6) hx hb dX6_again_40 (by decide) ?_
          exact ih _ _ h _ _ (hP.sub [1, 0, 2] rfl) (hD.sub [1, 0, 2] (by decide +kernel) rfl) hS _ (lv_sub hl [1, 0] rfl)
        · have h := (if_neg c_26).symm.trans h
          refine lv_iload_n hx hb dX6_again_29 rfl (lv_at hl 1 rfl) ?_
          obtain rfl := Option.some.inj h
          subst hQe
          exact W.iret (v := y1_6) hx hb hr (fun t ht hW => ⟨⟨y1_6, (), rfl, rfl, ⟨by rw [ht]; exact hP, hD⟩⟩, hS.F ht⟩) hS.2.2 dX6_again_30
  exact K6 n (0 : Int32) r4698 h _ _ hP hD hS _ (lv_sub hl [1, 0] rfl)
def rm_X6_needles : Room := { frames := 5, cells := 0, slots := 0, locals := 115 }
set_option maxRecDepth 100000 in
set_option maxHeartbeats 8000000 in
theorem c_X6_needles (l : Launch) (dC : Nat → ClassId) (dI : Nat → Nat → Nat) (cI cS : ClassId) (n sz : Nat) (a_m : Nat) (a_m_w : Nat) (a_m_d : Nat) (a_m_text : Nat) (a_m_numbers : Nat) (a_m_then : Nat) (a_m_leans : Nat) (a_m_heardSet : Nat) (a_m_heardSum : Nat) (m_w : Nat → Int32) (m_d : Nat → Int32) (m_undoes : Int32) (m_kept : Int32) (m_texted : Int32) (m_at : Int32) (m_then : Nat → Int32) (m_leans : Nat → Int32) (m_draws : Int32) (m_drawn : Int32) (m_heards : Int32) (x1 : Int32) (x2 : Int32) (res : Int32 × Int32 × Int32 × (Nat → Int32) × (Nat → Int32) × (Nat → Int32))  (h : F_X6_needles n m_w m_d m_then m_leans m_draws m_drawn x1 x2 = some res) : Met l yX6_needles wsX6_needles rm_X6_needles (va_Pc [.ref a_m, .int x1, .int x2] (PRE (dC, dI) vwCl [(cI, .int), (cS, .object "RoundOfTheA$State")] sz [(a_m, .inr (6, [.ref a_m_w, .ref a_m_d, .int m_undoes, .int m_kept, .ref a_m_text, .int m_texted, .int m_at, .ref a_m_numbers, .ref a_m_then, .ref a_m_leans, .int m_draws, .int m_drawn, .int m_heards, .ref a_m_heardSet, .ref a_m_heardSum])), (a_m_w, .inl (cI, 106, .inl m_w)), (a_m_d, .inl (cI, 216, .inl m_d)), (a_m_then, .inl (cI, 8, .inl m_then)), (a_m_leans, .inl (cI, 8, .inl m_leans))])) (va_Qi (fun (r : Int32) (_ : Unit) => r = res.1) (fun u t => POST (dC, dI) vwCl [(a_m, .inr (6, [.ref a_m_w, .ref a_m_d, .int m_undoes, .int m_kept, .ref a_m_text, .int m_texted, .int m_at, .ref a_m_numbers, .ref a_m_then, .ref a_m_leans, .int res.2.1, .int res.2.2.1, .int m_heards, .ref a_m_heardSet, .ref a_m_heardSum])), (a_m_w, .inl (cI, 106, .inl m_w)), (a_m_d, .inl (cI, 216, .inl res.2.2.2.1)), (a_m_then, .inl (cI, 8, .inl res.2.2.2.2.1)), (a_m_leans, .inl (cI, 8, .inl res.2.2.2.2.2))] (va_A [(a_m, .inr (6, [.ref a_m_w, .ref a_m_d, .int m_undoes, .int m_kept, .ref a_m_text, .int m_texted, .int m_at, .ref a_m_numbers, .ref a_m_then, .ref a_m_leans, .int m_draws, .int m_drawn, .int m_heards, .ref a_m_heardSet, .ref a_m_heardSum])), (a_m_w, .inl (cI, 106, .inl m_w)), (a_m_d, .inl (cI, 216, .inl m_d)), (a_m_then, .inl (cI, 8, .inl m_then)), (a_m_leans, .inl (cI, 8, .inl m_leans))] sz) t) (va_A [(a_m, .inr (6, [.ref a_m_w, .ref a_m_d, .int m_undoes, .int m_kept, .ref a_m_text, .int m_texted, .int m_at, .ref a_m_numbers, .ref a_m_then, .ref a_m_leans, .int m_draws, .int m_drawn, .int m_heards, .ref a_m_heardSet, .ref a_m_heardSum])), (a_m_w, .inl (cI, 106, .inl m_w)), (a_m_d, .inl (cI, 216, .inl m_d)), (a_m_then, .inl (cI, 8, .inl m_then)), (a_m_leans, .inl (cI, 8, .inl m_leans))] sz)) 0 0 (va_A [(a_m, .inr (6, [.ref a_m_w, .ref a_m_d, .int m_undoes, .int m_kept, .ref a_m_text, .int m_texted, .int m_at, .ref a_m_numbers, .ref a_m_then, .ref a_m_leans, .int m_draws, .int m_drawn, .int m_heards, .ref a_m_heardSet, .ref a_m_heardSum])), (a_m_w, .inl (cI, 106, .inl m_w)), (a_m_d, .inl (cI, 216, .inl m_d)), (a_m_then, .inl (cI, 8, .inl m_then)), (a_m_leans, .inl (cI, 8, .inl m_leans))] sz) := by
  refine Met.ofW (cc := cX6_needles) (maxL := 8) (ret := (some .int)) (by decide) rfl ?_
  intro p e s m args below meth c s₁ B hml hv
  obtain ⟨rfl, hsz, hN, hP, hK, hD0⟩ := hv
  have hx := B.exec
  have hb := B.bytes
  have hr := B.returns
  have hts := atoms_spec (ws := wsX6_needles) B.pre
  have hown : s.vm.findClass RX6 = some m.cls := findClass_of_methodNamed B.named
  have hlocks := B.notSynchronized
  subst hsz
  have hD := hD0.self (sz := s.heap.size)
  generalize hAe : va_A [(a_m, .inr (6, [.ref a_m_w, .ref a_m_d, .int m_undoes, .int m_kept, .ref a_m_text, .int m_texted, .int m_at, .ref a_m_numbers, .ref a_m_then, .ref a_m_leans, .int m_draws, .int m_drawn, .int m_heards, .ref a_m_heardSet, .ref a_m_heardSum])), (a_m_w, .inl (cI, 106, .inl m_w)), (a_m_d, .inl (cI, 216, .inl m_d)), (a_m_then, .inl (cI, 8, .inl m_then)), (a_m_leans, .inl (cI, 8, .inl m_leans))] s.heap.size = A at hD ⊢
  have hA : ∀ q : Nat, s.heap.size ≤ q → A q := fun q h => by rw [← hAe]; exact Or.inr h
  have hS : va_S A s.heap s.heap [] := va_S.rf
  generalize hQe : MQ below _ _ s _ _ A = QQ
  have hl := lv_entry ([.ref a_m, .int x1, .int x2]) (n := 8) (Nat.le_of_ble_eq_true rfl)
  rw [lg_entry_eq]
  generalize (lg_sl ([.ref a_m, .int x1, .int x2]) ++ List.replicate (8 - (lg_sl ([.ref a_m, .int x1, .int x2])).length) Slot.unset).toArray = ls at hl ⊢
  have hl : lv_has ls 8 [(0, .ref a_m), (1, .int x1), (2, .int x2)] := hl
  have k_112 := hts (.constantLong RX6 112 (3)) (by decide +kernel)
  have f_7 := hts (.fieldLink RX6 7 "RoundOfTheAModel" "w" "[I") (by decide +kernel)
  have in_X6 := (by decide +kernel : ∀ w ∈ wsX60, w ∈ wsX6_needles)
  have f_13 := hts (.fieldLink RX6 13 "RoundOfTheAModel" "d" "[I") (by decide +kernel)
  rw [F_X6_needles] at h
  refine lv_iload_n hx hb dX6_needles_0 rfl (lv_at hl 1 rfl) ?_
  refine lv_i2l (v := (Int32.toInt64 x1)) hx hb dX6_needles_1 rfl ?_
  refine lv_lconst (v := (0 : Int64)) hx hb dX6_needles_2 (by decide) ?_
  refine lv_ldc2 (v := (3 : Int64)) hx hb hown k_112 dX6_needles_3 ?_
  obtain ⟨r4964, hr4964, h⟩ := ob h
  refine k_Si (As := [.long (Int32.toInt64 x1), .long (0 : Int64), .long (3 : Int64)]) (rest := []) (c_X6_in l dC dI cI cS n _ (Int32.toInt64 x1) (0 : Int64) (3 : Int64) r4964 hr4964) (fun _ _ q => q) ⟨hx, hb, hml, hown, hts⟩ (va_cwS 3 hts gX6_needles_X6_in rfl rfl rfl (by decide +kernel) ⟨(Nat.le_of_ble_eq_true rfl), (Nat.le_of_ble_eq_true rfl)⟩) hN hK hP hD hS hA rfl hl.1 rfl (Nat.le_of_ble_eq_true rfl) dX6_needles_6 ⟨(Nat.le_of_ble_eq_true rfl), (Nat.le_of_ble_eq_true rfl)⟩ (fun H locs hP hD hS => ?_)
  refine lv_if_eq (tgt := 22) hx hb dX6_needles_9 (by decide) (fun c_9 => ?_) (fun c_9 => ?_)
  · have h := (if_pos c_9).symm.trans h
    refine lv_iconst (v := (-1 : Int32)) hx hb dX6_needles_22 (by decide) ?_
    obtain rfl := Option.some.inj h
    subst hQe
    exact W.iret (v := (-1 : Int32)) hx hb hr (fun t ht hW => ⟨⟨(-1 : Int32), (), rfl, rfl, ⟨by rw [ht]; exact hP, hD⟩⟩, hS.F ht⟩) hS.2.2 dX6_needles_23
  · have h := (if_neg c_9).symm.trans h
    refine lv_iload_n hx hb dX6_needles_12 rfl (lv_at hl 2 rfl) ?_
    refine lv_i2l (v := (Int32.toInt64 x2)) hx hb dX6_needles_13 rfl ?_
    refine lv_lconst (v := (0 : Int64)) hx hb dX6_needles_14 (by decide) ?_
    refine lv_lconst (v := (1 : Int64)) hx hb dX6_needles_15 (by decide) ?_
    obtain ⟨r4966, hr4966, h⟩ := ob h
    refine k_Si (As := [.long (Int32.toInt64 x2), .long (0 : Int64), .long (1 : Int64)]) (rest := []) (c_X6_in l dC dI cI cS n _ (Int32.toInt64 x2) (0 : Int64) (1 : Int64) r4966 hr4966) (fun _ _ q => q) ⟨hx, hb, hml, hown, hts⟩ (va_cwS 3 hts gX6_needles_X6_in rfl rfl rfl (by decide +kernel) ⟨(Nat.le_of_ble_eq_true rfl), (Nat.le_of_ble_eq_true rfl)⟩) hN hK hP hD hS hA rfl hl.1 rfl (Nat.le_of_ble_eq_true rfl) dX6_needles_16 ⟨(Nat.le_of_ble_eq_true rfl), (Nat.le_of_ble_eq_true rfl)⟩ (fun H locs hP hD hS => ?_)
    refine lv_if_ne (tgt := 24) hx hb dX6_needles_19 (by decide) (fun c_19 => ?_) (fun c_19 => ?_)
    · have h := (if_neg c_19).symm.trans h
      refine lv_bipush (v := (-4 : Int32)) hx hb dX6_needles_24 (by decide) ?_
      refine lv_istore_n (lv' := [(3, .int (-4 : Int32)), (0, .ref a_m), (1, .int x1), (2, .int x2)]) hx hb dX6_needles_26 rfl hl (by decide) rfl (fun ls hl => ?_)
      refine lv_bipush (v := (-4 : Int32)) hx hb dX6_needles_27 (by decide) ?_
      refine lv_istore (lv' := [(4, .int (-4 : Int32)), (3, .int (-4 : Int32)), (0, .ref a_m), (1, .int x1), (2, .int x2)]) hx hb dX6_needles_29 hl (by decide) rfl (fun ls hl => ?_)
      refine lv_iconst (v := (0 : Int32)) hx hb dX6_needles_31 (by decide) ?_
      refine lv_istore (lv' := [(5, .int (0 : Int32)), (4, .int (-4 : Int32)), (3, .int (-4 : Int32)), (0, .ref a_m), (1, .int x1), (2, .int x2)]) hx hb dX6_needles_32 hl (by decide) rfl (fun ls hl => ?_)
      obtain ⟨j5132, hjj5132, h⟩ := ob h
      have Jj5132 : ∀ (H : Heap) (locs : List Loc), va_P (dC, dI) vwCl [(a_m, .inr (6, [.ref a_m_w, .ref a_m_d, .int m_undoes, .int m_kept, .ref a_m_text, .int m_texted, .int m_at, .ref a_m_numbers, .ref a_m_then, .ref a_m_leans, .int j5132.2.2.2.1, .int j5132.2.2.2.2.1, .int m_heards, .ref a_m_heardSet, .ref a_m_heardSum])), (a_m_w, .inl (cI, 106, .inl m_w)), (a_m_d, .inl (cI, 216, .inl j5132.2.2.2.2.2.1)), (a_m_then, .inl (cI, 8, .inl j5132.2.2.2.2.2.2.1)), (a_m_leans, .inl (cI, 8, .inl j5132.2.2.2.2.2.2.2))] H → va_D A [(a_m, .inr (6, [.ref a_m_w, .ref a_m_d, .int m_undoes, .int m_kept, .ref a_m_text, .int m_texted, .int m_at, .ref a_m_numbers, .ref a_m_then, .ref a_m_leans, .int j5132.2.2.2.1, .int j5132.2.2.2.2.1, .int m_heards, .ref a_m_heardSet, .ref a_m_heardSum])), (a_m_w, .inl (cI, 106, .inl m_w)), (a_m_d, .inl (cI, 216, .inl j5132.2.2.2.2.2.1)), (a_m_then, .inl (cI, 8, .inl j5132.2.2.2.2.2.2.1)), (a_m_leans, .inl (cI, 8, .inl j5132.2.2.2.2.2.2.2))] → va_S A s.heap H locs → ∀ ls : Array Slot, lv_has ls 8 [(0, .ref a_m), (1, .int x1), (2, .int x2), (3, .int j5132.1), (4, .int j5132.2.1), (5, .int j5132.2.2.1)] → W p l e (headSpec wsX6_needles rm_X6_needles).room s m ([.ref a_m, .int x1, .int x2] : List Value).toArray below meth c H locs 0 0 QQ (F0 m 198 ls []) := by
        intro H locs hP hD hS ls hl
        refine lv_iload_n hx hb dX6_needles_198 rfl (lv_at hl 2 rfl) ?_
        refine lv_if_ne (tgt := 206) hx hb dX6_needles_199 (by decide) (fun c_199 => ?_) (fun c_199 => ?_)
        · have h := (if_neg c_199).symm.trans h
          refine lv_iload hx hb dX6_needles_206 (lv_at hl 4 rfl) ?_
          obtain rfl := Option.some.inj h
          subst hQe
          exact W.iret (v := j5132.2.1) hx hb hr (fun t ht hW => ⟨⟨j5132.2.1, (), rfl, rfl, ⟨by rw [ht]; exact hP, hD⟩⟩, hS.F ht⟩) hS.2.2 dX6_needles_208
        · have h := (if_pos c_199).symm.trans h
          refine lv_iload_n hx hb dX6_needles_202 rfl (lv_at hl 3 rfl) ?_
          refine lv_goto (tgt := 208) hx hb dX6_needles_203 (by decide) ?_
          obtain rfl := Option.some.inj h
          subst hQe
          exact W.iret (v := j5132.1) hx hb hr (fun t ht hW => ⟨⟨j5132.1, (), rfl, rfl, ⟨by rw [ht]; exact hP, hD⟩⟩, hS.F ht⟩) hS.2.2 dX6_needles_208
      have K34 : ∀ (k : Nat) (y3_34 : Int32) (y4_34 : Int32) (y5_34 : Int32) (m_10v_34 : Int32) (m_11v_34 : Int32) (m_dv_34 : Nat → Int32) (m_thenv_34 : Nat → Int32) (m_leansv_34 : Nat → Int32), L_X6_needles_34 n m_w x1 k y3_34 y4_34 y5_34 m_10v_34 m_11v_34 m_dv_34 m_thenv_34 m_leansv_34 = some j5132 → ∀ (H : Heap) (locs : List Loc), va_P (dC, dI) vwCl [(a_m, .inr (6, [.ref a_m_w, .ref a_m_d, .int m_undoes, .int m_kept, .ref a_m_text, .int m_texted, .int m_at, .ref a_m_numbers, .ref a_m_then, .ref a_m_leans, .int m_10v_34, .int m_11v_34, .int m_heards, .ref a_m_heardSet, .ref a_m_heardSum])), (a_m_w, .inl (cI, 106, .inl m_w)), (a_m_d, .inl (cI, 216, .inl m_dv_34)), (a_m_then, .inl (cI, 8, .inl m_thenv_34)), (a_m_leans, .inl (cI, 8, .inl m_leansv_34))] H → va_D A [(a_m, .inr (6, [.ref a_m_w, .ref a_m_d, .int m_undoes, .int m_kept, .ref a_m_text, .int m_texted, .int m_at, .ref a_m_numbers, .ref a_m_then, .ref a_m_leans, .int m_10v_34, .int m_11v_34, .int m_heards, .ref a_m_heardSet, .ref a_m_heardSum])), (a_m_w, .inl (cI, 106, .inl m_w)), (a_m_d, .inl (cI, 216, .inl m_dv_34)), (a_m_then, .inl (cI, 8, .inl m_thenv_34)), (a_m_leans, .inl (cI, 8, .inl m_leansv_34))] → va_S A s.heap H locs → ∀ ls : Array Slot, lv_has ls 8 [(0, .ref a_m), (1, .int x1), (2, .int x2), (3, .int y3_34), (4, .int y4_34), (5, .int y5_34)] → W p l e (headSpec wsX6_needles rm_X6_needles).room s m ([.ref a_m, .int x1, .int x2] : List Value).toArray below meth c H locs 0 0 QQ (F0 m 34 ls []) := by
        intro k
        induction k with
        | zero =>
          intro y3_34 y4_34 y5_34 m_10v_34 m_11v_34 m_dv_34 m_thenv_34 m_leansv_34 h
          rw [L_X6_needles_34] at h
          cases h
        | succ k ih =>
          intro y3_34 y4_34 y5_34 m_10v_34 m_11v_34 m_dv_34 m_thenv_34 m_leansv_34 h H locs hP hD hS ls hl
          rw [L_X6_needles_34] at h
          refine lv_iload hx hb dX6_needles_34 (lv_at hl 5 rfl) ?_
          refine lv_iconst (v := (1 : Int32)) hx hb dX6_needles_36 (by decide) ?_
          refine lv_aload_n hx hb dX6_needles_37 rfl (lv_at hl 0 rfl) ?_
          refine va_get (D := (dC, dI)) (ci := 6) (v := .ref a_m_w) (C := RX6) (T := TX6) (N := 15) hx hb hts in_X6 hown hK hP 0 rfl rfl 0 (by decide) f_7 (fun _ h9 => h9) rfl dX6_needles_38 ?_
          refine lv_iconst (v := (0 : Int32)) hx hb dX6_needles_41 (by decide) ?_
          obtain ⟨v5133, hv5133, h⟩ := ob h
          refine k_ld hx hb hK hP 1 0 rfl rfl hv5133 dX6_needles_42 ?_
          refine lv_ishl hx hb dX6_needles_43 ?_
          refine lv_icmp_ge (tgt := 198) hx hb dX6_needles_44 (by decide) (fun c_44 => ?_) (fun c_44 => ?_)
          · have h := (if_pos c_44).symm.trans h
            obtain rfl := Option.some.inj h
            exact Jj5132 _ _ hP hD hS _ hl
          · have h := (if_neg c_44).symm.trans h
            refine lv_iload hx hb dX6_needles_47 (lv_at hl 5 rfl) ?_
            obtain ⟨r5134, hr5134, h⟩ := ob h
            refine k_Si (As := [.int y5_34]) (rest := []) (c_X6_ones l dC dI cI cS n _ y5_34 r5134 hr5134) (fun _ _ q => q) ⟨hx, hb, hml, hown, hts⟩ (va_cwS 1 hts gX6_needles_X6_ones rfl rfl rfl (by decide +kernel) ⟨(Nat.le_of_ble_eq_true rfl), (Nat.le_of_ble_eq_true rfl)⟩) hN hK hP hD hS hA rfl hl.1 rfl (Nat.le_of_ble_eq_true rfl) dX6_needles_49 ⟨(Nat.le_of_ble_eq_true rfl), (Nat.le_of_ble_eq_true rfl)⟩ (fun H locs hP hD hS => ?_)
            refine lv_iload_n hx hb dX6_needles_52 rfl (lv_at hl 1 rfl) ?_
            obtain ⟨j5173, hjj5173, h⟩ := ob h
            have Jj5173 : ∀ (H : Heap) (locs : List Loc), va_P (dC, dI) vwCl [(a_m, .inr (6, [.ref a_m_w, .ref a_m_d, .int m_undoes, .int m_kept, .ref a_m_text, .int m_texted, .int m_at, .ref a_m_numbers, .ref a_m_then, .ref a_m_leans, .int j5173.2.2.1, .int j5173.2.2.2.1, .int m_heards, .ref a_m_heardSet, .ref a_m_heardSum])), (a_m_w, .inl (cI, 106, .inl m_w)), (a_m_d, .inl (cI, 216, .inl j5173.2.2.2.2.1)), (a_m_then, .inl (cI, 8, .inl j5173.2.2.2.2.2.1)), (a_m_leans, .inl (cI, 8, .inl j5173.2.2.2.2.2.2))] H → va_D A [(a_m, .inr (6, [.ref a_m_w, .ref a_m_d, .int m_undoes, .int m_kept, .ref a_m_text, .int m_texted, .int m_at, .ref a_m_numbers, .ref a_m_then, .ref a_m_leans, .int j5173.2.2.1, .int j5173.2.2.2.1, .int m_heards, .ref a_m_heardSet, .ref a_m_heardSum])), (a_m_w, .inl (cI, 106, .inl m_w)), (a_m_d, .inl (cI, 216, .inl j5173.2.2.2.2.1)), (a_m_then, .inl (cI, 8, .inl j5173.2.2.2.2.2.1)), (a_m_leans, .inl (cI, 8, .inl j5173.2.2.2.2.2.2))] → va_S A s.heap H locs → ∀ ls : Array Slot, lv_has ls 8 [(0, .ref a_m), (1, .int x1), (2, .int x2), (3, .int j5173.1), (4, .int j5173.2.1), (5, .int y5_34)] → W p l e (headSpec wsX6_needles rm_X6_needles).room s m ([.ref a_m, .int x1, .int x2] : List Value).toArray below meth c H locs 0 0 QQ (F0 m 192 ls []) := by
              intro H locs hP hD hS ls hl
              refine lv_iinc (v := (y5_34 + (1 : Int32))) (lv' := [(5, .int (y5_34 + (1 : Int32))), (0, .ref a_m), (1, .int x1), (2, .int x2), (3, .int j5173.1), (4, .int j5173.2.1)]) hx hb dX6_needles_192 hl (k := 5) rfl rfl (by decide) rfl (fun ls hl => ?_)
              refine lv_goto (tgt := 34) hx hb dX6_needles_195 (by decide) ?_
              exact ih _ _ _ _ _ _ _ _ h _ _ hP hD hS _ (lv_sub hl [1, 2, 3, 4, 5, 0] rfl)
            refine lv_icmp_ne (tgt := 192) hx hb dX6_needles_53 (by decide) (fun c_53 => ?_) (fun c_53 => ?_)
            · have h := (if_neg c_53).symm.trans hjj5173
              obtain rfl := Option.some.inj h
              exact Jj5173 _ _ hP hD hS _ hl
            · have h := (if_pos c_53).symm.trans hjj5173
              refine lv_aload_n hx hb dX6_needles_56 rfl (lv_at hl 0 rfl) ?_
              refine lv_iload hx hb dX6_needles_57 (lv_at hl 5 rfl) ?_
              obtain ⟨r5174, hr5174, h⟩ := ob h
              refine k_Vi (As := [.int y5_34]) (rest := []) (wr := [(a_m_d, .inl (cI, 216, .inl m_dv_34)), (a_m_then, .inl (cI, 8, .inl m_thenv_34)), (a_m_leans, .inl (cI, 8, .inl m_leansv_34))]) (c_X6_open l dC dI cI cS n _ a_m a_m_w a_m_d a_m_text a_m_numbers a_m_then a_m_leans a_m_heardSet a_m_heardSum m_w m_undoes m_kept m_texted m_at m_10v_34 m_11v_34 m_heards y5_34 r5174 hr5174) (fun _ _ q => q) ⟨hx, hb, hml, hown, hts⟩ (cwV 1 hts gX6_needles_X6_open rfl rfl rfl (by decide +kernel) ⟨(Nat.le_of_ble_eq_true rfl), (Nat.le_of_ble_eq_true rfl)⟩) hN hK hP hD hS hA [0, 1] [2, 3, 4] rfl rfl (by decide) (by decide) (by decide) rfl rfl rfl hl.1 rfl (Nat.le_of_ble_eq_true rfl) dX6_needles_59 ⟨(Nat.le_of_ble_eq_true rfl), (Nat.le_of_ble_eq_true rfl)⟩ (fun u5175 H locs _ hP hD hS => ?_)
              have hP : va_P (dC, dI) vwCl [(a_m_d, .inl (cI, 216, .inl m_dv_34)), (a_m_then, .inl (cI, 8, .inl m_thenv_34)), (a_m_leans, .inl (cI, 8, .inl m_leansv_34)), (a_m, .inr (6, [.ref a_m_w, .ref a_m_d, .int m_undoes, .int m_kept, .ref a_m_text, .int m_texted, .int m_at, .ref a_m_numbers, .ref a_m_then, .ref a_m_leans, .int m_10v_34, .int m_11v_34, .int m_heards, .ref a_m_heardSet, .ref a_m_heardSum])), (a_m_w, .inl (cI, 106, .inl m_w))] H := hP
              have hD : va_D A [(a_m_d, .inl (cI, 216, .inl m_dv_34)), (a_m_then, .inl (cI, 8, .inl m_thenv_34)), (a_m_leans, .inl (cI, 8, .inl m_leansv_34)), (a_m, .inr (6, [.ref a_m_w, .ref a_m_d, .int m_undoes, .int m_kept, .ref a_m_text, .int m_texted, .int m_at, .ref a_m_numbers, .ref a_m_then, .ref a_m_leans, .int m_10v_34, .int m_11v_34, .int m_heards, .ref a_m_heardSet, .ref a_m_heardSum])), (a_m_w, .inl (cI, 106, .inl m_w))] := hD
              refine lv_iload hx hb dX6_needles_62 (lv_at hl 5 rfl) ?_
              refine lv_icmp_ne (tgt := 192) hx hb dX6_needles_64 (by decide) (fun c_64 => ?_) (fun c_64 => ?_)
              · have h := (if_neg c_64).symm.trans h
                obtain rfl := Option.some.inj h
                exact Jj5173 _ _ (hP.sub [3, 4, 0, 1, 2] rfl) (hD.sub [3, 4, 0, 1, 2] (by decide +kernel) rfl) hS _ hl
              · have h := (if_pos c_64).symm.trans h
                refine lv_aload_n hx hb dX6_needles_67 rfl (lv_at hl 0 rfl) ?_
                obtain ⟨r5176, hr5176, h⟩ := ob h
                refine k_Vv (As := []) (rest := []) (wr := [(a_m_then, .inl (cI, 8, .inl m_thenv_34)), (a_m_leans, .inl (cI, 8, .inl m_leansv_34)), (a_m_w, .inl (cI, 106, .inl m_w))]) (c_X6_lays l dC dI cI cS n _ a_m a_m_w a_m_d a_m_text a_m_numbers a_m_then a_m_leans a_m_heardSet a_m_heardSum m_dv_34 m_undoes m_kept m_texted m_at m_10v_34 m_11v_34 m_heards r5176 hr5176) ⟨hx, hb, hml, hown, hts⟩ (cwV 0 hts gX6_needles_X6_lays rfl rfl rfl (by decide +kernel) ⟨(Nat.le_of_ble_eq_true rfl), (Nat.le_of_ble_eq_true rfl)⟩) hN hK hP hD hS hA [3, 0] [1, 2, 4] rfl rfl (by decide) (by decide) (by decide) rfl rfl rfl hl.1 rfl (Nat.le_of_ble_eq_true rfl) dX6_needles_68 ⟨(Nat.le_of_ble_eq_true rfl), (Nat.le_of_ble_eq_true rfl)⟩ (fun u5177 H locs _ hP hD hS => ?_)
                have hP : va_P (dC, dI) vwCl [(a_m_then, .inl (cI, 8, .inl m_thenv_34)), (a_m_leans, .inl (cI, 8, .inl m_leansv_34)), (a_m_w, .inl (cI, 106, .inl m_w)), (a_m, .inr (6, [.ref a_m_w, .ref a_m_d, .int m_undoes, .int m_kept, .ref a_m_text, .int m_texted, .int m_at, .ref a_m_numbers, .ref a_m_then, .ref a_m_leans, .int m_10v_34, .int m_11v_34, .int m_heards, .ref a_m_heardSet, .ref a_m_heardSum])), (a_m_d, .inl (cI, 216, .inl r5176))] H := hP
                have hD : va_D A [(a_m_then, .inl (cI, 8, .inl m_thenv_34)), (a_m_leans, .inl (cI, 8, .inl m_leansv_34)), (a_m_w, .inl (cI, 106, .inl m_w)), (a_m, .inr (6, [.ref a_m_w, .ref a_m_d, .int m_undoes, .int m_kept, .ref a_m_text, .int m_texted, .int m_at, .ref a_m_numbers, .ref a_m_then, .ref a_m_leans, .int m_10v_34, .int m_11v_34, .int m_heards, .ref a_m_heardSet, .ref a_m_heardSum])), (a_m_d, .inl (cI, 216, .inl r5176))] := hD
                refine lv_aload_n hx hb dX6_needles_71 rfl (lv_at hl 0 rfl) ?_
                obtain ⟨r5178, hr5178, h⟩ := ob h
                refine k_Vv (As := []) (rest := []) (wr := [(a_m_then, .inl (cI, 8, .inl m_thenv_34)), (a_m_d, .inl (cI, 216, .inl r5176))]) (c_X6_laysLeans l dC dI cI cS n _ a_m a_m_w a_m_d a_m_text a_m_numbers a_m_then a_m_leans a_m_heardSet a_m_heardSum m_w m_undoes m_kept m_texted m_at m_leansv_34 m_10v_34 m_11v_34 m_heards r5178 hr5178) ⟨hx, hb, hml, hown, hts⟩ (cwV 0 hts gX6_needles_X6_laysLeans rfl rfl rfl (by decide +kernel) ⟨(Nat.le_of_ble_eq_true rfl), (Nat.le_of_ble_eq_true rfl)⟩) hN hK hP hD hS hA [3, 2, 1] [0, 4] rfl rfl (by decide) (by decide) (by decide) rfl rfl rfl hl.1 rfl (Nat.le_of_ble_eq_true rfl) dX6_needles_72 ⟨(Nat.le_of_ble_eq_true rfl), (Nat.le_of_ble_eq_true rfl)⟩ (fun u5179 H locs _ hP hD hS => ?_)
                have hP : va_P (dC, dI) vwCl [(a_m_then, .inl (cI, 8, .inl m_thenv_34)), (a_m_d, .inl (cI, 216, .inl r5176)), (a_m, .inr (6, [.ref a_m_w, .ref a_m_d, .int m_undoes, .int m_kept, .ref a_m_text, .int m_texted, .int m_at, .ref a_m_numbers, .ref a_m_then, .ref a_m_leans, .int r5178.1, .int r5178.2.1, .int m_heards, .ref a_m_heardSet, .ref a_m_heardSum])), (a_m_w, .inl (cI, 106, .inl m_w)), (a_m_leans, .inl (cI, 8, .inl r5178.2.2))] H := hP
                have hD : va_D A [(a_m_then, .inl (cI, 8, .inl m_thenv_34)), (a_m_d, .inl (cI, 216, .inl r5176)), (a_m, .inr (6, [.ref a_m_w, .ref a_m_d, .int m_undoes, .int m_kept, .ref a_m_text, .int m_texted, .int m_at, .ref a_m_numbers, .ref a_m_then, .ref a_m_leans, .int r5178.1, .int r5178.2.1, .int m_heards, .ref a_m_heardSet, .ref a_m_heardSum])), (a_m_w, .inl (cI, 106, .inl m_w)), (a_m_leans, .inl (cI, 8, .inl r5178.2.2))] := hD
                refine lv_iconst (v := (0 : Int32)) hx hb dX6_needles_75 (by decide) ?_
                refine lv_istore (lv' := [(6, .int (0 : Int32)), (0, .ref a_m), (1, .int x1), (2, .int x2), (3, .int y3_34), (4, .int y4_34), (5, .int y5_34)]) hx hb dX6_needles_76 hl (by decide) rfl (fun ls hl => ?_)
                obtain ⟨j5196, hjj5196, h⟩ := ob h
                have Jj5196 : ∀ (H : Heap) (locs : List Loc), va_P (dC, dI) vwCl [(a_m_then, .inl (cI, 8, .inl m_thenv_34)), (a_m_d, .inl (cI, 216, .inl j5196.2)), (a_m, .inr (6, [.ref a_m_w, .ref a_m_d, .int m_undoes, .int m_kept, .ref a_m_text, .int m_texted, .int m_at, .ref a_m_numbers, .ref a_m_then, .ref a_m_leans, .int r5178.1, .int r5178.2.1, .int m_heards, .ref a_m_heardSet, .ref a_m_heardSum])), (a_m_w, .inl (cI, 106, .inl m_w)), (a_m_leans, .inl (cI, 8, .inl r5178.2.2))] H → va_D A [(a_m_then, .inl (cI, 8, .inl m_thenv_34)), (a_m_d, .inl (cI, 216, .inl j5196.2)), (a_m, .inr (6, [.ref a_m_w, .ref a_m_d, .int m_undoes, .int m_kept, .ref a_m_text, .int m_texted, .int m_at, .ref a_m_numbers, .ref a_m_then, .ref a_m_leans, .int r5178.1, .int r5178.2.1, .int m_heards, .ref a_m_heardSet, .ref a_m_heardSum])), (a_m_w, .inl (cI, 106, .inl m_w)), (a_m_leans, .inl (cI, 8, .inl r5178.2.2))] → va_S A s.heap H locs → ∀ ls : Array Slot, lv_has ls 8 [(0, .ref a_m), (1, .int x1), (2, .int x2), (3, .int y3_34), (4, .int y4_34), (5, .int y5_34), (6, .int j5196.1)] → W p l e (headSpec wsX6_needles rm_X6_needles).room s m ([.ref a_m, .int x1, .int x2] : List Value).toArray below meth c H locs 0 0 QQ (F0 m 132 ls []) := by
                  intro H locs hP hD hS ls hl
                  refine lv_aload_n hx hb dX6_needles_132 rfl (lv_at hl 0 rfl) ?_
                  obtain ⟨r5204, hr5204, h⟩ := ob h
                  refine k_Vi (As := []) (rest := []) (wr := []) (c_X6_rounds l dC dI cI cS n _ a_m a_m_w a_m_d a_m_text a_m_numbers a_m_then a_m_leans a_m_heardSet a_m_heardSum m_w j5196.2 m_undoes m_kept m_texted m_at m_thenv_34 r5178.2.2 r5178.1 r5178.2.1 m_heards r5204 hr5204) (fun _ _ q => q) ⟨hx, hb, hml, hown, hts⟩ (cwV 0 hts gX6_needles_X6_rounds rfl rfl rfl (by decide +kernel) ⟨(Nat.le_of_ble_eq_true rfl), (Nat.le_of_ble_eq_true rfl)⟩) hN hK hP hD hS hA [2, 3, 1, 0, 4] [] rfl rfl (by decide) (by decide) (by decide) rfl rfl rfl hl.1 rfl (Nat.le_of_ble_eq_true rfl) dX6_needles_133 ⟨(Nat.le_of_ble_eq_true rfl), (Nat.le_of_ble_eq_true rfl)⟩ (fun u5205 H locs _ hP hD hS => ?_)
                  have hP : va_P (dC, dI) vwCl [(a_m, .inr (6, [.ref a_m_w, .ref a_m_d, .int m_undoes, .int m_kept, .ref a_m_text, .int m_texted, .int m_at, .ref a_m_numbers, .ref a_m_then, .ref a_m_leans, .int r5178.1, .int r5204.2.1, .int m_heards, .ref a_m_heardSet, .ref a_m_heardSum])), (a_m_w, .inl (cI, 106, .inl m_w)), (a_m_d, .inl (cI, 216, .inl r5204.2.2.1)), (a_m_then, .inl (cI, 8, .inl r5204.2.2.2)), (a_m_leans, .inl (cI, 8, .inl r5178.2.2))] H := hP
                  have hD : va_D A [(a_m, .inr (6, [.ref a_m_w, .ref a_m_d, .int m_undoes, .int m_kept, .ref a_m_text, .int m_texted, .int m_at, .ref a_m_numbers, .ref a_m_then, .ref a_m_leans, .int r5178.1, .int r5204.2.1, .int m_heards, .ref a_m_heardSet, .ref a_m_heardSum])), (a_m_w, .inl (cI, 106, .inl m_w)), (a_m_d, .inl (cI, 216, .inl r5204.2.2.1)), (a_m_then, .inl (cI, 8, .inl r5204.2.2.2)), (a_m_leans, .inl (cI, 8, .inl r5178.2.2))] := hD
                  refine lv_pop hx hb dX6_needles_136 rfl ?_
                  refine lv_aload_n hx hb dX6_needles_137 rfl (lv_at hl 0 rfl) ?_
                  refine lv_sipush (v := (198 : Int32)) hx hb dX6_needles_138 (by decide) ?_
                  obtain ⟨r5206, hr5206, h⟩ := ob h
                  refine k_Vi (As := [.int (198 : Int32)]) (rest := []) (wr := [(a_m_then, .inl (cI, 8, .inl r5204.2.2.2)), (a_m_leans, .inl (cI, 8, .inl r5178.2.2))]) (c_X6_spreadOf l dC dI cI cS n _ a_m a_m_w a_m_d a_m_text a_m_numbers a_m_then a_m_leans a_m_heardSet a_m_heardSum m_w r5204.2.2.1 m_undoes m_kept m_texted m_at r5178.1 r5204.2.1 m_heards (198 : Int32) r5206 hr5206) (fun _ _ q => q) ⟨hx, hb, hml, hown, hts⟩ (cwV 1 hts gX6_needles_X6_spreadOf rfl rfl rfl (by decide +kernel) ⟨(Nat.le_of_ble_eq_true rfl), (Nat.le_of_ble_eq_true rfl)⟩) hN hK hP hD hS hA [0, 1, 2] [3, 4] rfl rfl (by decide) (by decide) (by decide) rfl rfl rfl hl.1 rfl (Nat.le_of_ble_eq_true rfl) dX6_needles_141 ⟨(Nat.le_of_ble_eq_true rfl), (Nat.le_of_ble_eq_true rfl)⟩ (fun u5207 H locs _ hP hD hS => ?_)
                  have hP : va_P (dC, dI) vwCl [(a_m_then, .inl (cI, 8, .inl r5204.2.2.2)), (a_m_leans, .inl (cI, 8, .inl r5178.2.2)), (a_m, .inr (6, [.ref a_m_w, .ref a_m_d, .int m_undoes, .int m_kept, .ref a_m_text, .int m_texted, .int m_at, .ref a_m_numbers, .ref a_m_then, .ref a_m_leans, .int r5178.1, .int r5204.2.1, .int m_heards, .ref a_m_heardSet, .ref a_m_heardSum])), (a_m_w, .inl (cI, 106, .inl m_w)), (a_m_d, .inl (cI, 216, .inl r5204.2.2.1))] H := hP
                  have hD : va_D A [(a_m_then, .inl (cI, 8, .inl r5204.2.2.2)), (a_m_leans, .inl (cI, 8, .inl r5178.2.2)), (a_m, .inr (6, [.ref a_m_w, .ref a_m_d, .int m_undoes, .int m_kept, .ref a_m_text, .int m_texted, .int m_at, .ref a_m_numbers, .ref a_m_then, .ref a_m_leans, .int r5178.1, .int r5204.2.1, .int m_heards, .ref a_m_heardSet, .ref a_m_heardSum])), (a_m_w, .inl (cI, 106, .inl m_w)), (a_m_d, .inl (cI, 216, .inl r5204.2.2.1))] := hD
                  refine lv_istore (lv' := [(6, .int r5206), (0, .ref a_m), (1, .int x1), (2, .int x2), (3, .int y3_34), (4, .int y4_34), (5, .int y5_34)]) hx hb dX6_needles_144 hl (by decide) rfl (fun ls hl => ?_)
                  refine lv_iload_n hx hb dX6_needles_146 rfl (lv_at hl 4 rfl) ?_
                  refine lv_bipush (v := (-4 : Int32)) hx hb dX6_needles_147 (by decide) ?_
                  obtain ⟨j5208, hjj5208, h⟩ := ob h
                  have Jj5208 : ∀ (H : Heap) (locs : List Loc), va_P (dC, dI) vwCl [(a_m_then, .inl (cI, 8, .inl r5204.2.2.2)), (a_m_leans, .inl (cI, 8, .inl r5178.2.2)), (a_m, .inr (6, [.ref a_m_w, .ref a_m_d, .int m_undoes, .int m_kept, .ref a_m_text, .int m_texted, .int m_at, .ref a_m_numbers, .ref a_m_then, .ref a_m_leans, .int r5178.1, .int r5204.2.1, .int m_heards, .ref a_m_heardSet, .ref a_m_heardSum])), (a_m_w, .inl (cI, 106, .inl m_w)), (a_m_d, .inl (cI, 216, .inl r5204.2.2.1))] H → va_D A [(a_m_then, .inl (cI, 8, .inl r5204.2.2.2)), (a_m_leans, .inl (cI, 8, .inl r5178.2.2)), (a_m, .inr (6, [.ref a_m_w, .ref a_m_d, .int m_undoes, .int m_kept, .ref a_m_text, .int m_texted, .int m_at, .ref a_m_numbers, .ref a_m_then, .ref a_m_leans, .int r5178.1, .int r5204.2.1, .int m_heards, .ref a_m_heardSet, .ref a_m_heardSum])), (a_m_w, .inl (cI, 106, .inl m_w)), (a_m_d, .inl (cI, 216, .inl r5204.2.2.1))] → va_S A s.heap H locs → ∀ ls : Array Slot, lv_has ls 8 [(0, .ref a_m), (1, .int x1), (2, .int x2), (3, .int y3_34), (4, .int y4_34), (5, .int y5_34), (6, .int r5206)] → W p l e (headSpec wsX6_needles rm_X6_needles).room s m ([.ref a_m, .int x1, .int x2] : List Value).toArray below meth c H locs 0 0 QQ (F0 m 164 ls [.int j5208]) := by
                    intro H locs hP hD hS ls hl
                    refine lv_istore (lv' := [(7, .int j5208), (0, .ref a_m), (1, .int x1), (2, .int x2), (3, .int y3_34), (4, .int y4_34), (5, .int y5_34), (6, .int r5206)]) hx hb dX6_needles_164 hl (by decide) rfl (fun ls hl => ?_)
                    refine lv_iload hx hb dX6_needles_166 (lv_at hl 0 rfl) ?_
                    obtain ⟨j5209, hjj5209, h⟩ := ob h
                    have Jj5209 : ∀ (H : Heap) (locs : List Loc), va_P (dC, dI) vwCl [(a_m_then, .inl (cI, 8, .inl r5204.2.2.2)), (a_m_leans, .inl (cI, 8, .inl r5178.2.2)), (a_m, .inr (6, [.ref a_m_w, .ref a_m_d, .int m_undoes, .int m_kept, .ref a_m_text, .int m_texted, .int m_at, .ref a_m_numbers, .ref a_m_then, .ref a_m_leans, .int r5178.1, .int r5204.2.1, .int m_heards, .ref a_m_heardSet, .ref a_m_heardSum])), (a_m_w, .inl (cI, 106, .inl m_w)), (a_m_d, .inl (cI, 216, .inl r5204.2.2.1))] H → va_D A [(a_m_then, .inl (cI, 8, .inl r5204.2.2.2)), (a_m_leans, .inl (cI, 8, .inl r5178.2.2)), (a_m, .inr (6, [.ref a_m_w, .ref a_m_d, .int m_undoes, .int m_kept, .ref a_m_text, .int m_texted, .int m_at, .ref a_m_numbers, .ref a_m_then, .ref a_m_leans, .int r5178.1, .int r5204.2.1, .int m_heards, .ref a_m_heardSet, .ref a_m_heardSum])), (a_m_w, .inl (cI, 106, .inl m_w)), (a_m_d, .inl (cI, 216, .inl r5204.2.2.1))] → va_S A s.heap H locs → ∀ ls : Array Slot, lv_has ls 8 [(0, .ref a_m), (1, .int x1), (2, .int x2), (3, .int y3_34), (4, .int y4_34), (5, .int y5_34), (6, .int r5206), (7, .int j5208)] → W p l e (headSpec wsX6_needles rm_X6_needles).room s m ([.ref a_m, .int x1, .int x2] : List Value).toArray below meth c H locs 0 0 QQ (F0 m 177 ls [.int j5209]) := by
                      intro H locs hP hD hS ls hl
                      refine lv_istore_n (lv' := [(3, .int j5209), (0, .ref a_m), (1, .int x1), (2, .int x2), (4, .int y4_34), (5, .int y5_34), (6, .int r5206), (7, .int j5208)]) hx hb dX6_needles_177 rfl hl (by decide) rfl (fun ls hl => ?_)
                      refine lv_iload hx hb dX6_needles_178 (lv_at hl 7 rfl) ?_
                      obtain ⟨j5210, hjj5210, h⟩ := ob h
                      have Jj5210 : ∀ (H : Heap) (locs : List Loc), va_P (dC, dI) vwCl [(a_m_then, .inl (cI, 8, .inl r5204.2.2.2)), (a_m_leans, .inl (cI, 8, .inl r5178.2.2)), (a_m, .inr (6, [.ref a_m_w, .ref a_m_d, .int m_undoes, .int m_kept, .ref a_m_text, .int m_texted, .int m_at, .ref a_m_numbers, .ref a_m_then, .ref a_m_leans, .int r5178.1, .int r5204.2.1, .int m_heards, .ref a_m_heardSet, .ref a_m_heardSum])), (a_m_w, .inl (cI, 106, .inl m_w)), (a_m_d, .inl (cI, 216, .inl r5204.2.2.1))] H → va_D A [(a_m_then, .inl (cI, 8, .inl r5204.2.2.2)), (a_m_leans, .inl (cI, 8, .inl r5178.2.2)), (a_m, .inr (6, [.ref a_m_w, .ref a_m_d, .int m_undoes, .int m_kept, .ref a_m_text, .int m_texted, .int m_at, .ref a_m_numbers, .ref a_m_then, .ref a_m_leans, .int r5178.1, .int r5204.2.1, .int m_heards, .ref a_m_heardSet, .ref a_m_heardSum])), (a_m_w, .inl (cI, 106, .inl m_w)), (a_m_d, .inl (cI, 216, .inl r5204.2.2.1))] → va_S A s.heap H locs → ∀ ls : Array Slot, lv_has ls 8 [(0, .ref a_m), (1, .int x1), (2, .int x2), (3, .int j5209), (4, .int y4_34), (5, .int y5_34), (6, .int r5206), (7, .int j5208)] → W p l e (headSpec wsX6_needles rm_X6_needles).room s m ([.ref a_m, .int x1, .int x2] : List Value).toArray below meth c H locs 0 0 QQ (F0 m 190 ls [.int j5210]) := by
                        intro H locs hP hD hS ls hl
                        refine lv_istore (lv' := [(4, .int j5210), (0, .ref a_m), (1, .int x1), (2, .int x2), (3, .int j5209), (5, .int y5_34), (6, .int r5206), (7, .int j5208)]) hx hb dX6_needles_190 hl (by decide) rfl (fun ls hl => ?_)
                        obtain rfl := Option.some.inj h
                        exact Jj5173 _ _ (hP.sub [2, 3, 4, 0, 1] rfl) (hD.sub [2, 3, 4, 0, 1] (by decide +kernel) rfl) hS _ (lv_sub hl [1, 2, 3, 4, 0, 5] rfl)
                      refine lv_if_eq (tgt := 188) hx hb dX6_needles_180 (by decide) (fun c_180 => ?_) (fun c_180 => ?_)
                      · have h := (if_pos c_180).symm.trans hjj5210
                        refine lv_iload hx hb dX6_needles_188 (lv_at hl 4 rfl) ?_
                        obtain rfl := Option.some.inj h
                        exact Jj5210 _ _ hP hD hS _ (lv_sub hl [1, 2, 3, 0, 4, 5, 6, 7] rfl)
                      · have h := (if_neg c_180).symm.trans hjj5210
                        refine lv_iload hx hb dX6_needles_183 (lv_at hl 6 rfl) ?_
                        refine lv_goto (tgt := 190) hx hb dX6_needles_185 (by decide) ?_
                        obtain rfl := Option.some.inj h
                        exact Jj5210 _ _ hP hD hS _ (lv_sub hl [1, 2, 3, 0, 4, 5, 6, 7] rfl)
                    refine lv_if_eq (tgt := 176) hx hb dX6_needles_168 (by decide) (fun c_168 => ?_) (fun c_168 => ?_)
                    · have h := (if_pos c_168).symm.trans hjj5209
                      refine lv_iload_n hx hb dX6_needles_176 rfl (lv_at hl 4 rfl) ?_
                      obtain rfl := Option.some.inj h
                      exact Jj5209 _ _ hP hD hS _ (lv_sub hl [1, 2, 3, 4, 5, 6, 7, 0] rfl)
                    · have h := (if_neg c_168).symm.trans hjj5209
                      refine lv_iload hx hb dX6_needles_171 (lv_at hl 6 rfl) ?_
                      refine lv_goto (tgt := 177) hx hb dX6_needles_173 (by decide) ?_
                      obtain rfl := Option.some.inj h
                      exact Jj5209 _ _ hP hD hS _ (lv_sub hl [1, 2, 3, 4, 5, 6, 7, 0] rfl)
                  refine lv_icmp_eq (tgt := 159) hx hb dX6_needles_149 (by decide) (fun c_149 => ?_) (fun c_149 => ?_)
                  · have h := (if_pos c_149).symm.trans hjj5208
                    refine lv_iconst (v := (1 : Int32)) hx hb dX6_needles_159 (by decide) ?_
                    refine lv_goto (tgt := 164) hx hb dX6_needles_160 (by decide) ?_
                    obtain rfl := Option.some.inj h
                    exact Jj5208 _ _ hP hD hS _ (lv_sub hl [1, 2, 3, 4, 5, 6, 0] rfl)
                  · have h := (if_neg c_149).symm.trans hjj5208
                    refine lv_iload hx hb dX6_needles_152 (lv_at hl 0 rfl) ?_
                    refine lv_iload hx hb dX6_needles_154 (lv_at hl 5 rfl) ?_
                    refine lv_icmp_ge (tgt := 163) hx hb dX6_needles_156 (by decide) (fun c_156 => ?_) (fun c_156 => ?_)
                    · have h := (if_pos c_156).symm.trans h
                      refine lv_iconst (v := (0 : Int32)) hx hb dX6_needles_163 (by decide) ?_
                      obtain rfl := Option.some.inj h
                      exact Jj5208 _ _ hP hD hS _ (lv_sub hl [1, 2, 3, 4, 5, 6, 0] rfl)
                    · have h := (if_neg c_156).symm.trans h
                      refine lv_iconst (v := (1 : Int32)) hx hb dX6_needles_159 (by decide) ?_
                      refine lv_goto (tgt := 164) hx hb dX6_needles_160 (by decide) ?_
                      obtain rfl := Option.some.inj h
                      exact Jj5208 _ _ hP hD hS _ (lv_sub hl [1, 2, 3, 4, 5, 6, 0] rfl)
                have K78 : ∀ (k : Nat) (y6_78 : Int32) (m_dv_78 : Nat → Int32), L_X6_needles_78 n m_w y5_34 k y6_78 m_dv_78 = some j5196 → ∀ (H : Heap) (locs : List Loc), va_P (dC, dI) vwCl [(a_m_then, .inl (cI, 8, .inl m_thenv_34)), (a_m_d, .inl (cI, 216, .inl m_dv_78)), (a_m, .inr (6, [.ref a_m_w, .ref a_m_d, .int m_undoes, .int m_kept, .ref a_m_text, .int m_texted, .int m_at, .ref a_m_numbers, .ref a_m_then, .ref a_m_leans, .int r5178.1, .int r5178.2.1, .int m_heards, .ref a_m_heardSet, .ref a_m_heardSum])), (a_m_w, .inl (cI, 106, .inl m_w)), (a_m_leans, .inl (cI, 8, .inl r5178.2.2))] H → va_D A [(a_m_then, .inl (cI, 8, .inl m_thenv_34)), (a_m_d, .inl (cI, 216, .inl m_dv_78)), (a_m, .inr (6, [.ref a_m_w, .ref a_m_d, .int m_undoes, .int m_kept, .ref a_m_text, .int m_texted, .int m_at, .ref a_m_numbers, .ref a_m_then, .ref a_m_leans, .int r5178.1, .int r5178.2.1, .int m_heards, .ref a_m_heardSet, .ref a_m_heardSum])), (a_m_w, .inl (cI, 106, .inl m_w)), (a_m_leans, .inl (cI, 8, .inl r5178.2.2))] → va_S A s.heap H locs → ∀ ls : Array Slot, lv_has ls 8 [(0, .ref a_m), (1, .int x1), (2, .int x2), (3, .int y3_34), (4, .int y4_34), (5, .int y5_34), (6, .int y6_78)] → W p l e (headSpec wsX6_needles rm_X6_needles).room s m ([.ref a_m, .int x1, .int x2] : List Value).toArray below meth c H locs 0 0 QQ (F0 m 78 ls []) := by
                  intro k
                  induction k with
                  | zero =>
                    intro y6_78 m_dv_78 h
                    rw [L_X6_needles_78] at h
                    cases h
                  | succ k ih =>
                    intro y6_78 m_dv_78 h H locs hP hD hS ls hl
                    rw [L_X6_needles_78] at h
                    refine lv_iload hx hb dX6_needles_78 (lv_at hl 6 rfl) ?_
                    refine lv_aload_n hx hb dX6_needles_80 rfl (lv_at hl 0 rfl) ?_
                    refine va_get (D := (dC, dI)) (ci := 6) (v := .ref a_m_w) (C := RX6) (T := TX6) (N := 15) hx hb hts in_X6 hown hK hP 2 rfl rfl 0 (by decide) f_7 (fun _ h9 => h9) rfl dX6_needles_81 ?_
                    refine lv_iconst (v := (0 : Int32)) hx hb dX6_needles_84 (by decide) ?_
                    obtain ⟨v5197, hv5197, h⟩ := ob h
                    refine k_ld hx hb hK hP 3 0 rfl rfl hv5197 dX6_needles_85 ?_
                    refine lv_icmp_ge (tgt := 132) hx hb dX6_needles_86 (by decide) (fun c_86 => ?_) (fun c_86 => ?_)
                    · have h := (if_pos c_86).symm.trans h
                      obtain rfl := Option.some.inj h
                      exact Jj5196 _ _ hP hD hS _ hl
                    · have h := (if_neg c_86).symm.trans h
                      refine lv_aload_n hx hb dX6_needles_89 rfl (lv_at hl 0 rfl) ?_
                      refine va_get (D := (dC, dI)) (ci := 6) (v := .ref a_m_d) (C := RX6) (T := TX6) (N := 15) hx hb hts in_X6 hown hK hP 2 rfl rfl 1 (by decide) f_13 (fun _ h9 => h9) rfl dX6_needles_90 ?_
                      refine lv_sipush (v := (208 : Int32)) hx hb dX6_needles_93 (by decide) ?_
                      refine lv_iload hx hb dX6_needles_96 (lv_at hl 6 rfl) ?_
                      refine lv_iadd hx hb dX6_needles_98 ?_
                      refine lv_iload hx hb dX6_needles_99 (lv_at hl 5 rfl) ?_
                      refine lv_iload hx hb dX6_needles_101 (lv_at hl 6 rfl) ?_
                      obtain ⟨r5198, hr5198, h⟩ := ob h
                      refine k_Si (As := [.int y5_34, .int y6_78]) (rest := [.int ((208 : Int32) + y6_78), .ref a_m_d]) (c_X6_has l dC dI cI cS n _ y5_34 y6_78 r5198 hr5198) (fun _ _ q => q) ⟨hx, hb, hml, hown, hts⟩ (va_cwS 2 hts gX6_needles_X6_has rfl rfl rfl (by decide +kernel) ⟨(Nat.le_of_ble_eq_true rfl), (Nat.le_of_ble_eq_true rfl)⟩) hN hK hP hD hS hA rfl hl.1 rfl (Nat.le_of_ble_eq_true rfl) dX6_needles_103 ⟨(Nat.le_of_ble_eq_true rfl), (Nat.le_of_ble_eq_true rfl)⟩ (fun H locs hP hD hS => ?_)
                      obtain ⟨j5201, hjj5201, h⟩ := ob h
                      have Jj5201 : ∀ (H : Heap) (locs : List Loc), va_P (dC, dI) vwCl [(a_m_then, .inl (cI, 8, .inl m_thenv_34)), (a_m_d, .inl (cI, 216, .inl m_dv_78)), (a_m, .inr (6, [.ref a_m_w, .ref a_m_d, .int m_undoes, .int m_kept, .ref a_m_text, .int m_texted, .int m_at, .ref a_m_numbers, .ref a_m_then, .ref a_m_leans, .int r5178.1, .int r5178.2.1, .int m_heards, .ref a_m_heardSet, .ref a_m_heardSum])), (a_m_w, .inl (cI, 106, .inl m_w)), (a_m_leans, .inl (cI, 8, .inl r5178.2.2))] H → va_D A [(a_m_then, .inl (cI, 8, .inl m_thenv_34)), (a_m_d, .inl (cI, 216, .inl m_dv_78)), (a_m, .inr (6, [.ref a_m_w, .ref a_m_d, .int m_undoes, .int m_kept, .ref a_m_text, .int m_texted, .int m_at, .ref a_m_numbers, .ref a_m_then, .ref a_m_leans, .int r5178.1, .int r5178.2.1, .int m_heards, .ref a_m_heardSet, .ref a_m_heardSum])), (a_m_w, .inl (cI, 106, .inl m_w)), (a_m_leans, .inl (cI, 8, .inl r5178.2.2))] → va_S A s.heap H locs → ∀ ls : Array Slot, lv_has ls 8 [(0, .ref a_m), (1, .int x1), (2, .int x2), (3, .int y3_34), (4, .int y4_34), (5, .int y5_34), (6, .int y6_78)] → W p l e (headSpec wsX6_needles rm_X6_needles).room s m ([.ref a_m, .int x1, .int x2] : List Value).toArray below meth c H locs 0 0 QQ (F0 m 125 ls [.int j5201, .int ((208 : Int32) + y6_78), .ref a_m_d]) := by
                        intro H locs hP hD hS ls hl
                        obtain ⟨g5203, hg5203, h⟩ := ob h
                        refine k_st hx hb hK hP hD hS 1 0 rfl rfl hg5203 dX6_needles_125 (ws' := [(a_m_then, .inl (cI, 8, .inl m_thenv_34)), (a_m_d, .inl (cI, 216, .inl g5203)), (a_m, .inr (6, [.ref a_m_w, .ref a_m_d, .int m_undoes, .int m_kept, .ref a_m_text, .int m_texted, .int m_at, .ref a_m_numbers, .ref a_m_then, .ref a_m_leans, .int r5178.1, .int r5178.2.1, .int m_heards, .ref a_m_heardSet, .ref a_m_heardSum])), (a_m_w, .inl (cI, 106, .inl m_w)), (a_m_leans, .inl (cI, 8, .inl r5178.2.2))]) rfl (fun H locs hP hD hS => ?_)
                        refine lv_iinc (v := (y6_78 + (1 : Int32))) (lv' := [(6, .int (y6_78 + (1 : Int32))), (0, .ref a_m), (1, .int x1), (2, .int x2), (3, .int y3_34), (4, .int y4_34), (5, .int y5_34)]) hx hb dX6_needles_126 hl (k := 6) rfl rfl (by decide) rfl (fun ls hl => ?_)
                        refine lv_goto (tgt := 78) hx hb dX6_needles_129 (by decide) ?_
                        exact ih _ _ h _ _ hP hD hS _ (lv_sub hl [1, 2, 3, 4, 5, 6, 0] rfl)
                      refine lv_if_eq (tgt := 114) hx hb dX6_needles_106 (by decide) (fun c_106 => ?_) (fun c_106 => ?_)
                      · have h := (if_pos c_106).symm.trans hjj5201
                        refine lv_aload_n hx hb dX6_needles_114 rfl (lv_at hl 0 rfl) ?_
                        refine va_get (D := (dC, dI)) (ci := 6) (v := .ref a_m_d) (C := RX6) (T := TX6) (N := 15) hx hb hts in_X6 hown hK hP 2 rfl rfl 1 (by decide) f_13 (fun _ h9 => h9) rfl dX6_needles_115 ?_
                        refine lv_sipush (v := (208 : Int32)) hx hb dX6_needles_118 (by decide) ?_
                        refine lv_iload hx hb dX6_needles_121 (lv_at hl 6 rfl) ?_
                        refine lv_iadd hx hb dX6_needles_123 ?_
                        obtain ⟨v5202, hv5202, h⟩ := ob h
                        refine k_ld hx hb hK hP 1 0 rfl rfl hv5202 dX6_needles_124 ?_
                        obtain rfl := Option.some.inj h
                        exact Jj5201 _ _ hP hD hS _ hl
                      · have h := (if_neg c_106).symm.trans hjj5201
                        refine lv_bipush (v := (8 : Int32)) hx hb dX6_needles_109 (by decide) ?_
                        refine lv_goto (tgt := 125) hx hb dX6_needles_111 (by decide) ?_
                        obtain rfl := Option.some.inj h
                        exact Jj5201 _ _ hP hD hS _ hl
                exact K78 n (0 : Int32) r5176 hjj5196 _ _ hP hD hS _ (lv_sub hl [1, 2, 3, 4, 5, 6, 0] rfl)
      exact K34 n (-4 : Int32) (-4 : Int32) (0 : Int32) m_draws m_drawn m_d m_then m_leans hjj5132 _ _ hP hD hS _ (lv_sub hl [3, 4, 5, 2, 1, 0] rfl)
    · have h := (if_pos c_19).symm.trans h
      refine lv_iconst (v := (-1 : Int32)) hx hb dX6_needles_22 (by decide) ?_
      obtain rfl := Option.some.inj h
      subst hQe
      exact W.iret (v := (-1 : Int32)) hx hb hr (fun t ht hW => ⟨⟨(-1 : Int32), (), rfl, rfl, ⟨by rw [ht]; exact hP, hD⟩⟩, hS.F ht⟩) hS.2.2 dX6_needles_23
def rm_X6_blame : Room := { frames := 5, cells := 0, slots := 0, locals := 115 }
set_option maxRecDepth 100000 in
set_option maxHeartbeats 8000000 in
theorem c_X6_blame (l : Launch) (dC : Nat → ClassId) (dI : Nat → Nat → Nat) (cI cS : ClassId) (n sz : Nat) (a_m : Nat) (a_m_w : Nat) (a_m_d : Nat) (a_m_text : Nat) (a_m_numbers : Nat) (a_m_then : Nat) (a_m_leans : Nat) (a_m_heardSet : Nat) (a_m_heardSum : Nat) (m_w : Nat → Int32) (m_d : Nat → Int32) (m_undoes : Int32) (m_kept : Int32) (m_texted : Int32) (m_at : Int32) (m_then : Nat → Int32) (m_leans : Nat → Int32) (m_draws : Int32) (m_drawn : Int32) (m_heards : Int32) (x1 : Int32) (res : Int32 × Int32 × Int32 × (Nat → Int32) × (Nat → Int32) × (Nat → Int32))  (h : F_X6_blame n m_w m_d m_then m_leans m_draws m_drawn x1 = some res) : Met l yX6_blame wsX6_blame rm_X6_blame (va_Pc [.ref a_m, .int x1] (PRE (dC, dI) vwCl [(cI, .int), (cS, .object "RoundOfTheA$State")] sz [(a_m, .inr (6, [.ref a_m_w, .ref a_m_d, .int m_undoes, .int m_kept, .ref a_m_text, .int m_texted, .int m_at, .ref a_m_numbers, .ref a_m_then, .ref a_m_leans, .int m_draws, .int m_drawn, .int m_heards, .ref a_m_heardSet, .ref a_m_heardSum])), (a_m_w, .inl (cI, 106, .inl m_w)), (a_m_d, .inl (cI, 216, .inl m_d)), (a_m_then, .inl (cI, 8, .inl m_then)), (a_m_leans, .inl (cI, 8, .inl m_leans))])) (va_Qi (fun (r : Int32) (_ : Unit) => r = res.1) (fun u t => POST (dC, dI) vwCl [(a_m, .inr (6, [.ref a_m_w, .ref a_m_d, .int m_undoes, .int m_kept, .ref a_m_text, .int m_texted, .int m_at, .ref a_m_numbers, .ref a_m_then, .ref a_m_leans, .int res.2.1, .int res.2.2.1, .int m_heards, .ref a_m_heardSet, .ref a_m_heardSum])), (a_m_w, .inl (cI, 106, .inl m_w)), (a_m_d, .inl (cI, 216, .inl res.2.2.2.1)), (a_m_then, .inl (cI, 8, .inl res.2.2.2.2.1)), (a_m_leans, .inl (cI, 8, .inl res.2.2.2.2.2))] (va_A [(a_m, .inr (6, [.ref a_m_w, .ref a_m_d, .int m_undoes, .int m_kept, .ref a_m_text, .int m_texted, .int m_at, .ref a_m_numbers, .ref a_m_then, .ref a_m_leans, .int m_draws, .int m_drawn, .int m_heards, .ref a_m_heardSet, .ref a_m_heardSum])), (a_m_w, .inl (cI, 106, .inl m_w)), (a_m_d, .inl (cI, 216, .inl m_d)), (a_m_then, .inl (cI, 8, .inl m_then)), (a_m_leans, .inl (cI, 8, .inl m_leans))] sz) t) (va_A [(a_m, .inr (6, [.ref a_m_w, .ref a_m_d, .int m_undoes, .int m_kept, .ref a_m_text, .int m_texted, .int m_at, .ref a_m_numbers, .ref a_m_then, .ref a_m_leans, .int m_draws, .int m_drawn, .int m_heards, .ref a_m_heardSet, .ref a_m_heardSum])), (a_m_w, .inl (cI, 106, .inl m_w)), (a_m_d, .inl (cI, 216, .inl m_d)), (a_m_then, .inl (cI, 8, .inl m_then)), (a_m_leans, .inl (cI, 8, .inl m_leans))] sz)) 0 0 (va_A [(a_m, .inr (6, [.ref a_m_w, .ref a_m_d, .int m_undoes, .int m_kept, .ref a_m_text, .int m_texted, .int m_at, .ref a_m_numbers, .ref a_m_then, .ref a_m_leans, .int m_draws, .int m_drawn, .int m_heards, .ref a_m_heardSet, .ref a_m_heardSum])), (a_m_w, .inl (cI, 106, .inl m_w)), (a_m_d, .inl (cI, 216, .inl m_d)), (a_m_then, .inl (cI, 8, .inl m_then)), (a_m_leans, .inl (cI, 8, .inl m_leans))] sz) := by
  refine Met.ofW (cc := cX6_blame) (maxL := 7) (ret := (some .int)) (by decide) rfl ?_
  intro p e s m args below meth c s₁ B hml hv
  obtain ⟨rfl, hsz, hN, hP, hK, hD0⟩ := hv
  have hx := B.exec
  have hb := B.bytes
  have hr := B.returns
  have hts := atoms_spec (ws := wsX6_blame) B.pre
  have hown : s.vm.findClass RX6 = some m.cls := findClass_of_methodNamed B.named
  have hlocks := B.notSynchronized
  subst hsz
  have hD := hD0.self (sz := s.heap.size)
  generalize hAe : va_A [(a_m, .inr (6, [.ref a_m_w, .ref a_m_d, .int m_undoes, .int m_kept, .ref a_m_text, .int m_texted, .int m_at, .ref a_m_numbers, .ref a_m_then, .ref a_m_leans, .int m_draws, .int m_drawn, .int m_heards, .ref a_m_heardSet, .ref a_m_heardSum])), (a_m_w, .inl (cI, 106, .inl m_w)), (a_m_d, .inl (cI, 216, .inl m_d)), (a_m_then, .inl (cI, 8, .inl m_then)), (a_m_leans, .inl (cI, 8, .inl m_leans))] s.heap.size = A at hD ⊢
  have hA : ∀ q : Nat, s.heap.size ≤ q → A q := fun q h => by rw [← hAe]; exact Or.inr h
  have hS : va_S A s.heap s.heap [] := va_S.rf
  generalize hQe : MQ below _ _ s _ _ A = QQ
  have hl := lv_entry ([.ref a_m, .int x1]) (n := 7) (Nat.le_of_ble_eq_true rfl)
  rw [lg_entry_eq]
  generalize (lg_sl ([.ref a_m, .int x1]) ++ List.replicate (7 - (lg_sl ([.ref a_m, .int x1])).length) Slot.unset).toArray = ls at hl ⊢
  have hl : lv_has ls 7 [(0, .ref a_m), (1, .int x1)] := hl
  have f_7 := hts (.fieldLink RX6 7 "RoundOfTheAModel" "w" "[I") (by decide +kernel)
  have in_X6 := (by decide +kernel : ∀ w ∈ wsX60, w ∈ wsX6_blame)
  have f_25 := hts (.fieldLink RX6 25 "RoundOfTheAModel" "leans" "[I") (by decide +kernel)
  rw [F_X6_blame] at h
  refine lv_iload_n hx hb dX6_blame_0 rfl (lv_at hl 1 rfl) ?_
  refine lv_i2l (v := (Int32.toInt64 x1)) hx hb dX6_blame_1 rfl ?_
  refine lv_lconst (v := (0 : Int64)) hx hb dX6_blame_2 (by decide) ?_
  refine lv_lconst (v := (1 : Int64)) hx hb dX6_blame_3 (by decide) ?_
  obtain ⟨r5261, hr5261, h⟩ := ob h
  refine k_Si (As := [.long (Int32.toInt64 x1), .long (0 : Int64), .long (1 : Int64)]) (rest := []) (c_X6_in l dC dI cI cS n _ (Int32.toInt64 x1) (0 : Int64) (1 : Int64) r5261 hr5261) (fun _ _ q => q) ⟨hx, hb, hml, hown, hts⟩ (va_cwS 3 hts gX6_blame_X6_in rfl rfl rfl (by decide +kernel) ⟨(Nat.le_of_ble_eq_true rfl), (Nat.le_of_ble_eq_true rfl)⟩) hN hK hP hD hS hA rfl hl.1 rfl (Nat.le_of_ble_eq_true rfl) dX6_blame_4 ⟨(Nat.le_of_ble_eq_true rfl), (Nat.le_of_ble_eq_true rfl)⟩ (fun H locs hP hD hS => ?_)
  refine lv_if_ne (tgt := 12) hx hb dX6_blame_7 (by decide) (fun c_7 => ?_) (fun c_7 => ?_)
  · have h := (if_neg c_7).symm.trans h
    refine lv_bipush (v := (-4 : Int32)) hx hb dX6_blame_12 (by decide) ?_
    refine lv_istore_n (lv' := [(2, .int (-4 : Int32)), (0, .ref a_m), (1, .int x1)]) hx hb dX6_blame_14 rfl hl (by decide) rfl (fun ls hl => ?_)
    refine lv_iconst (v := (0 : Int32)) hx hb dX6_blame_15 (by decide) ?_
    refine lv_istore_n (lv' := [(3, .int (0 : Int32)), (2, .int (-4 : Int32)), (0, .ref a_m), (1, .int x1)]) hx hb dX6_blame_16 rfl hl (by decide) rfl (fun ls hl => ?_)
    refine lv_iconst (v := (0 : Int32)) hx hb dX6_blame_17 (by decide) ?_
    refine lv_istore (lv' := [(4, .int (0 : Int32)), (3, .int (0 : Int32)), (2, .int (-4 : Int32)), (0, .ref a_m), (1, .int x1)]) hx hb dX6_blame_18 hl (by decide) rfl (fun ls hl => ?_)
    obtain ⟨j5297, hjj5297, h⟩ := ob h
    have Jj5297 : ∀ (H : Heap) (locs : List Loc), va_P (dC, dI) vwCl [(a_m, .inr (6, [.ref a_m_w, .ref a_m_d, .int m_undoes, .int m_kept, .ref a_m_text, .int m_texted, .int m_at, .ref a_m_numbers, .ref a_m_then, .ref a_m_leans, .int j5297.2.2.2.1, .int j5297.2.2.2.2.1, .int m_heards, .ref a_m_heardSet, .ref a_m_heardSum])), (a_m_w, .inl (cI, 106, .inl m_w)), (a_m_d, .inl (cI, 216, .inl j5297.2.2.2.2.2.1)), (a_m_then, .inl (cI, 8, .inl j5297.2.2.2.2.2.2.1)), (a_m_leans, .inl (cI, 8, .inl j5297.2.2.2.2.2.2.2))] H → va_D A [(a_m, .inr (6, [.ref a_m_w, .ref a_m_d, .int m_undoes, .int m_kept, .ref a_m_text, .int m_texted, .int m_at, .ref a_m_numbers, .ref a_m_then, .ref a_m_leans, .int j5297.2.2.2.1, .int j5297.2.2.2.2.1, .int m_heards, .ref a_m_heardSet, .ref a_m_heardSum])), (a_m_w, .inl (cI, 106, .inl m_w)), (a_m_d, .inl (cI, 216, .inl j5297.2.2.2.2.2.1)), (a_m_then, .inl (cI, 8, .inl j5297.2.2.2.2.2.2.1)), (a_m_leans, .inl (cI, 8, .inl j5297.2.2.2.2.2.2.2))] → va_S A s.heap H locs → ∀ ls : Array Slot, lv_has ls 7 [(0, .ref a_m), (1, .int x1), (2, .int j5297.1), (3, .int j5297.2.1), (4, .int j5297.2.2.1)] → W p l e (headSpec wsX6_blame rm_X6_blame).room s m ([.ref a_m, .int x1] : List Value).toArray below meth c H locs 0 0 QQ (F0 m 110 ls []) := by
      intro H locs hP hD hS ls hl
      refine lv_iload_n hx hb dX6_blame_110 rfl (lv_at hl 1 rfl) ?_
      refine lv_if_ne (tgt := 118) hx hb dX6_blame_111 (by decide) (fun c_111 => ?_) (fun c_111 => ?_)
      · have h := (if_neg c_111).symm.trans h
        refine lv_iload_n hx hb dX6_blame_118 rfl (lv_at hl 3 rfl) ?_
        obtain rfl := Option.some.inj h
        subst hQe
        exact W.iret (v := j5297.2.1) hx hb hr (fun t ht hW => ⟨⟨j5297.2.1, (), rfl, rfl, ⟨by rw [ht]; exact hP, hD⟩⟩, hS.F ht⟩) hS.2.2 dX6_blame_119
      · have h := (if_pos c_111).symm.trans h
        refine lv_iload_n hx hb dX6_blame_114 rfl (lv_at hl 2 rfl) ?_
        refine lv_goto (tgt := 119) hx hb dX6_blame_115 (by decide) ?_
        obtain rfl := Option.some.inj h
        subst hQe
        exact W.iret (v := j5297.1) hx hb hr (fun t ht hW => ⟨⟨j5297.1, (), rfl, rfl, ⟨by rw [ht]; exact hP, hD⟩⟩, hS.F ht⟩) hS.2.2 dX6_blame_119
    have K20 : ∀ (k : Nat) (y2_20 : Int32) (y3_20 : Int32) (y4_20 : Int32) (m_10v_20 : Int32) (m_11v_20 : Int32) (m_dv_20 : Nat → Int32) (m_thenv_20 : Nat → Int32) (m_leansv_20 : Nat → Int32), L_X6_blame_20 n m_w k y2_20 y3_20 y4_20 m_10v_20 m_11v_20 m_dv_20 m_thenv_20 m_leansv_20 = some j5297 → ∀ (H : Heap) (locs : List Loc), va_P (dC, dI) vwCl [(a_m, .inr (6, [.ref a_m_w, .ref a_m_d, .int m_undoes, .int m_kept, .ref a_m_text, .int m_texted, .int m_at, .ref a_m_numbers, .ref a_m_then, .ref a_m_leans, .int m_10v_20, .int m_11v_20, .int m_heards, .ref a_m_heardSet, .ref a_m_heardSum])), (a_m_w, .inl (cI, 106, .inl m_w)), (a_m_d, .inl (cI, 216, .inl m_dv_20)), (a_m_then, .inl (cI, 8, .inl m_thenv_20)), (a_m_leans, .inl (cI, 8, .inl m_leansv_20))] H → va_D A [(a_m, .inr (6, [.ref a_m_w, .ref a_m_d, .int m_undoes, .int m_kept, .ref a_m_text, .int m_texted, .int m_at, .ref a_m_numbers, .ref a_m_then, .ref a_m_leans, .int m_10v_20, .int m_11v_20, .int m_heards, .ref a_m_heardSet, .ref a_m_heardSum])), (a_m_w, .inl (cI, 106, .inl m_w)), (a_m_d, .inl (cI, 216, .inl m_dv_20)), (a_m_then, .inl (cI, 8, .inl m_thenv_20)), (a_m_leans, .inl (cI, 8, .inl m_leansv_20))] → va_S A s.heap H locs → ∀ ls : Array Slot, lv_has ls 7 [(0, .ref a_m), (1, .int x1), (2, .int y2_20), (3, .int y3_20), (4, .int y4_20)] → W p l e (headSpec wsX6_blame rm_X6_blame).room s m ([.ref a_m, .int x1] : List Value).toArray below meth c H locs 0 0 QQ (F0 m 20 ls []) := by
      intro k
      induction k with
      | zero =>
        intro y2_20 y3_20 y4_20 m_10v_20 m_11v_20 m_dv_20 m_thenv_20 m_leansv_20 h
        rw [L_X6_blame_20] at h
        cases h
      | succ k ih =>
        intro y2_20 y3_20 y4_20 m_10v_20 m_11v_20 m_dv_20 m_thenv_20 m_leansv_20 h H locs hP hD hS ls hl
        rw [L_X6_blame_20] at h
        refine lv_iload hx hb dX6_blame_20 (lv_at hl 4 rfl) ?_
        refine lv_aload_n hx hb dX6_blame_22 rfl (lv_at hl 0 rfl) ?_
        refine va_get (D := (dC, dI)) (ci := 6) (v := .ref a_m_w) (C := RX6) (T := TX6) (N := 15) hx hb hts in_X6 hown hK hP 0 rfl rfl 0 (by decide) f_7 (fun _ h9 => h9) rfl dX6_blame_23 ?_
        refine lv_iconst (v := (0 : Int32)) hx hb dX6_blame_26 (by decide) ?_
        obtain ⟨v5298, hv5298, h⟩ := ob h
        refine k_ld hx hb hK hP 1 0 rfl rfl hv5298 dX6_blame_27 ?_
        refine lv_icmp_ge (tgt := 110) hx hb dX6_blame_28 (by decide) (fun c_28 => ?_) (fun c_28 => ?_)
        · have h := (if_pos c_28).symm.trans h
          obtain rfl := Option.some.inj h
          exact Jj5297 _ _ hP hD hS _ hl
        · have h := (if_neg c_28).symm.trans h
          refine lv_aload_n hx hb dX6_blame_31 rfl (lv_at hl 0 rfl) ?_
          obtain ⟨r5299, hr5299, h⟩ := ob h
          refine k_Vv (As := []) (rest := []) (wr := [(a_m_w, .inl (cI, 106, .inl m_w)), (a_m_then, .inl (cI, 8, .inl m_thenv_20)), (a_m_leans, .inl (cI, 8, .inl m_leansv_20))]) (c_X6_lays l dC dI cI cS n _ a_m a_m_w a_m_d a_m_text a_m_numbers a_m_then a_m_leans a_m_heardSet a_m_heardSum m_dv_20 m_undoes m_kept m_texted m_at m_10v_20 m_11v_20 m_heards r5299 hr5299) ⟨hx, hb, hml, hown, hts⟩ (cwV 0 hts gX6_blame_X6_lays rfl rfl rfl (by decide +kernel) ⟨(Nat.le_of_ble_eq_true rfl), (Nat.le_of_ble_eq_true rfl)⟩) hN hK hP hD hS hA [0, 2] [1, 3, 4] rfl rfl (by decide) (by decide) (by decide) rfl rfl rfl hl.1 rfl (Nat.le_of_ble_eq_true rfl) dX6_blame_32 ⟨(Nat.le_of_ble_eq_true rfl), (Nat.le_of_ble_eq_true rfl)⟩ (fun u5300 H locs _ hP hD hS => ?_)
          have hP : va_P (dC, dI) vwCl [(a_m_w, .inl (cI, 106, .inl m_w)), (a_m_then, .inl (cI, 8, .inl m_thenv_20)), (a_m_leans, .inl (cI, 8, .inl m_leansv_20)), (a_m, .inr (6, [.ref a_m_w, .ref a_m_d, .int m_undoes, .int m_kept, .ref a_m_text, .int m_texted, .int m_at, .ref a_m_numbers, .ref a_m_then, .ref a_m_leans, .int m_10v_20, .int m_11v_20, .int m_heards, .ref a_m_heardSet, .ref a_m_heardSum])), (a_m_d, .inl (cI, 216, .inl r5299))] H := hP
          have hD : va_D A [(a_m_w, .inl (cI, 106, .inl m_w)), (a_m_then, .inl (cI, 8, .inl m_thenv_20)), (a_m_leans, .inl (cI, 8, .inl m_leansv_20)), (a_m, .inr (6, [.ref a_m_w, .ref a_m_d, .int m_undoes, .int m_kept, .ref a_m_text, .int m_texted, .int m_at, .ref a_m_numbers, .ref a_m_then, .ref a_m_leans, .int m_10v_20, .int m_11v_20, .int m_heards, .ref a_m_heardSet, .ref a_m_heardSum])), (a_m_d, .inl (cI, 216, .inl r5299))] := hD
          refine lv_aload_n hx hb dX6_blame_35 rfl (lv_at hl 0 rfl) ?_
          obtain ⟨r5301, hr5301, h⟩ := ob h
          refine k_Vv (As := []) (rest := []) (wr := [(a_m_then, .inl (cI, 8, .inl m_thenv_20)), (a_m_d, .inl (cI, 216, .inl r5299))]) (c_X6_laysLeans l dC dI cI cS n _ a_m a_m_w a_m_d a_m_text a_m_numbers a_m_then a_m_leans a_m_heardSet a_m_heardSum m_w m_undoes m_kept m_texted m_at m_leansv_20 m_10v_20 m_11v_20 m_heards r5301 hr5301) ⟨hx, hb, hml, hown, hts⟩ (cwV 0 hts gX6_blame_X6_laysLeans rfl rfl rfl (by decide +kernel) ⟨(Nat.le_of_ble_eq_true rfl), (Nat.le_of_ble_eq_true rfl)⟩) hN hK hP hD hS hA [3, 0, 2] [1, 4] rfl rfl (by decide) (by decide) (by decide) rfl rfl rfl hl.1 rfl (Nat.le_of_ble_eq_true rfl) dX6_blame_36 ⟨(Nat.le_of_ble_eq_true rfl), (Nat.le_of_ble_eq_true rfl)⟩ (fun u5302 H locs _ hP hD hS => ?_)
          have hP : va_P (dC, dI) vwCl [(a_m_then, .inl (cI, 8, .inl m_thenv_20)), (a_m_d, .inl (cI, 216, .inl r5299)), (a_m, .inr (6, [.ref a_m_w, .ref a_m_d, .int m_undoes, .int m_kept, .ref a_m_text, .int m_texted, .int m_at, .ref a_m_numbers, .ref a_m_then, .ref a_m_leans, .int r5301.1, .int r5301.2.1, .int m_heards, .ref a_m_heardSet, .ref a_m_heardSum])), (a_m_w, .inl (cI, 106, .inl m_w)), (a_m_leans, .inl (cI, 8, .inl r5301.2.2))] H := hP
          have hD : va_D A [(a_m_then, .inl (cI, 8, .inl m_thenv_20)), (a_m_d, .inl (cI, 216, .inl r5299)), (a_m, .inr (6, [.ref a_m_w, .ref a_m_d, .int m_undoes, .int m_kept, .ref a_m_text, .int m_texted, .int m_at, .ref a_m_numbers, .ref a_m_then, .ref a_m_leans, .int r5301.1, .int r5301.2.1, .int m_heards, .ref a_m_heardSet, .ref a_m_heardSum])), (a_m_w, .inl (cI, 106, .inl m_w)), (a_m_leans, .inl (cI, 8, .inl r5301.2.2))] := hD
          refine lv_aload_n hx hb dX6_blame_39 rfl (lv_at hl 0 rfl) ?_
          refine va_get (D := (dC, dI)) (ci := 6) (v := .ref a_m_leans) (C := RX6) (T := TX6) (N := 15) hx hb hts in_X6 hown hK hP 2 rfl rfl 9 (by decide) f_25 (fun _ h9 => h9) rfl dX6_blame_40 ?_
          refine lv_iload hx hb dX6_blame_43 (lv_at hl 4 rfl) ?_
          refine lv_iconst (v := (0 : Int32)) hx hb dX6_blame_45 (by decide) ?_
          obtain ⟨g5303, hg5303, h⟩ := ob h
          refine k_st hx hb hK hP hD hS 4 0 rfl rfl hg5303 dX6_blame_46 (ws' := [(a_m_then, .inl (cI, 8, .inl m_thenv_20)), (a_m_d, .inl (cI, 216, .inl r5299)), (a_m, .inr (6, [.ref a_m_w, .ref a_m_d, .int m_undoes, .int m_kept, .ref a_m_text, .int m_texted, .int m_at, .ref a_m_numbers, .ref a_m_then, .ref a_m_leans, .int r5301.1, .int r5301.2.1, .int m_heards, .ref a_m_heardSet, .ref a_m_heardSum])), (a_m_w, .inl (cI, 106, .inl m_w)), (a_m_leans, .inl (cI, 8, .inl g5303))]) rfl (fun H locs hP hD hS => ?_)
          refine lv_aload_n hx hb dX6_blame_47 rfl (lv_at hl 0 rfl) ?_
          obtain ⟨r5304, hr5304, h⟩ := ob h
          refine k_Vi (As := []) (rest := []) (wr := []) (c_X6_rounds l dC dI cI cS n _ a_m a_m_w a_m_d a_m_text a_m_numbers a_m_then a_m_leans a_m_heardSet a_m_heardSum m_w r5299 m_undoes m_kept m_texted m_at m_thenv_20 g5303 r5301.1 r5301.2.1 m_heards r5304 hr5304) (fun _ _ q => q) ⟨hx, hb, hml, hown, hts⟩ (cwV 0 hts gX6_blame_X6_rounds rfl rfl rfl (by decide +kernel) ⟨(Nat.le_of_ble_eq_true rfl), (Nat.le_of_ble_eq_true rfl)⟩) hN hK hP hD hS hA [2, 3, 1, 0, 4] [] rfl rfl (by decide) (by decide) (by decide) rfl rfl rfl hl.1 rfl (Nat.le_of_ble_eq_true rfl) dX6_blame_48 ⟨(Nat.le_of_ble_eq_true rfl), (Nat.le_of_ble_eq_true rfl)⟩ (fun u5305 H locs _ hP hD hS => ?_)
          have hP : va_P (dC, dI) vwCl [(a_m, .inr (6, [.ref a_m_w, .ref a_m_d, .int m_undoes, .int m_kept, .ref a_m_text, .int m_texted, .int m_at, .ref a_m_numbers, .ref a_m_then, .ref a_m_leans, .int r5301.1, .int r5304.2.1, .int m_heards, .ref a_m_heardSet, .ref a_m_heardSum])), (a_m_w, .inl (cI, 106, .inl m_w)), (a_m_d, .inl (cI, 216, .inl r5304.2.2.1)), (a_m_then, .inl (cI, 8, .inl r5304.2.2.2)), (a_m_leans, .inl (cI, 8, .inl g5303))] H := hP
          have hD : va_D A [(a_m, .inr (6, [.ref a_m_w, .ref a_m_d, .int m_undoes, .int m_kept, .ref a_m_text, .int m_texted, .int m_at, .ref a_m_numbers, .ref a_m_then, .ref a_m_leans, .int r5301.1, .int r5304.2.1, .int m_heards, .ref a_m_heardSet, .ref a_m_heardSum])), (a_m_w, .inl (cI, 106, .inl m_w)), (a_m_d, .inl (cI, 216, .inl r5304.2.2.1)), (a_m_then, .inl (cI, 8, .inl r5304.2.2.2)), (a_m_leans, .inl (cI, 8, .inl g5303))] := hD
          refine lv_pop hx hb dX6_blame_51 rfl ?_
          refine lv_aload_n hx hb dX6_blame_52 rfl (lv_at hl 0 rfl) ?_
          refine lv_sipush (v := (198 : Int32)) hx hb dX6_blame_53 (by decide) ?_
          obtain ⟨r5306, hr5306, h⟩ := ob h
          refine k_Vi (As := [.int (198 : Int32)]) (rest := []) (wr := [(a_m_then, .inl (cI, 8, .inl r5304.2.2.2)), (a_m_leans, .inl (cI, 8, .inl g5303))]) (c_X6_spreadOf l dC dI cI cS n _ a_m a_m_w a_m_d a_m_text a_m_numbers a_m_then a_m_leans a_m_heardSet a_m_heardSum m_w r5304.2.2.1 m_undoes m_kept m_texted m_at r5301.1 r5304.2.1 m_heards (198 : Int32) r5306 hr5306) (fun _ _ q => q) ⟨hx, hb, hml, hown, hts⟩ (cwV 1 hts gX6_blame_X6_spreadOf rfl rfl rfl (by decide +kernel) ⟨(Nat.le_of_ble_eq_true rfl), (Nat.le_of_ble_eq_true rfl)⟩) hN hK hP hD hS hA [0, 1, 2] [3, 4] rfl rfl (by decide) (by decide) (by decide) rfl rfl rfl hl.1 rfl (Nat.le_of_ble_eq_true rfl) dX6_blame_56 ⟨(Nat.le_of_ble_eq_true rfl), (Nat.le_of_ble_eq_true rfl)⟩ (fun u5307 H locs _ hP hD hS => ?_)
          have hP : va_P (dC, dI) vwCl [(a_m_then, .inl (cI, 8, .inl r5304.2.2.2)), (a_m_leans, .inl (cI, 8, .inl g5303)), (a_m, .inr (6, [.ref a_m_w, .ref a_m_d, .int m_undoes, .int m_kept, .ref a_m_text, .int m_texted, .int m_at, .ref a_m_numbers, .ref a_m_then, .ref a_m_leans, .int r5301.1, .int r5304.2.1, .int m_heards, .ref a_m_heardSet, .ref a_m_heardSum])), (a_m_w, .inl (cI, 106, .inl m_w)), (a_m_d, .inl (cI, 216, .inl r5304.2.2.1))] H := hP
          have hD : va_D A [(a_m_then, .inl (cI, 8, .inl r5304.2.2.2)), (a_m_leans, .inl (cI, 8, .inl g5303)), (a_m, .inr (6, [.ref a_m_w, .ref a_m_d, .int m_undoes, .int m_kept, .ref a_m_text, .int m_texted, .int m_at, .ref a_m_numbers, .ref a_m_then, .ref a_m_leans, .int r5301.1, .int r5304.2.1, .int m_heards, .ref a_m_heardSet, .ref a_m_heardSum])), (a_m_w, .inl (cI, 106, .inl m_w)), (a_m_d, .inl (cI, 216, .inl r5304.2.2.1))] := hD
          refine lv_istore (lv' := [(5, .int r5306), (0, .ref a_m), (1, .int x1), (2, .int y2_20), (3, .int y3_20), (4, .int y4_20)]) hx hb dX6_blame_59 hl (by decide) rfl (fun ls hl => ?_)
          refine lv_iload_n hx hb dX6_blame_61 rfl (lv_at hl 3 rfl) ?_
          refine lv_bipush (v := (-4 : Int32)) hx hb dX6_blame_62 (by decide) ?_
          obtain ⟨j5308, hjj5308, h⟩ := ob h
          have Jj5308 : ∀ (H : Heap) (locs : List Loc), va_P (dC, dI) vwCl [(a_m_then, .inl (cI, 8, .inl r5304.2.2.2)), (a_m_leans, .inl (cI, 8, .inl g5303)), (a_m, .inr (6, [.ref a_m_w, .ref a_m_d, .int m_undoes, .int m_kept, .ref a_m_text, .int m_texted, .int m_at, .ref a_m_numbers, .ref a_m_then, .ref a_m_leans, .int r5301.1, .int r5304.2.1, .int m_heards, .ref a_m_heardSet, .ref a_m_heardSum])), (a_m_w, .inl (cI, 106, .inl m_w)), (a_m_d, .inl (cI, 216, .inl r5304.2.2.1))] H → va_D A [(a_m_then, .inl (cI, 8, .inl r5304.2.2.2)), (a_m_leans, .inl (cI, 8, .inl g5303)), (a_m, .inr (6, [.ref a_m_w, .ref a_m_d, .int m_undoes, .int m_kept, .ref a_m_text, .int m_texted, .int m_at, .ref a_m_numbers, .ref a_m_then, .ref a_m_leans, .int r5301.1, .int r5304.2.1, .int m_heards, .ref a_m_heardSet, .ref a_m_heardSum])), (a_m_w, .inl (cI, 106, .inl m_w)), (a_m_d, .inl (cI, 216, .inl r5304.2.2.1))] → va_S A s.heap H locs → ∀ ls : Array Slot, lv_has ls 7 [(0, .ref a_m), (1, .int x1), (2, .int y2_20), (3, .int y3_20), (4, .int y4_20), (5, .int r5306)] → W p l e (headSpec wsX6_blame rm_X6_blame).room s m ([.ref a_m, .int x1] : List Value).toArray below meth c H locs 0 0 QQ (F0 m 78 ls [.int j5308]) := by
            intro H locs hP hD hS ls hl
            refine lv_istore (lv' := [(6, .int j5308), (0, .ref a_m), (1, .int x1), (2, .int y2_20), (3, .int y3_20), (4, .int y4_20), (5, .int r5306)]) hx hb dX6_blame_78 hl (by decide) rfl (fun ls hl => ?_)
            refine lv_iload hx hb dX6_blame_80 (lv_at hl 0 rfl) ?_
            obtain ⟨j5309, hjj5309, h⟩ := ob h
            have Jj5309 : ∀ (H : Heap) (locs : List Loc), va_P (dC, dI) vwCl [(a_m_then, .inl (cI, 8, .inl r5304.2.2.2)), (a_m_leans, .inl (cI, 8, .inl g5303)), (a_m, .inr (6, [.ref a_m_w, .ref a_m_d, .int m_undoes, .int m_kept, .ref a_m_text, .int m_texted, .int m_at, .ref a_m_numbers, .ref a_m_then, .ref a_m_leans, .int r5301.1, .int r5304.2.1, .int m_heards, .ref a_m_heardSet, .ref a_m_heardSum])), (a_m_w, .inl (cI, 106, .inl m_w)), (a_m_d, .inl (cI, 216, .inl r5304.2.2.1))] H → va_D A [(a_m_then, .inl (cI, 8, .inl r5304.2.2.2)), (a_m_leans, .inl (cI, 8, .inl g5303)), (a_m, .inr (6, [.ref a_m_w, .ref a_m_d, .int m_undoes, .int m_kept, .ref a_m_text, .int m_texted, .int m_at, .ref a_m_numbers, .ref a_m_then, .ref a_m_leans, .int r5301.1, .int r5304.2.1, .int m_heards, .ref a_m_heardSet, .ref a_m_heardSum])), (a_m_w, .inl (cI, 106, .inl m_w)), (a_m_d, .inl (cI, 216, .inl r5304.2.2.1))] → va_S A s.heap H locs → ∀ ls : Array Slot, lv_has ls 7 [(0, .ref a_m), (1, .int x1), (2, .int y2_20), (3, .int y3_20), (4, .int y4_20), (5, .int r5306), (6, .int j5308)] → W p l e (headSpec wsX6_blame rm_X6_blame).room s m ([.ref a_m, .int x1] : List Value).toArray below meth c H locs 0 0 QQ (F0 m 91 ls [.int j5309]) := by
              intro H locs hP hD hS ls hl
              refine lv_istore_n (lv' := [(2, .int j5309), (0, .ref a_m), (1, .int x1), (3, .int y3_20), (4, .int y4_20), (5, .int r5306), (6, .int j5308)]) hx hb dX6_blame_91 rfl hl (by decide) rfl (fun ls hl => ?_)
              refine lv_iload hx hb dX6_blame_92 (lv_at hl 6 rfl) ?_
              obtain ⟨j5310, hjj5310, h⟩ := ob h
              have Jj5310 : ∀ (H : Heap) (locs : List Loc), va_P (dC, dI) vwCl [(a_m_then, .inl (cI, 8, .inl r5304.2.2.2)), (a_m_leans, .inl (cI, 8, .inl g5303)), (a_m, .inr (6, [.ref a_m_w, .ref a_m_d, .int m_undoes, .int m_kept, .ref a_m_text, .int m_texted, .int m_at, .ref a_m_numbers, .ref a_m_then, .ref a_m_leans, .int r5301.1, .int r5304.2.1, .int m_heards, .ref a_m_heardSet, .ref a_m_heardSum])), (a_m_w, .inl (cI, 106, .inl m_w)), (a_m_d, .inl (cI, 216, .inl r5304.2.2.1))] H → va_D A [(a_m_then, .inl (cI, 8, .inl r5304.2.2.2)), (a_m_leans, .inl (cI, 8, .inl g5303)), (a_m, .inr (6, [.ref a_m_w, .ref a_m_d, .int m_undoes, .int m_kept, .ref a_m_text, .int m_texted, .int m_at, .ref a_m_numbers, .ref a_m_then, .ref a_m_leans, .int r5301.1, .int r5304.2.1, .int m_heards, .ref a_m_heardSet, .ref a_m_heardSum])), (a_m_w, .inl (cI, 106, .inl m_w)), (a_m_d, .inl (cI, 216, .inl r5304.2.2.1))] → va_S A s.heap H locs → ∀ ls : Array Slot, lv_has ls 7 [(0, .ref a_m), (1, .int x1), (2, .int j5309), (3, .int y3_20), (4, .int y4_20), (5, .int r5306), (6, .int j5308)] → W p l e (headSpec wsX6_blame rm_X6_blame).room s m ([.ref a_m, .int x1] : List Value).toArray below meth c H locs 0 0 QQ (F0 m 103 ls [.int j5310]) := by
                intro H locs hP hD hS ls hl
                refine lv_istore_n (lv' := [(3, .int j5310), (0, .ref a_m), (1, .int x1), (2, .int j5309), (4, .int y4_20), (5, .int r5306), (6, .int j5308)]) hx hb dX6_blame_103 rfl hl (by decide) rfl (fun ls hl => ?_)
                refine lv_iinc (v := (y4_20 + (1 : Int32))) (lv' := [(4, .int (y4_20 + (1 : Int32))), (3, .int j5310), (0, .ref a_m), (1, .int x1), (2, .int j5309), (5, .int r5306), (6, .int j5308)]) hx hb dX6_blame_104 hl (k := 4) rfl rfl (by decide) rfl (fun ls hl => ?_)
                refine lv_goto (tgt := 20) hx hb dX6_blame_107 (by decide) ?_
                exact ih _ _ _ _ _ _ _ _ h _ _ (hP.sub [2, 3, 4, 0, 1] rfl) (hD.sub [2, 3, 4, 0, 1] (by decide +kernel) rfl) hS _ (lv_sub hl [2, 3, 4, 1, 0] rfl)
              refine lv_if_eq (tgt := 102) hx hb dX6_blame_94 (by decide) (fun c_94 => ?_) (fun c_94 => ?_)
              · have h := (if_pos c_94).symm.trans hjj5310
                refine lv_iload_n hx hb dX6_blame_102 rfl (lv_at hl 3 rfl) ?_
                obtain rfl := Option.some.inj h
                exact Jj5310 _ _ hP hD hS _ (lv_sub hl [1, 2, 0, 3, 4, 5, 6] rfl)
              · have h := (if_neg c_94).symm.trans hjj5310
                refine lv_iload hx hb dX6_blame_97 (lv_at hl 5 rfl) ?_
                refine lv_goto (tgt := 103) hx hb dX6_blame_99 (by decide) ?_
                obtain rfl := Option.some.inj h
                exact Jj5310 _ _ hP hD hS _ (lv_sub hl [1, 2, 0, 3, 4, 5, 6] rfl)
            refine lv_if_eq (tgt := 90) hx hb dX6_blame_82 (by decide) (fun c_82 => ?_) (fun c_82 => ?_)
            · have h := (if_pos c_82).symm.trans hjj5309
              refine lv_iload_n hx hb dX6_blame_90 rfl (lv_at hl 3 rfl) ?_
              obtain rfl := Option.some.inj h
              exact Jj5309 _ _ hP hD hS _ (lv_sub hl [1, 2, 3, 4, 5, 6, 0] rfl)
            · have h := (if_neg c_82).symm.trans hjj5309
              refine lv_iload hx hb dX6_blame_85 (lv_at hl 5 rfl) ?_
              refine lv_goto (tgt := 91) hx hb dX6_blame_87 (by decide) ?_
              obtain rfl := Option.some.inj h
              exact Jj5309 _ _ hP hD hS _ (lv_sub hl [1, 2, 3, 4, 5, 6, 0] rfl)
          refine lv_icmp_eq (tgt := 73) hx hb dX6_blame_64 (by decide) (fun c_64 => ?_) (fun c_64 => ?_)
          · have h := (if_pos c_64).symm.trans hjj5308
            refine lv_iconst (v := (1 : Int32)) hx hb dX6_blame_73 (by decide) ?_
            refine lv_goto (tgt := 78) hx hb dX6_blame_74 (by decide) ?_
            obtain rfl := Option.some.inj h
            exact Jj5308 _ _ hP hD hS _ (lv_sub hl [1, 2, 3, 4, 5, 0] rfl)
          · have h := (if_neg c_64).symm.trans hjj5308
            refine lv_iload hx hb dX6_blame_67 (lv_at hl 0 rfl) ?_
            refine lv_iload_n hx hb dX6_blame_69 rfl (lv_at hl 4 rfl) ?_
            refine lv_icmp_ge (tgt := 77) hx hb dX6_blame_70 (by decide) (fun c_70 => ?_) (fun c_70 => ?_)
            · have h := (if_pos c_70).symm.trans h
              refine lv_iconst (v := (0 : Int32)) hx hb dX6_blame_77 (by decide) ?_
              obtain rfl := Option.some.inj h
              exact Jj5308 _ _ hP hD hS _ (lv_sub hl [1, 2, 3, 4, 5, 0] rfl)
            · have h := (if_neg c_70).symm.trans h
              refine lv_iconst (v := (1 : Int32)) hx hb dX6_blame_73 (by decide) ?_
              refine lv_goto (tgt := 78) hx hb dX6_blame_74 (by decide) ?_
              obtain rfl := Option.some.inj h
              exact Jj5308 _ _ hP hD hS _ (lv_sub hl [1, 2, 3, 4, 5, 0] rfl)
    exact K20 n (-4 : Int32) (0 : Int32) (0 : Int32) m_draws m_drawn m_d m_then m_leans hjj5297 _ _ hP hD hS _ (lv_sub hl [3, 4, 2, 1, 0] rfl)
  · have h := (if_pos c_7).symm.trans h
    refine lv_iconst (v := (-1 : Int32)) hx hb dX6_blame_10 (by decide) ?_
    obtain rfl := Option.some.inj h
    subst hQe
    exact W.iret (v := (-1 : Int32)) hx hb hr (fun t ht hW => ⟨⟨(-1 : Int32), (), rfl, rfl, ⟨by rw [ht]; exact hP, hD⟩⟩, hS.F ht⟩) hS.2.2 dX6_blame_11
def rm_X6_fifths : Room := { frames := 1, cells := 0, slots := 0, locals := 25 }
set_option maxRecDepth 100000 in
set_option maxHeartbeats 8000000 in
theorem c_X6_fifths (l : Launch) (dC : Nat → ClassId) (dI : Nat → Nat → Nat) (cI cS : ClassId) (n sz : Nat) (a_m : Nat) (a_m_w : Nat) (a_m_d : Nat) (a_m_text : Nat) (a_m_numbers : Nat) (a_m_then : Nat) (a_m_leans : Nat) (a_m_heardSet : Nat) (a_m_heardSum : Nat) (m_undoes : Int32) (m_kept : Int32) (m_texted : Int32) (m_at : Int32) (m_draws : Int32) (m_drawn : Int32) (m_heards : Int32) (x1 : Int32) (x2 : Int32) (x3 : Int32) (res : Int32)  (h : F_X6_fifths n x1 x2 x3 = some res) : Met l yX6_fifths wsX6_fifths rm_X6_fifths (va_Pc [.ref a_m, .int x1, .int x2, .int x3] (PRE (dC, dI) vwCl [(cI, .int), (cS, .object "RoundOfTheA$State")] sz [(a_m, .inr (6, [.ref a_m_w, .ref a_m_d, .int m_undoes, .int m_kept, .ref a_m_text, .int m_texted, .int m_at, .ref a_m_numbers, .ref a_m_then, .ref a_m_leans, .int m_draws, .int m_drawn, .int m_heards, .ref a_m_heardSet, .ref a_m_heardSum]))])) (va_Qi (fun (r : Int32) (_ : Unit) => r = res) (fun u t => POST (dC, dI) vwCl [(a_m, .inr (6, [.ref a_m_w, .ref a_m_d, .int m_undoes, .int m_kept, .ref a_m_text, .int m_texted, .int m_at, .ref a_m_numbers, .ref a_m_then, .ref a_m_leans, .int m_draws, .int m_drawn, .int m_heards, .ref a_m_heardSet, .ref a_m_heardSum]))] (va_A [(a_m, .inr (6, [.ref a_m_w, .ref a_m_d, .int m_undoes, .int m_kept, .ref a_m_text, .int m_texted, .int m_at, .ref a_m_numbers, .ref a_m_then, .ref a_m_leans, .int m_draws, .int m_drawn, .int m_heards, .ref a_m_heardSet, .ref a_m_heardSum]))] sz) t) (va_A [(a_m, .inr (6, [.ref a_m_w, .ref a_m_d, .int m_undoes, .int m_kept, .ref a_m_text, .int m_texted, .int m_at, .ref a_m_numbers, .ref a_m_then, .ref a_m_leans, .int m_draws, .int m_drawn, .int m_heards, .ref a_m_heardSet, .ref a_m_heardSum]))] sz)) 0 0 (va_A [(a_m, .inr (6, [.ref a_m_w, .ref a_m_d, .int m_undoes, .int m_kept, .ref a_m_text, .int m_texted, .int m_at, .ref a_m_numbers, .ref a_m_then, .ref a_m_leans, .int m_draws, .int m_drawn, .int m_heards, .ref a_m_heardSet, .ref a_m_heardSum]))] sz) := by
  refine Met.ofW (cc := cX6_fifths) (maxL := 10) (ret := (some .int)) (by decide) rfl ?_
  intro p e s m args below meth c s₁ B hml hv
  obtain ⟨rfl, hsz, hN, hP, hK, hD0⟩ := hv
  have hx := B.exec
  have hb := B.bytes
  have hr := B.returns
  have hts := atoms_spec (ws := wsX6_fifths) B.pre
  have hown : s.vm.findClass RX6 = some m.cls := findClass_of_methodNamed B.named
  have hlocks := B.notSynchronized
  subst hsz
  have hD := hD0.self (sz := s.heap.size)
  generalize hAe : va_A [(a_m, .inr (6, [.ref a_m_w, .ref a_m_d, .int m_undoes, .int m_kept, .ref a_m_text, .int m_texted, .int m_at, .ref a_m_numbers, .ref a_m_then, .ref a_m_leans, .int m_draws, .int m_drawn, .int m_heards, .ref a_m_heardSet, .ref a_m_heardSum]))] s.heap.size = A at hD ⊢
  have hA : ∀ q : Nat, s.heap.size ≤ q → A q := fun q h => by rw [← hAe]; exact Or.inr h
  have hS : va_S A s.heap s.heap [] := va_S.rf
  generalize hQe : MQ below _ _ s _ _ A = QQ
  have hl := lv_entry ([.ref a_m, .int x1, .int x2, .int x3]) (n := 10) (Nat.le_of_ble_eq_true rfl)
  rw [lg_entry_eq]
  generalize (lg_sl ([.ref a_m, .int x1, .int x2, .int x3]) ++ List.replicate (10 - (lg_sl ([.ref a_m, .int x1, .int x2, .int x3])).length) Slot.unset).toArray = ls at hl ⊢
  have hl : lv_has ls 10 [(0, .ref a_m), (1, .int x1), (2, .int x2), (3, .int x3)] := hl
  have k_182 := hts (.constantLong RX6 182 (9)) (by decide +kernel)
  rw [F_X6_fifths] at h
  refine lv_iload_n hx hb dX6_fifths_0 rfl (lv_at hl 1 rfl) ?_
  refine lv_i2l (v := (Int32.toInt64 x1)) hx hb dX6_fifths_1 rfl ?_
  refine lv_lconst (v := (0 : Int64)) hx hb dX6_fifths_2 (by decide) ?_
  refine lv_ldc2 (v := (9 : Int64)) hx hb hown k_182 dX6_fifths_3 ?_
  obtain ⟨r5363, hr5363, h⟩ := ob h
  refine k_Si (As := [.long (Int32.toInt64 x1), .long (0 : Int64), .long (9 : Int64)]) (rest := []) (c_X6_in l dC dI cI cS n _ (Int32.toInt64 x1) (0 : Int64) (9 : Int64) r5363 hr5363) (fun _ _ q => q) ⟨hx, hb, hml, hown, hts⟩ (va_cwS 3 hts gX6_fifths_X6_in rfl rfl rfl (by decide +kernel) ⟨(Nat.le_of_ble_eq_true rfl), (Nat.le_of_ble_eq_true rfl)⟩) hN hK hP hD hS hA rfl hl.1 rfl (Nat.le_of_ble_eq_true rfl) dX6_fifths_6 ⟨(Nat.le_of_ble_eq_true rfl), (Nat.le_of_ble_eq_true rfl)⟩ (fun H locs hP hD hS => ?_)
  refine lv_if_eq (tgt := 34) hx hb dX6_fifths_9 (by decide) (fun c_9 => ?_) (fun c_9 => ?_)
  · have h := (if_pos c_9).symm.trans h
    refine lv_iconst (v := (-1 : Int32)) hx hb dX6_fifths_34 (by decide) ?_
    obtain rfl := Option.some.inj h
    subst hQe
    exact W.iret (v := (-1 : Int32)) hx hb hr (fun t ht hW => ⟨⟨(-1 : Int32), (), rfl, rfl, ⟨by rw [ht]; exact hP, hD⟩⟩, hS.F ht⟩) hS.2.2 dX6_fifths_35
  · have h := (if_neg c_9).symm.trans h
    refine lv_iload_n hx hb dX6_fifths_12 rfl (lv_at hl 2 rfl) ?_
    refine lv_i2l (v := (Int32.toInt64 x2)) hx hb dX6_fifths_13 rfl ?_
    refine lv_lconst (v := (0 : Int64)) hx hb dX6_fifths_14 (by decide) ?_
    refine lv_ldc2 (v := (9 : Int64)) hx hb hown k_182 dX6_fifths_15 ?_
    obtain ⟨r5365, hr5365, h⟩ := ob h
    refine k_Si (As := [.long (Int32.toInt64 x2), .long (0 : Int64), .long (9 : Int64)]) (rest := []) (c_X6_in l dC dI cI cS n _ (Int32.toInt64 x2) (0 : Int64) (9 : Int64) r5365 hr5365) (fun _ _ q => q) ⟨hx, hb, hml, hown, hts⟩ (va_cwS 3 hts gX6_fifths_X6_in rfl rfl rfl (by decide +kernel) ⟨(Nat.le_of_ble_eq_true rfl), (Nat.le_of_ble_eq_true rfl)⟩) hN hK hP hD hS hA rfl hl.1 rfl (Nat.le_of_ble_eq_true rfl) dX6_fifths_18 ⟨(Nat.le_of_ble_eq_true rfl), (Nat.le_of_ble_eq_true rfl)⟩ (fun H locs hP hD hS => ?_)
    refine lv_if_eq (tgt := 34) hx hb dX6_fifths_21 (by decide) (fun c_21 => ?_) (fun c_21 => ?_)
    · have h := (if_pos c_21).symm.trans h
      refine lv_iconst (v := (-1 : Int32)) hx hb dX6_fifths_34 (by decide) ?_
      obtain rfl := Option.some.inj h
      subst hQe
      exact W.iret (v := (-1 : Int32)) hx hb hr (fun t ht hW => ⟨⟨(-1 : Int32), (), rfl, rfl, ⟨by rw [ht]; exact hP, hD⟩⟩, hS.F ht⟩) hS.2.2 dX6_fifths_35
    · have h := (if_neg c_21).symm.trans h
      refine lv_iload_n hx hb dX6_fifths_24 rfl (lv_at hl 3 rfl) ?_
      refine lv_i2l (v := (Int32.toInt64 x3)) hx hb dX6_fifths_25 rfl ?_
      refine lv_lconst (v := (0 : Int64)) hx hb dX6_fifths_26 (by decide) ?_
      refine lv_lconst (v := (1 : Int64)) hx hb dX6_fifths_27 (by decide) ?_
      obtain ⟨r5367, hr5367, h⟩ := ob h
      refine k_Si (As := [.long (Int32.toInt64 x3), .long (0 : Int64), .long (1 : Int64)]) (rest := []) (c_X6_in l dC dI cI cS n _ (Int32.toInt64 x3) (0 : Int64) (1 : Int64) r5367 hr5367) (fun _ _ q => q) ⟨hx, hb, hml, hown, hts⟩ (va_cwS 3 hts gX6_fifths_X6_in rfl rfl rfl (by decide +kernel) ⟨(Nat.le_of_ble_eq_true rfl), (Nat.le_of_ble_eq_true rfl)⟩) hN hK hP hD hS hA rfl hl.1 rfl (Nat.le_of_ble_eq_true rfl) dX6_fifths_28 ⟨(Nat.le_of_ble_eq_true rfl), (Nat.le_of_ble_eq_true rfl)⟩ (fun H locs hP hD hS => ?_)
      refine lv_if_ne (tgt := 36) hx hb dX6_fifths_31 (by decide) (fun c_31 => ?_) (fun c_31 => ?_)
      · have h := (if_neg c_31).symm.trans h
        refine lv_iconst (v := (0 : Int32)) hx hb dX6_fifths_36 (by decide) ?_
        refine lv_istore (lv' := [(4, .int (0 : Int32)), (0, .ref a_m), (1, .int x1), (2, .int x2), (3, .int x3)]) hx hb dX6_fifths_37 hl (by decide) rfl (fun ls hl => ?_)
        refine lv_sipush (v := (1000 : Int32)) hx hb dX6_fifths_39 (by decide) ?_
        refine lv_istore (lv' := [(5, .int (1000 : Int32)), (4, .int (0 : Int32)), (0, .ref a_m), (1, .int x1), (2, .int x2), (3, .int x3)]) hx hb dX6_fifths_42 hl (by decide) rfl (fun ls hl => ?_)
        refine lv_bipush (v := (-20 : Int32)) hx hb dX6_fifths_44 (by decide) ?_
        refine lv_istore (lv' := [(6, .int (-20 : Int32)), (5, .int (1000 : Int32)), (4, .int (0 : Int32)), (0, .ref a_m), (1, .int x1), (2, .int x2), (3, .int x3)]) hx hb dX6_fifths_46 hl (by decide) rfl (fun ls hl => ?_)
        obtain ⟨j5400, hjj5400, h⟩ := ob h
        have Jj5400 : ∀ (H : Heap) (locs : List Loc), va_P (dC, dI) vwCl [(a_m, .inr (6, [.ref a_m_w, .ref a_m_d, .int m_undoes, .int m_kept, .ref a_m_text, .int m_texted, .int m_at, .ref a_m_numbers, .ref a_m_then, .ref a_m_leans, .int m_draws, .int m_drawn, .int m_heards, .ref a_m_heardSet, .ref a_m_heardSum]))] H → va_D A [(a_m, .inr (6, [.ref a_m_w, .ref a_m_d, .int m_undoes, .int m_kept, .ref a_m_text, .int m_texted, .int m_at, .ref a_m_numbers, .ref a_m_then, .ref a_m_leans, .int m_draws, .int m_drawn, .int m_heards, .ref a_m_heardSet, .ref a_m_heardSum]))] → va_S A s.heap H locs → ∀ ls : Array Slot, lv_has ls 10 [(0, .ref a_m), (1, .int x1), (2, .int x2), (3, .int x3), (4, .int j5400.1), (5, .int j5400.2.1), (6, .int j5400.2.2)] → W p l e (headSpec wsX6_fifths rm_X6_fifths).room s m ([.ref a_m, .int x1, .int x2, .int x3] : List Value).toArray below meth c H locs 0 0 QQ (F0 m 140 ls []) := by
          intro H locs hP hD hS ls hl
          refine lv_iload_n hx hb dX6_fifths_140 rfl (lv_at hl 3 rfl) ?_
          refine lv_if_ne (tgt := 152) hx hb dX6_fifths_141 (by decide) (fun c_141 => ?_) (fun c_141 => ?_)
          · have h := (if_neg c_141).symm.trans h
            refine lv_iload hx hb dX6_fifths_152 (lv_at hl 5 rfl) ?_
            obtain rfl := Option.some.inj h
            subst hQe
            exact W.iret (v := j5400.2.1) hx hb hr (fun t ht hW => ⟨⟨j5400.2.1, (), rfl, rfl, ⟨by rw [ht]; exact hP, hD⟩⟩, hS.F ht⟩) hS.2.2 dX6_fifths_154
          · have h := (if_pos c_141).symm.trans h
            refine lv_iload hx hb dX6_fifths_144 (lv_at hl 4 rfl) ?_
            refine lv_bipush (v := (20 : Int32)) hx hb dX6_fifths_146 (by decide) ?_
            refine lv_iadd hx hb dX6_fifths_148 ?_
            refine lv_goto (tgt := 154) hx hb dX6_fifths_149 (by decide) ?_
            obtain rfl := Option.some.inj h
            subst hQe
            exact W.iret (v := (j5400.1 + (20 : Int32))) hx hb hr (fun t ht hW => ⟨⟨(j5400.1 + (20 : Int32)), (), rfl, rfl, ⟨by rw [ht]; exact hP, hD⟩⟩, hS.F ht⟩) hS.2.2 dX6_fifths_154
        have K48 : ∀ (k : Nat) (y4_48 : Int32) (y5_48 : Int32) (y6_48 : Int32), L_X6_fifths_48 n x1 x2 k y4_48 y5_48 y6_48 = some j5400 → ∀ (H : Heap) (locs : List Loc), va_P (dC, dI) vwCl [(a_m, .inr (6, [.ref a_m_w, .ref a_m_d, .int m_undoes, .int m_kept, .ref a_m_text, .int m_texted, .int m_at, .ref a_m_numbers, .ref a_m_then, .ref a_m_leans, .int m_draws, .int m_drawn, .int m_heards, .ref a_m_heardSet, .ref a_m_heardSum]))] H → va_D A [(a_m, .inr (6, [.ref a_m_w, .ref a_m_d, .int m_undoes, .int m_kept, .ref a_m_text, .int m_texted, .int m_at, .ref a_m_numbers, .ref a_m_then, .ref a_m_leans, .int m_draws, .int m_drawn, .int m_heards, .ref a_m_heardSet, .ref a_m_heardSum]))] → va_S A s.heap H locs → ∀ ls : Array Slot, lv_has ls 10 [(0, .ref a_m), (1, .int x1), (2, .int x2), (3, .int x3), (4, .int y4_48), (5, .int y5_48), (6, .int y6_48)] → W p l e (headSpec wsX6_fifths rm_X6_fifths).room s m ([.ref a_m, .int x1, .int x2, .int x3] : List Value).toArray below meth c H locs 0 0 QQ (F0 m 48 ls []) := by
          intro k
          induction k with
          | zero =>
            intro y4_48 y5_48 y6_48 h
            rw [L_X6_fifths_48] at h
            cases h
          | succ k ih =>
            intro y4_48 y5_48 y6_48 h H locs hP hD hS ls hl
            rw [L_X6_fifths_48] at h
            refine lv_iload hx hb dX6_fifths_48 (lv_at hl 6 rfl) ?_
            refine lv_bipush (v := (20 : Int32)) hx hb dX6_fifths_50 (by decide) ?_
            refine lv_icmp_gt (tgt := 140) hx hb dX6_fifths_52 (by decide) (fun c_52 => ?_) (fun c_52 => ?_)
            · have h := (if_pos c_52).symm.trans h
              obtain rfl := Option.some.inj h
              exact Jj5400 _ _ hP hD hS _ hl
            · have h := (if_neg c_52).symm.trans h
              refine lv_iconst (v := (0 : Int32)) hx hb dX6_fifths_55 (by decide) ?_
              refine lv_istore (lv' := [(7, .int (0 : Int32)), (0, .ref a_m), (1, .int x1), (2, .int x2), (3, .int x3), (4, .int y4_48), (5, .int y5_48), (6, .int y6_48)]) hx hb dX6_fifths_56 hl (by decide) rfl (fun ls hl => ?_)
              refine lv_iload_n hx hb dX6_fifths_58 rfl (lv_at hl 2 rfl) ?_
              refine lv_ineg hx hb dX6_fifths_59 ?_
              refine lv_istore (lv' := [(8, .int (-x1)), (7, .int (0 : Int32)), (0, .ref a_m), (1, .int x1), (2, .int x2), (3, .int x3), (4, .int y4_48), (5, .int y5_48), (6, .int y6_48)]) hx hb dX6_fifths_60 hl (by decide) rfl (fun ls hl => ?_)
              obtain ⟨j5409, hjj5409, h⟩ := ob h
              have Jj5409 : ∀ (H : Heap) (locs : List Loc), va_P (dC, dI) vwCl [(a_m, .inr (6, [.ref a_m_w, .ref a_m_d, .int m_undoes, .int m_kept, .ref a_m_text, .int m_texted, .int m_at, .ref a_m_numbers, .ref a_m_then, .ref a_m_leans, .int m_draws, .int m_drawn, .int m_heards, .ref a_m_heardSet, .ref a_m_heardSum]))] H → va_D A [(a_m, .inr (6, [.ref a_m_w, .ref a_m_d, .int m_undoes, .int m_kept, .ref a_m_text, .int m_texted, .int m_at, .ref a_m_numbers, .ref a_m_then, .ref a_m_leans, .int m_draws, .int m_drawn, .int m_heards, .ref a_m_heardSet, .ref a_m_heardSum]))] → va_S A s.heap H locs → ∀ ls : Array Slot, lv_has ls 10 [(0, .ref a_m), (1, .int x1), (2, .int x2), (3, .int x3), (4, .int y4_48), (5, .int y5_48), (6, .int y6_48), (7, .int j5409.1), (8, .int j5409.2)] → W p l e (headSpec wsX6_fifths rm_X6_fifths).room s m ([.ref a_m, .int x1, .int x2, .int x3] : List Value).toArray below meth c H locs 0 0 QQ (F0 m 102 ls []) := by
                intro H locs hP hD hS ls hl
                refine lv_iload hx hb dX6_fifths_102 (lv_at hl 7 rfl) ?_
                refine lv_iload hx hb dX6_fifths_104 (lv_at hl 5 rfl) ?_
                obtain ⟨j5413, hjj5413, h⟩ := ob h
                have Jj5413 : ∀ (H : Heap) (locs : List Loc), va_P (dC, dI) vwCl [(a_m, .inr (6, [.ref a_m_w, .ref a_m_d, .int m_undoes, .int m_kept, .ref a_m_text, .int m_texted, .int m_at, .ref a_m_numbers, .ref a_m_then, .ref a_m_leans, .int m_draws, .int m_drawn, .int m_heards, .ref a_m_heardSet, .ref a_m_heardSum]))] H → va_D A [(a_m, .inr (6, [.ref a_m_w, .ref a_m_d, .int m_undoes, .int m_kept, .ref a_m_text, .int m_texted, .int m_at, .ref a_m_numbers, .ref a_m_then, .ref a_m_leans, .int m_draws, .int m_drawn, .int m_heards, .ref a_m_heardSet, .ref a_m_heardSum]))] → va_S A s.heap H locs → ∀ ls : Array Slot, lv_has ls 10 [(0, .ref a_m), (1, .int x1), (2, .int x2), (3, .int x3), (4, .int y4_48), (5, .int y5_48), (6, .int y6_48), (7, .int j5409.1), (8, .int j5409.2)] → W p l e (headSpec wsX6_fifths rm_X6_fifths).room s m ([.ref a_m, .int x1, .int x2, .int x3] : List Value).toArray below meth c H locs 0 0 QQ (F0 m 116 ls [.int j5413]) := by
                  intro H locs hP hD hS ls hl
                  refine lv_istore (lv' := [(4, .int j5413), (0, .ref a_m), (1, .int x1), (2, .int x2), (3, .int x3), (5, .int y5_48), (6, .int y6_48), (7, .int j5409.1), (8, .int j5409.2)]) hx hb dX6_fifths_116 hl (by decide) rfl (fun ls hl => ?_)
                  refine lv_iload hx hb dX6_fifths_118 (lv_at hl 7 rfl) ?_
                  refine lv_iload hx hb dX6_fifths_120 (lv_at hl 5 rfl) ?_
                  obtain ⟨j5414, hjj5414, h⟩ := ob h
                  have Jj5414 : ∀ (H : Heap) (locs : List Loc), va_P (dC, dI) vwCl [(a_m, .inr (6, [.ref a_m_w, .ref a_m_d, .int m_undoes, .int m_kept, .ref a_m_text, .int m_texted, .int m_at, .ref a_m_numbers, .ref a_m_then, .ref a_m_leans, .int m_draws, .int m_drawn, .int m_heards, .ref a_m_heardSet, .ref a_m_heardSum]))] H → va_D A [(a_m, .inr (6, [.ref a_m_w, .ref a_m_d, .int m_undoes, .int m_kept, .ref a_m_text, .int m_texted, .int m_at, .ref a_m_numbers, .ref a_m_then, .ref a_m_leans, .int m_draws, .int m_drawn, .int m_heards, .ref a_m_heardSet, .ref a_m_heardSum]))] → va_S A s.heap H locs → ∀ ls : Array Slot, lv_has ls 10 [(0, .ref a_m), (1, .int x1), (2, .int x2), (3, .int x3), (4, .int j5413), (5, .int y5_48), (6, .int y6_48), (7, .int j5409.1), (8, .int j5409.2)] → W p l e (headSpec wsX6_fifths rm_X6_fifths).room s m ([.ref a_m, .int x1, .int x2, .int x3] : List Value).toArray below meth c H locs 0 0 QQ (F0 m 132 ls [.int j5414]) := by
                    intro H locs hP hD hS ls hl
                    refine lv_istore (lv' := [(5, .int j5414), (0, .ref a_m), (1, .int x1), (2, .int x2), (3, .int x3), (4, .int j5413), (6, .int y6_48), (7, .int j5409.1), (8, .int j5409.2)]) hx hb dX6_fifths_132 hl (by decide) rfl (fun ls hl => ?_)
                    refine lv_iinc (v := (y6_48 + (1 : Int32))) (lv' := [(6, .int (y6_48 + (1 : Int32))), (5, .int j5414), (0, .ref a_m), (1, .int x1), (2, .int x2), (3, .int x3), (4, .int j5413), (7, .int j5409.1), (8, .int j5409.2)]) hx hb dX6_fifths_134 hl (k := 6) rfl rfl (by decide) rfl (fun ls hl => ?_)
                    refine lv_goto (tgt := 48) hx hb dX6_fifths_137 (by decide) ?_
                    exact ih _ _ _ h _ _ hP hD hS _ (lv_sub hl [2, 3, 4, 5, 6, 1, 0] rfl)
                  refine lv_icmp_ge (tgt := 130) hx hb dX6_fifths_122 (by decide) (fun c_122 => ?_) (fun c_122 => ?_)
                  · have h := (if_pos c_122).symm.trans hjj5414
                    refine lv_iload hx hb dX6_fifths_130 (lv_at hl 5 rfl) ?_
                    obtain rfl := Option.some.inj h
                    exact Jj5414 _ _ hP hD hS _ (lv_sub hl [1, 2, 3, 4, 0, 5, 6, 7, 8] rfl)
                  · have h := (if_neg c_122).symm.trans hjj5414
                    refine lv_iload hx hb dX6_fifths_125 (lv_at hl 7 rfl) ?_
                    refine lv_goto (tgt := 132) hx hb dX6_fifths_127 (by decide) ?_
                    obtain rfl := Option.some.inj h
                    exact Jj5414 _ _ hP hD hS _ (lv_sub hl [1, 2, 3, 4, 0, 5, 6, 7, 8] rfl)
                refine lv_icmp_ge (tgt := 114) hx hb dX6_fifths_106 (by decide) (fun c_106 => ?_) (fun c_106 => ?_)
                · have h := (if_pos c_106).symm.trans hjj5413
                  refine lv_iload hx hb dX6_fifths_114 (lv_at hl 4 rfl) ?_
                  obtain rfl := Option.some.inj h
                  exact Jj5413 _ _ hP hD hS _ hl
                · have h := (if_neg c_106).symm.trans hjj5413
                  refine lv_iload hx hb dX6_fifths_109 (lv_at hl 6 rfl) ?_
                  refine lv_goto (tgt := 116) hx hb dX6_fifths_111 (by decide) ?_
                  obtain rfl := Option.some.inj h
                  exact Jj5413 _ _ hP hD hS _ hl
              have K62 : ∀ (k : Nat) (y7_62 : Int32) (y8_62 : Int32), L_X6_fifths_62 n x2 y6_48 k y7_62 y8_62 = some j5409 → ∀ (H : Heap) (locs : List Loc), va_P (dC, dI) vwCl [(a_m, .inr (6, [.ref a_m_w, .ref a_m_d, .int m_undoes, .int m_kept, .ref a_m_text, .int m_texted, .int m_at, .ref a_m_numbers, .ref a_m_then, .ref a_m_leans, .int m_draws, .int m_drawn, .int m_heards, .ref a_m_heardSet, .ref a_m_heardSum]))] H → va_D A [(a_m, .inr (6, [.ref a_m_w, .ref a_m_d, .int m_undoes, .int m_kept, .ref a_m_text, .int m_texted, .int m_at, .ref a_m_numbers, .ref a_m_then, .ref a_m_leans, .int m_draws, .int m_drawn, .int m_heards, .ref a_m_heardSet, .ref a_m_heardSum]))] → va_S A s.heap H locs → ∀ ls : Array Slot, lv_has ls 10 [(0, .ref a_m), (1, .int x1), (2, .int x2), (3, .int x3), (4, .int y4_48), (5, .int y5_48), (6, .int y6_48), (7, .int y7_62), (8, .int y8_62)] → W p l e (headSpec wsX6_fifths rm_X6_fifths).room s m ([.ref a_m, .int x1, .int x2, .int x3] : List Value).toArray below meth c H locs 0 0 QQ (F0 m 62 ls []) := by
                intro k
                induction k with
                | zero =>
                  intro y7_62 y8_62 h
                  rw [L_X6_fifths_62] at h
                  cases h
                | succ k ih =>
                  intro y7_62 y8_62 h H locs hP hD hS ls hl
                  rw [L_X6_fifths_62] at h
                  refine lv_iload hx hb dX6_fifths_62 (lv_at hl 8 rfl) ?_
                  refine lv_iload_n hx hb dX6_fifths_64 rfl (lv_at hl 2 rfl) ?_
                  refine lv_icmp_gt (tgt := 102) hx hb dX6_fifths_65 (by decide) (fun c_65 => ?_) (fun c_65 => ?_)
                  · have h := (if_pos c_65).symm.trans h
                    obtain rfl := Option.some.inj h
                    exact Jj5409 _ _ hP hD hS _ hl
                  · have h := (if_neg c_65).symm.trans h
                    refine lv_iconst (v := (2 : Int32)) hx hb dX6_fifths_68 (by decide) ?_
                    refine lv_iload hx hb dX6_fifths_69 (lv_at hl 8 rfl) ?_
                    refine lv_imul hx hb dX6_fifths_71 ?_
                    refine lv_iload hx hb dX6_fifths_72 (lv_at hl 6 rfl) ?_
                    refine lv_iadd hx hb dX6_fifths_74 ?_
                    obtain ⟨r5410, hr5410, h⟩ := ob h
                    refine k_Si (As := [.int (((2 : Int32) * y8_62) + y6_48)]) (rest := []) (c_X6_plain l dC dI cI cS n _ (((2 : Int32) * y8_62) + y6_48) r5410 hr5410) (fun _ _ q => q) ⟨hx, hb, hml, hown, hts⟩ (va_cwS 1 hts gX6_fifths_X6_plain rfl rfl rfl (by decide +kernel) ⟨(Nat.le_of_ble_eq_true rfl), (Nat.le_of_ble_eq_true rfl)⟩) hN hK hP hD hS hA rfl hl.1 rfl (Nat.le_of_ble_eq_true rfl) dX6_fifths_75 ⟨(Nat.le_of_ble_eq_true rfl), (Nat.le_of_ble_eq_true rfl)⟩ (fun H locs hP hD hS => ?_)
                    refine lv_istore (lv' := [(9, .int r5410), (0, .ref a_m), (1, .int x1), (2, .int x2), (3, .int x3), (4, .int y4_48), (5, .int y5_48), (6, .int y6_48), (7, .int y7_62), (8, .int y8_62)]) hx hb dX6_fifths_78 hl (by decide) rfl (fun ls hl => ?_)
                    refine lv_iload hx hb dX6_fifths_80 (lv_at hl 0 rfl) ?_
                    refine lv_iload hx hb dX6_fifths_82 (lv_at hl 8 rfl) ?_
                    obtain ⟨j5412, hjj5412, h⟩ := ob h
                    have Jj5412 : ∀ (H : Heap) (locs : List Loc), va_P (dC, dI) vwCl [(a_m, .inr (6, [.ref a_m_w, .ref a_m_d, .int m_undoes, .int m_kept, .ref a_m_text, .int m_texted, .int m_at, .ref a_m_numbers, .ref a_m_then, .ref a_m_leans, .int m_draws, .int m_drawn, .int m_heards, .ref a_m_heardSet, .ref a_m_heardSum]))] H → va_D A [(a_m, .inr (6, [.ref a_m_w, .ref a_m_d, .int m_undoes, .int m_kept, .ref a_m_text, .int m_texted, .int m_at, .ref a_m_numbers, .ref a_m_then, .ref a_m_leans, .int m_draws, .int m_drawn, .int m_heards, .ref a_m_heardSet, .ref a_m_heardSum]))] → va_S A s.heap H locs → ∀ ls : Array Slot, lv_has ls 10 [(0, .ref a_m), (1, .int x1), (2, .int x2), (3, .int x3), (4, .int y4_48), (5, .int y5_48), (6, .int y6_48), (7, .int y7_62), (8, .int y8_62), (9, .int r5410)] → W p l e (headSpec wsX6_fifths rm_X6_fifths).room s m ([.ref a_m, .int x1, .int x2, .int x3] : List Value).toArray below meth c H locs 0 0 QQ (F0 m 94 ls [.int j5412]) := by
                      intro H locs hP hD hS ls hl
                      refine lv_istore (lv' := [(7, .int j5412), (0, .ref a_m), (1, .int x1), (2, .int x2), (3, .int x3), (4, .int y4_48), (5, .int y5_48), (6, .int y6_48), (8, .int y8_62), (9, .int r5410)]) hx hb dX6_fifths_94 hl (by decide) rfl (fun ls hl => ?_)
                      refine lv_iinc (v := (y8_62 + (1 : Int32))) (lv' := [(8, .int (y8_62 + (1 : Int32))), (7, .int j5412), (0, .ref a_m), (1, .int x1), (2, .int x2), (3, .int x3), (4, .int y4_48), (5, .int y5_48), (6, .int y6_48), (9, .int r5410)]) hx hb dX6_fifths_96 hl (k := 8) rfl rfl (by decide) rfl (fun ls hl => ?_)
                      refine lv_goto (tgt := 62) hx hb dX6_fifths_99 (by decide) ?_
                      exact ih _ _ h _ _ hP hD hS _ (lv_sub hl [2, 3, 4, 5, 6, 7, 8, 1, 0] rfl)
                    refine lv_icmp_le (tgt := 92) hx hb dX6_fifths_84 (by decide) (fun c_84 => ?_) (fun c_84 => ?_)
                    · have h := (if_pos c_84).symm.trans hjj5412
                      refine lv_iload hx hb dX6_fifths_92 (lv_at hl 8 rfl) ?_
                      obtain rfl := Option.some.inj h
                      exact Jj5412 _ _ hP hD hS _ (lv_sub hl [1, 2, 3, 4, 5, 6, 7, 8, 9, 0] rfl)
                    · have h := (if_neg c_84).symm.trans hjj5412
                      refine lv_iload hx hb dX6_fifths_87 (lv_at hl 0 rfl) ?_
                      refine lv_goto (tgt := 94) hx hb dX6_fifths_89 (by decide) ?_
                      obtain rfl := Option.some.inj h
                      exact Jj5412 _ _ hP hD hS _ (lv_sub hl [1, 2, 3, 4, 5, 6, 7, 8, 9, 0] rfl)
              exact K62 n (0 : Int32) (-x1) hjj5409 _ _ hP hD hS _ (lv_sub hl [2, 3, 4, 5, 6, 7, 8, 1, 0] rfl)
        exact K48 n (0 : Int32) (1000 : Int32) (-20 : Int32) hjj5400 _ _ hP hD hS _ (lv_sub hl [3, 4, 5, 6, 2, 1, 0] rfl)
      · have h := (if_pos c_31).symm.trans h
        refine lv_iconst (v := (-1 : Int32)) hx hb dX6_fifths_34 (by decide) ?_
        obtain rfl := Option.some.inj h
        subst hQe
        exact W.iret (v := (-1 : Int32)) hx hb hr (fun t ht hW => ⟨⟨(-1 : Int32), (), rfl, rfl, ⟨by rw [ht]; exact hP, hD⟩⟩, hS.F ht⟩) hS.2.2 dX6_fifths_35
def rm_X6_together : Room := { frames := 2, cells := 0, slots := 0, locals := 46 }
set_option maxRecDepth 100000 in
set_option maxHeartbeats 8000000 in
theorem c_X6_together (l : Launch) (dC : Nat → ClassId) (dI : Nat → Nat → Nat) (cI cS : ClassId) (n sz : Nat) (a_m : Nat) (a_m_w : Nat) (a_m_d : Nat) (a_m_text : Nat) (a_m_numbers : Nat) (a_m_then : Nat) (a_m_leans : Nat) (a_m_heardSet : Nat) (a_m_heardSum : Nat) (m_w : Nat → Int32) (m_undoes : Int32) (m_kept : Int32) (m_texted : Int32) (m_at : Int32) (m_draws : Int32) (m_drawn : Int32) (m_heards : Int32) (m_heardSet : Nat → Int32) (m_heardSum : Nat → Int32) (x1 : Int32) (x2 : Int32) (res : Int32 × Int32 × (Nat → Int32) × (Nat → Int32))  (h : F_X6_together n m_w m_heards m_heardSet m_heardSum x1 x2 = some res) : Met l yX6_together wsX6_together rm_X6_together (va_Pc [.ref a_m, .int x1, .int x2] (PRE (dC, dI) vwCl [(cI, .int), (cS, .object "RoundOfTheA$State")] sz [(a_m, .inr (6, [.ref a_m_w, .ref a_m_d, .int m_undoes, .int m_kept, .ref a_m_text, .int m_texted, .int m_at, .ref a_m_numbers, .ref a_m_then, .ref a_m_leans, .int m_draws, .int m_drawn, .int m_heards, .ref a_m_heardSet, .ref a_m_heardSum])), (a_m_w, .inl (cI, 106, .inl m_w)), (a_m_heardSet, .inl (cI, 8, .inl m_heardSet)), (a_m_heardSum, .inl (cI, 8, .inl m_heardSum))])) (va_Qi (fun (r : Int32) (_ : Unit) => r = res.1) (fun u t => POST (dC, dI) vwCl [(a_m, .inr (6, [.ref a_m_w, .ref a_m_d, .int m_undoes, .int m_kept, .ref a_m_text, .int m_texted, .int m_at, .ref a_m_numbers, .ref a_m_then, .ref a_m_leans, .int m_draws, .int m_drawn, .int res.2.1, .ref a_m_heardSet, .ref a_m_heardSum])), (a_m_w, .inl (cI, 106, .inl m_w)), (a_m_heardSet, .inl (cI, 8, .inl res.2.2.1)), (a_m_heardSum, .inl (cI, 8, .inl res.2.2.2))] (va_A [(a_m, .inr (6, [.ref a_m_w, .ref a_m_d, .int m_undoes, .int m_kept, .ref a_m_text, .int m_texted, .int m_at, .ref a_m_numbers, .ref a_m_then, .ref a_m_leans, .int m_draws, .int m_drawn, .int m_heards, .ref a_m_heardSet, .ref a_m_heardSum])), (a_m_w, .inl (cI, 106, .inl m_w)), (a_m_heardSet, .inl (cI, 8, .inl m_heardSet)), (a_m_heardSum, .inl (cI, 8, .inl m_heardSum))] sz) t) (va_A [(a_m, .inr (6, [.ref a_m_w, .ref a_m_d, .int m_undoes, .int m_kept, .ref a_m_text, .int m_texted, .int m_at, .ref a_m_numbers, .ref a_m_then, .ref a_m_leans, .int m_draws, .int m_drawn, .int m_heards, .ref a_m_heardSet, .ref a_m_heardSum])), (a_m_w, .inl (cI, 106, .inl m_w)), (a_m_heardSet, .inl (cI, 8, .inl m_heardSet)), (a_m_heardSum, .inl (cI, 8, .inl m_heardSum))] sz)) 0 0 (va_A [(a_m, .inr (6, [.ref a_m_w, .ref a_m_d, .int m_undoes, .int m_kept, .ref a_m_text, .int m_texted, .int m_at, .ref a_m_numbers, .ref a_m_then, .ref a_m_leans, .int m_draws, .int m_drawn, .int m_heards, .ref a_m_heardSet, .ref a_m_heardSum])), (a_m_w, .inl (cI, 106, .inl m_w)), (a_m_heardSet, .inl (cI, 8, .inl m_heardSet)), (a_m_heardSum, .inl (cI, 8, .inl m_heardSum))] sz) := by
  refine Met.ofW (cc := cX6_together) (maxL := 3) (ret := (some .int)) (by decide) rfl ?_
  intro p e s m args below meth c s₁ B hml hv
  obtain ⟨rfl, hsz, hN, hP, hK, hD0⟩ := hv
  have hx := B.exec
  have hb := B.bytes
  have hr := B.returns
  have hts := atoms_spec (ws := wsX6_together) B.pre
  have hown : s.vm.findClass RX6 = some m.cls := findClass_of_methodNamed B.named
  have hlocks := B.notSynchronized
  subst hsz
  have hD := hD0.self (sz := s.heap.size)
  generalize hAe : va_A [(a_m, .inr (6, [.ref a_m_w, .ref a_m_d, .int m_undoes, .int m_kept, .ref a_m_text, .int m_texted, .int m_at, .ref a_m_numbers, .ref a_m_then, .ref a_m_leans, .int m_draws, .int m_drawn, .int m_heards, .ref a_m_heardSet, .ref a_m_heardSum])), (a_m_w, .inl (cI, 106, .inl m_w)), (a_m_heardSet, .inl (cI, 8, .inl m_heardSet)), (a_m_heardSum, .inl (cI, 8, .inl m_heardSum))] s.heap.size = A at hD ⊢
  have hA : ∀ q : Nat, s.heap.size ≤ q → A q := fun q h => by rw [← hAe]; exact Or.inr h
  have hS : va_S A s.heap s.heap [] := va_S.rf
  generalize hQe : MQ below _ _ s _ _ A = QQ
  have hl := lv_entry ([.ref a_m, .int x1, .int x2]) (n := 3) (Nat.le_of_ble_eq_true rfl)
  rw [lg_entry_eq]
  generalize (lg_sl ([.ref a_m, .int x1, .int x2]) ++ List.replicate (3 - (lg_sl ([.ref a_m, .int x1, .int x2])).length) Slot.unset).toArray = ls at hl ⊢
  have hl : lv_has ls 3 [(0, .ref a_m), (1, .int x1), (2, .int x2)] := hl
  have k_184 := hts (.constantLong RX6 184 (400)) (by decide +kernel)
  have f_51 := hts (.fieldLink RX6 51 "RoundOfTheAModel" "heards" "I") (by decide +kernel)
  have in_X6 := (by decide +kernel : ∀ w ∈ wsX60, w ∈ wsX6_together)
  have f_28 := hts (.fieldLink RX6 28 "RoundOfTheAModel" "heardSet" "[I") (by decide +kernel)
  have f_31 := hts (.fieldLink RX6 31 "RoundOfTheAModel" "heardSum" "[I") (by decide +kernel)
  rw [F_X6_together] at h
  refine lv_aload_n hx hb dX6_together_0 rfl (lv_at hl 0 rfl) ?_
  refine lv_iload_n hx hb dX6_together_1 rfl (lv_at hl 1 rfl) ?_
  obtain ⟨r5421, hr5421, h⟩ := ob h
  refine k_Vi (As := [.int x1]) (rest := []) (wr := [(a_m_heardSet, .inl (cI, 8, .inl m_heardSet)), (a_m_heardSum, .inl (cI, 8, .inl m_heardSum))]) (c_X6_isSet l dC dI cI cS n _ a_m a_m_w a_m_d a_m_text a_m_numbers a_m_then a_m_leans a_m_heardSet a_m_heardSum m_w m_undoes m_kept m_texted m_at m_draws m_drawn m_heards x1 r5421 hr5421) (fun _ _ q => q) ⟨hx, hb, hml, hown, hts⟩ (cwV 1 hts gX6_together_X6_isSet rfl rfl rfl (by decide +kernel) ⟨(Nat.le_of_ble_eq_true rfl), (Nat.le_of_ble_eq_true rfl)⟩) hN hK hP hD hS hA [0, 1] [2, 3] rfl rfl (by decide) (by decide) (by decide) rfl rfl rfl hl.1 rfl (Nat.le_of_ble_eq_true rfl) dX6_together_2 ⟨(Nat.le_of_ble_eq_true rfl), (Nat.le_of_ble_eq_true rfl)⟩ (fun u5422 H locs _ hP hD hS => ?_)
  have hP : va_P (dC, dI) vwCl [(a_m_heardSet, .inl (cI, 8, .inl m_heardSet)), (a_m_heardSum, .inl (cI, 8, .inl m_heardSum)), (a_m, .inr (6, [.ref a_m_w, .ref a_m_d, .int m_undoes, .int m_kept, .ref a_m_text, .int m_texted, .int m_at, .ref a_m_numbers, .ref a_m_then, .ref a_m_leans, .int m_draws, .int m_drawn, .int m_heards, .ref a_m_heardSet, .ref a_m_heardSum])), (a_m_w, .inl (cI, 106, .inl m_w))] H := hP
  have hD : va_D A [(a_m_heardSet, .inl (cI, 8, .inl m_heardSet)), (a_m_heardSum, .inl (cI, 8, .inl m_heardSum)), (a_m, .inr (6, [.ref a_m_w, .ref a_m_d, .int m_undoes, .int m_kept, .ref a_m_text, .int m_texted, .int m_at, .ref a_m_numbers, .ref a_m_then, .ref a_m_leans, .int m_draws, .int m_drawn, .int m_heards, .ref a_m_heardSet, .ref a_m_heardSum])), (a_m_w, .inl (cI, 106, .inl m_w))] := hD
  refine lv_if_eq (tgt := 24) hx hb dX6_together_5 (by decide) (fun c_5 => ?_) (fun c_5 => ?_)
  · have h := (if_pos c_5).symm.trans h
    refine lv_iconst (v := (-1 : Int32)) hx hb dX6_together_24 (by decide) ?_
    obtain rfl := Option.some.inj h
    subst hQe
    exact W.iret (v := (-1 : Int32)) hx hb hr (fun t ht hW => ⟨⟨(-1 : Int32), (), rfl, rfl, ⟨by rw [ht]; exact hP.sub [2, 3, 0, 1] rfl, hD.sub [2, 3, 0, 1] (by decide +kernel) rfl⟩⟩, hS.F ht⟩) hS.2.2 dX6_together_25
  · have h := (if_neg c_5).symm.trans h
    refine lv_iload_n hx hb dX6_together_8 rfl (lv_at hl 1 rfl) ?_
    refine lv_if_eq (tgt := 24) hx hb dX6_together_9 (by decide) (fun c_9 => ?_) (fun c_9 => ?_)
    · have h := (if_pos c_9).symm.trans h
      refine lv_iconst (v := (-1 : Int32)) hx hb dX6_together_24 (by decide) ?_
      obtain rfl := Option.some.inj h
      subst hQe
      exact W.iret (v := (-1 : Int32)) hx hb hr (fun t ht hW => ⟨⟨(-1 : Int32), (), rfl, rfl, ⟨by rw [ht]; exact hP.sub [2, 3, 0, 1] rfl, hD.sub [2, 3, 0, 1] (by decide +kernel) rfl⟩⟩, hS.F ht⟩) hS.2.2 dX6_together_25
    · have h := (if_neg c_9).symm.trans h
      refine lv_iload_n hx hb dX6_together_12 rfl (lv_at hl 2 rfl) ?_
      refine lv_i2l (v := (Int32.toInt64 x2)) hx hb dX6_together_13 rfl ?_
      refine lv_lconst (v := (0 : Int64)) hx hb dX6_together_14 (by decide) ?_
      refine lv_ldc2 (v := (400 : Int64)) hx hb hown k_184 dX6_together_15 ?_
      obtain ⟨r5423, hr5423, h⟩ := ob h
      refine k_Si (As := [.long (Int32.toInt64 x2), .long (0 : Int64), .long (400 : Int64)]) (rest := []) (c_X6_in l dC dI cI cS n _ (Int32.toInt64 x2) (0 : Int64) (400 : Int64) r5423 hr5423) (fun _ _ q => q) ⟨hx, hb, hml, hown, hts⟩ (va_cwS 3 hts gX6_together_X6_in rfl rfl rfl (by decide +kernel) ⟨(Nat.le_of_ble_eq_true rfl), (Nat.le_of_ble_eq_true rfl)⟩) hN hK hP hD hS hA rfl hl.1 rfl (Nat.le_of_ble_eq_true rfl) dX6_together_18 ⟨(Nat.le_of_ble_eq_true rfl), (Nat.le_of_ble_eq_true rfl)⟩ (fun H locs hP hD hS => ?_)
      refine lv_if_ne (tgt := 26) hx hb dX6_together_21 (by decide) (fun c_21 => ?_) (fun c_21 => ?_)
      · have h := (if_neg c_21).symm.trans h
        refine lv_aload_n hx hb dX6_together_26 rfl (lv_at hl 0 rfl) ?_
        refine va_get (D := (dC, dI)) (ci := 6) (v := .int m_heards) (C := RX6) (T := TX6) (N := 15) hx hb hts in_X6 hown hK hP 2 rfl rfl 12 (by decide) f_51 (fun _ h9 => h9) rfl dX6_together_27 ?_
        refine lv_bipush (v := (8 : Int32)) hx hb dX6_together_30 (by decide) ?_
        refine lv_icmp_ne (tgt := 38) hx hb dX6_together_32 (by decide) (fun c_32 => ?_) (fun c_32 => ?_)
        · have h := (if_neg c_32).symm.trans h
          refine lv_aload_n hx hb dX6_together_38 rfl (lv_at hl 0 rfl) ?_
          refine va_get (D := (dC, dI)) (ci := 6) (v := .ref a_m_heardSet) (C := RX6) (T := TX6) (N := 15) hx hb hts in_X6 hown hK hP 2 rfl rfl 13 (by decide) f_28 (fun _ h9 => h9) rfl dX6_together_39 ?_
          refine lv_aload_n hx hb dX6_together_42 rfl (lv_at hl 0 rfl) ?_
          refine va_get (D := (dC, dI)) (ci := 6) (v := .int m_heards) (C := RX6) (T := TX6) (N := 15) hx hb hts in_X6 hown hK hP 2 rfl rfl 12 (by decide) f_51 (fun _ h9 => h9) rfl dX6_together_43 ?_
          refine lv_iload_n hx hb dX6_together_46 rfl (lv_at hl 1 rfl) ?_
          obtain ⟨g5425, hg5425, h⟩ := ob h
          refine k_st hx hb hK hP hD hS 0 0 rfl rfl hg5425 dX6_together_47 (ws' := [(a_m_heardSet, .inl (cI, 8, .inl g5425)), (a_m_heardSum, .inl (cI, 8, .inl m_heardSum)), (a_m, .inr (6, [.ref a_m_w, .ref a_m_d, .int m_undoes, .int m_kept, .ref a_m_text, .int m_texted, .int m_at, .ref a_m_numbers, .ref a_m_then, .ref a_m_leans, .int m_draws, .int m_drawn, .int m_heards, .ref a_m_heardSet, .ref a_m_heardSum])), (a_m_w, .inl (cI, 106, .inl m_w))]) rfl (fun H locs hP hD hS => ?_)
          refine lv_aload_n hx hb dX6_together_48 rfl (lv_at hl 0 rfl) ?_
          refine va_get (D := (dC, dI)) (ci := 6) (v := .ref a_m_heardSum) (C := RX6) (T := TX6) (N := 15) hx hb hts in_X6 hown hK hP 2 rfl rfl 14 (by decide) f_31 (fun _ h9 => h9) rfl dX6_together_49 ?_
          refine lv_aload_n hx hb dX6_together_52 rfl (lv_at hl 0 rfl) ?_
          refine va_get (D := (dC, dI)) (ci := 6) (v := .int m_heards) (C := RX6) (T := TX6) (N := 15) hx hb hts in_X6 hown hK hP 2 rfl rfl 12 (by decide) f_51 (fun _ h9 => h9) rfl dX6_together_53 ?_
          refine lv_iload_n hx hb dX6_together_56 rfl (lv_at hl 2 rfl) ?_
          refine lv_sipush (v := (200 : Int32)) hx hb dX6_together_57 (by decide) ?_
          refine lv_isub hx hb dX6_together_60 ?_
          obtain ⟨g5426, hg5426, h⟩ := ob h
          refine k_st hx hb hK hP hD hS 1 0 rfl rfl hg5426 dX6_together_61 (ws' := [(a_m_heardSet, .inl (cI, 8, .inl g5425)), (a_m_heardSum, .inl (cI, 8, .inl g5426)), (a_m, .inr (6, [.ref a_m_w, .ref a_m_d, .int m_undoes, .int m_kept, .ref a_m_text, .int m_texted, .int m_at, .ref a_m_numbers, .ref a_m_then, .ref a_m_leans, .int m_draws, .int m_drawn, .int m_heards, .ref a_m_heardSet, .ref a_m_heardSum])), (a_m_w, .inl (cI, 106, .inl m_w))]) rfl (fun H locs hP hD hS => ?_)
          refine lv_aload_n hx hb dX6_together_62 rfl (lv_at hl 0 rfl) ?_
          refine lv_dup hx hb dX6_together_63 rfl ?_
          refine va_get (D := (dC, dI)) (ci := 6) (v := .int m_heards) (C := RX6) (T := TX6) (N := 15) hx hb hts in_X6 hown hK hP 2 rfl rfl 12 (by decide) f_51 (fun _ h9 => h9) rfl dX6_together_64 ?_
          refine lv_iconst (v := (1 : Int32)) hx hb dX6_together_67 (by decide) ?_
          refine lv_iadd hx hb dX6_together_68 ?_
          refine va_put (D := (dC, dI)) (ci := 6) (v := .int (m_heards + (1 : Int32))) (ty := .int) (C := RX6) (T := TX6) (N := 15) hx hb hts in_X6 tyX6 tyX6_ok nmX6 hown hK hP hD hS 2 rfl rfl 12 (by decide) f_51 (fun _ h9 => h9) rfl (by decide +kernel) rfl rfl (Nat.le_of_ble_eq_true rfl) dX6_together_69 (fun H locs hP hD hS => ?_)
          have hP : va_P (dC, dI) vwCl [(a_m_heardSet, .inl (cI, 8, .inl g5425)), (a_m_heardSum, .inl (cI, 8, .inl g5426)), (a_m, .inr (6, [.ref a_m_w, .ref a_m_d, .int m_undoes, .int m_kept, .ref a_m_text, .int m_texted, .int m_at, .ref a_m_numbers, .ref a_m_then, .ref a_m_leans, .int m_draws, .int m_drawn, .int (m_heards + (1 : Int32)), .ref a_m_heardSet, .ref a_m_heardSum])), (a_m_w, .inl (cI, 106, .inl m_w))] H := hP
          have hD : va_D A [(a_m_heardSet, .inl (cI, 8, .inl g5425)), (a_m_heardSum, .inl (cI, 8, .inl g5426)), (a_m, .inr (6, [.ref a_m_w, .ref a_m_d, .int m_undoes, .int m_kept, .ref a_m_text, .int m_texted, .int m_at, .ref a_m_numbers, .ref a_m_then, .ref a_m_leans, .int m_draws, .int m_drawn, .int (m_heards + (1 : Int32)), .ref a_m_heardSet, .ref a_m_heardSum])), (a_m_w, .inl (cI, 106, .inl m_w))] := hD
          refine lv_aload_n hx hb dX6_together_72 rfl (lv_at hl 0 rfl) ?_
          refine va_get (D := (dC, dI)) (ci := 6) (v := .int (m_heards + (1 : Int32))) (C := RX6) (T := TX6) (N := 15) hx hb hts in_X6 hown hK hP 2 rfl rfl 12 (by decide) f_51 (fun _ h9 => h9) rfl dX6_together_73 ?_
          obtain rfl := Option.some.inj h
          subst hQe
          exact W.iret (v := (m_heards + (1 : Int32))) hx hb hr (fun t ht hW => ⟨⟨(m_heards + (1 : Int32)), (), rfl, rfl, ⟨by rw [ht]; exact hP.sub [2, 3, 0, 1] rfl, hD.sub [2, 3, 0, 1] (by decide +kernel) rfl⟩⟩, hS.F ht⟩) hS.2.2 dX6_together_76
        · have h := (if_pos c_32).symm.trans h
          refine lv_bipush (v := (-3 : Int32)) hx hb dX6_together_35 (by decide) ?_
          obtain rfl := Option.some.inj h
          subst hQe
          exact W.iret (v := (-3 : Int32)) hx hb hr (fun t ht hW => ⟨⟨(-3 : Int32), (), rfl, rfl, ⟨by rw [ht]; exact hP.sub [2, 3, 0, 1] rfl, hD.sub [2, 3, 0, 1] (by decide +kernel) rfl⟩⟩, hS.F ht⟩) hS.2.2 dX6_together_37
      · have h := (if_pos c_21).symm.trans h
        refine lv_iconst (v := (-1 : Int32)) hx hb dX6_together_24 (by decide) ?_
        obtain rfl := Option.some.inj h
        subst hQe
        exact W.iret (v := (-1 : Int32)) hx hb hr (fun t ht hW => ⟨⟨(-1 : Int32), (), rfl, rfl, ⟨by rw [ht]; exact hP.sub [2, 3, 0, 1] rfl, hD.sub [2, 3, 0, 1] (by decide +kernel) rfl⟩⟩, hS.F ht⟩) hS.2.2 dX6_together_25
def rm_X6_forget : Room := { frames := 0, cells := 0, slots := 0, locals := 0 }
set_option maxRecDepth 100000 in
set_option maxHeartbeats 8000000 in
theorem c_X6_forget (l : Launch) (dC : Nat → ClassId) (dI : Nat → Nat → Nat) (cI cS : ClassId) (n sz : Nat) (a_m : Nat) (a_m_w : Nat) (a_m_d : Nat) (a_m_text : Nat) (a_m_numbers : Nat) (a_m_then : Nat) (a_m_leans : Nat) (a_m_heardSet : Nat) (a_m_heardSum : Nat) (m_undoes : Int32) (m_kept : Int32) (m_texted : Int32) (m_at : Int32) (m_draws : Int32) (m_drawn : Int32) (m_heards : Int32) (res : Int32 × Int32)  (h : F_X6_forget n m_heards = some res) : Met l yX6_forget wsX6_forget rm_X6_forget (va_Pc [.ref a_m] (PRE (dC, dI) vwCl [(cI, .int), (cS, .object "RoundOfTheA$State")] sz [(a_m, .inr (6, [.ref a_m_w, .ref a_m_d, .int m_undoes, .int m_kept, .ref a_m_text, .int m_texted, .int m_at, .ref a_m_numbers, .ref a_m_then, .ref a_m_leans, .int m_draws, .int m_drawn, .int m_heards, .ref a_m_heardSet, .ref a_m_heardSum]))])) (va_Qi (fun (r : Int32) (_ : Unit) => r = res.1) (fun u t => POST (dC, dI) vwCl [(a_m, .inr (6, [.ref a_m_w, .ref a_m_d, .int m_undoes, .int m_kept, .ref a_m_text, .int m_texted, .int m_at, .ref a_m_numbers, .ref a_m_then, .ref a_m_leans, .int m_draws, .int m_drawn, .int res.2, .ref a_m_heardSet, .ref a_m_heardSum]))] (va_A [(a_m, .inr (6, [.ref a_m_w, .ref a_m_d, .int m_undoes, .int m_kept, .ref a_m_text, .int m_texted, .int m_at, .ref a_m_numbers, .ref a_m_then, .ref a_m_leans, .int m_draws, .int m_drawn, .int m_heards, .ref a_m_heardSet, .ref a_m_heardSum]))] sz) t) (va_A [(a_m, .inr (6, [.ref a_m_w, .ref a_m_d, .int m_undoes, .int m_kept, .ref a_m_text, .int m_texted, .int m_at, .ref a_m_numbers, .ref a_m_then, .ref a_m_leans, .int m_draws, .int m_drawn, .int m_heards, .ref a_m_heardSet, .ref a_m_heardSum]))] sz)) 0 0 (va_A [(a_m, .inr (6, [.ref a_m_w, .ref a_m_d, .int m_undoes, .int m_kept, .ref a_m_text, .int m_texted, .int m_at, .ref a_m_numbers, .ref a_m_then, .ref a_m_leans, .int m_draws, .int m_drawn, .int m_heards, .ref a_m_heardSet, .ref a_m_heardSum]))] sz) := by
  refine Met.ofW (cc := cX6_forget) (maxL := 2) (ret := (some .int)) (by decide) rfl ?_
  intro p e s m args below meth c s₁ B hml hv
  obtain ⟨rfl, hsz, hN, hP, hK, hD0⟩ := hv
  have hx := B.exec
  have hb := B.bytes
  have hr := B.returns
  have hts := atoms_spec (ws := wsX6_forget) B.pre
  have hown : s.vm.findClass RX6 = some m.cls := findClass_of_methodNamed B.named
  have hlocks := B.notSynchronized
  subst hsz
  have hD := hD0.self (sz := s.heap.size)
  generalize hAe : va_A [(a_m, .inr (6, [.ref a_m_w, .ref a_m_d, .int m_undoes, .int m_kept, .ref a_m_text, .int m_texted, .int m_at, .ref a_m_numbers, .ref a_m_then, .ref a_m_leans, .int m_draws, .int m_drawn, .int m_heards, .ref a_m_heardSet, .ref a_m_heardSum]))] s.heap.size = A at hD ⊢
  have hA : ∀ q : Nat, s.heap.size ≤ q → A q := fun q h => by rw [← hAe]; exact Or.inr h
  have hS : va_S A s.heap s.heap [] := va_S.rf
  generalize hQe : MQ below _ _ s _ _ A = QQ
  have hl := lv_entry ([.ref a_m]) (n := 2) (Nat.le_of_ble_eq_true rfl)
  rw [lg_entry_eq]
  generalize (lg_sl ([.ref a_m]) ++ List.replicate (2 - (lg_sl ([.ref a_m])).length) Slot.unset).toArray = ls at hl ⊢
  have hl : lv_has ls 2 [(0, .ref a_m)] := hl
  have f_51 := hts (.fieldLink RX6 51 "RoundOfTheAModel" "heards" "I") (by decide +kernel)
  have in_X6 := (by decide +kernel : ∀ w ∈ wsX60, w ∈ wsX6_forget)
  rw [F_X6_forget] at h
  refine lv_aload_n hx hb dX6_forget_0 rfl (lv_at hl 0 rfl) ?_
  refine va_get (D := (dC, dI)) (ci := 6) (v := .int m_heards) (C := RX6) (T := TX6) (N := 15) hx hb hts in_X6 hown hK hP 0 rfl rfl 12 (by decide) f_51 (fun _ h9 => h9) rfl dX6_forget_1 ?_
  refine lv_istore_n (lv' := [(1, .int m_heards), (0, .ref a_m)]) hx hb dX6_forget_4 rfl hl (by decide) rfl (fun ls hl => ?_)
  refine lv_aload_n hx hb dX6_forget_5 rfl (lv_at hl 1 rfl) ?_
  refine lv_iconst (v := (0 : Int32)) hx hb dX6_forget_6 (by decide) ?_
  refine va_put (D := (dC, dI)) (ci := 6) (v := .int (0 : Int32)) (ty := .int) (C := RX6) (T := TX6) (N := 15) hx hb hts in_X6 tyX6 tyX6_ok nmX6 hown hK hP hD hS 0 rfl rfl 12 (by decide) f_51 (fun _ h9 => h9) rfl (by decide +kernel) rfl rfl (Nat.le_of_ble_eq_true rfl) dX6_forget_7 (fun H locs hP hD hS => ?_)
  have hP : va_P (dC, dI) vwCl [(a_m, .inr (6, [.ref a_m_w, .ref a_m_d, .int m_undoes, .int m_kept, .ref a_m_text, .int m_texted, .int m_at, .ref a_m_numbers, .ref a_m_then, .ref a_m_leans, .int m_draws, .int m_drawn, .int (0 : Int32), .ref a_m_heardSet, .ref a_m_heardSum]))] H := hP
  have hD : va_D A [(a_m, .inr (6, [.ref a_m_w, .ref a_m_d, .int m_undoes, .int m_kept, .ref a_m_text, .int m_texted, .int m_at, .ref a_m_numbers, .ref a_m_then, .ref a_m_leans, .int m_draws, .int m_drawn, .int (0 : Int32), .ref a_m_heardSet, .ref a_m_heardSum]))] := hD
  refine lv_iload_n hx hb dX6_forget_10 rfl (lv_at hl 0 rfl) ?_
  obtain rfl := Option.some.inj h
  subst hQe
  exact W.iret (v := m_heards) hx hb hr (fun t ht hW => ⟨⟨m_heards, (), rfl, rfl, ⟨by rw [ht]; exact hP, hD⟩⟩, hS.F ht⟩) hS.2.2 dX6_forget_11
def rm_X6_isSo : Room := { frames := 1, cells := 0, slots := 0, locals := 21 }
set_option maxRecDepth 100000 in
set_option maxHeartbeats 8000000 in
theorem c_X6_isSo (l : Launch) (dC : Nat → ClassId) (dI : Nat → Nat → Nat) (cI cS : ClassId) (n sz : Nat) (a_m : Nat) (a_m_w : Nat) (a_m_d : Nat) (a_m_text : Nat) (a_m_numbers : Nat) (a_m_then : Nat) (a_m_leans : Nat) (a_m_heardSet : Nat) (a_m_heardSum : Nat) (m_w : Nat → Int32) (m_d : Nat → Int32) (m_undoes : Int32) (m_kept : Int32) (m_texted : Int32) (m_at : Int32) (m_draws : Int32) (m_drawn : Int32) (m_heards : Int32) (m_heardSet : Nat → Int32) (m_heardSum : Nat → Int32) (x1 : Int32) (x2 : Int32) (res : Int32)  (h : F_X6_isSo n m_w m_d m_heards m_heardSet m_heardSum x1 x2 = some res) : Met l yX6_isSo wsX6_isSo rm_X6_isSo (va_Pc [.ref a_m, .int x1, .int x2] (PRE (dC, dI) vwCl [(cI, .int), (cS, .object "RoundOfTheA$State")] sz [(a_m, .inr (6, [.ref a_m_w, .ref a_m_d, .int m_undoes, .int m_kept, .ref a_m_text, .int m_texted, .int m_at, .ref a_m_numbers, .ref a_m_then, .ref a_m_leans, .int m_draws, .int m_drawn, .int m_heards, .ref a_m_heardSet, .ref a_m_heardSum])), (a_m_w, .inl (cI, 106, .inl m_w)), (a_m_d, .inl (cI, 216, .inl m_d)), (a_m_heardSet, .inl (cI, 8, .inl m_heardSet)), (a_m_heardSum, .inl (cI, 8, .inl m_heardSum))])) (va_Qi (fun (r : Int32) (_ : Unit) => r = res) (fun u t => POST (dC, dI) vwCl [(a_m, .inr (6, [.ref a_m_w, .ref a_m_d, .int m_undoes, .int m_kept, .ref a_m_text, .int m_texted, .int m_at, .ref a_m_numbers, .ref a_m_then, .ref a_m_leans, .int m_draws, .int m_drawn, .int m_heards, .ref a_m_heardSet, .ref a_m_heardSum])), (a_m_w, .inl (cI, 106, .inl m_w)), (a_m_d, .inl (cI, 216, .inl m_d)), (a_m_heardSet, .inl (cI, 8, .inl m_heardSet)), (a_m_heardSum, .inl (cI, 8, .inl m_heardSum))] (va_A [(a_m, .inr (6, [.ref a_m_w, .ref a_m_d, .int m_undoes, .int m_kept, .ref a_m_text, .int m_texted, .int m_at, .ref a_m_numbers, .ref a_m_then, .ref a_m_leans, .int m_draws, .int m_drawn, .int m_heards, .ref a_m_heardSet, .ref a_m_heardSum])), (a_m_w, .inl (cI, 106, .inl m_w)), (a_m_d, .inl (cI, 216, .inl m_d)), (a_m_heardSet, .inl (cI, 8, .inl m_heardSet)), (a_m_heardSum, .inl (cI, 8, .inl m_heardSum))] sz) t) (va_A [(a_m, .inr (6, [.ref a_m_w, .ref a_m_d, .int m_undoes, .int m_kept, .ref a_m_text, .int m_texted, .int m_at, .ref a_m_numbers, .ref a_m_then, .ref a_m_leans, .int m_draws, .int m_drawn, .int m_heards, .ref a_m_heardSet, .ref a_m_heardSum])), (a_m_w, .inl (cI, 106, .inl m_w)), (a_m_d, .inl (cI, 216, .inl m_d)), (a_m_heardSet, .inl (cI, 8, .inl m_heardSet)), (a_m_heardSum, .inl (cI, 8, .inl m_heardSum))] sz)) 0 0 (va_A [(a_m, .inr (6, [.ref a_m_w, .ref a_m_d, .int m_undoes, .int m_kept, .ref a_m_text, .int m_texted, .int m_at, .ref a_m_numbers, .ref a_m_then, .ref a_m_leans, .int m_draws, .int m_drawn, .int m_heards, .ref a_m_heardSet, .ref a_m_heardSum])), (a_m_w, .inl (cI, 106, .inl m_w)), (a_m_d, .inl (cI, 216, .inl m_d)), (a_m_heardSet, .inl (cI, 8, .inl m_heardSet)), (a_m_heardSum, .inl (cI, 8, .inl m_heardSum))] sz) := by
  refine Met.ofW (cc := cX6_isSo) (maxL := 7) (ret := (some .boolean)) (by decide) rfl ?_
  intro p e s m args below meth c s₁ B hml hv
  obtain ⟨rfl, hsz, hN, hP, hK, hD0⟩ := hv
  have hx := B.exec
  have hb := B.bytes
  have hr := B.returns
  have hts := atoms_spec (ws := wsX6_isSo) B.pre
  have hown : s.vm.findClass RX6 = some m.cls := findClass_of_methodNamed B.named
  have hlocks := B.notSynchronized
  subst hsz
  have hD := hD0.self (sz := s.heap.size)
  generalize hAe : va_A [(a_m, .inr (6, [.ref a_m_w, .ref a_m_d, .int m_undoes, .int m_kept, .ref a_m_text, .int m_texted, .int m_at, .ref a_m_numbers, .ref a_m_then, .ref a_m_leans, .int m_draws, .int m_drawn, .int m_heards, .ref a_m_heardSet, .ref a_m_heardSum])), (a_m_w, .inl (cI, 106, .inl m_w)), (a_m_d, .inl (cI, 216, .inl m_d)), (a_m_heardSet, .inl (cI, 8, .inl m_heardSet)), (a_m_heardSum, .inl (cI, 8, .inl m_heardSum))] s.heap.size = A at hD ⊢
  have hA : ∀ q : Nat, s.heap.size ≤ q → A q := fun q h => by rw [← hAe]; exact Or.inr h
  have hS : va_S A s.heap s.heap [] := va_S.rf
  generalize hQe : MQ below _ _ s _ _ A = QQ
  have hl := lv_entry ([.ref a_m, .int x1, .int x2]) (n := 7) (Nat.le_of_ble_eq_true rfl)
  rw [lg_entry_eq]
  generalize (lg_sl ([.ref a_m, .int x1, .int x2]) ++ List.replicate (7 - (lg_sl ([.ref a_m, .int x1, .int x2])).length) Slot.unset).toArray = ls at hl ⊢
  have hl : lv_has ls 7 [(0, .ref a_m), (1, .int x1), (2, .int x2)] := hl
  have f_51 := hts (.fieldLink RX6 51 "RoundOfTheAModel" "heards" "I") (by decide +kernel)
  have in_X6 := (by decide +kernel : ∀ w ∈ wsX60, w ∈ wsX6_isSo)
  have f_28 := hts (.fieldLink RX6 28 "RoundOfTheAModel" "heardSet" "[I") (by decide +kernel)
  have f_7 := hts (.fieldLink RX6 7 "RoundOfTheAModel" "w" "[I") (by decide +kernel)
  have f_13 := hts (.fieldLink RX6 13 "RoundOfTheAModel" "d" "[I") (by decide +kernel)
  have f_31 := hts (.fieldLink RX6 31 "RoundOfTheAModel" "heardSum" "[I") (by decide +kernel)
  rw [F_X6_isSo] at h
  refine lv_iconst (v := (1 : Int32)) hx hb dX6_isSo_0 (by decide) ?_
  refine lv_istore_n (lv' := [(3, .int (1 : Int32)), (0, .ref a_m), (1, .int x1), (2, .int x2)]) hx hb dX6_isSo_1 rfl hl (by decide) rfl (fun ls hl => ?_)
  refine lv_iconst (v := (0 : Int32)) hx hb dX6_isSo_2 (by decide) ?_
  refine lv_istore (lv' := [(4, .int (0 : Int32)), (3, .int (1 : Int32)), (0, .ref a_m), (1, .int x1), (2, .int x2)]) hx hb dX6_isSo_3 hl (by decide) rfl (fun ls hl => ?_)
  obtain ⟨j5587, hjj5587, h⟩ := ob h
  have Jj5587 : ∀ (H : Heap) (locs : List Loc), va_P (dC, dI) vwCl [(a_m, .inr (6, [.ref a_m_w, .ref a_m_d, .int m_undoes, .int m_kept, .ref a_m_text, .int m_texted, .int m_at, .ref a_m_numbers, .ref a_m_then, .ref a_m_leans, .int m_draws, .int m_drawn, .int m_heards, .ref a_m_heardSet, .ref a_m_heardSum])), (a_m_w, .inl (cI, 106, .inl m_w)), (a_m_d, .inl (cI, 216, .inl m_d)), (a_m_heardSet, .inl (cI, 8, .inl m_heardSet)), (a_m_heardSum, .inl (cI, 8, .inl m_heardSum))] H → va_D A [(a_m, .inr (6, [.ref a_m_w, .ref a_m_d, .int m_undoes, .int m_kept, .ref a_m_text, .int m_texted, .int m_at, .ref a_m_numbers, .ref a_m_then, .ref a_m_leans, .int m_draws, .int m_drawn, .int m_heards, .ref a_m_heardSet, .ref a_m_heardSum])), (a_m_w, .inl (cI, 106, .inl m_w)), (a_m_d, .inl (cI, 216, .inl m_d)), (a_m_heardSet, .inl (cI, 8, .inl m_heardSet)), (a_m_heardSum, .inl (cI, 8, .inl m_heardSum))] → va_S A s.heap H locs → ∀ ls : Array Slot, lv_has ls 7 [(0, .ref a_m), (1, .int x1), (2, .int x2), (3, .int j5587.1), (4, .int j5587.2)] → W p l e (headSpec wsX6_isSo rm_X6_isSo).room s m ([.ref a_m, .int x1, .int x2] : List Value).toArray below meth c H locs 0 0 QQ (F0 m 116 ls []) := by
    intro H locs hP hD hS ls hl
    refine lv_iload_n hx hb dX6_isSo_116 rfl (lv_at hl 3 rfl) ?_
    obtain ⟨u5619, hu5619, h⟩ := ob h
    obtain rfl := Option.some.inj h
    subst hQe
    exact W.zret (v := j5587.1) (ty := .boolean) hx hb hr (zb_some hu5619) (fun t ht hW => ⟨⟨j5587.1, (), rfl, rfl, ⟨by rw [ht]; exact hP, hD⟩⟩, hS.F ht⟩) hS.2.2 dX6_isSo_117
  have K5 : ∀ (k : Nat) (y3_5 : Int32) (y4_5 : Int32), L_X6_isSo_5 n m_w m_d m_heards m_heardSet m_heardSum x1 x2 k y3_5 y4_5 = some j5587 → ∀ (H : Heap) (locs : List Loc), va_P (dC, dI) vwCl [(a_m, .inr (6, [.ref a_m_w, .ref a_m_d, .int m_undoes, .int m_kept, .ref a_m_text, .int m_texted, .int m_at, .ref a_m_numbers, .ref a_m_then, .ref a_m_leans, .int m_draws, .int m_drawn, .int m_heards, .ref a_m_heardSet, .ref a_m_heardSum])), (a_m_w, .inl (cI, 106, .inl m_w)), (a_m_d, .inl (cI, 216, .inl m_d)), (a_m_heardSet, .inl (cI, 8, .inl m_heardSet)), (a_m_heardSum, .inl (cI, 8, .inl m_heardSum))] H → va_D A [(a_m, .inr (6, [.ref a_m_w, .ref a_m_d, .int m_undoes, .int m_kept, .ref a_m_text, .int m_texted, .int m_at, .ref a_m_numbers, .ref a_m_then, .ref a_m_leans, .int m_draws, .int m_drawn, .int m_heards, .ref a_m_heardSet, .ref a_m_heardSum])), (a_m_w, .inl (cI, 106, .inl m_w)), (a_m_d, .inl (cI, 216, .inl m_d)), (a_m_heardSet, .inl (cI, 8, .inl m_heardSet)), (a_m_heardSum, .inl (cI, 8, .inl m_heardSum))] → va_S A s.heap H locs → ∀ ls : Array Slot, lv_has ls 7 [(0, .ref a_m), (1, .int x1), (2, .int x2), (3, .int y3_5), (4, .int y4_5)] → W p l e (headSpec wsX6_isSo rm_X6_isSo).room s m ([.ref a_m, .int x1, .int x2] : List Value).toArray below meth c H locs 0 0 QQ (F0 m 5 ls []) := by
    intro k
    induction k with
    | zero =>
      intro y3_5 y4_5 h
      rw [L_X6_isSo_5] at h
      cases h
    | succ k ih =>
      intro y3_5 y4_5 h H locs hP hD hS ls hl
      rw [L_X6_isSo_5] at h
      refine lv_iload hx hb dX6_isSo_5 (lv_at hl 4 rfl) ?_
      refine lv_aload_n hx hb dX6_isSo_7 rfl (lv_at hl 0 rfl) ?_
      refine va_get (D := (dC, dI)) (ci := 6) (v := .int m_heards) (C := RX6) (T := TX6) (N := 15) hx hb hts in_X6 hown hK hP 0 rfl rfl 12 (by decide) f_51 (fun _ h9 => h9) rfl dX6_isSo_8 ?_
      refine lv_icmp_ge (tgt := 116) hx hb dX6_isSo_11 (by decide) (fun c_11 => ?_) (fun c_11 => ?_)
      · have h := (if_pos c_11).symm.trans h
        obtain rfl := Option.some.inj h
        exact Jj5587 _ _ hP hD hS _ hl
      · have h := (if_neg c_11).symm.trans h
        refine lv_aload_n hx hb dX6_isSo_14 rfl (lv_at hl 0 rfl) ?_
        refine va_get (D := (dC, dI)) (ci := 6) (v := .ref a_m_heardSet) (C := RX6) (T := TX6) (N := 15) hx hb hts in_X6 hown hK hP 0 rfl rfl 13 (by decide) f_28 (fun _ h9 => h9) rfl dX6_isSo_15 ?_
        refine lv_iload hx hb dX6_isSo_18 (lv_at hl 4 rfl) ?_
        obtain ⟨v5588, hv5588, h⟩ := ob h
        refine k_ld hx hb hK hP 3 0 rfl rfl hv5588 dX6_isSo_20 ?_
        refine lv_iload_n hx hb dX6_isSo_21 rfl (lv_at hl 1 rfl) ?_
        obtain ⟨r5589, hr5589, h⟩ := ob h
        refine k_Si (As := [.int v5588, .int x1]) (rest := []) (c_X6_has l dC dI cI cS n _ v5588 x1 r5589 hr5589) (fun _ _ q => q) ⟨hx, hb, hml, hown, hts⟩ (va_cwS 2 hts gX6_isSo_X6_has rfl rfl rfl (by decide +kernel) ⟨(Nat.le_of_ble_eq_true rfl), (Nat.le_of_ble_eq_true rfl)⟩) hN hK hP hD hS hA rfl hl.1 rfl (Nat.le_of_ble_eq_true rfl) dX6_isSo_22 ⟨(Nat.le_of_ble_eq_true rfl), (Nat.le_of_ble_eq_true rfl)⟩ (fun H locs hP hD hS => ?_)
        obtain ⟨j5591, hjj5591, h⟩ := ob h
        have Jj5591 : ∀ (H : Heap) (locs : List Loc), va_P (dC, dI) vwCl [(a_m, .inr (6, [.ref a_m_w, .ref a_m_d, .int m_undoes, .int m_kept, .ref a_m_text, .int m_texted, .int m_at, .ref a_m_numbers, .ref a_m_then, .ref a_m_leans, .int m_draws, .int m_drawn, .int m_heards, .ref a_m_heardSet, .ref a_m_heardSum])), (a_m_w, .inl (cI, 106, .inl m_w)), (a_m_d, .inl (cI, 216, .inl m_d)), (a_m_heardSet, .inl (cI, 8, .inl m_heardSet)), (a_m_heardSum, .inl (cI, 8, .inl m_heardSum))] H → va_D A [(a_m, .inr (6, [.ref a_m_w, .ref a_m_d, .int m_undoes, .int m_kept, .ref a_m_text, .int m_texted, .int m_at, .ref a_m_numbers, .ref a_m_then, .ref a_m_leans, .int m_draws, .int m_drawn, .int m_heards, .ref a_m_heardSet, .ref a_m_heardSum])), (a_m_w, .inl (cI, 106, .inl m_w)), (a_m_d, .inl (cI, 216, .inl m_d)), (a_m_heardSet, .inl (cI, 8, .inl m_heardSet)), (a_m_heardSum, .inl (cI, 8, .inl m_heardSum))] → va_S A s.heap H locs → ∀ ls : Array Slot, lv_has ls 7 [(0, .ref a_m), (1, .int x1), (2, .int x2), (3, .int y3_5), (4, .int y4_5)] → W p l e (headSpec wsX6_isSo rm_X6_isSo).room s m ([.ref a_m, .int x1, .int x2] : List Value).toArray below meth c H locs 0 0 QQ (F0 m 33 ls [.int j5591]) := by
          intro H locs hP hD hS ls hl
          refine lv_istore (lv' := [(5, .int j5591), (0, .ref a_m), (1, .int x1), (2, .int x2), (3, .int y3_5), (4, .int y4_5)]) hx hb dX6_isSo_33 hl (by decide) rfl (fun ls hl => ?_)
          refine lv_iconst (v := (0 : Int32)) hx hb dX6_isSo_35 (by decide) ?_
          refine lv_istore (lv' := [(6, .int (0 : Int32)), (5, .int j5591), (0, .ref a_m), (1, .int x1), (2, .int x2), (3, .int y3_5), (4, .int y4_5)]) hx hb dX6_isSo_36 hl (by decide) rfl (fun ls hl => ?_)
          obtain ⟨j5608, hjj5608, h⟩ := ob h
          have Jj5608 : ∀ (H : Heap) (locs : List Loc), va_P (dC, dI) vwCl [(a_m, .inr (6, [.ref a_m_w, .ref a_m_d, .int m_undoes, .int m_kept, .ref a_m_text, .int m_texted, .int m_at, .ref a_m_numbers, .ref a_m_then, .ref a_m_leans, .int m_draws, .int m_drawn, .int m_heards, .ref a_m_heardSet, .ref a_m_heardSum])), (a_m_w, .inl (cI, 106, .inl m_w)), (a_m_d, .inl (cI, 216, .inl m_d)), (a_m_heardSet, .inl (cI, 8, .inl m_heardSet)), (a_m_heardSum, .inl (cI, 8, .inl m_heardSum))] H → va_D A [(a_m, .inr (6, [.ref a_m_w, .ref a_m_d, .int m_undoes, .int m_kept, .ref a_m_text, .int m_texted, .int m_at, .ref a_m_numbers, .ref a_m_then, .ref a_m_leans, .int m_draws, .int m_drawn, .int m_heards, .ref a_m_heardSet, .ref a_m_heardSum])), (a_m_w, .inl (cI, 106, .inl m_w)), (a_m_d, .inl (cI, 216, .inl m_d)), (a_m_heardSet, .inl (cI, 8, .inl m_heardSet)), (a_m_heardSum, .inl (cI, 8, .inl m_heardSum))] → va_S A s.heap H locs → ∀ ls : Array Slot, lv_has ls 7 [(0, .ref a_m), (1, .int x1), (2, .int x2), (3, .int y3_5), (4, .int y4_5), (5, .int j5608.1), (6, .int j5608.2)] → W p l e (headSpec wsX6_isSo rm_X6_isSo).room s m ([.ref a_m, .int x1, .int x2] : List Value).toArray below meth c H locs 0 0 QQ (F0 m 88 ls []) := by
            intro H locs hP hD hS ls hl
            refine lv_iload_n hx hb dX6_isSo_88 rfl (lv_at hl 3 rfl) ?_
            obtain ⟨j5617, hjj5617, h⟩ := ob h
            have Jj5617 : ∀ (H : Heap) (locs : List Loc), va_P (dC, dI) vwCl [(a_m, .inr (6, [.ref a_m_w, .ref a_m_d, .int m_undoes, .int m_kept, .ref a_m_text, .int m_texted, .int m_at, .ref a_m_numbers, .ref a_m_then, .ref a_m_leans, .int m_draws, .int m_drawn, .int m_heards, .ref a_m_heardSet, .ref a_m_heardSum])), (a_m_w, .inl (cI, 106, .inl m_w)), (a_m_d, .inl (cI, 216, .inl m_d)), (a_m_heardSet, .inl (cI, 8, .inl m_heardSet)), (a_m_heardSum, .inl (cI, 8, .inl m_heardSum))] H → va_D A [(a_m, .inr (6, [.ref a_m_w, .ref a_m_d, .int m_undoes, .int m_kept, .ref a_m_text, .int m_texted, .int m_at, .ref a_m_numbers, .ref a_m_then, .ref a_m_leans, .int m_draws, .int m_drawn, .int m_heards, .ref a_m_heardSet, .ref a_m_heardSum])), (a_m_w, .inl (cI, 106, .inl m_w)), (a_m_d, .inl (cI, 216, .inl m_d)), (a_m_heardSet, .inl (cI, 8, .inl m_heardSet)), (a_m_heardSum, .inl (cI, 8, .inl m_heardSum))] → va_S A s.heap H locs → ∀ ls : Array Slot, lv_has ls 7 [(0, .ref a_m), (1, .int x1), (2, .int x2), (3, .int y3_5), (4, .int y4_5), (5, .int j5608.1), (6, .int j5608.2)] → W p l e (headSpec wsX6_isSo rm_X6_isSo).room s m ([.ref a_m, .int x1, .int x2] : List Value).toArray below meth c H locs 0 0 QQ (F0 m 109 ls [.int j5617]) := by
              intro H locs hP hD hS ls hl
              refine lv_istore_n (lv' := [(3, .int j5617), (0, .ref a_m), (1, .int x1), (2, .int x2), (4, .int y4_5), (5, .int j5608.1), (6, .int j5608.2)]) hx hb dX6_isSo_109 rfl hl (by decide) rfl (fun ls hl => ?_)
              refine lv_iinc (v := (y4_5 + (1 : Int32))) (lv' := [(4, .int (y4_5 + (1 : Int32))), (3, .int j5617), (0, .ref a_m), (1, .int x1), (2, .int x2), (5, .int j5608.1), (6, .int j5608.2)]) hx hb dX6_isSo_110 hl (k := 4) rfl rfl (by decide) rfl (fun ls hl => ?_)
              refine lv_goto (tgt := 5) hx hb dX6_isSo_113 (by decide) ?_
              exact ih _ _ h _ _ hP hD hS _ (lv_sub hl [2, 3, 4, 1, 0] rfl)
            refine lv_if_eq (tgt := 108) hx hb dX6_isSo_89 (by decide) (fun c_89 => ?_) (fun c_89 => ?_)
            · have h := (if_pos c_89).symm.trans hjj5617
              refine lv_iconst (v := (0 : Int32)) hx hb dX6_isSo_108 (by decide) ?_
              obtain rfl := Option.some.inj h
              exact Jj5617 _ _ hP hD hS _ hl
            · have h := (if_neg c_89).symm.trans hjj5617
              refine lv_iload hx hb dX6_isSo_92 (lv_at hl 5 rfl) ?_
              refine lv_aload_n hx hb dX6_isSo_94 rfl (lv_at hl 0 rfl) ?_
              refine va_get (D := (dC, dI)) (ci := 6) (v := .ref a_m_heardSum) (C := RX6) (T := TX6) (N := 15) hx hb hts in_X6 hown hK hP 0 rfl rfl 14 (by decide) f_31 (fun _ h9 => h9) rfl dX6_isSo_95 ?_
              refine lv_iload hx hb dX6_isSo_98 (lv_at hl 4 rfl) ?_
              obtain ⟨v5618, hv5618, h⟩ := ob h
              refine k_ld hx hb hK hP 4 0 rfl rfl hv5618 dX6_isSo_100 ?_
              refine lv_icmp_ne (tgt := 108) hx hb dX6_isSo_101 (by decide) (fun c_101 => ?_) (fun c_101 => ?_)
              · have h := (if_neg c_101).symm.trans h
                refine lv_iconst (v := (0 : Int32)) hx hb dX6_isSo_108 (by decide) ?_
                obtain rfl := Option.some.inj h
                exact Jj5617 _ _ hP hD hS _ hl
              · have h := (if_pos c_101).symm.trans h
                refine lv_iconst (v := (1 : Int32)) hx hb dX6_isSo_104 (by decide) ?_
                refine lv_goto (tgt := 109) hx hb dX6_isSo_105 (by decide) ?_
                obtain rfl := Option.some.inj h
                exact Jj5617 _ _ hP hD hS _ hl
          have K38 : ∀ (k : Nat) (y5_38 : Int32) (y6_38 : Int32), L_X6_isSo_38 n m_w m_d m_heardSet y4_5 k y5_38 y6_38 = some j5608 → ∀ (H : Heap) (locs : List Loc), va_P (dC, dI) vwCl [(a_m, .inr (6, [.ref a_m_w, .ref a_m_d, .int m_undoes, .int m_kept, .ref a_m_text, .int m_texted, .int m_at, .ref a_m_numbers, .ref a_m_then, .ref a_m_leans, .int m_draws, .int m_drawn, .int m_heards, .ref a_m_heardSet, .ref a_m_heardSum])), (a_m_w, .inl (cI, 106, .inl m_w)), (a_m_d, .inl (cI, 216, .inl m_d)), (a_m_heardSet, .inl (cI, 8, .inl m_heardSet)), (a_m_heardSum, .inl (cI, 8, .inl m_heardSum))] H → va_D A [(a_m, .inr (6, [.ref a_m_w, .ref a_m_d, .int m_undoes, .int m_kept, .ref a_m_text, .int m_texted, .int m_at, .ref a_m_numbers, .ref a_m_then, .ref a_m_leans, .int m_draws, .int m_drawn, .int m_heards, .ref a_m_heardSet, .ref a_m_heardSum])), (a_m_w, .inl (cI, 106, .inl m_w)), (a_m_d, .inl (cI, 216, .inl m_d)), (a_m_heardSet, .inl (cI, 8, .inl m_heardSet)), (a_m_heardSum, .inl (cI, 8, .inl m_heardSum))] → va_S A s.heap H locs → ∀ ls : Array Slot, lv_has ls 7 [(0, .ref a_m), (1, .int x1), (2, .int x2), (3, .int y3_5), (4, .int y4_5), (5, .int y5_38), (6, .int y6_38)] → W p l e (headSpec wsX6_isSo rm_X6_isSo).room s m ([.ref a_m, .int x1, .int x2] : List Value).toArray below meth c H locs 0 0 QQ (F0 m 38 ls []) := by
            intro k
            induction k with
            | zero =>
              intro y5_38 y6_38 h
              rw [L_X6_isSo_38] at h
              cases h
            | succ k ih =>
              intro y5_38 y6_38 h H locs hP hD hS ls hl
              rw [L_X6_isSo_38] at h
              refine lv_iload hx hb dX6_isSo_38 (lv_at hl 6 rfl) ?_
              refine lv_aload_n hx hb dX6_isSo_40 rfl (lv_at hl 0 rfl) ?_
              refine va_get (D := (dC, dI)) (ci := 6) (v := .ref a_m_w) (C := RX6) (T := TX6) (N := 15) hx hb hts in_X6 hown hK hP 0 rfl rfl 0 (by decide) f_7 (fun _ h9 => h9) rfl dX6_isSo_41 ?_
              refine lv_iconst (v := (0 : Int32)) hx hb dX6_isSo_44 (by decide) ?_
              obtain ⟨v5609, hv5609, h⟩ := ob h
              refine k_ld hx hb hK hP 1 0 rfl rfl hv5609 dX6_isSo_45 ?_
              refine lv_icmp_ge (tgt := 88) hx hb dX6_isSo_46 (by decide) (fun c_46 => ?_) (fun c_46 => ?_)
              · have h := (if_pos c_46).symm.trans h
                obtain rfl := Option.some.inj h
                exact Jj5608 _ _ hP hD hS _ hl
              · have h := (if_neg c_46).symm.trans h
                refine lv_iload hx hb dX6_isSo_49 (lv_at hl 5 rfl) ?_
                refine lv_aload_n hx hb dX6_isSo_51 rfl (lv_at hl 0 rfl) ?_
                refine va_get (D := (dC, dI)) (ci := 6) (v := .ref a_m_heardSet) (C := RX6) (T := TX6) (N := 15) hx hb hts in_X6 hown hK hP 0 rfl rfl 13 (by decide) f_28 (fun _ h9 => h9) rfl dX6_isSo_52 ?_
                refine lv_iload hx hb dX6_isSo_55 (lv_at hl 4 rfl) ?_
                obtain ⟨v5610, hv5610, h⟩ := ob h
                refine k_ld hx hb hK hP 3 0 rfl rfl hv5610 dX6_isSo_57 ?_
                refine lv_iload hx hb dX6_isSo_58 (lv_at hl 6 rfl) ?_
                obtain ⟨r5611, hr5611, h⟩ := ob h
                refine k_Si (As := [.int v5610, .int y6_38]) (rest := [.int y5_38]) (c_X6_has l dC dI cI cS n _ v5610 y6_38 r5611 hr5611) (fun _ _ q => q) ⟨hx, hb, hml, hown, hts⟩ (va_cwS 2 hts gX6_isSo_X6_has rfl rfl rfl (by decide +kernel) ⟨(Nat.le_of_ble_eq_true rfl), (Nat.le_of_ble_eq_true rfl)⟩) hN hK hP hD hS hA rfl hl.1 rfl (Nat.le_of_ble_eq_true rfl) dX6_isSo_60 ⟨(Nat.le_of_ble_eq_true rfl), (Nat.le_of_ble_eq_true rfl)⟩ (fun H locs hP hD hS => ?_)
                obtain ⟨j5614, hjj5614, h⟩ := ob h
                have Jj5614 : ∀ (H : Heap) (locs : List Loc), va_P (dC, dI) vwCl [(a_m, .inr (6, [.ref a_m_w, .ref a_m_d, .int m_undoes, .int m_kept, .ref a_m_text, .int m_texted, .int m_at, .ref a_m_numbers, .ref a_m_then, .ref a_m_leans, .int m_draws, .int m_drawn, .int m_heards, .ref a_m_heardSet, .ref a_m_heardSum])), (a_m_w, .inl (cI, 106, .inl m_w)), (a_m_d, .inl (cI, 216, .inl m_d)), (a_m_heardSet, .inl (cI, 8, .inl m_heardSet)), (a_m_heardSum, .inl (cI, 8, .inl m_heardSum))] H → va_D A [(a_m, .inr (6, [.ref a_m_w, .ref a_m_d, .int m_undoes, .int m_kept, .ref a_m_text, .int m_texted, .int m_at, .ref a_m_numbers, .ref a_m_then, .ref a_m_leans, .int m_draws, .int m_drawn, .int m_heards, .ref a_m_heardSet, .ref a_m_heardSum])), (a_m_w, .inl (cI, 106, .inl m_w)), (a_m_d, .inl (cI, 216, .inl m_d)), (a_m_heardSet, .inl (cI, 8, .inl m_heardSet)), (a_m_heardSum, .inl (cI, 8, .inl m_heardSum))] → va_S A s.heap H locs → ∀ ls : Array Slot, lv_has ls 7 [(0, .ref a_m), (1, .int x1), (2, .int x2), (3, .int y3_5), (4, .int y4_5), (5, .int y5_38), (6, .int y6_38)] → W p l e (headSpec wsX6_isSo rm_X6_isSo).room s m ([.ref a_m, .int x1, .int x2] : List Value).toArray below meth c H locs 0 0 QQ (F0 m 79 ls [.int j5614, .int y5_38]) := by
                  intro H locs hP hD hS ls hl
                  refine lv_iadd hx hb dX6_isSo_79 ?_
                  refine lv_istore (lv' := [(5, .int (y5_38 + j5614)), (0, .ref a_m), (1, .int x1), (2, .int x2), (3, .int y3_5), (4, .int y4_5), (6, .int y6_38)]) hx hb dX6_isSo_80 hl (by decide) rfl (fun ls hl => ?_)
                  refine lv_iinc (v := (y6_38 + (1 : Int32))) (lv' := [(6, .int (y6_38 + (1 : Int32))), (5, .int (y5_38 + j5614)), (0, .ref a_m), (1, .int x1), (2, .int x2), (3, .int y3_5), (4, .int y4_5)]) hx hb dX6_isSo_82 hl (k := 6) rfl rfl (by decide) rfl (fun ls hl => ?_)
                  refine lv_goto (tgt := 38) hx hb dX6_isSo_85 (by decide) ?_
                  exact ih _ _ h _ _ hP hD hS _ (lv_sub hl [2, 3, 4, 5, 6, 1, 0] rfl)
                refine lv_if_eq (tgt := 78) hx hb dX6_isSo_63 (by decide) (fun c_63 => ?_) (fun c_63 => ?_)
                · have h := (if_pos c_63).symm.trans hjj5614
                  refine lv_iconst (v := (0 : Int32)) hx hb dX6_isSo_78 (by decide) ?_
                  obtain rfl := Option.some.inj h
                  exact Jj5614 _ _ hP hD hS _ hl
                · have h := (if_neg c_63).symm.trans hjj5614
                  refine lv_aload_n hx hb dX6_isSo_66 rfl (lv_at hl 0 rfl) ?_
                  refine va_get (D := (dC, dI)) (ci := 6) (v := .ref a_m_d) (C := RX6) (T := TX6) (N := 15) hx hb hts in_X6 hown hK hP 0 rfl rfl 1 (by decide) f_13 (fun _ h9 => h9) rfl dX6_isSo_67 ?_
                  refine lv_iconst (v := (0 : Int32)) hx hb dX6_isSo_70 (by decide) ?_
                  refine lv_iload hx hb dX6_isSo_71 (lv_at hl 6 rfl) ?_
                  refine lv_iadd hx hb dX6_isSo_73 ?_
                  obtain ⟨v5615, hv5615, h⟩ := ob h
                  refine k_ld hx hb hK hP 2 0 rfl rfl hv5615 dX6_isSo_74 ?_
                  refine lv_goto (tgt := 79) hx hb dX6_isSo_75 (by decide) ?_
                  obtain rfl := Option.some.inj h
                  exact Jj5614 _ _ hP hD hS _ hl
          exact K38 n j5591 (0 : Int32) hjj5608 _ _ hP hD hS _ (lv_sub hl [2, 3, 4, 5, 6, 1, 0] rfl)
        refine lv_if_eq (tgt := 32) hx hb dX6_isSo_25 (by decide) (fun c_25 => ?_) (fun c_25 => ?_)
        · have h := (if_pos c_25).symm.trans hjj5591
          refine lv_iconst (v := (0 : Int32)) hx hb dX6_isSo_32 (by decide) ?_
          obtain rfl := Option.some.inj h
          exact Jj5591 _ _ hP hD hS _ hl
        · have h := (if_neg c_25).symm.trans hjj5591
          refine lv_iload_n hx hb dX6_isSo_28 rfl (lv_at hl 2 rfl) ?_
          refine lv_goto (tgt := 33) hx hb dX6_isSo_29 (by decide) ?_
          obtain rfl := Option.some.inj h
          exact Jj5591 _ _ hP hD hS _ hl
  exact K5 n (1 : Int32) (0 : Int32) hjj5587 _ _ hP hD hS _ (lv_sub hl [2, 3, 4, 1, 0] rfl)
def rm_X6_high : Room := { frames := 2, cells := 0, slots := 0, locals := 47 }
set_option maxRecDepth 100000 in
set_option maxHeartbeats 8000000 in
theorem c_X6_high (l : Launch) (dC : Nat → ClassId) (dI : Nat → Nat → Nat) (cI cS : ClassId) (n sz : Nat) (a_m : Nat) (a_m_w : Nat) (a_m_d : Nat) (a_m_text : Nat) (a_m_numbers : Nat) (a_m_then : Nat) (a_m_leans : Nat) (a_m_heardSet : Nat) (a_m_heardSum : Nat) (m_w : Nat → Int32) (m_d : Nat → Int32) (m_undoes : Int32) (m_kept : Int32) (m_texted : Int32) (m_at : Int32) (m_draws : Int32) (m_drawn : Int32) (m_heards : Int32) (m_heardSet : Nat → Int32) (m_heardSum : Nat → Int32) (x1 : Int32) (res : Int32)  (h : F_X6_high n m_w m_d m_heards m_heardSet m_heardSum x1 = some res) : Met l yX6_high wsX6_high rm_X6_high (va_Pc [.ref a_m, .int x1] (PRE (dC, dI) vwCl [(cI, .int), (cS, .object "RoundOfTheA$State")] sz [(a_m, .inr (6, [.ref a_m_w, .ref a_m_d, .int m_undoes, .int m_kept, .ref a_m_text, .int m_texted, .int m_at, .ref a_m_numbers, .ref a_m_then, .ref a_m_leans, .int m_draws, .int m_drawn, .int m_heards, .ref a_m_heardSet, .ref a_m_heardSum])), (a_m_w, .inl (cI, 106, .inl m_w)), (a_m_d, .inl (cI, 216, .inl m_d)), (a_m_heardSet, .inl (cI, 8, .inl m_heardSet)), (a_m_heardSum, .inl (cI, 8, .inl m_heardSum))])) (va_Qi (fun (r : Int32) (_ : Unit) => r = res) (fun u t => POST (dC, dI) vwCl [(a_m, .inr (6, [.ref a_m_w, .ref a_m_d, .int m_undoes, .int m_kept, .ref a_m_text, .int m_texted, .int m_at, .ref a_m_numbers, .ref a_m_then, .ref a_m_leans, .int m_draws, .int m_drawn, .int m_heards, .ref a_m_heardSet, .ref a_m_heardSum])), (a_m_w, .inl (cI, 106, .inl m_w)), (a_m_d, .inl (cI, 216, .inl m_d)), (a_m_heardSet, .inl (cI, 8, .inl m_heardSet)), (a_m_heardSum, .inl (cI, 8, .inl m_heardSum))] (va_A [(a_m, .inr (6, [.ref a_m_w, .ref a_m_d, .int m_undoes, .int m_kept, .ref a_m_text, .int m_texted, .int m_at, .ref a_m_numbers, .ref a_m_then, .ref a_m_leans, .int m_draws, .int m_drawn, .int m_heards, .ref a_m_heardSet, .ref a_m_heardSum])), (a_m_w, .inl (cI, 106, .inl m_w)), (a_m_d, .inl (cI, 216, .inl m_d)), (a_m_heardSet, .inl (cI, 8, .inl m_heardSet)), (a_m_heardSum, .inl (cI, 8, .inl m_heardSum))] sz) t) (va_A [(a_m, .inr (6, [.ref a_m_w, .ref a_m_d, .int m_undoes, .int m_kept, .ref a_m_text, .int m_texted, .int m_at, .ref a_m_numbers, .ref a_m_then, .ref a_m_leans, .int m_draws, .int m_drawn, .int m_heards, .ref a_m_heardSet, .ref a_m_heardSum])), (a_m_w, .inl (cI, 106, .inl m_w)), (a_m_d, .inl (cI, 216, .inl m_d)), (a_m_heardSet, .inl (cI, 8, .inl m_heardSet)), (a_m_heardSum, .inl (cI, 8, .inl m_heardSum))] sz)) 0 0 (va_A [(a_m, .inr (6, [.ref a_m_w, .ref a_m_d, .int m_undoes, .int m_kept, .ref a_m_text, .int m_texted, .int m_at, .ref a_m_numbers, .ref a_m_then, .ref a_m_leans, .int m_draws, .int m_drawn, .int m_heards, .ref a_m_heardSet, .ref a_m_heardSum])), (a_m_w, .inl (cI, 106, .inl m_w)), (a_m_d, .inl (cI, 216, .inl m_d)), (a_m_heardSet, .inl (cI, 8, .inl m_heardSet)), (a_m_heardSum, .inl (cI, 8, .inl m_heardSum))] sz) := by
  refine Met.ofW (cc := cX6_high) (maxL := 7) (ret := (some .int)) (by decide) rfl ?_
  intro p e s m args below meth c s₁ B hml hv
  obtain ⟨rfl, hsz, hN, hP, hK, hD0⟩ := hv
  have hx := B.exec
  have hb := B.bytes
  have hr := B.returns
  have hts := atoms_spec (ws := wsX6_high) B.pre
  have hown : s.vm.findClass RX6 = some m.cls := findClass_of_methodNamed B.named
  have hlocks := B.notSynchronized
  subst hsz
  have hD := hD0.self (sz := s.heap.size)
  generalize hAe : va_A [(a_m, .inr (6, [.ref a_m_w, .ref a_m_d, .int m_undoes, .int m_kept, .ref a_m_text, .int m_texted, .int m_at, .ref a_m_numbers, .ref a_m_then, .ref a_m_leans, .int m_draws, .int m_drawn, .int m_heards, .ref a_m_heardSet, .ref a_m_heardSum])), (a_m_w, .inl (cI, 106, .inl m_w)), (a_m_d, .inl (cI, 216, .inl m_d)), (a_m_heardSet, .inl (cI, 8, .inl m_heardSet)), (a_m_heardSum, .inl (cI, 8, .inl m_heardSum))] s.heap.size = A at hD ⊢
  have hA : ∀ q : Nat, s.heap.size ≤ q → A q := fun q h => by rw [← hAe]; exact Or.inr h
  have hS : va_S A s.heap s.heap [] := va_S.rf
  generalize hQe : MQ below _ _ s _ _ A = QQ
  have hl := lv_entry ([.ref a_m, .int x1]) (n := 7) (Nat.le_of_ble_eq_true rfl)
  rw [lg_entry_eq]
  generalize (lg_sl ([.ref a_m, .int x1]) ++ List.replicate (7 - (lg_sl ([.ref a_m, .int x1])).length) Slot.unset).toArray = ls at hl ⊢
  have hl : lv_has ls 7 [(0, .ref a_m), (1, .int x1)] := hl
  have f_7 := hts (.fieldLink RX6 7 "RoundOfTheAModel" "w" "[I") (by decide +kernel)
  have in_X6 := (by decide +kernel : ∀ w ∈ wsX60, w ∈ wsX6_high)
  rw [F_X6_high] at h
  refine lv_iload_n hx hb dX6_high_0 rfl (lv_at hl 1 rfl) ?_
  refine lv_i2l (v := (Int32.toInt64 x1)) hx hb dX6_high_1 rfl ?_
  refine lv_lconst (v := (0 : Int64)) hx hb dX6_high_2 (by decide) ?_
  refine lv_lconst (v := (1 : Int64)) hx hb dX6_high_3 (by decide) ?_
  obtain ⟨r5704, hr5704, h⟩ := ob h
  refine k_Si (As := [.long (Int32.toInt64 x1), .long (0 : Int64), .long (1 : Int64)]) (rest := []) (c_X6_in l dC dI cI cS n _ (Int32.toInt64 x1) (0 : Int64) (1 : Int64) r5704 hr5704) (fun _ _ q => q) ⟨hx, hb, hml, hown, hts⟩ (va_cwS 3 hts gX6_high_X6_in rfl rfl rfl (by decide +kernel) ⟨(Nat.le_of_ble_eq_true rfl), (Nat.le_of_ble_eq_true rfl)⟩) hN hK hP hD hS hA rfl hl.1 rfl (Nat.le_of_ble_eq_true rfl) dX6_high_4 ⟨(Nat.le_of_ble_eq_true rfl), (Nat.le_of_ble_eq_true rfl)⟩ (fun H locs hP hD hS => ?_)
  refine lv_if_ne (tgt := 12) hx hb dX6_high_7 (by decide) (fun c_7 => ?_) (fun c_7 => ?_)
  · have h := (if_neg c_7).symm.trans h
    refine lv_iconst (v := (0 : Int32)) hx hb dX6_high_12 (by decide) ?_
    refine lv_istore_n (lv' := [(2, .int (0 : Int32)), (0, .ref a_m), (1, .int x1)]) hx hb dX6_high_13 rfl hl (by decide) rfl (fun ls hl => ?_)
    refine lv_bipush (v := (-4 : Int32)) hx hb dX6_high_14 (by decide) ?_
    refine lv_istore_n (lv' := [(3, .int (-4 : Int32)), (2, .int (0 : Int32)), (0, .ref a_m), (1, .int x1)]) hx hb dX6_high_16 rfl hl (by decide) rfl (fun ls hl => ?_)
    refine lv_iconst (v := (0 : Int32)) hx hb dX6_high_17 (by decide) ?_
    refine lv_istore (lv' := [(4, .int (0 : Int32)), (3, .int (-4 : Int32)), (2, .int (0 : Int32)), (0, .ref a_m), (1, .int x1)]) hx hb dX6_high_18 hl (by decide) rfl (fun ls hl => ?_)
    obtain ⟨j5761, hjj5761, h⟩ := ob h
    have Jj5761 : ∀ (H : Heap) (locs : List Loc), va_P (dC, dI) vwCl [(a_m, .inr (6, [.ref a_m_w, .ref a_m_d, .int m_undoes, .int m_kept, .ref a_m_text, .int m_texted, .int m_at, .ref a_m_numbers, .ref a_m_then, .ref a_m_leans, .int m_draws, .int m_drawn, .int m_heards, .ref a_m_heardSet, .ref a_m_heardSum])), (a_m_w, .inl (cI, 106, .inl m_w)), (a_m_d, .inl (cI, 216, .inl m_d)), (a_m_heardSet, .inl (cI, 8, .inl m_heardSet)), (a_m_heardSum, .inl (cI, 8, .inl m_heardSum))] H → va_D A [(a_m, .inr (6, [.ref a_m_w, .ref a_m_d, .int m_undoes, .int m_kept, .ref a_m_text, .int m_texted, .int m_at, .ref a_m_numbers, .ref a_m_then, .ref a_m_leans, .int m_draws, .int m_drawn, .int m_heards, .ref a_m_heardSet, .ref a_m_heardSum])), (a_m_w, .inl (cI, 106, .inl m_w)), (a_m_d, .inl (cI, 216, .inl m_d)), (a_m_heardSet, .inl (cI, 8, .inl m_heardSet)), (a_m_heardSum, .inl (cI, 8, .inl m_heardSum))] → va_S A s.heap H locs → ∀ ls : Array Slot, lv_has ls 7 [(0, .ref a_m), (1, .int x1), (2, .int j5761.1), (3, .int j5761.2.1), (4, .int j5761.2.2)] → W p l e (headSpec wsX6_high rm_X6_high).room s m ([.ref a_m, .int x1] : List Value).toArray below meth c H locs 0 0 QQ (F0 m 115 ls []) := by
      intro H locs hP hD hS ls hl
      refine lv_iload_n hx hb dX6_high_115 rfl (lv_at hl 1 rfl) ?_
      refine lv_if_ne (tgt := 123) hx hb dX6_high_116 (by decide) (fun c_116 => ?_) (fun c_116 => ?_)
      · have h := (if_neg c_116).symm.trans h
        refine lv_iload_n hx hb dX6_high_123 rfl (lv_at hl 3 rfl) ?_
        obtain rfl := Option.some.inj h
        subst hQe
        exact W.iret (v := j5761.2.1) hx hb hr (fun t ht hW => ⟨⟨j5761.2.1, (), rfl, rfl, ⟨by rw [ht]; exact hP, hD⟩⟩, hS.F ht⟩) hS.2.2 dX6_high_124
      · have h := (if_pos c_116).symm.trans h
        refine lv_iload_n hx hb dX6_high_119 rfl (lv_at hl 2 rfl) ?_
        refine lv_goto (tgt := 124) hx hb dX6_high_120 (by decide) ?_
        obtain rfl := Option.some.inj h
        subst hQe
        exact W.iret (v := j5761.1) hx hb hr (fun t ht hW => ⟨⟨j5761.1, (), rfl, rfl, ⟨by rw [ht]; exact hP, hD⟩⟩, hS.F ht⟩) hS.2.2 dX6_high_124
    have K20 : ∀ (k : Nat) (y2_20 : Int32) (y3_20 : Int32) (y4_20 : Int32), L_X6_high_20 n m_w m_d m_heards m_heardSet m_heardSum k y2_20 y3_20 y4_20 = some j5761 → ∀ (H : Heap) (locs : List Loc), va_P (dC, dI) vwCl [(a_m, .inr (6, [.ref a_m_w, .ref a_m_d, .int m_undoes, .int m_kept, .ref a_m_text, .int m_texted, .int m_at, .ref a_m_numbers, .ref a_m_then, .ref a_m_leans, .int m_draws, .int m_drawn, .int m_heards, .ref a_m_heardSet, .ref a_m_heardSum])), (a_m_w, .inl (cI, 106, .inl m_w)), (a_m_d, .inl (cI, 216, .inl m_d)), (a_m_heardSet, .inl (cI, 8, .inl m_heardSet)), (a_m_heardSum, .inl (cI, 8, .inl m_heardSum))] H → va_D A [(a_m, .inr (6, [.ref a_m_w, .ref a_m_d, .int m_undoes, .int m_kept, .ref a_m_text, .int m_texted, .int m_at, .ref a_m_numbers, .ref a_m_then, .ref a_m_leans, .int m_draws, .int m_drawn, .int m_heards, .ref a_m_heardSet, .ref a_m_heardSum])), (a_m_w, .inl (cI, 106, .inl m_w)), (a_m_d, .inl (cI, 216, .inl m_d)), (a_m_heardSet, .inl (cI, 8, .inl m_heardSet)), (a_m_heardSum, .inl (cI, 8, .inl m_heardSum))] → va_S A s.heap H locs → ∀ ls : Array Slot, lv_has ls 7 [(0, .ref a_m), (1, .int x1), (2, .int y2_20), (3, .int y3_20), (4, .int y4_20)] → W p l e (headSpec wsX6_high rm_X6_high).room s m ([.ref a_m, .int x1] : List Value).toArray below meth c H locs 0 0 QQ (F0 m 20 ls []) := by
      intro k
      induction k with
      | zero =>
        intro y2_20 y3_20 y4_20 h
        rw [L_X6_high_20] at h
        cases h
      | succ k ih =>
        intro y2_20 y3_20 y4_20 h H locs hP hD hS ls hl
        rw [L_X6_high_20] at h
        refine lv_iload hx hb dX6_high_20 (lv_at hl 4 rfl) ?_
        refine lv_aload_n hx hb dX6_high_22 rfl (lv_at hl 0 rfl) ?_
        refine va_get (D := (dC, dI)) (ci := 6) (v := .ref a_m_w) (C := RX6) (T := TX6) (N := 15) hx hb hts in_X6 hown hK hP 0 rfl rfl 0 (by decide) f_7 (fun _ h9 => h9) rfl dX6_high_23 ?_
        refine lv_iconst (v := (0 : Int32)) hx hb dX6_high_26 (by decide) ?_
        obtain ⟨v5762, hv5762, h⟩ := ob h
        refine k_ld hx hb hK hP 1 0 rfl rfl hv5762 dX6_high_27 ?_
        refine lv_icmp_ge (tgt := 115) hx hb dX6_high_28 (by decide) (fun c_28 => ?_) (fun c_28 => ?_)
        · have h := (if_pos c_28).symm.trans h
          obtain rfl := Option.some.inj h
          exact Jj5761 _ _ hP hD hS _ hl
        · have h := (if_neg c_28).symm.trans h
          refine lv_bipush (v := (-9 : Int32)) hx hb dX6_high_31 (by decide) ?_
          refine lv_istore (lv' := [(5, .int (-9 : Int32)), (0, .ref a_m), (1, .int x1), (2, .int y2_20), (3, .int y3_20), (4, .int y4_20)]) hx hb dX6_high_33 hl (by decide) rfl (fun ls hl => ?_)
          obtain ⟨j5780, hjj5780, h⟩ := ob h
          have Jj5780 : ∀ (H : Heap) (locs : List Loc), va_P (dC, dI) vwCl [(a_m, .inr (6, [.ref a_m_w, .ref a_m_d, .int m_undoes, .int m_kept, .ref a_m_text, .int m_texted, .int m_at, .ref a_m_numbers, .ref a_m_then, .ref a_m_leans, .int m_draws, .int m_drawn, .int m_heards, .ref a_m_heardSet, .ref a_m_heardSum])), (a_m_w, .inl (cI, 106, .inl m_w)), (a_m_d, .inl (cI, 216, .inl m_d)), (a_m_heardSet, .inl (cI, 8, .inl m_heardSet)), (a_m_heardSum, .inl (cI, 8, .inl m_heardSum))] H → va_D A [(a_m, .inr (6, [.ref a_m_w, .ref a_m_d, .int m_undoes, .int m_kept, .ref a_m_text, .int m_texted, .int m_at, .ref a_m_numbers, .ref a_m_then, .ref a_m_leans, .int m_draws, .int m_drawn, .int m_heards, .ref a_m_heardSet, .ref a_m_heardSum])), (a_m_w, .inl (cI, 106, .inl m_w)), (a_m_d, .inl (cI, 216, .inl m_d)), (a_m_heardSet, .inl (cI, 8, .inl m_heardSet)), (a_m_heardSum, .inl (cI, 8, .inl m_heardSum))] → va_S A s.heap H locs → ∀ ls : Array Slot, lv_has ls 7 [(0, .ref a_m), (1, .int x1), (2, .int j5780.1), (3, .int j5780.2.1), (4, .int y4_20), (5, .int j5780.2.2)] → W p l e (headSpec wsX6_high rm_X6_high).room s m ([.ref a_m, .int x1] : List Value).toArray below meth c H locs 0 0 QQ (F0 m 109 ls []) := by
            intro H locs hP hD hS ls hl
            refine lv_iinc (v := (y4_20 + (1 : Int32))) (lv' := [(4, .int (y4_20 + (1 : Int32))), (0, .ref a_m), (1, .int x1), (2, .int j5780.1), (3, .int j5780.2.1), (5, .int j5780.2.2)]) hx hb dX6_high_109 hl (k := 4) rfl rfl (by decide) rfl (fun ls hl => ?_)
            refine lv_goto (tgt := 20) hx hb dX6_high_112 (by decide) ?_
            exact ih _ _ _ h _ _ hP hD hS _ (lv_sub hl [1, 2, 3, 4, 0] rfl)
          have K35 : ∀ (k : Nat) (y2_35 : Int32) (y3_35 : Int32) (y5_35 : Int32), L_X6_high_35 n m_w m_d m_heards m_heardSet m_heardSum y4_20 k y2_35 y3_35 y5_35 = some j5780 → ∀ (H : Heap) (locs : List Loc), va_P (dC, dI) vwCl [(a_m, .inr (6, [.ref a_m_w, .ref a_m_d, .int m_undoes, .int m_kept, .ref a_m_text, .int m_texted, .int m_at, .ref a_m_numbers, .ref a_m_then, .ref a_m_leans, .int m_draws, .int m_drawn, .int m_heards, .ref a_m_heardSet, .ref a_m_heardSum])), (a_m_w, .inl (cI, 106, .inl m_w)), (a_m_d, .inl (cI, 216, .inl m_d)), (a_m_heardSet, .inl (cI, 8, .inl m_heardSet)), (a_m_heardSum, .inl (cI, 8, .inl m_heardSum))] H → va_D A [(a_m, .inr (6, [.ref a_m_w, .ref a_m_d, .int m_undoes, .int m_kept, .ref a_m_text, .int m_texted, .int m_at, .ref a_m_numbers, .ref a_m_then, .ref a_m_leans, .int m_draws, .int m_drawn, .int m_heards, .ref a_m_heardSet, .ref a_m_heardSum])), (a_m_w, .inl (cI, 106, .inl m_w)), (a_m_d, .inl (cI, 216, .inl m_d)), (a_m_heardSet, .inl (cI, 8, .inl m_heardSet)), (a_m_heardSum, .inl (cI, 8, .inl m_heardSum))] → va_S A s.heap H locs → ∀ ls : Array Slot, lv_has ls 7 [(0, .ref a_m), (1, .int x1), (2, .int y2_35), (3, .int y3_35), (4, .int y4_20), (5, .int y5_35)] → W p l e (headSpec wsX6_high rm_X6_high).room s m ([.ref a_m, .int x1] : List Value).toArray below meth c H locs 0 0 QQ (F0 m 35 ls []) := by
            intro k
            induction k with
            | zero =>
              intro y2_35 y3_35 y5_35 h
              rw [L_X6_high_35] at h
              cases h
            | succ k ih =>
              intro y2_35 y3_35 y5_35 h H locs hP hD hS ls hl
              rw [L_X6_high_35] at h
              refine lv_iload hx hb dX6_high_35 (lv_at hl 5 rfl) ?_
              refine lv_bipush (v := (9 : Int32)) hx hb dX6_high_37 (by decide) ?_
              refine lv_icmp_gt (tgt := 109) hx hb dX6_high_39 (by decide) (fun c_39 => ?_) (fun c_39 => ?_)
              · have h := (if_pos c_39).symm.trans h
                obtain rfl := Option.some.inj h
                exact Jj5780 _ _ hP hD hS _ hl
              · have h := (if_neg c_39).symm.trans h
                refine lv_iload hx hb dX6_high_42 (lv_at hl 5 rfl) ?_
                obtain ⟨j5783, hjj5783, h⟩ := ob h
                have Jj5783 : ∀ (H : Heap) (locs : List Loc), va_P (dC, dI) vwCl [(a_m, .inr (6, [.ref a_m_w, .ref a_m_d, .int m_undoes, .int m_kept, .ref a_m_text, .int m_texted, .int m_at, .ref a_m_numbers, .ref a_m_then, .ref a_m_leans, .int m_draws, .int m_drawn, .int m_heards, .ref a_m_heardSet, .ref a_m_heardSum])), (a_m_w, .inl (cI, 106, .inl m_w)), (a_m_d, .inl (cI, 216, .inl m_d)), (a_m_heardSet, .inl (cI, 8, .inl m_heardSet)), (a_m_heardSum, .inl (cI, 8, .inl m_heardSum))] H → va_D A [(a_m, .inr (6, [.ref a_m_w, .ref a_m_d, .int m_undoes, .int m_kept, .ref a_m_text, .int m_texted, .int m_at, .ref a_m_numbers, .ref a_m_then, .ref a_m_leans, .int m_draws, .int m_drawn, .int m_heards, .ref a_m_heardSet, .ref a_m_heardSum])), (a_m_w, .inl (cI, 106, .inl m_w)), (a_m_d, .inl (cI, 216, .inl m_d)), (a_m_heardSet, .inl (cI, 8, .inl m_heardSet)), (a_m_heardSum, .inl (cI, 8, .inl m_heardSum))] → va_S A s.heap H locs → ∀ ls : Array Slot, lv_has ls 7 [(0, .ref a_m), (1, .int x1), (2, .int y2_35), (3, .int y3_35), (4, .int y4_20), (5, .int y5_35)] → W p l e (headSpec wsX6_high rm_X6_high).room s m ([.ref a_m, .int x1] : List Value).toArray below meth c H locs 0 0 QQ (F0 m 63 ls [.int j5783]) := by
                  intro H locs hP hD hS ls hl
                  refine lv_istore (lv' := [(6, .int j5783), (0, .ref a_m), (1, .int x1), (2, .int y2_35), (3, .int y3_35), (4, .int y4_20), (5, .int y5_35)]) hx hb dX6_high_63 hl (by decide) rfl (fun ls hl => ?_)
                  refine lv_iload hx hb dX6_high_65 (lv_at hl 0 rfl) ?_
                  obtain ⟨j5786, hjj5786, h⟩ := ob h
                  have Jj5786 : ∀ (H : Heap) (locs : List Loc), va_P (dC, dI) vwCl [(a_m, .inr (6, [.ref a_m_w, .ref a_m_d, .int m_undoes, .int m_kept, .ref a_m_text, .int m_texted, .int m_at, .ref a_m_numbers, .ref a_m_then, .ref a_m_leans, .int m_draws, .int m_drawn, .int m_heards, .ref a_m_heardSet, .ref a_m_heardSum])), (a_m_w, .inl (cI, 106, .inl m_w)), (a_m_d, .inl (cI, 216, .inl m_d)), (a_m_heardSet, .inl (cI, 8, .inl m_heardSet)), (a_m_heardSum, .inl (cI, 8, .inl m_heardSum))] H → va_D A [(a_m, .inr (6, [.ref a_m_w, .ref a_m_d, .int m_undoes, .int m_kept, .ref a_m_text, .int m_texted, .int m_at, .ref a_m_numbers, .ref a_m_then, .ref a_m_leans, .int m_draws, .int m_drawn, .int m_heards, .ref a_m_heardSet, .ref a_m_heardSum])), (a_m_w, .inl (cI, 106, .inl m_w)), (a_m_d, .inl (cI, 216, .inl m_d)), (a_m_heardSet, .inl (cI, 8, .inl m_heardSet)), (a_m_heardSum, .inl (cI, 8, .inl m_heardSum))] → va_S A s.heap H locs → ∀ ls : Array Slot, lv_has ls 7 [(0, .ref a_m), (1, .int x1), (2, .int y2_35), (3, .int y3_35), (4, .int y4_20), (5, .int y5_35), (6, .int j5783)] → W p l e (headSpec wsX6_high rm_X6_high).room s m ([.ref a_m, .int x1] : List Value).toArray below meth c H locs 0 0 QQ (F0 m 89 ls [.int j5786]) := by
                    intro H locs hP hD hS ls hl
                    refine lv_istore_n (lv' := [(3, .int j5786), (0, .ref a_m), (1, .int x1), (2, .int y2_35), (4, .int y4_20), (5, .int y5_35), (6, .int j5783)]) hx hb dX6_high_89 rfl hl (by decide) rfl (fun ls hl => ?_)
                    refine lv_iload_n hx hb dX6_high_90 rfl (lv_at hl 3 rfl) ?_
                    refine lv_iload hx hb dX6_high_91 (lv_at hl 6 rfl) ?_
                    obtain ⟨j5787, hjj5787, h⟩ := ob h
                    have Jj5787 : ∀ (H : Heap) (locs : List Loc), va_P (dC, dI) vwCl [(a_m, .inr (6, [.ref a_m_w, .ref a_m_d, .int m_undoes, .int m_kept, .ref a_m_text, .int m_texted, .int m_at, .ref a_m_numbers, .ref a_m_then, .ref a_m_leans, .int m_draws, .int m_drawn, .int m_heards, .ref a_m_heardSet, .ref a_m_heardSum])), (a_m_w, .inl (cI, 106, .inl m_w)), (a_m_d, .inl (cI, 216, .inl m_d)), (a_m_heardSet, .inl (cI, 8, .inl m_heardSet)), (a_m_heardSum, .inl (cI, 8, .inl m_heardSum))] H → va_D A [(a_m, .inr (6, [.ref a_m_w, .ref a_m_d, .int m_undoes, .int m_kept, .ref a_m_text, .int m_texted, .int m_at, .ref a_m_numbers, .ref a_m_then, .ref a_m_leans, .int m_draws, .int m_drawn, .int m_heards, .ref a_m_heardSet, .ref a_m_heardSum])), (a_m_w, .inl (cI, 106, .inl m_w)), (a_m_d, .inl (cI, 216, .inl m_d)), (a_m_heardSet, .inl (cI, 8, .inl m_heardSet)), (a_m_heardSum, .inl (cI, 8, .inl m_heardSum))] → va_S A s.heap H locs → ∀ ls : Array Slot, lv_has ls 7 [(0, .ref a_m), (1, .int x1), (2, .int y2_35), (3, .int j5786), (4, .int y4_20), (5, .int y5_35), (6, .int j5783)] → W p l e (headSpec wsX6_high rm_X6_high).room s m ([.ref a_m, .int x1] : List Value).toArray below meth c H locs 0 0 QQ (F0 m 101 ls [.int j5787, .int y2_35]) := by
                      intro H locs hP hD hS ls hl
                      refine lv_iadd hx hb dX6_high_101 ?_
                      refine lv_istore_n (lv' := [(2, .int (y2_35 + j5787)), (0, .ref a_m), (1, .int x1), (3, .int j5786), (4, .int y4_20), (5, .int y5_35), (6, .int j5783)]) hx hb dX6_high_102 rfl hl (by decide) rfl (fun ls hl => ?_)
                      refine lv_iinc (v := (y5_35 + (1 : Int32))) (lv' := [(5, .int (y5_35 + (1 : Int32))), (2, .int (y2_35 + j5787)), (0, .ref a_m), (1, .int x1), (3, .int j5786), (4, .int y4_20), (6, .int j5783)]) hx hb dX6_high_103 hl (k := 5) rfl rfl (by decide) rfl (fun ls hl => ?_)
                      refine lv_goto (tgt := 35) hx hb dX6_high_106 (by decide) ?_
                      exact ih _ _ _ h _ _ hP hD hS _ (lv_sub hl [2, 3, 1, 4, 5, 0] rfl)
                    refine lv_if_eq (tgt := 100) hx hb dX6_high_93 (by decide) (fun c_93 => ?_) (fun c_93 => ?_)
                    · have h := (if_pos c_93).symm.trans hjj5787
                      refine lv_iconst (v := (0 : Int32)) hx hb dX6_high_100 (by decide) ?_
                      obtain rfl := Option.some.inj h
                      exact Jj5787 _ _ hP hD hS _ (lv_sub hl [1, 2, 3, 0, 4, 5, 6] rfl)
                    · have h := (if_neg c_93).symm.trans hjj5787
                      refine lv_iconst (v := (1 : Int32)) hx hb dX6_high_96 (by decide) ?_
                      refine lv_goto (tgt := 101) hx hb dX6_high_97 (by decide) ?_
                      obtain rfl := Option.some.inj h
                      exact Jj5787 _ _ hP hD hS _ (lv_sub hl [1, 2, 3, 0, 4, 5, 6] rfl)
                  refine lv_if_eq (tgt := 88) hx hb dX6_high_67 (by decide) (fun c_67 => ?_) (fun c_67 => ?_)
                  · have h := (if_pos c_67).symm.trans hjj5786
                    refine lv_iload_n hx hb dX6_high_88 rfl (lv_at hl 4 rfl) ?_
                    obtain rfl := Option.some.inj h
                    exact Jj5786 _ _ hP hD hS _ (lv_sub hl [1, 2, 3, 4, 5, 6, 0] rfl)
                  · have h := (if_neg c_67).symm.trans hjj5786
                    refine lv_iload_n hx hb dX6_high_70 rfl (lv_at hl 3 rfl) ?_
                    refine lv_if_ne (tgt := 88) hx hb dX6_high_71 (by decide) (fun c_71 => ?_) (fun c_71 => ?_)
                    · have h := (if_neg c_71).symm.trans h
                      refine lv_iload_n hx hb dX6_high_88 rfl (lv_at hl 4 rfl) ?_
                      obtain rfl := Option.some.inj h
                      exact Jj5786 _ _ hP hD hS _ (lv_sub hl [1, 2, 3, 4, 5, 6, 0] rfl)
                    · have h := (if_pos c_71).symm.trans h
                      refine lv_bipush (v := (20 : Int32)) hx hb dX6_high_74 (by decide) ?_
                      refine lv_iload hx hb dX6_high_76 (lv_at hl 5 rfl) ?_
                      refine lv_imul hx hb dX6_high_78 ?_
                      refine lv_iload hx hb dX6_high_79 (lv_at hl 6 rfl) ?_
                      refine lv_iadd hx hb dX6_high_81 ?_
                      refine lv_bipush (v := (9 : Int32)) hx hb dX6_high_82 (by decide) ?_
                      refine lv_iadd hx hb dX6_high_84 ?_
                      refine lv_goto (tgt := 89) hx hb dX6_high_85 (by decide) ?_
                      obtain rfl := Option.some.inj h
                      exact Jj5786 _ _ hP hD hS _ (lv_sub hl [1, 2, 3, 4, 5, 6, 0] rfl)
                refine lv_if_eq (tgt := 62) hx hb dX6_high_44 (by decide) (fun c_44 => ?_) (fun c_44 => ?_)
                · have h := (if_pos c_44).symm.trans hjj5783
                  refine lv_iconst (v := (0 : Int32)) hx hb dX6_high_62 (by decide) ?_
                  obtain rfl := Option.some.inj h
                  exact Jj5783 _ _ hP hD hS _ hl
                · have h := (if_neg c_44).symm.trans hjj5783
                  refine lv_aload_n hx hb dX6_high_47 rfl (lv_at hl 0 rfl) ?_
                  refine lv_iload hx hb dX6_high_48 (lv_at hl 4 rfl) ?_
                  refine lv_iload hx hb dX6_high_50 (lv_at hl 5 rfl) ?_
                  obtain ⟨r5784, hr5784, h⟩ := ob h
                  refine k_Vi (As := [.int y4_20, .int y5_35]) (rest := []) (wr := []) (c_X6_isSo l dC dI cI cS n _ a_m a_m_w a_m_d a_m_text a_m_numbers a_m_then a_m_leans a_m_heardSet a_m_heardSum m_w m_d m_undoes m_kept m_texted m_at m_draws m_drawn m_heards m_heardSet m_heardSum y4_20 y5_35 r5784 hr5784) (fun _ _ q => q) ⟨hx, hb, hml, hown, hts⟩ (cwV 2 hts gX6_high_X6_isSo rfl rfl rfl (by decide +kernel) ⟨(Nat.le_of_ble_eq_true rfl), (Nat.le_of_ble_eq_true rfl)⟩) hN hK hP hD hS hA [0, 1, 2, 3, 4] [] rfl rfl (by decide) (by decide) (by decide) rfl rfl rfl hl.1 rfl (Nat.le_of_ble_eq_true rfl) dX6_high_52 ⟨(Nat.le_of_ble_eq_true rfl), (Nat.le_of_ble_eq_true rfl)⟩ (fun u5785 H locs _ hP hD hS => ?_)
                  have hP : va_P (dC, dI) vwCl [(a_m, .inr (6, [.ref a_m_w, .ref a_m_d, .int m_undoes, .int m_kept, .ref a_m_text, .int m_texted, .int m_at, .ref a_m_numbers, .ref a_m_then, .ref a_m_leans, .int m_draws, .int m_drawn, .int m_heards, .ref a_m_heardSet, .ref a_m_heardSum])), (a_m_w, .inl (cI, 106, .inl m_w)), (a_m_d, .inl (cI, 216, .inl m_d)), (a_m_heardSet, .inl (cI, 8, .inl m_heardSet)), (a_m_heardSum, .inl (cI, 8, .inl m_heardSum))] H := hP
                  have hD : va_D A [(a_m, .inr (6, [.ref a_m_w, .ref a_m_d, .int m_undoes, .int m_kept, .ref a_m_text, .int m_texted, .int m_at, .ref a_m_numbers, .ref a_m_then, .ref a_m_leans, .int m_draws, .int m_drawn, .int m_heards, .ref a_m_heardSet, .ref a_m_heardSum])), (a_m_w, .inl (cI, 106, .inl m_w)), (a_m_d, .inl (cI, 216, .inl m_d)), (a_m_heardSet, .inl (cI, 8, .inl m_heardSet)), (a_m_heardSum, .inl (cI, 8, .inl m_heardSum))] := hD
                  refine lv_if_eq (tgt := 62) hx hb dX6_high_55 (by decide) (fun c_55 => ?_) (fun c_55 => ?_)
                  · have h := (if_pos c_55).symm.trans h
                    refine lv_iconst (v := (0 : Int32)) hx hb dX6_high_62 (by decide) ?_
                    obtain rfl := Option.some.inj h
                    exact Jj5783 _ _ hP hD hS _ hl
                  · have h := (if_neg c_55).symm.trans h
                    refine lv_iconst (v := (1 : Int32)) hx hb dX6_high_58 (by decide) ?_
                    refine lv_goto (tgt := 63) hx hb dX6_high_59 (by decide) ?_
                    obtain rfl := Option.some.inj h
                    exact Jj5783 _ _ hP hD hS _ hl
          exact K35 n y2_20 y3_20 (-9 : Int32) hjj5780 _ _ hP hD hS _ (lv_sub hl [1, 2, 3, 4, 5, 0] rfl)
    exact K20 n (0 : Int32) (-4 : Int32) (0 : Int32) hjj5761 _ _ hP hD hS _ (lv_sub hl [3, 4, 2, 1, 0] rfl)
  · have h := (if_pos c_7).symm.trans h
    refine lv_iconst (v := (-1 : Int32)) hx hb dX6_high_10 (by decide) ?_
    obtain rfl := Option.some.inj h
    subst hQe
    exact W.iret (v := (-1 : Int32)) hx hb hr (fun t ht hW => ⟨⟨(-1 : Int32), (), rfl, rfl, ⟨by rw [ht]; exact hP, hD⟩⟩, hS.F ht⟩) hS.2.2 dX6_high_11
def rm_X6_odds : Room := { frames := 2, cells := 0, slots := 0, locals := 44 }
set_option maxRecDepth 100000 in
set_option maxHeartbeats 8000000 in
theorem c_X6_odds (l : Launch) (dC : Nat → ClassId) (dI : Nat → Nat → Nat) (cI cS : ClassId) (n sz : Nat) (a_m : Nat) (a_m_w : Nat) (a_m_d : Nat) (a_m_text : Nat) (a_m_numbers : Nat) (a_m_then : Nat) (a_m_leans : Nat) (a_m_heardSet : Nat) (a_m_heardSum : Nat) (m_w : Nat → Int32) (m_d : Nat → Int32) (m_undoes : Int32) (m_kept : Int32) (m_texted : Int32) (m_at : Int32) (m_draws : Int32) (m_drawn : Int32) (m_heards : Int32) (x1 : Int32) (x2 : Int32) (res : Int32 × (Nat → Int32))  (h : F_X6_odds n m_w m_d x1 x2 = some res) : Met l yX6_odds wsX6_odds rm_X6_odds (va_Pc [.ref a_m, .int x1, .int x2] (PRE (dC, dI) vwCl [(cI, .int), (cS, .object "RoundOfTheA$State")] sz [(a_m, .inr (6, [.ref a_m_w, .ref a_m_d, .int m_undoes, .int m_kept, .ref a_m_text, .int m_texted, .int m_at, .ref a_m_numbers, .ref a_m_then, .ref a_m_leans, .int m_draws, .int m_drawn, .int m_heards, .ref a_m_heardSet, .ref a_m_heardSum])), (a_m_w, .inl (cI, 106, .inl m_w)), (a_m_d, .inl (cI, 216, .inl m_d))])) (va_Qi (fun (r : Int32) (_ : Unit) => r = res.1) (fun u t => POST (dC, dI) vwCl [(a_m, .inr (6, [.ref a_m_w, .ref a_m_d, .int m_undoes, .int m_kept, .ref a_m_text, .int m_texted, .int m_at, .ref a_m_numbers, .ref a_m_then, .ref a_m_leans, .int m_draws, .int m_drawn, .int m_heards, .ref a_m_heardSet, .ref a_m_heardSum])), (a_m_w, .inl (cI, 106, .inl m_w)), (a_m_d, .inl (cI, 216, .inl res.2))] (va_A [(a_m, .inr (6, [.ref a_m_w, .ref a_m_d, .int m_undoes, .int m_kept, .ref a_m_text, .int m_texted, .int m_at, .ref a_m_numbers, .ref a_m_then, .ref a_m_leans, .int m_draws, .int m_drawn, .int m_heards, .ref a_m_heardSet, .ref a_m_heardSum])), (a_m_w, .inl (cI, 106, .inl m_w)), (a_m_d, .inl (cI, 216, .inl m_d))] sz) t) (va_A [(a_m, .inr (6, [.ref a_m_w, .ref a_m_d, .int m_undoes, .int m_kept, .ref a_m_text, .int m_texted, .int m_at, .ref a_m_numbers, .ref a_m_then, .ref a_m_leans, .int m_draws, .int m_drawn, .int m_heards, .ref a_m_heardSet, .ref a_m_heardSum])), (a_m_w, .inl (cI, 106, .inl m_w)), (a_m_d, .inl (cI, 216, .inl m_d))] sz)) 0 0 (va_A [(a_m, .inr (6, [.ref a_m_w, .ref a_m_d, .int m_undoes, .int m_kept, .ref a_m_text, .int m_texted, .int m_at, .ref a_m_numbers, .ref a_m_then, .ref a_m_leans, .int m_draws, .int m_drawn, .int m_heards, .ref a_m_heardSet, .ref a_m_heardSum])), (a_m_w, .inl (cI, 106, .inl m_w)), (a_m_d, .inl (cI, 216, .inl m_d))] sz) := by
  refine Met.ofW (cc := cX6_odds) (maxL := 9) (ret := (some .int)) (by decide) rfl ?_
  intro p e s m args below meth c s₁ B hml hv
  obtain ⟨rfl, hsz, hN, hP, hK, hD0⟩ := hv
  have hx := B.exec
  have hb := B.bytes
  have hr := B.returns
  have hts := atoms_spec (ws := wsX6_odds) B.pre
  have hown : s.vm.findClass RX6 = some m.cls := findClass_of_methodNamed B.named
  have hlocks := B.notSynchronized
  subst hsz
  have hD := hD0.self (sz := s.heap.size)
  generalize hAe : va_A [(a_m, .inr (6, [.ref a_m_w, .ref a_m_d, .int m_undoes, .int m_kept, .ref a_m_text, .int m_texted, .int m_at, .ref a_m_numbers, .ref a_m_then, .ref a_m_leans, .int m_draws, .int m_drawn, .int m_heards, .ref a_m_heardSet, .ref a_m_heardSum])), (a_m_w, .inl (cI, 106, .inl m_w)), (a_m_d, .inl (cI, 216, .inl m_d))] s.heap.size = A at hD ⊢
  have hA : ∀ q : Nat, s.heap.size ≤ q → A q := fun q h => by rw [← hAe]; exact Or.inr h
  have hS : va_S A s.heap s.heap [] := va_S.rf
  generalize hQe : MQ below _ _ s _ _ A = QQ
  have hl := lv_entry ([.ref a_m, .int x1, .int x2]) (n := 9) (Nat.le_of_ble_eq_true rfl)
  rw [lg_entry_eq]
  generalize (lg_sl ([.ref a_m, .int x1, .int x2]) ++ List.replicate (9 - (lg_sl ([.ref a_m, .int x1, .int x2])).length) Slot.unset).toArray = ls at hl ⊢
  have hl : lv_has ls 9 [(0, .ref a_m), (1, .int x1), (2, .int x2)] := hl
  have k_189 := hts (.constantLong RX6 189 (10)) (by decide +kernel)
  have f_7 := hts (.fieldLink RX6 7 "RoundOfTheAModel" "w" "[I") (by decide +kernel)
  have in_X6 := (by decide +kernel : ∀ w ∈ wsX60, w ∈ wsX6_odds)
  have f_13 := hts (.fieldLink RX6 13 "RoundOfTheAModel" "d" "[I") (by decide +kernel)
  rw [F_X6_odds] at h
  refine lv_iload_n hx hb dX6_odds_0 rfl (lv_at hl 1 rfl) ?_
  refine lv_i2l (v := (Int32.toInt64 x1)) hx hb dX6_odds_1 rfl ?_
  refine lv_lconst (v := (0 : Int64)) hx hb dX6_odds_2 (by decide) ?_
  refine lv_ldc2 (v := (10 : Int64)) hx hb hown k_189 dX6_odds_3 ?_
  obtain ⟨r6155, hr6155, h⟩ := ob h
  refine k_Si (As := [.long (Int32.toInt64 x1), .long (0 : Int64), .long (10 : Int64)]) (rest := []) (c_X6_in l dC dI cI cS n _ (Int32.toInt64 x1) (0 : Int64) (10 : Int64) r6155 hr6155) (fun _ _ q => q) ⟨hx, hb, hml, hown, hts⟩ (va_cwS 3 hts gX6_odds_X6_in rfl rfl rfl (by decide +kernel) ⟨(Nat.le_of_ble_eq_true rfl), (Nat.le_of_ble_eq_true rfl)⟩) hN hK hP hD hS hA rfl hl.1 rfl (Nat.le_of_ble_eq_true rfl) dX6_odds_6 ⟨(Nat.le_of_ble_eq_true rfl), (Nat.le_of_ble_eq_true rfl)⟩ (fun H locs hP hD hS => ?_)
  refine lv_if_eq (tgt := 22) hx hb dX6_odds_9 (by decide) (fun c_9 => ?_) (fun c_9 => ?_)
  · have h := (if_pos c_9).symm.trans h
    refine lv_iconst (v := (-1 : Int32)) hx hb dX6_odds_22 (by decide) ?_
    obtain rfl := Option.some.inj h
    subst hQe
    exact W.iret (v := (-1 : Int32)) hx hb hr (fun t ht hW => ⟨⟨(-1 : Int32), (), rfl, rfl, ⟨by rw [ht]; exact hP, hD⟩⟩, hS.F ht⟩) hS.2.2 dX6_odds_23
  · have h := (if_neg c_9).symm.trans h
    refine lv_iload_n hx hb dX6_odds_12 rfl (lv_at hl 2 rfl) ?_
    refine lv_i2l (v := (Int32.toInt64 x2)) hx hb dX6_odds_13 rfl ?_
    refine lv_lconst (v := (0 : Int64)) hx hb dX6_odds_14 (by decide) ?_
    refine lv_lconst (v := (1 : Int64)) hx hb dX6_odds_15 (by decide) ?_
    obtain ⟨r6157, hr6157, h⟩ := ob h
    refine k_Si (As := [.long (Int32.toInt64 x2), .long (0 : Int64), .long (1 : Int64)]) (rest := []) (c_X6_in l dC dI cI cS n _ (Int32.toInt64 x2) (0 : Int64) (1 : Int64) r6157 hr6157) (fun _ _ q => q) ⟨hx, hb, hml, hown, hts⟩ (va_cwS 3 hts gX6_odds_X6_in rfl rfl rfl (by decide +kernel) ⟨(Nat.le_of_ble_eq_true rfl), (Nat.le_of_ble_eq_true rfl)⟩) hN hK hP hD hS hA rfl hl.1 rfl (Nat.le_of_ble_eq_true rfl) dX6_odds_16 ⟨(Nat.le_of_ble_eq_true rfl), (Nat.le_of_ble_eq_true rfl)⟩ (fun H locs hP hD hS => ?_)
    refine lv_if_ne (tgt := 24) hx hb dX6_odds_19 (by decide) (fun c_19 => ?_) (fun c_19 => ?_)
    · have h := (if_neg c_19).symm.trans h
      refine lv_iconst (v := (0 : Int32)) hx hb dX6_odds_24 (by decide) ?_
      refine lv_istore_n (lv' := [(3, .int (0 : Int32)), (0, .ref a_m), (1, .int x1), (2, .int x2)]) hx hb dX6_odds_25 rfl hl (by decide) rfl (fun ls hl => ?_)
      refine lv_iconst (v := (1 : Int32)) hx hb dX6_odds_26 (by decide) ?_
      refine lv_istore (lv' := [(4, .int (1 : Int32)), (3, .int (0 : Int32)), (0, .ref a_m), (1, .int x1), (2, .int x2)]) hx hb dX6_odds_27 hl (by decide) rfl (fun ls hl => ?_)
      refine lv_iconst (v := (0 : Int32)) hx hb dX6_odds_29 (by decide) ?_
      refine lv_istore (lv' := [(5, .int (0 : Int32)), (4, .int (1 : Int32)), (3, .int (0 : Int32)), (0, .ref a_m), (1, .int x1), (2, .int x2)]) hx hb dX6_odds_30 hl (by decide) rfl (fun ls hl => ?_)
      obtain ⟨j6176, hjj6176, h⟩ := ob h
      have Jj6176 : ∀ (H : Heap) (locs : List Loc), va_P (dC, dI) vwCl [(a_m, .inr (6, [.ref a_m_w, .ref a_m_d, .int m_undoes, .int m_kept, .ref a_m_text, .int m_texted, .int m_at, .ref a_m_numbers, .ref a_m_then, .ref a_m_leans, .int m_draws, .int m_drawn, .int m_heards, .ref a_m_heardSet, .ref a_m_heardSum])), (a_m_w, .inl (cI, 106, .inl m_w)), (a_m_d, .inl (cI, 216, .inl m_d))] H → va_D A [(a_m, .inr (6, [.ref a_m_w, .ref a_m_d, .int m_undoes, .int m_kept, .ref a_m_text, .int m_texted, .int m_at, .ref a_m_numbers, .ref a_m_then, .ref a_m_leans, .int m_draws, .int m_drawn, .int m_heards, .ref a_m_heardSet, .ref a_m_heardSum])), (a_m_w, .inl (cI, 106, .inl m_w)), (a_m_d, .inl (cI, 216, .inl m_d))] → va_S A s.heap H locs → ∀ ls : Array Slot, lv_has ls 9 [(0, .ref a_m), (1, .int x1), (2, .int x2), (3, .int j6176.1), (4, .int j6176.2.1), (5, .int j6176.2.2)] → W p l e (headSpec wsX6_odds rm_X6_odds).room s m ([.ref a_m, .int x1, .int x2] : List Value).toArray below meth c H locs 0 0 QQ (F0 m 113 ls []) := by
        intro H locs hP hD hS ls hl
        refine lv_iconst (v := (0 : Int32)) hx hb dX6_odds_113 (by decide) ?_
        refine lv_istore (lv' := [(5, .int (0 : Int32)), (0, .ref a_m), (1, .int x1), (2, .int x2), (3, .int j6176.1), (4, .int j6176.2.1)]) hx hb dX6_odds_114 hl (by decide) rfl (fun ls hl => ?_)
        refine lv_iconst (v := (0 : Int32)) hx hb dX6_odds_116 (by decide) ?_
        refine lv_istore (lv' := [(6, .int (0 : Int32)), (5, .int (0 : Int32)), (0, .ref a_m), (1, .int x1), (2, .int x2), (3, .int j6176.1), (4, .int j6176.2.1)]) hx hb dX6_odds_117 hl (by decide) rfl (fun ls hl => ?_)
        obtain ⟨j6407, hjj6407, h⟩ := ob h
        have Jj6407 : ∀ (H : Heap) (locs : List Loc), va_P (dC, dI) vwCl [(a_m, .inr (6, [.ref a_m_w, .ref a_m_d, .int m_undoes, .int m_kept, .ref a_m_text, .int m_texted, .int m_at, .ref a_m_numbers, .ref a_m_then, .ref a_m_leans, .int m_draws, .int m_drawn, .int m_heards, .ref a_m_heardSet, .ref a_m_heardSum])), (a_m_w, .inl (cI, 106, .inl m_w)), (a_m_d, .inl (cI, 216, .inl j6407.2.2))] H → va_D A [(a_m, .inr (6, [.ref a_m_w, .ref a_m_d, .int m_undoes, .int m_kept, .ref a_m_text, .int m_texted, .int m_at, .ref a_m_numbers, .ref a_m_then, .ref a_m_leans, .int m_draws, .int m_drawn, .int m_heards, .ref a_m_heardSet, .ref a_m_heardSum])), (a_m_w, .inl (cI, 106, .inl m_w)), (a_m_d, .inl (cI, 216, .inl j6407.2.2))] → va_S A s.heap H locs → ∀ ls : Array Slot, lv_has ls 9 [(0, .ref a_m), (1, .int x1), (2, .int x2), (3, .int j6176.1), (4, .int j6176.2.1), (5, .int j6407.1), (6, .int j6407.2.1)] → W p l e (headSpec wsX6_odds rm_X6_odds).room s m ([.ref a_m, .int x1, .int x2] : List Value).toArray below meth c H locs 0 0 QQ (F0 m 272 ls []) := by
          intro H locs hP hD hS ls hl
          refine lv_iload hx hb dX6_odds_272 (lv_at hl 5 rfl) ?_
          refine lv_iload hx hb dX6_odds_274 (lv_at hl 4 rfl) ?_
          obtain ⟨r6518, hr6518, h⟩ := ob h
          refine k_Si (As := [.int j6407.1, .int j6176.2.1]) (rest := []) (c_X6_common l dC dI cI cS n _ j6407.1 j6176.2.1 r6518 hr6518) (fun _ _ q => q) ⟨hx, hb, hml, hown, hts⟩ (va_cwS 2 hts gX6_odds_X6_common rfl rfl rfl (by decide +kernel) ⟨(Nat.le_of_ble_eq_true rfl), (Nat.le_of_ble_eq_true rfl)⟩) hN hK hP hD hS hA rfl hl.1 rfl (Nat.le_of_ble_eq_true rfl) dX6_odds_276 ⟨(Nat.le_of_ble_eq_true rfl), (Nat.le_of_ble_eq_true rfl)⟩ (fun H locs hP hD hS => ?_)
          refine lv_istore (lv' := [(6, .int r6518), (0, .ref a_m), (1, .int x1), (2, .int x2), (3, .int j6176.1), (4, .int j6176.2.1), (5, .int j6407.1)]) hx hb dX6_odds_279 hl (by decide) rfl (fun ls hl => ?_)
          refine lv_iload_n hx hb dX6_odds_281 rfl (lv_at hl 3 rfl) ?_
          refine lv_if_ne (tgt := 293) hx hb dX6_odds_282 (by decide) (fun c_282 => ?_) (fun c_282 => ?_)
          · have h := (if_neg c_282).symm.trans h
            refine lv_iload hx hb dX6_odds_293 (lv_at hl 5 rfl) ?_
            refine lv_iload hx hb dX6_odds_295 (lv_at hl 0 rfl) ?_
            obtain ⟨u6520, hu6520, h⟩ := ob h
            refine lv_idiv hx hb dX6_odds_297 (nz_some hu6520) ?_
            obtain rfl := Option.some.inj h
            subst hQe
            exact W.iret (v := (j6176.2.1 / r6518)) hx hb hr (fun t ht hW => ⟨⟨(j6176.2.1 / r6518), (), rfl, rfl, ⟨by rw [ht]; exact hP, hD⟩⟩, hS.F ht⟩) hS.2.2 dX6_odds_298
          · have h := (if_pos c_282).symm.trans h
            refine lv_iload hx hb dX6_odds_285 (lv_at hl 6 rfl) ?_
            refine lv_iload hx hb dX6_odds_287 (lv_at hl 0 rfl) ?_
            obtain ⟨u6521, hu6521, h⟩ := ob h
            refine lv_idiv hx hb dX6_odds_289 (nz_some hu6521) ?_
            refine lv_goto (tgt := 298) hx hb dX6_odds_290 (by decide) ?_
            obtain rfl := Option.some.inj h
            subst hQe
            exact W.iret (v := (j6407.1 / r6518)) hx hb hr (fun t ht hW => ⟨⟨(j6407.1 / r6518), (), rfl, rfl, ⟨by rw [ht]; exact hP, hD⟩⟩, hS.F ht⟩) hS.2.2 dX6_odds_298
        have K119 : ∀ (k : Nat) (y5_119 : Int32) (y6_119 : Int32) (m_dv_119 : Nat → Int32), L_X6_odds_119 n m_w x1 j6176 k y5_119 y6_119 m_dv_119 = some j6407 → ∀ (H : Heap) (locs : List Loc), va_P (dC, dI) vwCl [(a_m, .inr (6, [.ref a_m_w, .ref a_m_d, .int m_undoes, .int m_kept, .ref a_m_text, .int m_texted, .int m_at, .ref a_m_numbers, .ref a_m_then, .ref a_m_leans, .int m_draws, .int m_drawn, .int m_heards, .ref a_m_heardSet, .ref a_m_heardSum])), (a_m_w, .inl (cI, 106, .inl m_w)), (a_m_d, .inl (cI, 216, .inl m_dv_119))] H → va_D A [(a_m, .inr (6, [.ref a_m_w, .ref a_m_d, .int m_undoes, .int m_kept, .ref a_m_text, .int m_texted, .int m_at, .ref a_m_numbers, .ref a_m_then, .ref a_m_leans, .int m_draws, .int m_drawn, .int m_heards, .ref a_m_heardSet, .ref a_m_heardSum])), (a_m_w, .inl (cI, 106, .inl m_w)), (a_m_d, .inl (cI, 216, .inl m_dv_119))] → va_S A s.heap H locs → ∀ ls : Array Slot, lv_has ls 9 [(0, .ref a_m), (1, .int x1), (2, .int x2), (3, .int j6176.1), (4, .int j6176.2.1), (5, .int y5_119), (6, .int y6_119)] → W p l e (headSpec wsX6_odds rm_X6_odds).room s m ([.ref a_m, .int x1, .int x2] : List Value).toArray below meth c H locs 0 0 QQ (F0 m 119 ls []) := by
          intro k
          induction k with
          | zero =>
            intro y5_119 y6_119 m_dv_119 h
            rw [L_X6_odds_119] at h
            cases h
          | succ k ih =>
            intro y5_119 y6_119 m_dv_119 h H locs hP hD hS ls hl
            rw [L_X6_odds_119] at h
            refine lv_iload hx hb dX6_odds_119 (lv_at hl 6 rfl) ?_
            refine lv_iconst (v := (1 : Int32)) hx hb dX6_odds_121 (by decide) ?_
            refine lv_aload_n hx hb dX6_odds_122 rfl (lv_at hl 0 rfl) ?_
            refine va_get (D := (dC, dI)) (ci := 6) (v := .ref a_m_w) (C := RX6) (T := TX6) (N := 15) hx hb hts in_X6 hown hK hP 0 rfl rfl 0 (by decide) f_7 (fun _ h9 => h9) rfl dX6_odds_123 ?_
            refine lv_iconst (v := (0 : Int32)) hx hb dX6_odds_126 (by decide) ?_
            obtain ⟨v6408, hv6408, h⟩ := ob h
            refine k_ld hx hb hK hP 1 0 rfl rfl hv6408 dX6_odds_127 ?_
            refine lv_ishl hx hb dX6_odds_128 ?_
            refine lv_icmp_ge (tgt := 272) hx hb dX6_odds_129 (by decide) (fun c_129 => ?_) (fun c_129 => ?_)
            · have h := (if_pos c_129).symm.trans h
              obtain rfl := Option.some.inj h
              exact Jj6407 _ _ hP hD hS _ hl
            · have h := (if_neg c_129).symm.trans h
              refine lv_iload hx hb dX6_odds_132 (lv_at hl 6 rfl) ?_
              refine lv_iload_n hx hb dX6_odds_134 rfl (lv_at hl 3 rfl) ?_
              refine lv_iconst (v := (-1 : Int32)) hx hb dX6_odds_135 (by decide) ?_
              refine lv_ixor hx hb dX6_odds_136 ?_
              refine lv_iand hx hb dX6_odds_137 ?_
              obtain ⟨j6463, hjj6463, h⟩ := ob h
              have Jj6463 : ∀ (H : Heap) (locs : List Loc), va_P (dC, dI) vwCl [(a_m, .inr (6, [.ref a_m_w, .ref a_m_d, .int m_undoes, .int m_kept, .ref a_m_text, .int m_texted, .int m_at, .ref a_m_numbers, .ref a_m_then, .ref a_m_leans, .int m_draws, .int m_drawn, .int m_heards, .ref a_m_heardSet, .ref a_m_heardSum])), (a_m_w, .inl (cI, 106, .inl m_w)), (a_m_d, .inl (cI, 216, .inl j6463.2))] H → va_D A [(a_m, .inr (6, [.ref a_m_w, .ref a_m_d, .int m_undoes, .int m_kept, .ref a_m_text, .int m_texted, .int m_at, .ref a_m_numbers, .ref a_m_then, .ref a_m_leans, .int m_draws, .int m_drawn, .int m_heards, .ref a_m_heardSet, .ref a_m_heardSum])), (a_m_w, .inl (cI, 106, .inl m_w)), (a_m_d, .inl (cI, 216, .inl j6463.2))] → va_S A s.heap H locs → ∀ ls : Array Slot, lv_has ls 9 [(0, .ref a_m), (1, .int x1), (2, .int x2), (3, .int j6176.1), (4, .int j6176.2.1), (5, .int j6463.1), (6, .int y6_119)] → W p l e (headSpec wsX6_odds rm_X6_odds).room s m ([.ref a_m, .int x1, .int x2] : List Value).toArray below meth c H locs 0 0 QQ (F0 m 266 ls []) := by
                intro H locs hP hD hS ls hl
                refine lv_iinc (v := (y6_119 + (1 : Int32))) (lv' := [(6, .int (y6_119 + (1 : Int32))), (0, .ref a_m), (1, .int x1), (2, .int x2), (3, .int j6176.1), (4, .int j6176.2.1), (5, .int j6463.1)]) hx hb dX6_odds_266 hl (k := 6) rfl rfl (by decide) rfl (fun ls hl => ?_)
                refine lv_goto (tgt := 119) hx hb dX6_odds_269 (by decide) ?_
                exact ih _ _ _ h _ _ hP hD hS _ (lv_sub hl [1, 2, 3, 4, 5, 6, 0] rfl)
              refine lv_if_ne (tgt := 266) hx hb dX6_odds_138 (by decide) (fun c_138 => ?_) (fun c_138 => ?_)
              · have h := (if_neg c_138).symm.trans hjj6463
                obtain rfl := Option.some.inj h
                exact Jj6463 _ _ hP hD hS _ hl
              · have h := (if_pos c_138).symm.trans hjj6463
                refine lv_iconst (v := (1 : Int32)) hx hb dX6_odds_141 (by decide) ?_
                refine lv_istore (lv' := [(7, .int (1 : Int32)), (0, .ref a_m), (1, .int x1), (2, .int x2), (3, .int j6176.1), (4, .int j6176.2.1), (5, .int y5_119), (6, .int y6_119)]) hx hb dX6_odds_142 hl (by decide) rfl (fun ls hl => ?_)
                refine lv_aload_n hx hb dX6_odds_144 rfl (lv_at hl 1 rfl) ?_
                obtain ⟨r6464, hr6464, h⟩ := ob h
                refine k_Vv (As := []) (rest := []) (wr := [(a_m_w, .inl (cI, 106, .inl m_w))]) (c_X6_lays l dC dI cI cS n _ a_m a_m_w a_m_d a_m_text a_m_numbers a_m_then a_m_leans a_m_heardSet a_m_heardSum m_dv_119 m_undoes m_kept m_texted m_at m_draws m_drawn m_heards r6464 hr6464) ⟨hx, hb, hml, hown, hts⟩ (cwV 0 hts gX6_odds_X6_lays rfl rfl rfl (by decide +kernel) ⟨(Nat.le_of_ble_eq_true rfl), (Nat.le_of_ble_eq_true rfl)⟩) hN hK hP hD hS hA [0, 2] [1] rfl rfl (by decide) (by decide) (by decide) rfl rfl rfl hl.1 rfl (Nat.le_of_ble_eq_true rfl) dX6_odds_145 ⟨(Nat.le_of_ble_eq_true rfl), (Nat.le_of_ble_eq_true rfl)⟩ (fun u6465 H locs _ hP hD hS => ?_)
                have hP : va_P (dC, dI) vwCl [(a_m_w, .inl (cI, 106, .inl m_w)), (a_m, .inr (6, [.ref a_m_w, .ref a_m_d, .int m_undoes, .int m_kept, .ref a_m_text, .int m_texted, .int m_at, .ref a_m_numbers, .ref a_m_then, .ref a_m_leans, .int m_draws, .int m_drawn, .int m_heards, .ref a_m_heardSet, .ref a_m_heardSum])), (a_m_d, .inl (cI, 216, .inl r6464))] H := hP
                have hD : va_D A [(a_m_w, .inl (cI, 106, .inl m_w)), (a_m, .inr (6, [.ref a_m_w, .ref a_m_d, .int m_undoes, .int m_kept, .ref a_m_text, .int m_texted, .int m_at, .ref a_m_numbers, .ref a_m_then, .ref a_m_leans, .int m_draws, .int m_drawn, .int m_heards, .ref a_m_heardSet, .ref a_m_heardSum])), (a_m_d, .inl (cI, 216, .inl r6464))] := hD
                refine lv_iconst (v := (0 : Int32)) hx hb dX6_odds_148 (by decide) ?_
                refine lv_istore (lv' := [(8, .int (0 : Int32)), (7, .int (1 : Int32)), (0, .ref a_m), (1, .int x1), (2, .int x2), (3, .int j6176.1), (4, .int j6176.2.1), (5, .int y5_119), (6, .int y6_119)]) hx hb dX6_odds_149 hl (by decide) rfl (fun ls hl => ?_)
                obtain ⟨j6499, hjj6499, h⟩ := ob h
                have Jj6499 : ∀ (H : Heap) (locs : List Loc), va_P (dC, dI) vwCl [(a_m_w, .inl (cI, 106, .inl m_w)), (a_m, .inr (6, [.ref a_m_w, .ref a_m_d, .int m_undoes, .int m_kept, .ref a_m_text, .int m_texted, .int m_at, .ref a_m_numbers, .ref a_m_then, .ref a_m_leans, .int m_draws, .int m_drawn, .int m_heards, .ref a_m_heardSet, .ref a_m_heardSum])), (a_m_d, .inl (cI, 216, .inl j6499.2.2))] H → va_D A [(a_m_w, .inl (cI, 106, .inl m_w)), (a_m, .inr (6, [.ref a_m_w, .ref a_m_d, .int m_undoes, .int m_kept, .ref a_m_text, .int m_texted, .int m_at, .ref a_m_numbers, .ref a_m_then, .ref a_m_leans, .int m_draws, .int m_drawn, .int m_heards, .ref a_m_heardSet, .ref a_m_heardSum])), (a_m_d, .inl (cI, 216, .inl j6499.2.2))] → va_S A s.heap H locs → ∀ ls : Array Slot, lv_has ls 9 [(0, .ref a_m), (1, .int x1), (2, .int x2), (3, .int j6176.1), (4, .int j6176.2.1), (5, .int y5_119), (6, .int y6_119), (7, .int j6499.1), (8, .int j6499.2.1)] → W p l e (headSpec wsX6_odds rm_X6_odds).room s m ([.ref a_m, .int x1, .int x2] : List Value).toArray below meth c H locs 0 0 QQ (F0 m 245 ls []) := by
                  intro H locs hP hD hS ls hl
                  refine lv_iload hx hb dX6_odds_245 (lv_at hl 5 rfl) ?_
                  refine lv_aload_n hx hb dX6_odds_247 rfl (lv_at hl 0 rfl) ?_
                  refine lv_sipush (v := (198 : Int32)) hx hb dX6_odds_248 (by decide) ?_
                  obtain ⟨r6515, hr6515, h⟩ := ob h
                  refine k_Vi (As := [.int (198 : Int32)]) (rest := [.int y5_119]) (wr := []) (c_X6_heardOf l dC dI cI cS n _ a_m a_m_w a_m_d a_m_text a_m_numbers a_m_then a_m_leans a_m_heardSet a_m_heardSum m_w j6499.2.2 m_undoes m_kept m_texted m_at m_draws m_drawn m_heards (198 : Int32) r6515 hr6515) (fun _ _ q => q) ⟨hx, hb, hml, hown, hts⟩ (cwV 1 hts gX6_odds_X6_heardOf rfl rfl rfl (by decide +kernel) ⟨(Nat.le_of_ble_eq_true rfl), (Nat.le_of_ble_eq_true rfl)⟩) hN hK hP hD hS hA [1, 0, 2] [] rfl rfl (by decide) (by decide) (by decide) rfl rfl rfl hl.1 rfl (Nat.le_of_ble_eq_true rfl) dX6_odds_251 ⟨(Nat.le_of_ble_eq_true rfl), (Nat.le_of_ble_eq_true rfl)⟩ (fun u6516 H locs _ hP hD hS => ?_)
                  have hP : va_P (dC, dI) vwCl [(a_m, .inr (6, [.ref a_m_w, .ref a_m_d, .int m_undoes, .int m_kept, .ref a_m_text, .int m_texted, .int m_at, .ref a_m_numbers, .ref a_m_then, .ref a_m_leans, .int m_draws, .int m_drawn, .int m_heards, .ref a_m_heardSet, .ref a_m_heardSum])), (a_m_w, .inl (cI, 106, .inl m_w)), (a_m_d, .inl (cI, 216, .inl j6499.2.2))] H := hP
                  have hD : va_D A [(a_m, .inr (6, [.ref a_m_w, .ref a_m_d, .int m_undoes, .int m_kept, .ref a_m_text, .int m_texted, .int m_at, .ref a_m_numbers, .ref a_m_then, .ref a_m_leans, .int m_draws, .int m_drawn, .int m_heards, .ref a_m_heardSet, .ref a_m_heardSum])), (a_m_w, .inl (cI, 106, .inl m_w)), (a_m_d, .inl (cI, 216, .inl j6499.2.2))] := hD
                  obtain ⟨j6517, hjj6517, h⟩ := ob h
                  have Jj6517 : ∀ (H : Heap) (locs : List Loc), va_P (dC, dI) vwCl [(a_m, .inr (6, [.ref a_m_w, .ref a_m_d, .int m_undoes, .int m_kept, .ref a_m_text, .int m_texted, .int m_at, .ref a_m_numbers, .ref a_m_then, .ref a_m_leans, .int m_draws, .int m_drawn, .int m_heards, .ref a_m_heardSet, .ref a_m_heardSum])), (a_m_w, .inl (cI, 106, .inl m_w)), (a_m_d, .inl (cI, 216, .inl j6499.2.2))] H → va_D A [(a_m, .inr (6, [.ref a_m_w, .ref a_m_d, .int m_undoes, .int m_kept, .ref a_m_text, .int m_texted, .int m_at, .ref a_m_numbers, .ref a_m_then, .ref a_m_leans, .int m_draws, .int m_drawn, .int m_heards, .ref a_m_heardSet, .ref a_m_heardSum])), (a_m_w, .inl (cI, 106, .inl m_w)), (a_m_d, .inl (cI, 216, .inl j6499.2.2))] → va_S A s.heap H locs → ∀ ls : Array Slot, lv_has ls 9 [(0, .ref a_m), (1, .int x1), (2, .int x2), (3, .int j6176.1), (4, .int j6176.2.1), (5, .int y5_119), (6, .int y6_119), (7, .int j6499.1), (8, .int j6499.2.1)] → W p l e (headSpec wsX6_odds rm_X6_odds).room s m ([.ref a_m, .int x1, .int x2] : List Value).toArray below meth c H locs 0 0 QQ (F0 m 263 ls [.int j6517, .int y5_119]) := by
                    intro H locs hP hD hS ls hl
                    refine lv_iadd hx hb dX6_odds_263 ?_
                    refine lv_istore (lv' := [(5, .int (y5_119 + j6517)), (0, .ref a_m), (1, .int x1), (2, .int x2), (3, .int j6176.1), (4, .int j6176.2.1), (6, .int y6_119), (7, .int j6499.1), (8, .int j6499.2.1)]) hx hb dX6_odds_264 hl (by decide) rfl (fun ls hl => ?_)
                    obtain rfl := Option.some.inj h
                    exact Jj6463 _ _ hP hD hS _ (lv_sub hl [1, 2, 3, 4, 5, 0, 6] rfl)
                  refine lv_if_ne (tgt := 262) hx hb dX6_odds_254 (by decide) (fun c_254 => ?_) (fun c_254 => ?_)
                  · have h := (if_neg c_254).symm.trans hjj6517
                    refine lv_iconst (v := (0 : Int32)) hx hb dX6_odds_262 (by decide) ?_
                    obtain rfl := Option.some.inj h
                    exact Jj6517 _ _ hP hD hS _ hl
                  · have h := (if_pos c_254).symm.trans hjj6517
                    refine lv_iload hx hb dX6_odds_257 (lv_at hl 7 rfl) ?_
                    refine lv_goto (tgt := 263) hx hb dX6_odds_259 (by decide) ?_
                    obtain rfl := Option.some.inj h
                    exact Jj6517 _ _ hP hD hS _ hl
                have K151 : ∀ (k : Nat) (y7_151 : Int32) (y8_151 : Int32) (m_dv_151 : Nat → Int32), L_X6_odds_151 n m_w x1 j6176 y6_119 k y7_151 y8_151 m_dv_151 = some j6499 → ∀ (H : Heap) (locs : List Loc), va_P (dC, dI) vwCl [(a_m_w, .inl (cI, 106, .inl m_w)), (a_m, .inr (6, [.ref a_m_w, .ref a_m_d, .int m_undoes, .int m_kept, .ref a_m_text, .int m_texted, .int m_at, .ref a_m_numbers, .ref a_m_then, .ref a_m_leans, .int m_draws, .int m_drawn, .int m_heards, .ref a_m_heardSet, .ref a_m_heardSum])), (a_m_d, .inl (cI, 216, .inl m_dv_151))] H → va_D A [(a_m_w, .inl (cI, 106, .inl m_w)), (a_m, .inr (6, [.ref a_m_w, .ref a_m_d, .int m_undoes, .int m_kept, .ref a_m_text, .int m_texted, .int m_at, .ref a_m_numbers, .ref a_m_then, .ref a_m_leans, .int m_draws, .int m_drawn, .int m_heards, .ref a_m_heardSet, .ref a_m_heardSum])), (a_m_d, .inl (cI, 216, .inl m_dv_151))] → va_S A s.heap H locs → ∀ ls : Array Slot, lv_has ls 9 [(0, .ref a_m), (1, .int x1), (2, .int x2), (3, .int j6176.1), (4, .int j6176.2.1), (5, .int y5_119), (6, .int y6_119), (7, .int y7_151), (8, .int y8_151)] → W p l e (headSpec wsX6_odds rm_X6_odds).room s m ([.ref a_m, .int x1, .int x2] : List Value).toArray below meth c H locs 0 0 QQ (F0 m 151 ls []) := by
                  intro k
                  induction k with
                  | zero =>
                    intro y7_151 y8_151 m_dv_151 h
                    rw [L_X6_odds_151] at h
                    cases h
                  | succ k ih =>
                    intro y7_151 y8_151 m_dv_151 h H locs hP hD hS ls hl
                    rw [L_X6_odds_151] at h
                    refine lv_iload hx hb dX6_odds_151 (lv_at hl 8 rfl) ?_
                    refine lv_aload_n hx hb dX6_odds_153 rfl (lv_at hl 0 rfl) ?_
                    refine va_get (D := (dC, dI)) (ci := 6) (v := .ref a_m_w) (C := RX6) (T := TX6) (N := 15) hx hb hts in_X6 hown hK hP 1 rfl rfl 0 (by decide) f_7 (fun _ h9 => h9) rfl dX6_odds_154 ?_
                    refine lv_iconst (v := (0 : Int32)) hx hb dX6_odds_157 (by decide) ?_
                    obtain ⟨v6500, hv6500, h⟩ := ob h
                    refine k_ld hx hb hK hP 0 0 rfl rfl hv6500 dX6_odds_158 ?_
                    refine lv_icmp_ge (tgt := 245) hx hb dX6_odds_159 (by decide) (fun c_159 => ?_) (fun c_159 => ?_)
                    · have h := (if_pos c_159).symm.trans h
                      obtain rfl := Option.some.inj h
                      exact Jj6499 _ _ hP hD hS _ hl
                    · have h := (if_neg c_159).symm.trans h
                      refine lv_iload hx hb dX6_odds_162 (lv_at hl 7 rfl) ?_
                      refine lv_iload_n hx hb dX6_odds_164 rfl (lv_at hl 3 rfl) ?_
                      refine lv_iload hx hb dX6_odds_165 (lv_at hl 8 rfl) ?_
                      obtain ⟨r6501, hr6501, h⟩ := ob h
                      refine k_Si (As := [.int j6176.1, .int y8_151]) (rest := [.int y7_151]) (c_X6_has l dC dI cI cS n _ j6176.1 y8_151 r6501 hr6501) (fun _ _ q => q) ⟨hx, hb, hml, hown, hts⟩ (va_cwS 2 hts gX6_odds_X6_has rfl rfl rfl (by decide +kernel) ⟨(Nat.le_of_ble_eq_true rfl), (Nat.le_of_ble_eq_true rfl)⟩) hN hK hP hD hS hA rfl hl.1 rfl (Nat.le_of_ble_eq_true rfl) dX6_odds_167 ⟨(Nat.le_of_ble_eq_true rfl), (Nat.le_of_ble_eq_true rfl)⟩ (fun H locs hP hD hS => ?_)
                      obtain ⟨j6505, hjj6505, h⟩ := ob h
                      have Jj6505 : ∀ (H : Heap) (locs : List Loc), va_P (dC, dI) vwCl [(a_m_w, .inl (cI, 106, .inl m_w)), (a_m, .inr (6, [.ref a_m_w, .ref a_m_d, .int m_undoes, .int m_kept, .ref a_m_text, .int m_texted, .int m_at, .ref a_m_numbers, .ref a_m_then, .ref a_m_leans, .int m_draws, .int m_drawn, .int m_heards, .ref a_m_heardSet, .ref a_m_heardSum])), (a_m_d, .inl (cI, 216, .inl m_dv_151))] H → va_D A [(a_m_w, .inl (cI, 106, .inl m_w)), (a_m, .inr (6, [.ref a_m_w, .ref a_m_d, .int m_undoes, .int m_kept, .ref a_m_text, .int m_texted, .int m_at, .ref a_m_numbers, .ref a_m_then, .ref a_m_leans, .int m_draws, .int m_drawn, .int m_heards, .ref a_m_heardSet, .ref a_m_heardSum])), (a_m_d, .inl (cI, 216, .inl m_dv_151))] → va_S A s.heap H locs → ∀ ls : Array Slot, lv_has ls 9 [(0, .ref a_m), (1, .int x1), (2, .int x2), (3, .int j6176.1), (4, .int j6176.2.1), (5, .int y5_119), (6, .int y6_119), (7, .int y7_151), (8, .int y8_151)] → W p l e (headSpec wsX6_odds rm_X6_odds).room s m ([.ref a_m, .int x1, .int x2] : List Value).toArray below meth c H locs 0 0 QQ (F0 m 195 ls [.int j6505, .int y7_151]) := by
                        intro H locs hP hD hS ls hl
                        refine lv_imul hx hb dX6_odds_195 ?_
                        refine lv_istore (lv' := [(7, .int (y7_151 * j6505)), (0, .ref a_m), (1, .int x1), (2, .int x2), (3, .int j6176.1), (4, .int j6176.2.1), (5, .int y5_119), (6, .int y6_119), (8, .int y8_151)]) hx hb dX6_odds_196 hl (by decide) rfl (fun ls hl => ?_)
                        refine lv_aload_n hx hb dX6_odds_198 rfl (lv_at hl 1 rfl) ?_
                        refine va_get (D := (dC, dI)) (ci := 6) (v := .ref a_m_d) (C := RX6) (T := TX6) (N := 15) hx hb hts in_X6 hown hK hP 1 rfl rfl 1 (by decide) f_13 (fun _ h9 => h9) rfl dX6_odds_199 ?_
                        refine lv_sipush (v := (198 : Int32)) hx hb dX6_odds_202 (by decide) ?_
                        refine lv_iload hx hb dX6_odds_205 (lv_at hl 8 rfl) ?_
                        refine lv_iadd hx hb dX6_odds_207 ?_
                        refine lv_aload_n hx hb dX6_odds_208 rfl (lv_at hl 1 rfl) ?_
                        refine va_get (D := (dC, dI)) (ci := 6) (v := .ref a_m_d) (C := RX6) (T := TX6) (N := 15) hx hb hts in_X6 hown hK hP 1 rfl rfl 1 (by decide) f_13 (fun _ h9 => h9) rfl dX6_odds_209 ?_
                        refine lv_sipush (v := (198 : Int32)) hx hb dX6_odds_212 (by decide) ?_
                        refine lv_iload hx hb dX6_odds_215 (lv_at hl 8 rfl) ?_
                        refine lv_iadd hx hb dX6_odds_217 ?_
                        obtain ⟨v6508, hv6508, h⟩ := ob h
                        refine k_ld hx hb hK hP 2 0 rfl rfl hv6508 dX6_odds_218 ?_
                        refine lv_iload hx hb dX6_odds_219 (lv_at hl 7 rfl) ?_
                        refine lv_iload hx hb dX6_odds_221 (lv_at hl 8 rfl) ?_
                        obtain ⟨r6509, hr6509, h⟩ := ob h
                        refine k_Si (As := [.int y6_119, .int y8_151]) (rest := [.int v6508, .int ((198 : Int32) + y8_151), .ref a_m_d]) (c_X6_has l dC dI cI cS n _ y6_119 y8_151 r6509 hr6509) (fun _ _ q => q) ⟨hx, hb, hml, hown, hts⟩ (va_cwS 2 hts gX6_odds_X6_has rfl rfl rfl (by decide +kernel) ⟨(Nat.le_of_ble_eq_true rfl), (Nat.le_of_ble_eq_true rfl)⟩) hN hK hP hD hS hA rfl hl.1 rfl (Nat.le_of_ble_eq_true rfl) dX6_odds_223 ⟨(Nat.le_of_ble_eq_true rfl), (Nat.le_of_ble_eq_true rfl)⟩ (fun H locs hP hD hS => ?_)
                        obtain ⟨j6511, hjj6511, h⟩ := ob h
                        have Jj6511 : ∀ (H : Heap) (locs : List Loc), va_P (dC, dI) vwCl [(a_m_w, .inl (cI, 106, .inl m_w)), (a_m, .inr (6, [.ref a_m_w, .ref a_m_d, .int m_undoes, .int m_kept, .ref a_m_text, .int m_texted, .int m_at, .ref a_m_numbers, .ref a_m_then, .ref a_m_leans, .int m_draws, .int m_drawn, .int m_heards, .ref a_m_heardSet, .ref a_m_heardSum])), (a_m_d, .inl (cI, 216, .inl m_dv_151))] H → va_D A [(a_m_w, .inl (cI, 106, .inl m_w)), (a_m, .inr (6, [.ref a_m_w, .ref a_m_d, .int m_undoes, .int m_kept, .ref a_m_text, .int m_texted, .int m_at, .ref a_m_numbers, .ref a_m_then, .ref a_m_leans, .int m_draws, .int m_drawn, .int m_heards, .ref a_m_heardSet, .ref a_m_heardSum])), (a_m_d, .inl (cI, 216, .inl m_dv_151))] → va_S A s.heap H locs → ∀ ls : Array Slot, lv_has ls 9 [(0, .ref a_m), (1, .int x1), (2, .int x2), (3, .int j6176.1), (4, .int j6176.2.1), (5, .int y5_119), (6, .int y6_119), (7, .int (y7_151 * j6505)), (8, .int y8_151)] → W p l e (headSpec wsX6_odds rm_X6_odds).room s m ([.ref a_m, .int x1, .int x2] : List Value).toArray below meth c H locs 0 0 QQ (F0 m 234 ls [.int j6511, .int v6508, .int ((198 : Int32) + y8_151), .ref a_m_d]) := by
                          intro H locs hP hD hS ls hl
                          refine lv_isub hx hb dX6_odds_234 ?_
                          obtain ⟨r6512, hr6512, h⟩ := ob h
                          refine k_Si (As := [.int (v6508 - j6511)]) (rest := [.int ((198 : Int32) + y8_151), .ref a_m_d]) (c_X6_within l dC dI cI cS n _ (v6508 - j6511) r6512 hr6512) (fun _ _ q => q) ⟨hx, hb, hml, hown, hts⟩ (va_cwS 1 hts gX6_odds_X6_within rfl rfl rfl (by decide +kernel) ⟨(Nat.le_of_ble_eq_true rfl), (Nat.le_of_ble_eq_true rfl)⟩) hN hK hP hD hS hA rfl hl.1 rfl (Nat.le_of_ble_eq_true rfl) dX6_odds_235 ⟨(Nat.le_of_ble_eq_true rfl), (Nat.le_of_ble_eq_true rfl)⟩ (fun H locs hP hD hS => ?_)
                          obtain ⟨g6514, hg6514, h⟩ := ob h
                          refine k_st hx hb hK hP hD hS 2 0 rfl rfl hg6514 dX6_odds_238 (ws' := [(a_m_w, .inl (cI, 106, .inl m_w)), (a_m, .inr (6, [.ref a_m_w, .ref a_m_d, .int m_undoes, .int m_kept, .ref a_m_text, .int m_texted, .int m_at, .ref a_m_numbers, .ref a_m_then, .ref a_m_leans, .int m_draws, .int m_drawn, .int m_heards, .ref a_m_heardSet, .ref a_m_heardSum])), (a_m_d, .inl (cI, 216, .inl g6514))]) rfl (fun H locs hP hD hS => ?_)
                          refine lv_iinc (v := (y8_151 + (1 : Int32))) (lv' := [(8, .int (y8_151 + (1 : Int32))), (0, .ref a_m), (1, .int x1), (2, .int x2), (3, .int j6176.1), (4, .int j6176.2.1), (5, .int y5_119), (6, .int y6_119), (7, .int (y7_151 * j6505))]) hx hb dX6_odds_239 hl (k := 8) rfl rfl (by decide) rfl (fun ls hl => ?_)
                          refine lv_goto (tgt := 151) hx hb dX6_odds_242 (by decide) ?_
                          exact ih _ _ _ h _ _ hP hD hS _ (lv_sub hl [1, 2, 3, 4, 5, 6, 7, 8, 0] rfl)
                        refine lv_if_eq (tgt := 233) hx hb dX6_odds_226 (by decide) (fun c_226 => ?_) (fun c_226 => ?_)
                        · have h := (if_pos c_226).symm.trans hjj6511
                          refine lv_iconst (v := (0 : Int32)) hx hb dX6_odds_233 (by decide) ?_
                          obtain rfl := Option.some.inj h
                          exact Jj6511 _ _ hP hD hS _ (lv_sub hl [1, 2, 3, 4, 5, 6, 7, 0, 8] rfl)
                        · have h := (if_neg c_226).symm.trans hjj6511
                          refine lv_iconst (v := (4 : Int32)) hx hb dX6_odds_229 (by decide) ?_
                          refine lv_goto (tgt := 234) hx hb dX6_odds_230 (by decide) ?_
                          obtain rfl := Option.some.inj h
                          exact Jj6511 _ _ hP hD hS _ (lv_sub hl [1, 2, 3, 4, 5, 6, 7, 0, 8] rfl)
                      refine lv_if_ne (tgt := 177) hx hb dX6_odds_170 (by decide) (fun c_170 => ?_) (fun c_170 => ?_)
                      · have h := (if_neg c_170).symm.trans hjj6505
                        refine lv_iload hx hb dX6_odds_177 (lv_at hl 6 rfl) ?_
                        refine lv_iload hx hb dX6_odds_179 (lv_at hl 8 rfl) ?_
                        obtain ⟨r6506, hr6506, h⟩ := ob h
                        refine k_Si (As := [.int y6_119, .int y8_151]) (rest := [.int y7_151]) (c_X6_has l dC dI cI cS n _ y6_119 y8_151 r6506 hr6506) (fun _ _ q => q) ⟨hx, hb, hml, hown, hts⟩ (va_cwS 2 hts gX6_odds_X6_has rfl rfl rfl (by decide +kernel) ⟨(Nat.le_of_ble_eq_true rfl), (Nat.le_of_ble_eq_true rfl)⟩) hN hK hP hD hS hA rfl hl.1 rfl (Nat.le_of_ble_eq_true rfl) dX6_odds_181 ⟨(Nat.le_of_ble_eq_true rfl), (Nat.le_of_ble_eq_true rfl)⟩ (fun H locs hP hD hS => ?_)
                        refine lv_if_eq (tgt := 191) hx hb dX6_odds_184 (by decide) (fun c_184 => ?_) (fun c_184 => ?_)
                        · have h := (if_pos c_184).symm.trans h
                          refine lv_bipush (v := (10 : Int32)) hx hb dX6_odds_191 (by decide) ?_
                          refine lv_iload_n hx hb dX6_odds_193 rfl (lv_at hl 1 rfl) ?_
                          refine lv_isub hx hb dX6_odds_194 ?_
                          obtain rfl := Option.some.inj h
                          exact Jj6505 _ _ hP hD hS _ hl
                        · have h := (if_neg c_184).symm.trans h
                          refine lv_iload_n hx hb dX6_odds_187 rfl (lv_at hl 1 rfl) ?_
                          refine lv_goto (tgt := 195) hx hb dX6_odds_188 (by decide) ?_
                          obtain rfl := Option.some.inj h
                          exact Jj6505 _ _ hP hD hS _ hl
                      · have h := (if_pos c_170).symm.trans hjj6505
                        refine lv_iconst (v := (1 : Int32)) hx hb dX6_odds_173 (by decide) ?_
                        refine lv_goto (tgt := 195) hx hb dX6_odds_174 (by decide) ?_
                        obtain rfl := Option.some.inj h
                        exact Jj6505 _ _ hP hD hS _ hl
                exact K151 n (1 : Int32) (0 : Int32) r6464 hjj6499 _ _ hP hD hS _ (lv_sub hl [2, 3, 4, 5, 6, 7, 8, 1, 0] rfl)
        exact K119 n (0 : Int32) (0 : Int32) m_d hjj6407 _ _ hP hD hS _ (lv_sub hl [2, 3, 4, 5, 6, 1, 0] rfl)
      have K32 : ∀ (k : Nat) (y3_32 : Int32) (y4_32 : Int32) (y5_32 : Int32), L_X6_odds_32 m_w k y3_32 y4_32 y5_32 = some j6176 → ∀ (H : Heap) (locs : List Loc), va_P (dC, dI) vwCl [(a_m, .inr (6, [.ref a_m_w, .ref a_m_d, .int m_undoes, .int m_kept, .ref a_m_text, .int m_texted, .int m_at, .ref a_m_numbers, .ref a_m_then, .ref a_m_leans, .int m_draws, .int m_drawn, .int m_heards, .ref a_m_heardSet, .ref a_m_heardSum])), (a_m_w, .inl (cI, 106, .inl m_w)), (a_m_d, .inl (cI, 216, .inl m_d))] H → va_D A [(a_m, .inr (6, [.ref a_m_w, .ref a_m_d, .int m_undoes, .int m_kept, .ref a_m_text, .int m_texted, .int m_at, .ref a_m_numbers, .ref a_m_then, .ref a_m_leans, .int m_draws, .int m_drawn, .int m_heards, .ref a_m_heardSet, .ref a_m_heardSum])), (a_m_w, .inl (cI, 106, .inl m_w)), (a_m_d, .inl (cI, 216, .inl m_d))] → va_S A s.heap H locs → ∀ ls : Array Slot, lv_has ls 9 [(0, .ref a_m), (1, .int x1), (2, .int x2), (3, .int y3_32), (4, .int y4_32), (5, .int y5_32)] → W p l e (headSpec wsX6_odds rm_X6_odds).room s m ([.ref a_m, .int x1, .int x2] : List Value).toArray below meth c H locs 0 0 QQ (F0 m 32 ls []) := by
        intro k
        induction k with
        | zero =>
          intro y3_32 y4_32 y5_32 h
          rw [L_X6_odds_32] at h
          cases h
        | succ k ih =>
          intro y3_32 y4_32 y5_32 h H locs hP hD hS ls hl
          rw [L_X6_odds_32] at h
          refine lv_iload hx hb dX6_odds_32 (lv_at hl 5 rfl) ?_
          refine lv_aload_n hx hb dX6_odds_34 rfl (lv_at hl 0 rfl) ?_
          refine va_get (D := (dC, dI)) (ci := 6) (v := .ref a_m_w) (C := RX6) (T := TX6) (N := 15) hx hb hts in_X6 hown hK hP 0 rfl rfl 0 (by decide) f_7 (fun _ h9 => h9) rfl dX6_odds_35 ?_
          refine lv_iconst (v := (0 : Int32)) hx hb dX6_odds_38 (by decide) ?_
          obtain ⟨v6177, hv6177, h⟩ := ob h
          refine k_ld hx hb hK hP 1 0 rfl rfl hv6177 dX6_odds_39 ?_
          refine lv_icmp_ge (tgt := 113) hx hb dX6_odds_40 (by decide) (fun c_40 => ?_) (fun c_40 => ?_)
          · have h := (if_pos c_40).symm.trans h
            obtain rfl := Option.some.inj h
            exact Jj6176 _ _ hP hD hS _ hl
          · have h := (if_neg c_40).symm.trans h
            refine lv_aload_n hx hb dX6_odds_43 rfl (lv_at hl 0 rfl) ?_
            refine va_get (D := (dC, dI)) (ci := 6) (v := .ref a_m_w) (C := RX6) (T := TX6) (N := 15) hx hb hts in_X6 hown hK hP 0 rfl rfl 0 (by decide) f_7 (fun _ h9 => h9) rfl dX6_odds_44 ?_
            refine lv_iconst (v := (1 : Int32)) hx hb dX6_odds_47 (by decide) ?_
            refine lv_iload hx hb dX6_odds_48 (lv_at hl 5 rfl) ?_
            refine lv_iadd hx hb dX6_odds_50 ?_
            obtain ⟨v6178, hv6178, h⟩ := ob h
            refine k_ld hx hb hK hP 1 0 rfl rfl hv6178 dX6_odds_51 ?_
            obtain ⟨j6180, hjj6180, h⟩ := ob h
            have Jj6180 : ∀ (H : Heap) (locs : List Loc), va_P (dC, dI) vwCl [(a_m, .inr (6, [.ref a_m_w, .ref a_m_d, .int m_undoes, .int m_kept, .ref a_m_text, .int m_texted, .int m_at, .ref a_m_numbers, .ref a_m_then, .ref a_m_leans, .int m_draws, .int m_drawn, .int m_heards, .ref a_m_heardSet, .ref a_m_heardSum])), (a_m_w, .inl (cI, 106, .inl m_w)), (a_m_d, .inl (cI, 216, .inl m_d))] H → va_D A [(a_m, .inr (6, [.ref a_m_w, .ref a_m_d, .int m_undoes, .int m_kept, .ref a_m_text, .int m_texted, .int m_at, .ref a_m_numbers, .ref a_m_then, .ref a_m_leans, .int m_draws, .int m_drawn, .int m_heards, .ref a_m_heardSet, .ref a_m_heardSum])), (a_m_w, .inl (cI, 106, .inl m_w)), (a_m_d, .inl (cI, 216, .inl m_d))] → va_S A s.heap H locs → ∀ ls : Array Slot, lv_has ls 9 [(0, .ref a_m), (1, .int x1), (2, .int x2), (3, .int y3_32), (4, .int y4_32), (5, .int y5_32)] → W p l e (headSpec wsX6_odds rm_X6_odds).room s m ([.ref a_m, .int x1, .int x2] : List Value).toArray below meth c H locs 0 0 QQ (F0 m 73 ls [.int j6180]) := by
              intro H locs hP hD hS ls hl
              refine lv_istore (lv' := [(6, .int j6180), (0, .ref a_m), (1, .int x1), (2, .int x2), (3, .int y3_32), (4, .int y4_32), (5, .int y5_32)]) hx hb dX6_odds_73 hl (by decide) rfl (fun ls hl => ?_)
              refine lv_iload_n hx hb dX6_odds_75 rfl (lv_at hl 4 rfl) ?_
              refine lv_iload hx hb dX6_odds_76 (lv_at hl 0 rfl) ?_
              obtain ⟨j6182, hjj6182, h⟩ := ob h
              have Jj6182 : ∀ (H : Heap) (locs : List Loc), va_P (dC, dI) vwCl [(a_m, .inr (6, [.ref a_m_w, .ref a_m_d, .int m_undoes, .int m_kept, .ref a_m_text, .int m_texted, .int m_at, .ref a_m_numbers, .ref a_m_then, .ref a_m_leans, .int m_draws, .int m_drawn, .int m_heards, .ref a_m_heardSet, .ref a_m_heardSum])), (a_m_w, .inl (cI, 106, .inl m_w)), (a_m_d, .inl (cI, 216, .inl m_d))] H → va_D A [(a_m, .inr (6, [.ref a_m_w, .ref a_m_d, .int m_undoes, .int m_kept, .ref a_m_text, .int m_texted, .int m_at, .ref a_m_numbers, .ref a_m_then, .ref a_m_leans, .int m_draws, .int m_drawn, .int m_heards, .ref a_m_heardSet, .ref a_m_heardSum])), (a_m_w, .inl (cI, 106, .inl m_w)), (a_m_d, .inl (cI, 216, .inl m_d))] → va_S A s.heap H locs → ∀ ls : Array Slot, lv_has ls 9 [(0, .ref a_m), (1, .int x1), (2, .int x2), (3, .int y3_32), (4, .int y4_32), (5, .int y5_32), (6, .int j6180)] → W p l e (headSpec wsX6_odds rm_X6_odds).room s m ([.ref a_m, .int x1, .int x2] : List Value).toArray below meth c H locs 0 0 QQ (F0 m 89 ls [.int j6182, .int y3_32]) := by
                intro H locs hP hD hS ls hl
                refine lv_ior hx hb dX6_odds_89 ?_
                refine lv_istore_n (lv' := [(3, .int (y3_32 ||| j6182)), (0, .ref a_m), (1, .int x1), (2, .int x2), (4, .int y4_32), (5, .int y5_32), (6, .int j6180)]) hx hb dX6_odds_90 rfl hl (by decide) rfl (fun ls hl => ?_)
                refine lv_iload hx hb dX6_odds_91 (lv_at hl 4 rfl) ?_
                refine lv_iload hx hb dX6_odds_93 (lv_at hl 6 rfl) ?_
                obtain ⟨j6183, hjj6183, h⟩ := ob h
                have Jj6183 : ∀ (H : Heap) (locs : List Loc), va_P (dC, dI) vwCl [(a_m, .inr (6, [.ref a_m_w, .ref a_m_d, .int m_undoes, .int m_kept, .ref a_m_text, .int m_texted, .int m_at, .ref a_m_numbers, .ref a_m_then, .ref a_m_leans, .int m_draws, .int m_drawn, .int m_heards, .ref a_m_heardSet, .ref a_m_heardSum])), (a_m_w, .inl (cI, 106, .inl m_w)), (a_m_d, .inl (cI, 216, .inl m_d))] H → va_D A [(a_m, .inr (6, [.ref a_m_w, .ref a_m_d, .int m_undoes, .int m_kept, .ref a_m_text, .int m_texted, .int m_at, .ref a_m_numbers, .ref a_m_then, .ref a_m_leans, .int m_draws, .int m_drawn, .int m_heards, .ref a_m_heardSet, .ref a_m_heardSum])), (a_m_w, .inl (cI, 106, .inl m_w)), (a_m_d, .inl (cI, 216, .inl m_d))] → va_S A s.heap H locs → ∀ ls : Array Slot, lv_has ls 9 [(0, .ref a_m), (1, .int x1), (2, .int x2), (3, .int (y3_32 ||| j6182)), (4, .int y4_32), (5, .int y5_32), (6, .int j6180)] → W p l e (headSpec wsX6_odds rm_X6_odds).room s m ([.ref a_m, .int x1, .int x2] : List Value).toArray below meth c H locs 0 0 QQ (F0 m 104 ls [.int j6183, .int y4_32]) := by
                  intro H locs hP hD hS ls hl
                  refine lv_imul hx hb dX6_odds_104 ?_
                  refine lv_istore (lv' := [(4, .int (y4_32 * j6183)), (0, .ref a_m), (1, .int x1), (2, .int x2), (3, .int (y3_32 ||| j6182)), (5, .int y5_32), (6, .int j6180)]) hx hb dX6_odds_105 hl (by decide) rfl (fun ls hl => ?_)
                  refine lv_iinc (v := (y5_32 + (1 : Int32))) (lv' := [(5, .int (y5_32 + (1 : Int32))), (4, .int (y4_32 * j6183)), (0, .ref a_m), (1, .int x1), (2, .int x2), (3, .int (y3_32 ||| j6182)), (6, .int j6180)]) hx hb dX6_odds_107 hl (k := 5) rfl rfl (by decide) rfl (fun ls hl => ?_)
                  refine lv_goto (tgt := 32) hx hb dX6_odds_110 (by decide) ?_
                  exact ih _ _ _ h _ _ hP hD hS _ (lv_sub hl [2, 3, 4, 5, 1, 0] rfl)
                refine lv_if_eq (tgt := 103) hx hb dX6_odds_95 (by decide) (fun c_95 => ?_) (fun c_95 => ?_)
                · have h := (if_pos c_95).symm.trans hjj6183
                  refine lv_iconst (v := (1 : Int32)) hx hb dX6_odds_103 (by decide) ?_
                  obtain rfl := Option.some.inj h
                  exact Jj6183 _ _ hP hD hS _ (lv_sub hl [1, 2, 3, 0, 4, 5, 6] rfl)
                · have h := (if_neg c_95).symm.trans hjj6183
                  refine lv_bipush (v := (10 : Int32)) hx hb dX6_odds_98 (by decide) ?_
                  refine lv_goto (tgt := 104) hx hb dX6_odds_100 (by decide) ?_
                  obtain rfl := Option.some.inj h
                  exact Jj6183 _ _ hP hD hS _ (lv_sub hl [1, 2, 3, 0, 4, 5, 6] rfl)
              refine lv_if_eq (tgt := 88) hx hb dX6_odds_78 (by decide) (fun c_78 => ?_) (fun c_78 => ?_)
              · have h := (if_pos c_78).symm.trans hjj6182
                refine lv_iconst (v := (0 : Int32)) hx hb dX6_odds_88 (by decide) ?_
                obtain rfl := Option.some.inj h
                exact Jj6182 _ _ hP hD hS _ (lv_sub hl [1, 2, 3, 4, 5, 6, 0] rfl)
              · have h := (if_neg c_78).symm.trans hjj6182
                refine lv_iconst (v := (1 : Int32)) hx hb dX6_odds_81 (by decide) ?_
                refine lv_iload hx hb dX6_odds_82 (lv_at hl 6 rfl) ?_
                refine lv_ishl hx hb dX6_odds_84 ?_
                refine lv_goto (tgt := 89) hx hb dX6_odds_85 (by decide) ?_
                obtain rfl := Option.some.inj h
                exact Jj6182 _ _ hP hD hS _ (lv_sub hl [1, 2, 3, 4, 5, 6, 0] rfl)
            refine lv_if_eq (tgt := 68) hx hb dX6_odds_52 (by decide) (fun c_52 => ?_) (fun c_52 => ?_)
            · have h := (if_pos c_52).symm.trans hjj6180
              refine lv_iconst (v := (1 : Int32)) hx hb dX6_odds_68 (by decide) ?_
              refine lv_goto (tgt := 73) hx hb dX6_odds_69 (by decide) ?_
              obtain rfl := Option.some.inj h
              exact Jj6180 _ _ hP hD hS _ hl
            · have h := (if_neg c_52).symm.trans hjj6180
              refine lv_aload_n hx hb dX6_odds_55 rfl (lv_at hl 0 rfl) ?_
              refine va_get (D := (dC, dI)) (ci := 6) (v := .ref a_m_w) (C := RX6) (T := TX6) (N := 15) hx hb hts in_X6 hown hK hP 0 rfl rfl 0 (by decide) f_7 (fun _ h9 => h9) rfl dX6_odds_56 ?_
              refine lv_iconst (v := (1 : Int32)) hx hb dX6_odds_59 (by decide) ?_
              refine lv_iload hx hb dX6_odds_60 (lv_at hl 5 rfl) ?_
              refine lv_iadd hx hb dX6_odds_62 ?_
              obtain ⟨v6181, hv6181, h⟩ := ob h
              refine k_ld hx hb hK hP 1 0 rfl rfl hv6181 dX6_odds_63 ?_
              refine lv_iconst (v := (3 : Int32)) hx hb dX6_odds_64 (by decide) ?_
              refine lv_icmp_ne (tgt := 72) hx hb dX6_odds_65 (by decide) (fun c_65 => ?_) (fun c_65 => ?_)
              · have h := (if_neg c_65).symm.trans h
                refine lv_iconst (v := (0 : Int32)) hx hb dX6_odds_72 (by decide) ?_
                obtain rfl := Option.some.inj h
                exact Jj6180 _ _ hP hD hS _ hl
              · have h := (if_pos c_65).symm.trans h
                refine lv_iconst (v := (1 : Int32)) hx hb dX6_odds_68 (by decide) ?_
                refine lv_goto (tgt := 73) hx hb dX6_odds_69 (by decide) ?_
                obtain rfl := Option.some.inj h
                exact Jj6180 _ _ hP hD hS _ hl
      exact K32 n (0 : Int32) (1 : Int32) (0 : Int32) hjj6176 _ _ hP hD hS _ (lv_sub hl [3, 4, 5, 2, 1, 0] rfl)
    · have h := (if_pos c_19).symm.trans h
      refine lv_iconst (v := (-1 : Int32)) hx hb dX6_odds_22 (by decide) ?_
      obtain rfl := Option.some.inj h
      subst hQe
      exact W.iret (v := (-1 : Int32)) hx hb hr (fun t ht hW => ⟨⟨(-1 : Int32), (), rfl, rfl, ⟨by rw [ht]; exact hP, hD⟩⟩, hS.F ht⟩) hS.2.2 dX6_odds_23
def rm_X6_evening : Room := { frames := 5, cells := 0, slots := 0, locals := 115 }
set_option maxRecDepth 100000 in
set_option maxHeartbeats 8000000 in
theorem c_X6_evening (l : Launch) (dC : Nat → ClassId) (dI : Nat → Nat → Nat) (cI cS : ClassId) (n sz : Nat) (a_m : Nat) (a_m_w : Nat) (a_m_d : Nat) (a_m_text : Nat) (a_m_numbers : Nat) (a_m_then : Nat) (a_m_leans : Nat) (a_m_heardSet : Nat) (a_m_heardSum : Nat) (m_w : Nat → Int32) (m_d : Nat → Int32) (m_undoes : Int32) (m_kept : Int32) (m_texted : Int32) (m_at : Int32) (m_then : Nat → Int32) (m_leans : Nat → Int32) (m_draws : Int32) (m_drawn : Int32) (m_heards : Int32) (x1 : Int32) (x2 : Int32) (res : Int32 × Int32 × Int32 × (Nat → Int32) × (Nat → Int32) × (Nat → Int32))  (h : F_X6_evening n m_w m_d m_then m_leans m_draws m_drawn x1 x2 = some res) : Met l yX6_evening wsX6_evening rm_X6_evening (va_Pc [.ref a_m, .int x1, .int x2] (PRE (dC, dI) vwCl [(cI, .int), (cS, .object "RoundOfTheA$State")] sz [(a_m, .inr (6, [.ref a_m_w, .ref a_m_d, .int m_undoes, .int m_kept, .ref a_m_text, .int m_texted, .int m_at, .ref a_m_numbers, .ref a_m_then, .ref a_m_leans, .int m_draws, .int m_drawn, .int m_heards, .ref a_m_heardSet, .ref a_m_heardSum])), (a_m_w, .inl (cI, 106, .inl m_w)), (a_m_d, .inl (cI, 216, .inl m_d)), (a_m_then, .inl (cI, 8, .inl m_then)), (a_m_leans, .inl (cI, 8, .inl m_leans))])) (va_Qi (fun (r : Int32) (_ : Unit) => r = res.1) (fun u t => POST (dC, dI) vwCl [(a_m, .inr (6, [.ref a_m_w, .ref a_m_d, .int m_undoes, .int m_kept, .ref a_m_text, .int m_texted, .int m_at, .ref a_m_numbers, .ref a_m_then, .ref a_m_leans, .int res.2.1, .int res.2.2.1, .int m_heards, .ref a_m_heardSet, .ref a_m_heardSum])), (a_m_w, .inl (cI, 106, .inl m_w)), (a_m_d, .inl (cI, 216, .inl res.2.2.2.1)), (a_m_then, .inl (cI, 8, .inl res.2.2.2.2.1)), (a_m_leans, .inl (cI, 8, .inl res.2.2.2.2.2))] (va_A [(a_m, .inr (6, [.ref a_m_w, .ref a_m_d, .int m_undoes, .int m_kept, .ref a_m_text, .int m_texted, .int m_at, .ref a_m_numbers, .ref a_m_then, .ref a_m_leans, .int m_draws, .int m_drawn, .int m_heards, .ref a_m_heardSet, .ref a_m_heardSum])), (a_m_w, .inl (cI, 106, .inl m_w)), (a_m_d, .inl (cI, 216, .inl m_d)), (a_m_then, .inl (cI, 8, .inl m_then)), (a_m_leans, .inl (cI, 8, .inl m_leans))] sz) t) (va_A [(a_m, .inr (6, [.ref a_m_w, .ref a_m_d, .int m_undoes, .int m_kept, .ref a_m_text, .int m_texted, .int m_at, .ref a_m_numbers, .ref a_m_then, .ref a_m_leans, .int m_draws, .int m_drawn, .int m_heards, .ref a_m_heardSet, .ref a_m_heardSum])), (a_m_w, .inl (cI, 106, .inl m_w)), (a_m_d, .inl (cI, 216, .inl m_d)), (a_m_then, .inl (cI, 8, .inl m_then)), (a_m_leans, .inl (cI, 8, .inl m_leans))] sz)) 0 0 (va_A [(a_m, .inr (6, [.ref a_m_w, .ref a_m_d, .int m_undoes, .int m_kept, .ref a_m_text, .int m_texted, .int m_at, .ref a_m_numbers, .ref a_m_then, .ref a_m_leans, .int m_draws, .int m_drawn, .int m_heards, .ref a_m_heardSet, .ref a_m_heardSum])), (a_m_w, .inl (cI, 106, .inl m_w)), (a_m_d, .inl (cI, 216, .inl m_d)), (a_m_then, .inl (cI, 8, .inl m_then)), (a_m_leans, .inl (cI, 8, .inl m_leans))] sz) := by
  refine Met.ofW (cc := cX6_evening) (maxL := 3) (ret := (some .int)) (by decide) rfl ?_
  intro p e s m args below meth c s₁ B hml hv
  obtain ⟨rfl, hsz, hN, hP, hK, hD0⟩ := hv
  have hx := B.exec
  have hb := B.bytes
  have hr := B.returns
  have hts := atoms_spec (ws := wsX6_evening) B.pre
  have hown : s.vm.findClass RX6 = some m.cls := findClass_of_methodNamed B.named
  have hlocks := B.notSynchronized
  subst hsz
  have hD := hD0.self (sz := s.heap.size)
  generalize hAe : va_A [(a_m, .inr (6, [.ref a_m_w, .ref a_m_d, .int m_undoes, .int m_kept, .ref a_m_text, .int m_texted, .int m_at, .ref a_m_numbers, .ref a_m_then, .ref a_m_leans, .int m_draws, .int m_drawn, .int m_heards, .ref a_m_heardSet, .ref a_m_heardSum])), (a_m_w, .inl (cI, 106, .inl m_w)), (a_m_d, .inl (cI, 216, .inl m_d)), (a_m_then, .inl (cI, 8, .inl m_then)), (a_m_leans, .inl (cI, 8, .inl m_leans))] s.heap.size = A at hD ⊢
  have hA : ∀ q : Nat, s.heap.size ≤ q → A q := fun q h => by rw [← hAe]; exact Or.inr h
  have hS : va_S A s.heap s.heap [] := va_S.rf
  generalize hQe : MQ below _ _ s _ _ A = QQ
  have hl := lv_entry ([.ref a_m, .int x1, .int x2]) (n := 3) (Nat.le_of_ble_eq_true rfl)
  rw [lg_entry_eq]
  generalize (lg_sl ([.ref a_m, .int x1, .int x2]) ++ List.replicate (3 - (lg_sl ([.ref a_m, .int x1, .int x2])).length) Slot.unset).toArray = ls at hl ⊢
  have hl : lv_has ls 3 [(0, .ref a_m), (1, .int x1), (2, .int x2)] := hl
  have k_191 := hts (.constantLong RX6 191 (9999)) (by decide +kernel)
  have f_100 := hts (.fieldLink RX6 100 "RoundOfTheAModel" "draws" "I") (by decide +kernel)
  have in_X6 := (by decide +kernel : ∀ w ∈ wsX60, w ∈ wsX6_evening)
  rw [F_X6_evening] at h
  refine lv_iload_n hx hb dX6_evening_0 rfl (lv_at hl 1 rfl) ?_
  refine lv_i2l (v := (Int32.toInt64 x1)) hx hb dX6_evening_1 rfl ?_
  refine lv_lconst (v := (0 : Int64)) hx hb dX6_evening_2 (by decide) ?_
  refine lv_ldc2 (v := (9999 : Int64)) hx hb hown k_191 dX6_evening_3 ?_
  obtain ⟨r6536, hr6536, h⟩ := ob h
  refine k_Si (As := [.long (Int32.toInt64 x1), .long (0 : Int64), .long (9999 : Int64)]) (rest := []) (c_X6_in l dC dI cI cS n _ (Int32.toInt64 x1) (0 : Int64) (9999 : Int64) r6536 hr6536) (fun _ _ q => q) ⟨hx, hb, hml, hown, hts⟩ (va_cwS 3 hts gX6_evening_X6_in rfl rfl rfl (by decide +kernel) ⟨(Nat.le_of_ble_eq_true rfl), (Nat.le_of_ble_eq_true rfl)⟩) hN hK hP hD hS hA rfl hl.1 rfl (Nat.le_of_ble_eq_true rfl) dX6_evening_6 ⟨(Nat.le_of_ble_eq_true rfl), (Nat.le_of_ble_eq_true rfl)⟩ (fun H locs hP hD hS => ?_)
  refine lv_if_eq (tgt := 22) hx hb dX6_evening_9 (by decide) (fun c_9 => ?_) (fun c_9 => ?_)
  · have h := (if_pos c_9).symm.trans h
    refine lv_iconst (v := (-1 : Int32)) hx hb dX6_evening_22 (by decide) ?_
    obtain rfl := Option.some.inj h
    subst hQe
    exact W.iret (v := (-1 : Int32)) hx hb hr (fun t ht hW => ⟨⟨(-1 : Int32), (), rfl, rfl, ⟨by rw [ht]; exact hP, hD⟩⟩, hS.F ht⟩) hS.2.2 dX6_evening_23
  · have h := (if_neg c_9).symm.trans h
    refine lv_iload_n hx hb dX6_evening_12 rfl (lv_at hl 2 rfl) ?_
    refine lv_i2l (v := (Int32.toInt64 x2)) hx hb dX6_evening_13 rfl ?_
    refine lv_lconst (v := (0 : Int64)) hx hb dX6_evening_14 (by decide) ?_
    refine lv_lconst (v := (1 : Int64)) hx hb dX6_evening_15 (by decide) ?_
    obtain ⟨r6538, hr6538, h⟩ := ob h
    refine k_Si (As := [.long (Int32.toInt64 x2), .long (0 : Int64), .long (1 : Int64)]) (rest := []) (c_X6_in l dC dI cI cS n _ (Int32.toInt64 x2) (0 : Int64) (1 : Int64) r6538 hr6538) (fun _ _ q => q) ⟨hx, hb, hml, hown, hts⟩ (va_cwS 3 hts gX6_evening_X6_in rfl rfl rfl (by decide +kernel) ⟨(Nat.le_of_ble_eq_true rfl), (Nat.le_of_ble_eq_true rfl)⟩) hN hK hP hD hS hA rfl hl.1 rfl (Nat.le_of_ble_eq_true rfl) dX6_evening_16 ⟨(Nat.le_of_ble_eq_true rfl), (Nat.le_of_ble_eq_true rfl)⟩ (fun H locs hP hD hS => ?_)
    refine lv_if_ne (tgt := 24) hx hb dX6_evening_19 (by decide) (fun c_19 => ?_) (fun c_19 => ?_)
    · have h := (if_neg c_19).symm.trans h
      refine lv_aload_n hx hb dX6_evening_24 rfl (lv_at hl 0 rfl) ?_
      obtain ⟨r6540, hr6540, h⟩ := ob h
      refine k_Vv (As := []) (rest := []) (wr := [(a_m_w, .inl (cI, 106, .inl m_w)), (a_m_then, .inl (cI, 8, .inl m_then)), (a_m_leans, .inl (cI, 8, .inl m_leans))]) (c_X6_lays l dC dI cI cS n _ a_m a_m_w a_m_d a_m_text a_m_numbers a_m_then a_m_leans a_m_heardSet a_m_heardSum m_d m_undoes m_kept m_texted m_at m_draws m_drawn m_heards r6540 hr6540) ⟨hx, hb, hml, hown, hts⟩ (cwV 0 hts gX6_evening_X6_lays rfl rfl rfl (by decide +kernel) ⟨(Nat.le_of_ble_eq_true rfl), (Nat.le_of_ble_eq_true rfl)⟩) hN hK hP hD hS hA [0, 2] [1, 3, 4] rfl rfl (by decide) (by decide) (by decide) rfl rfl rfl hl.1 rfl (Nat.le_of_ble_eq_true rfl) dX6_evening_25 ⟨(Nat.le_of_ble_eq_true rfl), (Nat.le_of_ble_eq_true rfl)⟩ (fun u6541 H locs _ hP hD hS => ?_)
      have hP : va_P (dC, dI) vwCl [(a_m_w, .inl (cI, 106, .inl m_w)), (a_m_then, .inl (cI, 8, .inl m_then)), (a_m_leans, .inl (cI, 8, .inl m_leans)), (a_m, .inr (6, [.ref a_m_w, .ref a_m_d, .int m_undoes, .int m_kept, .ref a_m_text, .int m_texted, .int m_at, .ref a_m_numbers, .ref a_m_then, .ref a_m_leans, .int m_draws, .int m_drawn, .int m_heards, .ref a_m_heardSet, .ref a_m_heardSum])), (a_m_d, .inl (cI, 216, .inl r6540))] H := hP
      have hD : va_D A [(a_m_w, .inl (cI, 106, .inl m_w)), (a_m_then, .inl (cI, 8, .inl m_then)), (a_m_leans, .inl (cI, 8, .inl m_leans)), (a_m, .inr (6, [.ref a_m_w, .ref a_m_d, .int m_undoes, .int m_kept, .ref a_m_text, .int m_texted, .int m_at, .ref a_m_numbers, .ref a_m_then, .ref a_m_leans, .int m_draws, .int m_drawn, .int m_heards, .ref a_m_heardSet, .ref a_m_heardSum])), (a_m_d, .inl (cI, 216, .inl r6540))] := hD
      refine lv_aload_n hx hb dX6_evening_28 rfl (lv_at hl 0 rfl) ?_
      obtain ⟨r6542, hr6542, h⟩ := ob h
      refine k_Vv (As := []) (rest := []) (wr := [(a_m_then, .inl (cI, 8, .inl m_then)), (a_m_d, .inl (cI, 216, .inl r6540))]) (c_X6_laysLeans l dC dI cI cS n _ a_m a_m_w a_m_d a_m_text a_m_numbers a_m_then a_m_leans a_m_heardSet a_m_heardSum m_w m_undoes m_kept m_texted m_at m_leans m_draws m_drawn m_heards r6542 hr6542) ⟨hx, hb, hml, hown, hts⟩ (cwV 0 hts gX6_evening_X6_laysLeans rfl rfl rfl (by decide +kernel) ⟨(Nat.le_of_ble_eq_true rfl), (Nat.le_of_ble_eq_true rfl)⟩) hN hK hP hD hS hA [3, 0, 2] [1, 4] rfl rfl (by decide) (by decide) (by decide) rfl rfl rfl hl.1 rfl (Nat.le_of_ble_eq_true rfl) dX6_evening_29 ⟨(Nat.le_of_ble_eq_true rfl), (Nat.le_of_ble_eq_true rfl)⟩ (fun u6543 H locs _ hP hD hS => ?_)
      have hP : va_P (dC, dI) vwCl [(a_m_then, .inl (cI, 8, .inl m_then)), (a_m_d, .inl (cI, 216, .inl r6540)), (a_m, .inr (6, [.ref a_m_w, .ref a_m_d, .int m_undoes, .int m_kept, .ref a_m_text, .int m_texted, .int m_at, .ref a_m_numbers, .ref a_m_then, .ref a_m_leans, .int r6542.1, .int r6542.2.1, .int m_heards, .ref a_m_heardSet, .ref a_m_heardSum])), (a_m_w, .inl (cI, 106, .inl m_w)), (a_m_leans, .inl (cI, 8, .inl r6542.2.2))] H := hP
      have hD : va_D A [(a_m_then, .inl (cI, 8, .inl m_then)), (a_m_d, .inl (cI, 216, .inl r6540)), (a_m, .inr (6, [.ref a_m_w, .ref a_m_d, .int m_undoes, .int m_kept, .ref a_m_text, .int m_texted, .int m_at, .ref a_m_numbers, .ref a_m_then, .ref a_m_leans, .int r6542.1, .int r6542.2.1, .int m_heards, .ref a_m_heardSet, .ref a_m_heardSum])), (a_m_w, .inl (cI, 106, .inl m_w)), (a_m_leans, .inl (cI, 8, .inl r6542.2.2))] := hD
      refine lv_aload_n hx hb dX6_evening_32 rfl (lv_at hl 0 rfl) ?_
      refine lv_iload_n hx hb dX6_evening_33 rfl (lv_at hl 1 rfl) ?_
      refine va_put (D := (dC, dI)) (ci := 6) (v := .int x1) (ty := .int) (C := RX6) (T := TX6) (N := 15) hx hb hts in_X6 tyX6 tyX6_ok nmX6 hown hK hP hD hS 2 rfl rfl 10 (by decide) f_100 (fun _ h9 => h9) rfl (by decide +kernel) rfl rfl (Nat.le_of_ble_eq_true rfl) dX6_evening_34 (fun H locs hP hD hS => ?_)
      have hP : va_P (dC, dI) vwCl [(a_m_then, .inl (cI, 8, .inl m_then)), (a_m_d, .inl (cI, 216, .inl r6540)), (a_m, .inr (6, [.ref a_m_w, .ref a_m_d, .int m_undoes, .int m_kept, .ref a_m_text, .int m_texted, .int m_at, .ref a_m_numbers, .ref a_m_then, .ref a_m_leans, .int x1, .int r6542.2.1, .int m_heards, .ref a_m_heardSet, .ref a_m_heardSum])), (a_m_w, .inl (cI, 106, .inl m_w)), (a_m_leans, .inl (cI, 8, .inl r6542.2.2))] H := hP
      have hD : va_D A [(a_m_then, .inl (cI, 8, .inl m_then)), (a_m_d, .inl (cI, 216, .inl r6540)), (a_m, .inr (6, [.ref a_m_w, .ref a_m_d, .int m_undoes, .int m_kept, .ref a_m_text, .int m_texted, .int m_at, .ref a_m_numbers, .ref a_m_then, .ref a_m_leans, .int x1, .int r6542.2.1, .int m_heards, .ref a_m_heardSet, .ref a_m_heardSum])), (a_m_w, .inl (cI, 106, .inl m_w)), (a_m_leans, .inl (cI, 8, .inl r6542.2.2))] := hD
      refine lv_aload_n hx hb dX6_evening_37 rfl (lv_at hl 0 rfl) ?_
      obtain ⟨r6544, hr6544, h⟩ := ob h
      refine k_Vi (As := []) (rest := []) (wr := []) (c_X6_rounds l dC dI cI cS n _ a_m a_m_w a_m_d a_m_text a_m_numbers a_m_then a_m_leans a_m_heardSet a_m_heardSum m_w r6540 m_undoes m_kept m_texted m_at m_then r6542.2.2 x1 r6542.2.1 m_heards r6544 hr6544) (fun _ _ q => q) ⟨hx, hb, hml, hown, hts⟩ (cwV 0 hts gX6_evening_X6_rounds rfl rfl rfl (by decide +kernel) ⟨(Nat.le_of_ble_eq_true rfl), (Nat.le_of_ble_eq_true rfl)⟩) hN hK hP hD hS hA [2, 3, 1, 0, 4] [] rfl rfl (by decide) (by decide) (by decide) rfl rfl rfl hl.1 rfl (Nat.le_of_ble_eq_true rfl) dX6_evening_38 ⟨(Nat.le_of_ble_eq_true rfl), (Nat.le_of_ble_eq_true rfl)⟩ (fun u6545 H locs _ hP hD hS => ?_)
      have hP : va_P (dC, dI) vwCl [(a_m, .inr (6, [.ref a_m_w, .ref a_m_d, .int m_undoes, .int m_kept, .ref a_m_text, .int m_texted, .int m_at, .ref a_m_numbers, .ref a_m_then, .ref a_m_leans, .int x1, .int r6544.2.1, .int m_heards, .ref a_m_heardSet, .ref a_m_heardSum])), (a_m_w, .inl (cI, 106, .inl m_w)), (a_m_d, .inl (cI, 216, .inl r6544.2.2.1)), (a_m_then, .inl (cI, 8, .inl r6544.2.2.2)), (a_m_leans, .inl (cI, 8, .inl r6542.2.2))] H := hP
      have hD : va_D A [(a_m, .inr (6, [.ref a_m_w, .ref a_m_d, .int m_undoes, .int m_kept, .ref a_m_text, .int m_texted, .int m_at, .ref a_m_numbers, .ref a_m_then, .ref a_m_leans, .int x1, .int r6544.2.1, .int m_heards, .ref a_m_heardSet, .ref a_m_heardSum])), (a_m_w, .inl (cI, 106, .inl m_w)), (a_m_d, .inl (cI, 216, .inl r6544.2.2.1)), (a_m_then, .inl (cI, 8, .inl r6544.2.2.2)), (a_m_leans, .inl (cI, 8, .inl r6542.2.2))] := hD
      refine lv_pop hx hb dX6_evening_41 rfl ?_
      refine lv_aload_n hx hb dX6_evening_42 rfl (lv_at hl 0 rfl) ?_
      refine lv_iconst (v := (-1 : Int32)) hx hb dX6_evening_43 (by decide) ?_
      refine va_put (D := (dC, dI)) (ci := 6) (v := .int (-1 : Int32)) (ty := .int) (C := RX6) (T := TX6) (N := 15) hx hb hts in_X6 tyX6 tyX6_ok nmX6 hown hK hP hD hS 0 rfl rfl 10 (by decide) f_100 (fun _ h9 => h9) rfl (by decide +kernel) rfl rfl (Nat.le_of_ble_eq_true rfl) dX6_evening_44 (fun H locs hP hD hS => ?_)
      have hP : va_P (dC, dI) vwCl [(a_m, .inr (6, [.ref a_m_w, .ref a_m_d, .int m_undoes, .int m_kept, .ref a_m_text, .int m_texted, .int m_at, .ref a_m_numbers, .ref a_m_then, .ref a_m_leans, .int (-1 : Int32), .int r6544.2.1, .int m_heards, .ref a_m_heardSet, .ref a_m_heardSum])), (a_m_w, .inl (cI, 106, .inl m_w)), (a_m_d, .inl (cI, 216, .inl r6544.2.2.1)), (a_m_then, .inl (cI, 8, .inl r6544.2.2.2)), (a_m_leans, .inl (cI, 8, .inl r6542.2.2))] H := hP
      have hD : va_D A [(a_m, .inr (6, [.ref a_m_w, .ref a_m_d, .int m_undoes, .int m_kept, .ref a_m_text, .int m_texted, .int m_at, .ref a_m_numbers, .ref a_m_then, .ref a_m_leans, .int (-1 : Int32), .int r6544.2.1, .int m_heards, .ref a_m_heardSet, .ref a_m_heardSum])), (a_m_w, .inl (cI, 106, .inl m_w)), (a_m_d, .inl (cI, 216, .inl r6544.2.2.1)), (a_m_then, .inl (cI, 8, .inl r6544.2.2.2)), (a_m_leans, .inl (cI, 8, .inl r6542.2.2))] := hD
      refine lv_iload_n hx hb dX6_evening_47 rfl (lv_at hl 2 rfl) ?_
      refine lv_if_ne (tgt := 61) hx hb dX6_evening_48 (by decide) (fun c_48 => ?_) (fun c_48 => ?_)
      · have h := (if_neg c_48).symm.trans h
        refine lv_aload_n hx hb dX6_evening_61 rfl (lv_at hl 0 rfl) ?_
        refine lv_sipush (v := (198 : Int32)) hx hb dX6_evening_62 (by decide) ?_
        obtain ⟨r6546, hr6546, h⟩ := ob h
        refine k_Vi (As := [.int (198 : Int32)]) (rest := []) (wr := [(a_m_then, .inl (cI, 8, .inl r6544.2.2.2)), (a_m_leans, .inl (cI, 8, .inl r6542.2.2))]) (c_X6_heardOf l dC dI cI cS n _ a_m a_m_w a_m_d a_m_text a_m_numbers a_m_then a_m_leans a_m_heardSet a_m_heardSum m_w r6544.2.2.1 m_undoes m_kept m_texted m_at (-1 : Int32) r6544.2.1 m_heards (198 : Int32) r6546 hr6546) (fun _ _ q => q) ⟨hx, hb, hml, hown, hts⟩ (cwV 1 hts gX6_evening_X6_heardOf rfl rfl rfl (by decide +kernel) ⟨(Nat.le_of_ble_eq_true rfl), (Nat.le_of_ble_eq_true rfl)⟩) hN hK hP hD hS hA [0, 1, 2] [3, 4] rfl rfl (by decide) (by decide) (by decide) rfl rfl rfl hl.1 rfl (Nat.le_of_ble_eq_true rfl) dX6_evening_65 ⟨(Nat.le_of_ble_eq_true rfl), (Nat.le_of_ble_eq_true rfl)⟩ (fun u6547 H locs _ hP hD hS => ?_)
        have hP : va_P (dC, dI) vwCl [(a_m_then, .inl (cI, 8, .inl r6544.2.2.2)), (a_m_leans, .inl (cI, 8, .inl r6542.2.2)), (a_m, .inr (6, [.ref a_m_w, .ref a_m_d, .int m_undoes, .int m_kept, .ref a_m_text, .int m_texted, .int m_at, .ref a_m_numbers, .ref a_m_then, .ref a_m_leans, .int (-1 : Int32), .int r6544.2.1, .int m_heards, .ref a_m_heardSet, .ref a_m_heardSum])), (a_m_w, .inl (cI, 106, .inl m_w)), (a_m_d, .inl (cI, 216, .inl r6544.2.2.1))] H := hP
        have hD : va_D A [(a_m_then, .inl (cI, 8, .inl r6544.2.2.2)), (a_m_leans, .inl (cI, 8, .inl r6542.2.2)), (a_m, .inr (6, [.ref a_m_w, .ref a_m_d, .int m_undoes, .int m_kept, .ref a_m_text, .int m_texted, .int m_at, .ref a_m_numbers, .ref a_m_then, .ref a_m_leans, .int (-1 : Int32), .int r6544.2.1, .int m_heards, .ref a_m_heardSet, .ref a_m_heardSum])), (a_m_w, .inl (cI, 106, .inl m_w)), (a_m_d, .inl (cI, 216, .inl r6544.2.2.1))] := hD
        obtain rfl := Option.some.inj h
        subst hQe
        exact W.iret (v := r6546) hx hb hr (fun t ht hW => ⟨⟨r6546, (), rfl, rfl, ⟨by rw [ht]; exact hP.sub [2, 3, 4, 0, 1] rfl, hD.sub [2, 3, 4, 0, 1] (by decide +kernel) rfl⟩⟩, hS.F ht⟩) hS.2.2 dX6_evening_68
      · have h := (if_pos c_48).symm.trans h
        refine lv_aload_n hx hb dX6_evening_51 rfl (lv_at hl 0 rfl) ?_
        refine lv_sipush (v := (198 : Int32)) hx hb dX6_evening_52 (by decide) ?_
        obtain ⟨r6548, hr6548, h⟩ := ob h
        refine k_Vi (As := [.int (198 : Int32)]) (rest := []) (wr := [(a_m_then, .inl (cI, 8, .inl r6544.2.2.2)), (a_m_leans, .inl (cI, 8, .inl r6542.2.2))]) (c_X6_spreadOf l dC dI cI cS n _ a_m a_m_w a_m_d a_m_text a_m_numbers a_m_then a_m_leans a_m_heardSet a_m_heardSum m_w r6544.2.2.1 m_undoes m_kept m_texted m_at (-1 : Int32) r6544.2.1 m_heards (198 : Int32) r6548 hr6548) (fun _ _ q => q) ⟨hx, hb, hml, hown, hts⟩ (cwV 1 hts gX6_evening_X6_spreadOf rfl rfl rfl (by decide +kernel) ⟨(Nat.le_of_ble_eq_true rfl), (Nat.le_of_ble_eq_true rfl)⟩) hN hK hP hD hS hA [0, 1, 2] [3, 4] rfl rfl (by decide) (by decide) (by decide) rfl rfl rfl hl.1 rfl (Nat.le_of_ble_eq_true rfl) dX6_evening_55 ⟨(Nat.le_of_ble_eq_true rfl), (Nat.le_of_ble_eq_true rfl)⟩ (fun u6549 H locs _ hP hD hS => ?_)
        have hP : va_P (dC, dI) vwCl [(a_m_then, .inl (cI, 8, .inl r6544.2.2.2)), (a_m_leans, .inl (cI, 8, .inl r6542.2.2)), (a_m, .inr (6, [.ref a_m_w, .ref a_m_d, .int m_undoes, .int m_kept, .ref a_m_text, .int m_texted, .int m_at, .ref a_m_numbers, .ref a_m_then, .ref a_m_leans, .int (-1 : Int32), .int r6544.2.1, .int m_heards, .ref a_m_heardSet, .ref a_m_heardSum])), (a_m_w, .inl (cI, 106, .inl m_w)), (a_m_d, .inl (cI, 216, .inl r6544.2.2.1))] H := hP
        have hD : va_D A [(a_m_then, .inl (cI, 8, .inl r6544.2.2.2)), (a_m_leans, .inl (cI, 8, .inl r6542.2.2)), (a_m, .inr (6, [.ref a_m_w, .ref a_m_d, .int m_undoes, .int m_kept, .ref a_m_text, .int m_texted, .int m_at, .ref a_m_numbers, .ref a_m_then, .ref a_m_leans, .int (-1 : Int32), .int r6544.2.1, .int m_heards, .ref a_m_heardSet, .ref a_m_heardSum])), (a_m_w, .inl (cI, 106, .inl m_w)), (a_m_d, .inl (cI, 216, .inl r6544.2.2.1))] := hD
        refine lv_goto (tgt := 68) hx hb dX6_evening_58 (by decide) ?_
        obtain rfl := Option.some.inj h
        subst hQe
        exact W.iret (v := r6548) hx hb hr (fun t ht hW => ⟨⟨r6548, (), rfl, rfl, ⟨by rw [ht]; exact hP.sub [2, 3, 4, 0, 1] rfl, hD.sub [2, 3, 4, 0, 1] (by decide +kernel) rfl⟩⟩, hS.F ht⟩) hS.2.2 dX6_evening_68
    · have h := (if_pos c_19).symm.trans h
      refine lv_iconst (v := (-1 : Int32)) hx hb dX6_evening_22 (by decide) ?_
      obtain rfl := Option.some.inj h
      subst hQe
      exact W.iret (v := (-1 : Int32)) hx hb hr (fun t ht hW => ⟨⟨(-1 : Int32), (), rfl, rfl, ⟨by rw [ht]; exact hP, hD⟩⟩, hS.F ht⟩) hS.2.2 dX6_evening_23
def rm_X6_keep : Room := { frames := 0, cells := 0, slots := 0, locals := 0 }
set_option maxRecDepth 100000 in
set_option maxHeartbeats 8000000 in
theorem c_X6_keep (l : Launch) (dC : Nat → ClassId) (dI : Nat → Nat → Nat) (cI cS : ClassId) (n sz : Nat) (a_m : Nat) (a_m_w : Nat) (a_m_d : Nat) (a_m_text : Nat) (a_m_numbers : Nat) (a_m_then : Nat) (a_m_leans : Nat) (a_m_heardSet : Nat) (a_m_heardSum : Nat) (m_d : Nat → Int32) (m_undoes : Int32) (m_kept : Int32) (m_texted : Int32) (m_at : Int32) (m_draws : Int32) (m_drawn : Int32) (m_heards : Int32) (res : Int32 × Int32 × (Nat → Int32))  (h : F_X6_keep n m_d m_kept = some res) : Met l yX6_keep wsX6_keep rm_X6_keep (va_Pc [.ref a_m] (PRE (dC, dI) vwCl [(cI, .int), (cS, .object "RoundOfTheA$State")] sz [(a_m, .inr (6, [.ref a_m_w, .ref a_m_d, .int m_undoes, .int m_kept, .ref a_m_text, .int m_texted, .int m_at, .ref a_m_numbers, .ref a_m_then, .ref a_m_leans, .int m_draws, .int m_drawn, .int m_heards, .ref a_m_heardSet, .ref a_m_heardSum])), (a_m_d, .inl (cI, 216, .inl m_d))])) (va_Qi (fun (r : Int32) (_ : Unit) => r = res.1) (fun u t => POST (dC, dI) vwCl [(a_m, .inr (6, [.ref a_m_w, .ref a_m_d, .int m_undoes, .int res.2.1, .ref a_m_text, .int m_texted, .int m_at, .ref a_m_numbers, .ref a_m_then, .ref a_m_leans, .int m_draws, .int m_drawn, .int m_heards, .ref a_m_heardSet, .ref a_m_heardSum])), (a_m_d, .inl (cI, 216, .inl res.2.2))] (va_A [(a_m, .inr (6, [.ref a_m_w, .ref a_m_d, .int m_undoes, .int m_kept, .ref a_m_text, .int m_texted, .int m_at, .ref a_m_numbers, .ref a_m_then, .ref a_m_leans, .int m_draws, .int m_drawn, .int m_heards, .ref a_m_heardSet, .ref a_m_heardSum])), (a_m_d, .inl (cI, 216, .inl m_d))] sz) t) (va_A [(a_m, .inr (6, [.ref a_m_w, .ref a_m_d, .int m_undoes, .int m_kept, .ref a_m_text, .int m_texted, .int m_at, .ref a_m_numbers, .ref a_m_then, .ref a_m_leans, .int m_draws, .int m_drawn, .int m_heards, .ref a_m_heardSet, .ref a_m_heardSum])), (a_m_d, .inl (cI, 216, .inl m_d))] sz)) 0 0 (va_A [(a_m, .inr (6, [.ref a_m_w, .ref a_m_d, .int m_undoes, .int m_kept, .ref a_m_text, .int m_texted, .int m_at, .ref a_m_numbers, .ref a_m_then, .ref a_m_leans, .int m_draws, .int m_drawn, .int m_heards, .ref a_m_heardSet, .ref a_m_heardSum])), (a_m_d, .inl (cI, 216, .inl m_d))] sz) := by
  refine Met.ofW (cc := cX6_keep) (maxL := 2) (ret := (some .int)) (by decide) rfl ?_
  intro p e s m args below meth c s₁ B hml hv
  obtain ⟨rfl, hsz, hN, hP, hK, hD0⟩ := hv
  have hx := B.exec
  have hb := B.bytes
  have hr := B.returns
  have hts := atoms_spec (ws := wsX6_keep) B.pre
  have hown : s.vm.findClass RX6 = some m.cls := findClass_of_methodNamed B.named
  have hlocks := B.notSynchronized
  subst hsz
  have hD := hD0.self (sz := s.heap.size)
  generalize hAe : va_A [(a_m, .inr (6, [.ref a_m_w, .ref a_m_d, .int m_undoes, .int m_kept, .ref a_m_text, .int m_texted, .int m_at, .ref a_m_numbers, .ref a_m_then, .ref a_m_leans, .int m_draws, .int m_drawn, .int m_heards, .ref a_m_heardSet, .ref a_m_heardSum])), (a_m_d, .inl (cI, 216, .inl m_d))] s.heap.size = A at hD ⊢
  have hA : ∀ q : Nat, s.heap.size ≤ q → A q := fun q h => by rw [← hAe]; exact Or.inr h
  have hS : va_S A s.heap s.heap [] := va_S.rf
  generalize hQe : MQ below _ _ s _ _ A = QQ
  have hl := lv_entry ([.ref a_m]) (n := 2) (Nat.le_of_ble_eq_true rfl)
  rw [lg_entry_eq]
  generalize (lg_sl ([.ref a_m]) ++ List.replicate (2 - (lg_sl ([.ref a_m])).length) Slot.unset).toArray = ls at hl ⊢
  have hl : lv_has ls 2 [(0, .ref a_m)] := hl
  have f_48 := hts (.fieldLink RX6 48 "RoundOfTheAModel" "kept" "I") (by decide +kernel)
  have in_X6 := (by decide +kernel : ∀ w ∈ wsX60, w ∈ wsX6_keep)
  have f_13 := hts (.fieldLink RX6 13 "RoundOfTheAModel" "d" "[I") (by decide +kernel)
  rw [F_X6_keep] at h
  refine lv_aload_n hx hb dX6_keep_0 rfl (lv_at hl 0 rfl) ?_
  refine va_get (D := (dC, dI)) (ci := 6) (v := .int m_kept) (C := RX6) (T := TX6) (N := 15) hx hb hts in_X6 hown hK hP 0 rfl rfl 3 (by decide) f_48 (fun _ h9 => h9) rfl dX6_keep_1 ?_
  refine lv_iconst (v := (2 : Int32)) hx hb dX6_keep_4 (by decide) ?_
  refine lv_icmp_ne (tgt := 11) hx hb dX6_keep_5 (by decide) (fun c_5 => ?_) (fun c_5 => ?_)
  · have h := (if_neg c_5).symm.trans h
    refine lv_iconst (v := (0 : Int32)) hx hb dX6_keep_11 (by decide) ?_
    refine lv_istore_n (lv' := [(1, .int (0 : Int32)), (0, .ref a_m)]) hx hb dX6_keep_12 rfl hl (by decide) rfl (fun ls hl => ?_)
    obtain ⟨j6565, hjj6565, h⟩ := ob h
    have Jj6565 : ∀ (H : Heap) (locs : List Loc), va_P (dC, dI) vwCl [(a_m, .inr (6, [.ref a_m_w, .ref a_m_d, .int m_undoes, .int m_kept, .ref a_m_text, .int m_texted, .int m_at, .ref a_m_numbers, .ref a_m_then, .ref a_m_leans, .int m_draws, .int m_drawn, .int m_heards, .ref a_m_heardSet, .ref a_m_heardSum])), (a_m_d, .inl (cI, 216, .inl j6565.2))] H → va_D A [(a_m, .inr (6, [.ref a_m_w, .ref a_m_d, .int m_undoes, .int m_kept, .ref a_m_text, .int m_texted, .int m_at, .ref a_m_numbers, .ref a_m_then, .ref a_m_leans, .int m_draws, .int m_drawn, .int m_heards, .ref a_m_heardSet, .ref a_m_heardSum])), (a_m_d, .inl (cI, 216, .inl j6565.2))] → va_S A s.heap H locs → ∀ ls : Array Slot, lv_has ls 2 [(0, .ref a_m), (1, .int j6565.1)] → W p l e (headSpec wsX6_keep rm_X6_keep).room s m ([.ref a_m] : List Value).toArray below meth c H locs 0 0 QQ (F0 m 48 ls []) := by
      intro H locs hP hD hS ls hl
      refine lv_aload_n hx hb dX6_keep_48 rfl (lv_at hl 0 rfl) ?_
      refine lv_dup hx hb dX6_keep_49 rfl ?_
      refine va_get (D := (dC, dI)) (ci := 6) (v := .int m_kept) (C := RX6) (T := TX6) (N := 15) hx hb hts in_X6 hown hK hP 0 rfl rfl 3 (by decide) f_48 (fun _ h9 => h9) rfl dX6_keep_50 ?_
      refine lv_iconst (v := (1 : Int32)) hx hb dX6_keep_53 (by decide) ?_
      refine lv_iadd hx hb dX6_keep_54 ?_
      refine va_put (D := (dC, dI)) (ci := 6) (v := .int (m_kept + (1 : Int32))) (ty := .int) (C := RX6) (T := TX6) (N := 15) hx hb hts in_X6 tyX6 tyX6_ok nmX6 hown hK hP hD hS 0 rfl rfl 3 (by decide) f_48 (fun _ h9 => h9) rfl (by decide +kernel) rfl rfl (Nat.le_of_ble_eq_true rfl) dX6_keep_55 (fun H locs hP hD hS => ?_)
      have hP : va_P (dC, dI) vwCl [(a_m, .inr (6, [.ref a_m_w, .ref a_m_d, .int m_undoes, .int (m_kept + (1 : Int32)), .ref a_m_text, .int m_texted, .int m_at, .ref a_m_numbers, .ref a_m_then, .ref a_m_leans, .int m_draws, .int m_drawn, .int m_heards, .ref a_m_heardSet, .ref a_m_heardSum])), (a_m_d, .inl (cI, 216, .inl j6565.2))] H := hP
      have hD : va_D A [(a_m, .inr (6, [.ref a_m_w, .ref a_m_d, .int m_undoes, .int (m_kept + (1 : Int32)), .ref a_m_text, .int m_texted, .int m_at, .ref a_m_numbers, .ref a_m_then, .ref a_m_leans, .int m_draws, .int m_drawn, .int m_heards, .ref a_m_heardSet, .ref a_m_heardSum])), (a_m_d, .inl (cI, 216, .inl j6565.2))] := hD
      refine lv_aload_n hx hb dX6_keep_58 rfl (lv_at hl 0 rfl) ?_
      refine va_get (D := (dC, dI)) (ci := 6) (v := .int (m_kept + (1 : Int32))) (C := RX6) (T := TX6) (N := 15) hx hb hts in_X6 hown hK hP 0 rfl rfl 3 (by decide) f_48 (fun _ h9 => h9) rfl dX6_keep_59 ?_
      obtain rfl := Option.some.inj h
      subst hQe
      exact W.iret (v := (m_kept + (1 : Int32))) hx hb hr (fun t ht hW => ⟨⟨(m_kept + (1 : Int32)), (), rfl, rfl, ⟨by rw [ht]; exact hP, hD⟩⟩, hS.F ht⟩) hS.2.2 dX6_keep_62
    have K13 : ∀ (k : Nat) (y1_13 : Int32) (m_dv_13 : Nat → Int32), L_X6_keep_13 m_kept k y1_13 m_dv_13 = some j6565 → ∀ (H : Heap) (locs : List Loc), va_P (dC, dI) vwCl [(a_m, .inr (6, [.ref a_m_w, .ref a_m_d, .int m_undoes, .int m_kept, .ref a_m_text, .int m_texted, .int m_at, .ref a_m_numbers, .ref a_m_then, .ref a_m_leans, .int m_draws, .int m_drawn, .int m_heards, .ref a_m_heardSet, .ref a_m_heardSum])), (a_m_d, .inl (cI, 216, .inl m_dv_13))] H → va_D A [(a_m, .inr (6, [.ref a_m_w, .ref a_m_d, .int m_undoes, .int m_kept, .ref a_m_text, .int m_texted, .int m_at, .ref a_m_numbers, .ref a_m_then, .ref a_m_leans, .int m_draws, .int m_drawn, .int m_heards, .ref a_m_heardSet, .ref a_m_heardSum])), (a_m_d, .inl (cI, 216, .inl m_dv_13))] → va_S A s.heap H locs → ∀ ls : Array Slot, lv_has ls 2 [(0, .ref a_m), (1, .int y1_13)] → W p l e (headSpec wsX6_keep rm_X6_keep).room s m ([.ref a_m] : List Value).toArray below meth c H locs 0 0 QQ (F0 m 13 ls []) := by
      intro k
      induction k with
      | zero =>
        intro y1_13 m_dv_13 h
        rw [L_X6_keep_13] at h
        cases h
      | succ k ih =>
        intro y1_13 m_dv_13 h H locs hP hD hS ls hl
        rw [L_X6_keep_13] at h
        refine lv_iload_n hx hb dX6_keep_13 rfl (lv_at hl 1 rfl) ?_
        refine lv_bipush (v := (18 : Int32)) hx hb dX6_keep_14 (by decide) ?_
        refine lv_icmp_ge (tgt := 48) hx hb dX6_keep_16 (by decide) (fun c_16 => ?_) (fun c_16 => ?_)
        · have h := (if_pos c_16).symm.trans h
          obtain rfl := Option.some.inj h
          exact Jj6565 _ _ hP hD hS _ hl
        · have h := (if_neg c_16).symm.trans h
          refine lv_aload_n hx hb dX6_keep_19 rfl (lv_at hl 0 rfl) ?_
          refine va_get (D := (dC, dI)) (ci := 6) (v := .ref a_m_d) (C := RX6) (T := TX6) (N := 15) hx hb hts in_X6 hown hK hP 0 rfl rfl 1 (by decide) f_13 (fun _ h9 => h9) rfl dX6_keep_20 ?_
          refine lv_bipush (v := (18 : Int32)) hx hb dX6_keep_23 (by decide) ?_
          refine lv_bipush (v := (18 : Int32)) hx hb dX6_keep_25 (by decide) ?_
          refine lv_aload_n hx hb dX6_keep_27 rfl (lv_at hl 0 rfl) ?_
          refine va_get (D := (dC, dI)) (ci := 6) (v := .int m_kept) (C := RX6) (T := TX6) (N := 15) hx hb hts in_X6 hown hK hP 0 rfl rfl 3 (by decide) f_48 (fun _ h9 => h9) rfl dX6_keep_28 ?_
          refine lv_imul hx hb dX6_keep_31 ?_
          refine lv_iadd hx hb dX6_keep_32 ?_
          refine lv_iload_n hx hb dX6_keep_33 rfl (lv_at hl 1 rfl) ?_
          refine lv_iadd hx hb dX6_keep_34 ?_
          refine lv_aload_n hx hb dX6_keep_35 rfl (lv_at hl 0 rfl) ?_
          refine va_get (D := (dC, dI)) (ci := 6) (v := .ref a_m_d) (C := RX6) (T := TX6) (N := 15) hx hb hts in_X6 hown hK hP 0 rfl rfl 1 (by decide) f_13 (fun _ h9 => h9) rfl dX6_keep_36 ?_
          refine lv_iload_n hx hb dX6_keep_39 rfl (lv_at hl 1 rfl) ?_
          obtain ⟨v6566, hv6566, h⟩ := ob h
          refine k_ld hx hb hK hP 1 0 rfl rfl hv6566 dX6_keep_40 ?_
          obtain ⟨g6567, hg6567, h⟩ := ob h
          refine k_st hx hb hK hP hD hS 1 0 rfl rfl hg6567 dX6_keep_41 (ws' := [(a_m, .inr (6, [.ref a_m_w, .ref a_m_d, .int m_undoes, .int m_kept, .ref a_m_text, .int m_texted, .int m_at, .ref a_m_numbers, .ref a_m_then, .ref a_m_leans, .int m_draws, .int m_drawn, .int m_heards, .ref a_m_heardSet, .ref a_m_heardSum])), (a_m_d, .inl (cI, 216, .inl g6567))]) rfl (fun H locs hP hD hS => ?_)
          refine lv_iinc (v := (y1_13 + (1 : Int32))) (lv' := [(1, .int (y1_13 + (1 : Int32))), (0, .ref a_m)]) hx hb dX6_keep_42 hl (k := 1) rfl rfl (by decide) rfl (fun ls hl => ?_)
          refine lv_goto (tgt := 13) hx hb dX6_keep_45 (by decide) ?_
          exact ih _ _ h _ _ hP hD hS _ (lv_sub hl [1, 0] rfl)
    exact K13 n (0 : Int32) m_d hjj6565 _ _ hP hD hS _ (lv_sub hl [1, 0] rfl)
  · have h := (if_pos c_5).symm.trans h
    refine lv_bipush (v := (-3 : Int32)) hx hb dX6_keep_8 (by decide) ?_
    obtain rfl := Option.some.inj h
    subst hQe
    exact W.iret (v := (-3 : Int32)) hx hb hr (fun t ht hW => ⟨⟨(-3 : Int32), (), rfl, rfl, ⟨by rw [ht]; exact hP, hD⟩⟩, hS.F ht⟩) hS.2.2 dX6_keep_10
def rm_X6_back : Room := { frames := 0, cells := 0, slots := 0, locals := 0 }
set_option maxRecDepth 100000 in
set_option maxHeartbeats 8000000 in
theorem c_X6_back (l : Launch) (dC : Nat → ClassId) (dI : Nat → Nat → Nat) (cI cS : ClassId) (n sz : Nat) (a_m : Nat) (a_m_w : Nat) (a_m_d : Nat) (a_m_text : Nat) (a_m_numbers : Nat) (a_m_then : Nat) (a_m_leans : Nat) (a_m_heardSet : Nat) (a_m_heardSum : Nat) (m_d : Nat → Int32) (m_undoes : Int32) (m_kept : Int32) (m_texted : Int32) (m_at : Int32) (m_draws : Int32) (m_drawn : Int32) (m_heards : Int32) (res : Int32 × Int32 × Int32 × (Nat → Int32))  (h : F_X6_back n m_d m_undoes m_kept = some res) : Met l yX6_back wsX6_back rm_X6_back (va_Pc [.ref a_m] (PRE (dC, dI) vwCl [(cI, .int), (cS, .object "RoundOfTheA$State")] sz [(a_m, .inr (6, [.ref a_m_w, .ref a_m_d, .int m_undoes, .int m_kept, .ref a_m_text, .int m_texted, .int m_at, .ref a_m_numbers, .ref a_m_then, .ref a_m_leans, .int m_draws, .int m_drawn, .int m_heards, .ref a_m_heardSet, .ref a_m_heardSum])), (a_m_d, .inl (cI, 216, .inl m_d))])) (va_Qi (fun (r : Int32) (_ : Unit) => r = res.1) (fun u t => POST (dC, dI) vwCl [(a_m, .inr (6, [.ref a_m_w, .ref a_m_d, .int res.2.1, .int res.2.2.1, .ref a_m_text, .int m_texted, .int m_at, .ref a_m_numbers, .ref a_m_then, .ref a_m_leans, .int m_draws, .int m_drawn, .int m_heards, .ref a_m_heardSet, .ref a_m_heardSum])), (a_m_d, .inl (cI, 216, .inl res.2.2.2))] (va_A [(a_m, .inr (6, [.ref a_m_w, .ref a_m_d, .int m_undoes, .int m_kept, .ref a_m_text, .int m_texted, .int m_at, .ref a_m_numbers, .ref a_m_then, .ref a_m_leans, .int m_draws, .int m_drawn, .int m_heards, .ref a_m_heardSet, .ref a_m_heardSum])), (a_m_d, .inl (cI, 216, .inl m_d))] sz) t) (va_A [(a_m, .inr (6, [.ref a_m_w, .ref a_m_d, .int m_undoes, .int m_kept, .ref a_m_text, .int m_texted, .int m_at, .ref a_m_numbers, .ref a_m_then, .ref a_m_leans, .int m_draws, .int m_drawn, .int m_heards, .ref a_m_heardSet, .ref a_m_heardSum])), (a_m_d, .inl (cI, 216, .inl m_d))] sz)) 0 0 (va_A [(a_m, .inr (6, [.ref a_m_w, .ref a_m_d, .int m_undoes, .int m_kept, .ref a_m_text, .int m_texted, .int m_at, .ref a_m_numbers, .ref a_m_then, .ref a_m_leans, .int m_draws, .int m_drawn, .int m_heards, .ref a_m_heardSet, .ref a_m_heardSum])), (a_m_d, .inl (cI, 216, .inl m_d))] sz) := by
  refine Met.ofW (cc := cX6_back) (maxL := 2) (ret := (some .int)) (by decide) rfl ?_
  intro p e s m args below meth c s₁ B hml hv
  obtain ⟨rfl, hsz, hN, hP, hK, hD0⟩ := hv
  have hx := B.exec
  have hb := B.bytes
  have hr := B.returns
  have hts := atoms_spec (ws := wsX6_back) B.pre
  have hown : s.vm.findClass RX6 = some m.cls := findClass_of_methodNamed B.named
  have hlocks := B.notSynchronized
  subst hsz
  have hD := hD0.self (sz := s.heap.size)
  generalize hAe : va_A [(a_m, .inr (6, [.ref a_m_w, .ref a_m_d, .int m_undoes, .int m_kept, .ref a_m_text, .int m_texted, .int m_at, .ref a_m_numbers, .ref a_m_then, .ref a_m_leans, .int m_draws, .int m_drawn, .int m_heards, .ref a_m_heardSet, .ref a_m_heardSum])), (a_m_d, .inl (cI, 216, .inl m_d))] s.heap.size = A at hD ⊢
  have hA : ∀ q : Nat, s.heap.size ≤ q → A q := fun q h => by rw [← hAe]; exact Or.inr h
  have hS : va_S A s.heap s.heap [] := va_S.rf
  generalize hQe : MQ below _ _ s _ _ A = QQ
  have hl := lv_entry ([.ref a_m]) (n := 2) (Nat.le_of_ble_eq_true rfl)
  rw [lg_entry_eq]
  generalize (lg_sl ([.ref a_m]) ++ List.replicate (2 - (lg_sl ([.ref a_m])).length) Slot.unset).toArray = ls at hl ⊢
  have hl : lv_has ls 2 [(0, .ref a_m)] := hl
  have f_48 := hts (.fieldLink RX6 48 "RoundOfTheAModel" "kept" "I") (by decide +kernel)
  have in_X6 := (by decide +kernel : ∀ w ∈ wsX60, w ∈ wsX6_back)
  have f_13 := hts (.fieldLink RX6 13 "RoundOfTheAModel" "d" "[I") (by decide +kernel)
  have f_44 := hts (.fieldLink RX6 44 "RoundOfTheAModel" "undoes" "I") (by decide +kernel)
  rw [F_X6_back] at h
  refine lv_aload_n hx hb dX6_back_0 rfl (lv_at hl 0 rfl) ?_
  refine va_get (D := (dC, dI)) (ci := 6) (v := .int m_kept) (C := RX6) (T := TX6) (N := 15) hx hb hts in_X6 hown hK hP 0 rfl rfl 3 (by decide) f_48 (fun _ h9 => h9) rfl dX6_back_1 ?_
  refine lv_if_ne (tgt := 10) hx hb dX6_back_4 (by decide) (fun c_4 => ?_) (fun c_4 => ?_)
  · have h := (if_neg c_4).symm.trans h
    refine lv_aload_n hx hb dX6_back_10 rfl (lv_at hl 0 rfl) ?_
    refine lv_dup hx hb dX6_back_11 rfl ?_
    refine va_get (D := (dC, dI)) (ci := 6) (v := .int m_kept) (C := RX6) (T := TX6) (N := 15) hx hb hts in_X6 hown hK hP 0 rfl rfl 3 (by decide) f_48 (fun _ h9 => h9) rfl dX6_back_12 ?_
    refine lv_iconst (v := (1 : Int32)) hx hb dX6_back_15 (by decide) ?_
    refine lv_isub hx hb dX6_back_16 ?_
    refine va_put (D := (dC, dI)) (ci := 6) (v := .int (m_kept - (1 : Int32))) (ty := .int) (C := RX6) (T := TX6) (N := 15) hx hb hts in_X6 tyX6 tyX6_ok nmX6 hown hK hP hD hS 0 rfl rfl 3 (by decide) f_48 (fun _ h9 => h9) rfl (by decide +kernel) rfl rfl (Nat.le_of_ble_eq_true rfl) dX6_back_17 (fun H locs hP hD hS => ?_)
    have hP : va_P (dC, dI) vwCl [(a_m, .inr (6, [.ref a_m_w, .ref a_m_d, .int m_undoes, .int (m_kept - (1 : Int32)), .ref a_m_text, .int m_texted, .int m_at, .ref a_m_numbers, .ref a_m_then, .ref a_m_leans, .int m_draws, .int m_drawn, .int m_heards, .ref a_m_heardSet, .ref a_m_heardSum])), (a_m_d, .inl (cI, 216, .inl m_d))] H := hP
    have hD : va_D A [(a_m, .inr (6, [.ref a_m_w, .ref a_m_d, .int m_undoes, .int (m_kept - (1 : Int32)), .ref a_m_text, .int m_texted, .int m_at, .ref a_m_numbers, .ref a_m_then, .ref a_m_leans, .int m_draws, .int m_drawn, .int m_heards, .ref a_m_heardSet, .ref a_m_heardSum])), (a_m_d, .inl (cI, 216, .inl m_d))] := hD
    refine lv_iconst (v := (0 : Int32)) hx hb dX6_back_20 (by decide) ?_
    refine lv_istore_n (lv' := [(1, .int (0 : Int32)), (0, .ref a_m)]) hx hb dX6_back_21 rfl hl (by decide) rfl (fun ls hl => ?_)
    obtain ⟨j6583, hjj6583, h⟩ := ob h
    have Jj6583 : ∀ (H : Heap) (locs : List Loc), va_P (dC, dI) vwCl [(a_m, .inr (6, [.ref a_m_w, .ref a_m_d, .int m_undoes, .int (m_kept - (1 : Int32)), .ref a_m_text, .int m_texted, .int m_at, .ref a_m_numbers, .ref a_m_then, .ref a_m_leans, .int m_draws, .int m_drawn, .int m_heards, .ref a_m_heardSet, .ref a_m_heardSum])), (a_m_d, .inl (cI, 216, .inl j6583.2))] H → va_D A [(a_m, .inr (6, [.ref a_m_w, .ref a_m_d, .int m_undoes, .int (m_kept - (1 : Int32)), .ref a_m_text, .int m_texted, .int m_at, .ref a_m_numbers, .ref a_m_then, .ref a_m_leans, .int m_draws, .int m_drawn, .int m_heards, .ref a_m_heardSet, .ref a_m_heardSum])), (a_m_d, .inl (cI, 216, .inl j6583.2))] → va_S A s.heap H locs → ∀ ls : Array Slot, lv_has ls 2 [(0, .ref a_m), (1, .int j6583.1)] → W p l e (headSpec wsX6_back rm_X6_back).room s m ([.ref a_m] : List Value).toArray below meth c H locs 0 0 QQ (F0 m 57 ls []) := by
      intro H locs hP hD hS ls hl
      refine lv_aload_n hx hb dX6_back_57 rfl (lv_at hl 0 rfl) ?_
      refine lv_iconst (v := (0 : Int32)) hx hb dX6_back_58 (by decide) ?_
      refine va_put (D := (dC, dI)) (ci := 6) (v := .int (0 : Int32)) (ty := .int) (C := RX6) (T := TX6) (N := 15) hx hb hts in_X6 tyX6 tyX6_ok nmX6 hown hK hP hD hS 0 rfl rfl 2 (by decide) f_44 (fun _ h9 => h9) rfl (by decide +kernel) rfl rfl (Nat.le_of_ble_eq_true rfl) dX6_back_59 (fun H locs hP hD hS => ?_)
      have hP : va_P (dC, dI) vwCl [(a_m, .inr (6, [.ref a_m_w, .ref a_m_d, .int (0 : Int32), .int (m_kept - (1 : Int32)), .ref a_m_text, .int m_texted, .int m_at, .ref a_m_numbers, .ref a_m_then, .ref a_m_leans, .int m_draws, .int m_drawn, .int m_heards, .ref a_m_heardSet, .ref a_m_heardSum])), (a_m_d, .inl (cI, 216, .inl j6583.2))] H := hP
      have hD : va_D A [(a_m, .inr (6, [.ref a_m_w, .ref a_m_d, .int (0 : Int32), .int (m_kept - (1 : Int32)), .ref a_m_text, .int m_texted, .int m_at, .ref a_m_numbers, .ref a_m_then, .ref a_m_leans, .int m_draws, .int m_drawn, .int m_heards, .ref a_m_heardSet, .ref a_m_heardSum])), (a_m_d, .inl (cI, 216, .inl j6583.2))] := hD
      refine lv_aload_n hx hb dX6_back_62 rfl (lv_at hl 0 rfl) ?_
      refine va_get (D := (dC, dI)) (ci := 6) (v := .int (m_kept - (1 : Int32))) (C := RX6) (T := TX6) (N := 15) hx hb hts in_X6 hown hK hP 0 rfl rfl 3 (by decide) f_48 (fun _ h9 => h9) rfl dX6_back_63 ?_
      obtain rfl := Option.some.inj h
      subst hQe
      exact W.iret (v := (m_kept - (1 : Int32))) hx hb hr (fun t ht hW => ⟨⟨(m_kept - (1 : Int32)), (), rfl, rfl, ⟨by rw [ht]; exact hP, hD⟩⟩, hS.F ht⟩) hS.2.2 dX6_back_66
    have K22 : ∀ (k : Nat) (y1_22 : Int32) (m_dv_22 : Nat → Int32), L_X6_back_22 m_kept k y1_22 m_dv_22 = some j6583 → ∀ (H : Heap) (locs : List Loc), va_P (dC, dI) vwCl [(a_m, .inr (6, [.ref a_m_w, .ref a_m_d, .int m_undoes, .int (m_kept - (1 : Int32)), .ref a_m_text, .int m_texted, .int m_at, .ref a_m_numbers, .ref a_m_then, .ref a_m_leans, .int m_draws, .int m_drawn, .int m_heards, .ref a_m_heardSet, .ref a_m_heardSum])), (a_m_d, .inl (cI, 216, .inl m_dv_22))] H → va_D A [(a_m, .inr (6, [.ref a_m_w, .ref a_m_d, .int m_undoes, .int (m_kept - (1 : Int32)), .ref a_m_text, .int m_texted, .int m_at, .ref a_m_numbers, .ref a_m_then, .ref a_m_leans, .int m_draws, .int m_drawn, .int m_heards, .ref a_m_heardSet, .ref a_m_heardSum])), (a_m_d, .inl (cI, 216, .inl m_dv_22))] → va_S A s.heap H locs → ∀ ls : Array Slot, lv_has ls 2 [(0, .ref a_m), (1, .int y1_22)] → W p l e (headSpec wsX6_back rm_X6_back).room s m ([.ref a_m] : List Value).toArray below meth c H locs 0 0 QQ (F0 m 22 ls []) := by
      intro k
      induction k with
      | zero =>
        intro y1_22 m_dv_22 h
        rw [L_X6_back_22] at h
        cases h
      | succ k ih =>
        intro y1_22 m_dv_22 h H locs hP hD hS ls hl
        rw [L_X6_back_22] at h
        refine lv_iload_n hx hb dX6_back_22 rfl (lv_at hl 1 rfl) ?_
        refine lv_bipush (v := (18 : Int32)) hx hb dX6_back_23 (by decide) ?_
        refine lv_icmp_ge (tgt := 57) hx hb dX6_back_25 (by decide) (fun c_25 => ?_) (fun c_25 => ?_)
        · have h := (if_pos c_25).symm.trans h
          obtain rfl := Option.some.inj h
          exact Jj6583 _ _ hP hD hS _ hl
        · have h := (if_neg c_25).symm.trans h
          refine lv_aload_n hx hb dX6_back_28 rfl (lv_at hl 0 rfl) ?_
          refine va_get (D := (dC, dI)) (ci := 6) (v := .ref a_m_d) (C := RX6) (T := TX6) (N := 15) hx hb hts in_X6 hown hK hP 0 rfl rfl 1 (by decide) f_13 (fun _ h9 => h9) rfl dX6_back_29 ?_
          refine lv_iload_n hx hb dX6_back_32 rfl (lv_at hl 1 rfl) ?_
          refine lv_aload_n hx hb dX6_back_33 rfl (lv_at hl 0 rfl) ?_
          refine va_get (D := (dC, dI)) (ci := 6) (v := .ref a_m_d) (C := RX6) (T := TX6) (N := 15) hx hb hts in_X6 hown hK hP 0 rfl rfl 1 (by decide) f_13 (fun _ h9 => h9) rfl dX6_back_34 ?_
          refine lv_bipush (v := (18 : Int32)) hx hb dX6_back_37 (by decide) ?_
          refine lv_bipush (v := (18 : Int32)) hx hb dX6_back_39 (by decide) ?_
          refine lv_aload_n hx hb dX6_back_41 rfl (lv_at hl 0 rfl) ?_
          refine va_get (D := (dC, dI)) (ci := 6) (v := .int (m_kept - (1 : Int32))) (C := RX6) (T := TX6) (N := 15) hx hb hts in_X6 hown hK hP 0 rfl rfl 3 (by decide) f_48 (fun _ h9 => h9) rfl dX6_back_42 ?_
          refine lv_imul hx hb dX6_back_45 ?_
          refine lv_iadd hx hb dX6_back_46 ?_
          refine lv_iload_n hx hb dX6_back_47 rfl (lv_at hl 1 rfl) ?_
          refine lv_iadd hx hb dX6_back_48 ?_
          obtain ⟨v6584, hv6584, h⟩ := ob h
          refine k_ld hx hb hK hP 1 0 rfl rfl hv6584 dX6_back_49 ?_
          obtain ⟨g6585, hg6585, h⟩ := ob h
          refine k_st hx hb hK hP hD hS 1 0 rfl rfl hg6585 dX6_back_50 (ws' := [(a_m, .inr (6, [.ref a_m_w, .ref a_m_d, .int m_undoes, .int (m_kept - (1 : Int32)), .ref a_m_text, .int m_texted, .int m_at, .ref a_m_numbers, .ref a_m_then, .ref a_m_leans, .int m_draws, .int m_drawn, .int m_heards, .ref a_m_heardSet, .ref a_m_heardSum])), (a_m_d, .inl (cI, 216, .inl g6585))]) rfl (fun H locs hP hD hS => ?_)
          refine lv_iinc (v := (y1_22 + (1 : Int32))) (lv' := [(1, .int (y1_22 + (1 : Int32))), (0, .ref a_m)]) hx hb dX6_back_51 hl (k := 1) rfl rfl (by decide) rfl (fun ls hl => ?_)
          refine lv_goto (tgt := 22) hx hb dX6_back_54 (by decide) ?_
          exact ih _ _ h _ _ hP hD hS _ (lv_sub hl [1, 0] rfl)
    exact K22 n (0 : Int32) m_d hjj6583 _ _ hP hD hS _ (lv_sub hl [1, 0] rfl)
  · have h := (if_pos c_4).symm.trans h
    refine lv_bipush (v := (-2 : Int32)) hx hb dX6_back_7 (by decide) ?_
    obtain rfl := Option.some.inj h
    subst hQe
    exact W.iret (v := (-2 : Int32)) hx hb hr (fun t ht hW => ⟨⟨(-2 : Int32), (), rfl, rfl, ⟨by rw [ht]; exact hP, hD⟩⟩, hS.F ht⟩) hS.2.2 dX6_back_9
def rm_X6_count : Room := { frames := 0, cells := 0, slots := 0, locals := 0 }
set_option maxRecDepth 100000 in
set_option maxHeartbeats 8000000 in
theorem c_X6_count (l : Launch) (dC : Nat → ClassId) (dI : Nat → Nat → Nat) (cI cS : ClassId) (n sz : Nat) (a_m : Nat) (a_m_w : Nat) (a_m_d : Nat) (a_m_text : Nat) (a_m_numbers : Nat) (a_m_then : Nat) (a_m_leans : Nat) (a_m_heardSet : Nat) (a_m_heardSum : Nat) (m_w : Nat → Int32) (m_d : Nat → Int32) (m_undoes : Int32) (m_kept : Int32) (m_texted : Int32) (m_at : Int32) (m_draws : Int32) (m_drawn : Int32) (m_heards : Int32) (x1 : Int32) (res : Int32)  (h : F_X6_count n m_w m_d m_undoes m_kept m_texted m_heards x1 = some res) : Met l yX6_count wsX6_count rm_X6_count (va_Pc [.ref a_m, .int x1] (PRE (dC, dI) vwCl [(cI, .int), (cS, .object "RoundOfTheA$State")] sz [(a_m, .inr (6, [.ref a_m_w, .ref a_m_d, .int m_undoes, .int m_kept, .ref a_m_text, .int m_texted, .int m_at, .ref a_m_numbers, .ref a_m_then, .ref a_m_leans, .int m_draws, .int m_drawn, .int m_heards, .ref a_m_heardSet, .ref a_m_heardSum])), (a_m_w, .inl (cI, 106, .inl m_w)), (a_m_d, .inl (cI, 216, .inl m_d))])) (va_Qi (fun (r : Int32) (_ : Unit) => r = res) (fun u t => POST (dC, dI) vwCl [(a_m, .inr (6, [.ref a_m_w, .ref a_m_d, .int m_undoes, .int m_kept, .ref a_m_text, .int m_texted, .int m_at, .ref a_m_numbers, .ref a_m_then, .ref a_m_leans, .int m_draws, .int m_drawn, .int m_heards, .ref a_m_heardSet, .ref a_m_heardSum])), (a_m_w, .inl (cI, 106, .inl m_w)), (a_m_d, .inl (cI, 216, .inl m_d))] (va_A [(a_m, .inr (6, [.ref a_m_w, .ref a_m_d, .int m_undoes, .int m_kept, .ref a_m_text, .int m_texted, .int m_at, .ref a_m_numbers, .ref a_m_then, .ref a_m_leans, .int m_draws, .int m_drawn, .int m_heards, .ref a_m_heardSet, .ref a_m_heardSum])), (a_m_w, .inl (cI, 106, .inl m_w)), (a_m_d, .inl (cI, 216, .inl m_d))] sz) t) (va_A [(a_m, .inr (6, [.ref a_m_w, .ref a_m_d, .int m_undoes, .int m_kept, .ref a_m_text, .int m_texted, .int m_at, .ref a_m_numbers, .ref a_m_then, .ref a_m_leans, .int m_draws, .int m_drawn, .int m_heards, .ref a_m_heardSet, .ref a_m_heardSum])), (a_m_w, .inl (cI, 106, .inl m_w)), (a_m_d, .inl (cI, 216, .inl m_d))] sz)) 0 0 (va_A [(a_m, .inr (6, [.ref a_m_w, .ref a_m_d, .int m_undoes, .int m_kept, .ref a_m_text, .int m_texted, .int m_at, .ref a_m_numbers, .ref a_m_then, .ref a_m_leans, .int m_draws, .int m_drawn, .int m_heards, .ref a_m_heardSet, .ref a_m_heardSum])), (a_m_w, .inl (cI, 106, .inl m_w)), (a_m_d, .inl (cI, 216, .inl m_d))] sz) := by
  refine Met.ofW (cc := cX6_count) (maxL := 2) (ret := (some .int)) (by decide) rfl ?_
  intro p e s m args below meth c s₁ B hml hv
  obtain ⟨rfl, hsz, hN, hP, hK, hD0⟩ := hv
  have hx := B.exec
  have hb := B.bytes
  have hr := B.returns
  have hts := atoms_spec (ws := wsX6_count) B.pre
  have hown : s.vm.findClass RX6 = some m.cls := findClass_of_methodNamed B.named
  have hlocks := B.notSynchronized
  subst hsz
  have hD := hD0.self (sz := s.heap.size)
  generalize hAe : va_A [(a_m, .inr (6, [.ref a_m_w, .ref a_m_d, .int m_undoes, .int m_kept, .ref a_m_text, .int m_texted, .int m_at, .ref a_m_numbers, .ref a_m_then, .ref a_m_leans, .int m_draws, .int m_drawn, .int m_heards, .ref a_m_heardSet, .ref a_m_heardSum])), (a_m_w, .inl (cI, 106, .inl m_w)), (a_m_d, .inl (cI, 216, .inl m_d))] s.heap.size = A at hD ⊢
  have hA : ∀ q : Nat, s.heap.size ≤ q → A q := fun q h => by rw [← hAe]; exact Or.inr h
  have hS : va_S A s.heap s.heap [] := va_S.rf
  generalize hQe : MQ below _ _ s _ _ A = QQ
  have hl := lv_entry ([.ref a_m, .int x1]) (n := 2) (Nat.le_of_ble_eq_true rfl)
  rw [lg_entry_eq]
  generalize (lg_sl ([.ref a_m, .int x1]) ++ List.replicate (2 - (lg_sl ([.ref a_m, .int x1])).length) Slot.unset).toArray = ls at hl ⊢
  have hl : lv_has ls 2 [(0, .ref a_m), (1, .int x1)] := hl
  have f_7 := hts (.fieldLink RX6 7 "RoundOfTheAModel" "w" "[I") (by decide +kernel)
  have in_X6 := (by decide +kernel : ∀ w ∈ wsX60, w ∈ wsX6_count)
  have f_13 := hts (.fieldLink RX6 13 "RoundOfTheAModel" "d" "[I") (by decide +kernel)
  have f_51 := hts (.fieldLink RX6 51 "RoundOfTheAModel" "heards" "I") (by decide +kernel)
  have f_44 := hts (.fieldLink RX6 44 "RoundOfTheAModel" "undoes" "I") (by decide +kernel)
  have f_48 := hts (.fieldLink RX6 48 "RoundOfTheAModel" "kept" "I") (by decide +kernel)
  have f_62 := hts (.fieldLink RX6 62 "RoundOfTheAModel" "texted" "I") (by decide +kernel)
  rw [F_X6_count] at h
  refine lv_iload_n hx hb dX6_count_0 rfl (lv_at hl 1 rfl) ?_
  by_cases e_1_0 : x1 = (0 : Int32)
  · have h := (if_pos e_1_0).symm.trans h
    refine lv_tableIn (off := 47) (tgt := 48) hx hb dX6_count_1 (by rw [e_1_0]; decide) (by rw [e_1_0]; decide) (by rw [e_1_0]; rfl) (by decide) ?_
    refine lv_aload_n hx hb dX6_count_48 rfl (lv_at hl 0 rfl) ?_
    refine va_get (D := (dC, dI)) (ci := 6) (v := .ref a_m_w) (C := RX6) (T := TX6) (N := 15) hx hb hts in_X6 hown hK hP 0 rfl rfl 0 (by decide) f_7 (fun _ h9 => h9) rfl dX6_count_49 ?_
    refine lv_iconst (v := (0 : Int32)) hx hb dX6_count_52 (by decide) ?_
    obtain ⟨v6591, hv6591, h⟩ := ob h
    refine k_ld hx hb hK hP 1 0 rfl rfl hv6591 dX6_count_53 ?_
    obtain rfl := Option.some.inj h
    subst hQe
    exact W.iret (v := v6591) hx hb hr (fun t ht hW => ⟨⟨v6591, (), rfl, rfl, ⟨by rw [ht]; exact hP, hD⟩⟩, hS.F ht⟩) hS.2.2 dX6_count_54
  have h := (if_neg e_1_0).symm.trans h
  by_cases e_1_1 : x1 = (1 : Int32)
  · have h := (if_pos e_1_1).symm.trans h
    refine lv_tableIn (off := 54) (tgt := 55) hx hb dX6_count_1 (by rw [e_1_1]; decide) (by rw [e_1_1]; decide) (by rw [e_1_1]; rfl) (by decide) ?_
    refine lv_aload_n hx hb dX6_count_55 rfl (lv_at hl 0 rfl) ?_
    refine va_get (D := (dC, dI)) (ci := 6) (v := .ref a_m_d) (C := RX6) (T := TX6) (N := 15) hx hb hts in_X6 hown hK hP 0 rfl rfl 1 (by decide) f_13 (fun _ h9 => h9) rfl dX6_count_56 ?_
    refine lv_bipush (v := (9 : Int32)) hx hb dX6_count_59 (by decide) ?_
    obtain ⟨v6592, hv6592, h⟩ := ob h
    refine k_ld hx hb hK hP 2 0 rfl rfl hv6592 dX6_count_61 ?_
    obtain rfl := Option.some.inj h
    subst hQe
    exact W.iret (v := v6592) hx hb hr (fun t ht hW => ⟨⟨v6592, (), rfl, rfl, ⟨by rw [ht]; exact hP, hD⟩⟩, hS.F ht⟩) hS.2.2 dX6_count_62
  have h := (if_neg e_1_1).symm.trans h
  by_cases e_1_2 : x1 = (2 : Int32)
  · have h := (if_pos e_1_2).symm.trans h
    refine lv_tableIn (off := 62) (tgt := 63) hx hb dX6_count_1 (by rw [e_1_2]; decide) (by rw [e_1_2]; decide) (by rw [e_1_2]; rfl) (by decide) ?_
    refine lv_aload_n hx hb dX6_count_63 rfl (lv_at hl 0 rfl) ?_
    refine va_get (D := (dC, dI)) (ci := 6) (v := .ref a_m_w) (C := RX6) (T := TX6) (N := 15) hx hb hts in_X6 hown hK hP 0 rfl rfl 0 (by decide) f_7 (fun _ h9 => h9) rfl dX6_count_64 ?_
    refine lv_bipush (v := (51 : Int32)) hx hb dX6_count_67 (by decide) ?_
    obtain ⟨v6593, hv6593, h⟩ := ob h
    refine k_ld hx hb hK hP 1 0 rfl rfl hv6593 dX6_count_69 ?_
    refine lv_aload_n hx hb dX6_count_70 rfl (lv_at hl 0 rfl) ?_
    refine va_get (D := (dC, dI)) (ci := 6) (v := .ref a_m_d) (C := RX6) (T := TX6) (N := 15) hx hb hts in_X6 hown hK hP 0 rfl rfl 1 (by decide) f_13 (fun _ h9 => h9) rfl dX6_count_71 ?_
    refine lv_bipush (v := (9 : Int32)) hx hb dX6_count_74 (by decide) ?_
    obtain ⟨v6594, hv6594, h⟩ := ob h
    refine k_ld hx hb hK hP 2 0 rfl rfl hv6594 dX6_count_76 ?_
    refine lv_bipush (v := (60 : Int32)) hx hb dX6_count_77 (by decide) ?_
    refine lv_idiv hx hb dX6_count_79 (by decide) ?_
    refine lv_imul hx hb dX6_count_80 ?_
    obtain rfl := Option.some.inj h
    subst hQe
    exact W.iret (v := (v6593 * (v6594 / (60 : Int32)))) hx hb hr (fun t ht hW => ⟨⟨(v6593 * (v6594 / (60 : Int32))), (), rfl, rfl, ⟨by rw [ht]; exact hP, hD⟩⟩, hS.F ht⟩) hS.2.2 dX6_count_81
  have h := (if_neg e_1_2).symm.trans h
  by_cases e_1_3 : x1 = (3 : Int32)
  · have h := (if_pos e_1_3).symm.trans h
    refine lv_tableIn (off := 81) (tgt := 82) hx hb dX6_count_1 (by rw [e_1_3]; decide) (by rw [e_1_3]; decide) (by rw [e_1_3]; rfl) (by decide) ?_
    refine lv_aload_n hx hb dX6_count_82 rfl (lv_at hl 0 rfl) ?_
    refine va_get (D := (dC, dI)) (ci := 6) (v := .int m_heards) (C := RX6) (T := TX6) (N := 15) hx hb hts in_X6 hown hK hP 0 rfl rfl 12 (by decide) f_51 (fun _ h9 => h9) rfl dX6_count_83 ?_
    obtain rfl := Option.some.inj h
    subst hQe
    exact W.iret (v := m_heards) hx hb hr (fun t ht hW => ⟨⟨m_heards, (), rfl, rfl, ⟨by rw [ht]; exact hP, hD⟩⟩, hS.F ht⟩) hS.2.2 dX6_count_86
  have h := (if_neg e_1_3).symm.trans h
  by_cases e_1_4 : x1 = (4 : Int32)
  · have h := (if_pos e_1_4).symm.trans h
    refine lv_tableIn (off := 86) (tgt := 87) hx hb dX6_count_1 (by rw [e_1_4]; decide) (by rw [e_1_4]; decide) (by rw [e_1_4]; rfl) (by decide) ?_
    refine lv_aload_n hx hb dX6_count_87 rfl (lv_at hl 0 rfl) ?_
    refine va_get (D := (dC, dI)) (ci := 6) (v := .int m_undoes) (C := RX6) (T := TX6) (N := 15) hx hb hts in_X6 hown hK hP 0 rfl rfl 2 (by decide) f_44 (fun _ h9 => h9) rfl dX6_count_88 ?_
    obtain rfl := Option.some.inj h
    subst hQe
    exact W.iret (v := m_undoes) hx hb hr (fun t ht hW => ⟨⟨m_undoes, (), rfl, rfl, ⟨by rw [ht]; exact hP, hD⟩⟩, hS.F ht⟩) hS.2.2 dX6_count_91
  have h := (if_neg e_1_4).symm.trans h
  by_cases e_1_5 : x1 = (5 : Int32)
  · have h := (if_pos e_1_5).symm.trans h
    refine lv_tableIn (off := 91) (tgt := 92) hx hb dX6_count_1 (by rw [e_1_5]; decide) (by rw [e_1_5]; decide) (by rw [e_1_5]; rfl) (by decide) ?_
    refine lv_aload_n hx hb dX6_count_92 rfl (lv_at hl 0 rfl) ?_
    refine va_get (D := (dC, dI)) (ci := 6) (v := .int m_kept) (C := RX6) (T := TX6) (N := 15) hx hb hts in_X6 hown hK hP 0 rfl rfl 3 (by decide) f_48 (fun _ h9 => h9) rfl dX6_count_93 ?_
    obtain rfl := Option.some.inj h
    subst hQe
    exact W.iret (v := m_kept) hx hb hr (fun t ht hW => ⟨⟨m_kept, (), rfl, rfl, ⟨by rw [ht]; exact hP, hD⟩⟩, hS.F ht⟩) hS.2.2 dX6_count_96
  have h := (if_neg e_1_5).symm.trans h
  by_cases e_1_6 : x1 = (6 : Int32)
  · have h := (if_pos e_1_6).symm.trans h
    refine lv_tableIn (off := 96) (tgt := 97) hx hb dX6_count_1 (by rw [e_1_6]; decide) (by rw [e_1_6]; decide) (by rw [e_1_6]; rfl) (by decide) ?_
    refine lv_aload_n hx hb dX6_count_97 rfl (lv_at hl 0 rfl) ?_
    refine va_get (D := (dC, dI)) (ci := 6) (v := .int m_texted) (C := RX6) (T := TX6) (N := 15) hx hb hts in_X6 hown hK hP 0 rfl rfl 5 (by decide) f_62 (fun _ h9 => h9) rfl dX6_count_98 ?_
    obtain rfl := Option.some.inj h
    subst hQe
    exact W.iret (v := m_texted) hx hb hr (fun t ht hW => ⟨⟨m_texted, (), rfl, rfl, ⟨by rw [ht]; exact hP, hD⟩⟩, hS.F ht⟩) hS.2.2 dX6_count_101
  have h := (if_neg e_1_6).symm.trans h
  by_cases e_1_7 : x1 = (7 : Int32)
  · have h := (if_pos e_1_7).symm.trans h
    refine lv_tableIn (off := 101) (tgt := 102) hx hb dX6_count_1 (by rw [e_1_7]; decide) (by rw [e_1_7]; decide) (by rw [e_1_7]; rfl) (by decide) ?_
    refine lv_aload_n hx hb dX6_count_102 rfl (lv_at hl 0 rfl) ?_
    refine va_get (D := (dC, dI)) (ci := 6) (v := .ref a_m_w) (C := RX6) (T := TX6) (N := 15) hx hb hts in_X6 hown hK hP 0 rfl rfl 0 (by decide) f_7 (fun _ h9 => h9) rfl dX6_count_103 ?_
    refine lv_bipush (v := (52 : Int32)) hx hb dX6_count_106 (by decide) ?_
    obtain ⟨v6595, hv6595, h⟩ := ob h
    refine k_ld hx hb hK hP 1 0 rfl rfl hv6595 dX6_count_108 ?_
    obtain rfl := Option.some.inj h
    subst hQe
    exact W.iret (v := v6595) hx hb hr (fun t ht hW => ⟨⟨v6595, (), rfl, rfl, ⟨by rw [ht]; exact hP, hD⟩⟩, hS.F ht⟩) hS.2.2 dX6_count_109
  have h := (if_neg e_1_7).symm.trans h
  refine k_tableD (tgt := 110) hx hb dX6_count_1 [0, 1, 2, 3, 4, 5, 6, 7] (by decide +kernel) (by decide +kernel) (by simp only [List.mem_cons, List.not_mem_nil, or_false, not_or]; exact ⟨lv_neT e_1_0 (by decide), lv_neT e_1_1 (by decide), lv_neT e_1_2 (by decide), lv_neT e_1_3 (by decide), lv_neT e_1_4 (by decide), lv_neT e_1_5 (by decide), lv_neT e_1_6 (by decide), lv_neT e_1_7 (by decide)⟩) (by decide) ?_
  refine lv_iconst (v := (-1 : Int32)) hx hb dX6_count_110 (by decide) ?_
  obtain rfl := Option.some.inj h
  subst hQe
  exact W.iret (v := (-1 : Int32)) hx hb hr (fun t ht hW => ⟨⟨(-1 : Int32), (), rfl, rfl, ⟨by rw [ht]; exact hP, hD⟩⟩, hS.F ht⟩) hS.2.2 dX6_count_111
