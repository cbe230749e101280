def rm_X3_init : Room := { frames := 1, cells := 1, slots := 4, locals := 20 }
set_option maxRecDepth 100000 in
set_option maxHeartbeats 8000000 in
theorem c_X3_init (l : Launch) (dC : Nat → ClassId) (dI : Nat → Nat → Nat) (cI cS : ClassId) (n sz : Nat) (a_t : Nat) (res : Unit)  (h : F_X3_init n = some res) : Met l yX3_init wsX3_init rm_X3_init (va_Pc [.ref a_t] (PRE (dC, dI) vwCl [(cI, .int), (cS, .object "RoundOfTheA$State")] sz [(a_t, .inr (3, [.null, .int (0 : Int32)]))])) (va_Qv (fun _ : Nat => True) (fun u t => POST (dC, dI) vwCl [(a_t, .inr (3, [.ref u, .int (0 : Int32)])), (u, .inl (cI, 4, .inl (fun _ => 0)))] (va_A [(a_t, .inr (3, [.null, .int (0 : Int32)]))] sz) t) (va_A [(a_t, .inr (3, [.null, .int (0 : Int32)]))] sz)) 1 4 (va_A [(a_t, .inr (3, [.null, .int (0 : Int32)]))] sz) := by
  refine Met.ofW (cc := cX3_init) (maxL := 1) (ret := none) (by decide) rfl ?_
  intro p e s m args below meth c s₁ B hml hv
  obtain ⟨rfl, hsz, hN, hP, hK, hD0⟩ := hv
  have hx := B.exec
  have hb := B.bytes
  have hr := B.returns
  have hts := atoms_spec (ws := wsX3_init) B.pre
  have hown : s.vm.findClass RX3 = some m.cls := findClass_of_methodNamed B.named
  have hlocks := B.notSynchronized
  have hin : meth.name = "<init>" := (name_of_methodNamed B.named B.method).1
  subst hsz
  have hD := hD0.self (sz := s.heap.size)
  generalize hAe : va_A [(a_t, .inr (3, [.null, .int (0 : Int32)]))] s.heap.size = A at hD ⊢
  have hA : ∀ q : Nat, s.heap.size ≤ q → A q := fun q h => by rw [← hAe]; exact Or.inr h
  have hS : va_S A s.heap s.heap [] := va_S.rf
  generalize hQe : MQ below _ _ s _ _ A = QQ
  have hl := lv_entry ([.ref a_t]) (n := 1) (Nat.le_of_ble_eq_true rfl)
  rw [lg_entry_eq]
  generalize (lg_sl ([.ref a_t]) ++ List.replicate (1 - (lg_sl ([.ref a_t])).length) Slot.unset).toArray = ls at hl ⊢
  have hl : lv_has ls 1 [(0, .ref a_t)] := hl
  have m_3 := hts (.methodLink RX3 3 objectInit) (by decide +kernel)
  have m_oi := hts (.instanceMethod objectInit) (by decide +kernel)
  have m_oc := hts (.code objectInit ⟨#[0xb1]⟩ 1 none) (by decide +kernel)
  have k_ai := hts (.arrayClass .int) (by decide +kernel)
  have f_9 := hts (.fieldLink RX3 9 "RoundOfTheA$TextReader" "numbers" "[I") (by decide +kernel)
  have in_X3 := (by decide +kernel : ∀ w ∈ wsX30, w ∈ wsX3_init)
  have f_15 := hts (.fieldLink RX3 15 "RoundOfTheA$TextReader" "place" "I") (by decide +kernel)
  rw [F_X3_init] at h
  refine lv_aload_n hx hb dX3_init_0 rfl (lv_at hl 0 rfl) ?_
  refine W.objInit hx hb hown m_3 m_oi m_oc rfl (by rw [hml]; exact hl.1) rfl dX3_init_1 (Nat.le_of_ble_eq_true rfl) (Nat.le_of_ble_eq_true rfl) ?_
  refine W.eq (g2 := F0 m 4 ls []) rfl ?_
  refine lv_aload_n hx hb dX3_init_4 rfl (lv_at hl 0 rfl) ?_
  refine lv_iconst (v := (4 : Int32)) hx hb dX3_init_5 (by decide) ?_
  refine k_newa hx hb k_ai hK hP hD hS hA 0 rfl (N' := 4) (by decide) (by decide) (Nat.le_of_ble_eq_true rfl) (Nat.le_of_ble_eq_true rfl) (Nat.le_of_ble_eq_true rfl) dX3_init_6 (fun q511 H hP hD hS => ?_)
  refine W.widen (k := 1) (n := 4) (Nat.le_of_ble_eq_true rfl) (Nat.le_of_ble_eq_true rfl) ?_
  have hP : va_P (dC, dI) vwCl [(a_t, .inr (3, [.null, .int (0 : Int32)])), (q511, .inl (cI, 4, .inl (fun _ => 0)))] H := hP
  have hD : va_D A [(a_t, .inr (3, [.null, .int (0 : Int32)])), (q511, .inl (cI, 4, .inl (fun _ => 0)))] := hD
  refine va_putF (D := (dC, dI)) (ci := 3) (v := .ref q511) (ty := (tyX3 0)) (C := RX3) (T := TX3) (N := 2) hx hb hts in_X3 tyX3 tyX3_ok nmX3 hown hK hP hD hS 0 rfl rfl 0 (by decide) f_9 (fun _ h9 => h9) rfl hin rfl (by decide +kernel) rfl rfl (Nat.le_of_ble_eq_true rfl) dX3_init_8 (fun H locs hP hD hS => ?_)
  have hP : va_P (dC, dI) vwCl [(a_t, .inr (3, [.ref q511, .int (0 : Int32)])), (q511, .inl (cI, 4, .inl (fun _ => 0)))] H := hP
  have hD : va_D A [(a_t, .inr (3, [.ref q511, .int (0 : Int32)])), (q511, .inl (cI, 4, .inl (fun _ => 0)))] := hD
  refine lv_aload_n hx hb dX3_init_11 rfl (lv_at hl 0 rfl) ?_
  refine lv_iconst (v := (0 : Int32)) hx hb dX3_init_12 (by decide) ?_
  refine va_put (D := (dC, dI)) (ci := 3) (v := .int (0 : Int32)) (ty := .int) (C := RX3) (T := TX3) (N := 2) hx hb hts in_X3 tyX3 tyX3_ok nmX3 hown hK hP hD hS 0 rfl rfl 1 (by decide) f_15 (fun _ h9 => h9) rfl (by decide +kernel) rfl rfl (Nat.le_of_ble_eq_true rfl) dX3_init_13 (fun H locs hP hD hS => ?_)
  have hP : va_P (dC, dI) vwCl [(a_t, .inr (3, [.ref q511, .int (0 : Int32)])), (q511, .inl (cI, 4, .inl (fun _ => 0)))] H := hP
  have hD : va_D A [(a_t, .inr (3, [.ref q511, .int (0 : Int32)])), (q511, .inl (cI, 4, .inl (fun _ => 0)))] := hD
  obtain rfl := Option.some.inj h
  subst hQe
  refine W.widen (k := 1) (n := 4) (Nat.le_of_ble_eq_true rfl) (Nat.le_of_ble_eq_true rfl) ?_
  exact W.vret hx hb hr (fun t ht hW => ⟨⟨q511, rfl, trivial, ⟨by rw [ht]; exact hP, hD⟩⟩, hS.F ht⟩) hS.2.2 dX3_init_16
def rm_X3_letterAt : Room := { frames := 0, cells := 0, slots := 0, locals := 0 }
set_option maxRecDepth 100000 in
set_option maxHeartbeats 8000000 in
theorem c_X3_letterAt (l : Launch) (dC : Nat → ClassId) (dI : Nat → Nat → Nat) (cI cS : ClassId) (n sz : Nat) (a_t : Nat) (a_t_numbers : Nat) (a_b : Nat) (t_place : Int32) (b : Nat → Int32) (x2 : Int32) (res : Int32)  (h : F_X3_letterAt n t_place b x2 = some res) : Met l yX3_letterAt wsX3_letterAt rm_X3_letterAt (va_Pc [.ref a_t, .ref a_b, .int x2] (PRE (dC, dI) vwCl [(cI, .int), (cS, .object "RoundOfTheA$State")] sz [(a_t, .inr (3, [.ref a_t_numbers, .int t_place])), (a_b, .inl (cI, 200, .inl b))])) (va_Qi (fun (r : Int32) (_ : Unit) => r = res) (fun u t => POST (dC, dI) vwCl [(a_t, .inr (3, [.ref a_t_numbers, .int t_place])), (a_b, .inl (cI, 200, .inl b))] (va_A [(a_t, .inr (3, [.ref a_t_numbers, .int t_place])), (a_b, .inl (cI, 200, .inl b))] sz) t) (va_A [(a_t, .inr (3, [.ref a_t_numbers, .int t_place])), (a_b, .inl (cI, 200, .inl b))] sz)) 0 0 (va_A [(a_t, .inr (3, [.ref a_t_numbers, .int t_place])), (a_b, .inl (cI, 200, .inl b))] sz) := by
  refine Met.ofW (cc := cX3_letterAt) (maxL := 3) (ret := (some .int)) (by decide) rfl ?_
  intro p e s m args below meth c s₁ B hml hv
  obtain ⟨rfl, hsz, hN, hP, hK, hD0⟩ := hv
  have hx := B.exec
  have hb := B.bytes
  have hr := B.returns
  have hts := atoms_spec (ws := wsX3_letterAt) B.pre
  have hown : s.vm.findClass RX3 = some m.cls := findClass_of_methodNamed B.named
  have hlocks := B.notSynchronized
  subst hsz
  have hD := hD0.self (sz := s.heap.size)
  generalize hAe : va_A [(a_t, .inr (3, [.ref a_t_numbers, .int t_place])), (a_b, .inl (cI, 200, .inl b))] s.heap.size = A at hD ⊢
  have hA : ∀ q : Nat, s.heap.size ≤ q → A q := fun q h => by rw [← hAe]; exact Or.inr h
  have hS : va_S A s.heap s.heap [] := va_S.rf
  generalize hQe : MQ below _ _ s _ _ A = QQ
  have hl := lv_entry ([.ref a_t, .ref a_b, .int x2]) (n := 3) (Nat.le_of_ble_eq_true rfl)
  rw [lg_entry_eq]
  generalize (lg_sl ([.ref a_t, .ref a_b, .int x2]) ++ List.replicate (3 - (lg_sl ([.ref a_t, .ref a_b, .int x2])).length) Slot.unset).toArray = ls at hl ⊢
  have hl : lv_has ls 3 [(0, .ref a_t), (1, .ref a_b), (2, .int x2)] := hl
  have f_15 := hts (.fieldLink RX3 15 "RoundOfTheA$TextReader" "place" "I") (by decide +kernel)
  have in_X3 := (by decide +kernel : ∀ w ∈ wsX30, w ∈ wsX3_letterAt)
  rw [F_X3_letterAt] at h
  refine lv_aload_n hx hb dX3_letterAt_0 rfl (lv_at hl 0 rfl) ?_
  refine va_get (D := (dC, dI)) (ci := 3) (v := .int t_place) (C := RX3) (T := TX3) (N := 2) hx hb hts in_X3 hown hK hP 0 rfl rfl 1 (by decide) f_15 (fun _ h9 => h9) rfl dX3_letterAt_1 ?_
  refine lv_if_lt (tgt := 33) hx hb dX3_letterAt_4 (by decide) (fun c_4 => ?_) (fun c_4 => ?_)
  · have h := (if_pos c_4).symm.trans h
    refine lv_iconst (v := (0 : Int32)) hx hb dX3_letterAt_33 (by decide) ?_
    obtain rfl := Option.some.inj h
    subst hQe
    exact W.iret (v := (0 : Int32)) hx hb hr (fun t ht hW => ⟨⟨(0 : Int32), (), rfl, rfl, ⟨by rw [ht]; exact hP, hD⟩⟩, hS.F ht⟩) hS.2.2 dX3_letterAt_34
  · have h := (if_neg c_4).symm.trans h
    refine lv_aload_n hx hb dX3_letterAt_7 rfl (lv_at hl 0 rfl) ?_
    refine va_get (D := (dC, dI)) (ci := 3) (v := .int t_place) (C := RX3) (T := TX3) (N := 2) hx hb hts in_X3 hown hK hP 0 rfl rfl 1 (by decide) f_15 (fun _ h9 => h9) rfl dX3_letterAt_8 ?_
    refine lv_iload_n hx hb dX3_letterAt_11 rfl (lv_at hl 2 rfl) ?_
    refine lv_icmp_ge (tgt := 33) hx hb dX3_letterAt_12 (by decide) (fun c_12 => ?_) (fun c_12 => ?_)
    · have h := (if_pos c_12).symm.trans h
      refine lv_iconst (v := (0 : Int32)) hx hb dX3_letterAt_33 (by decide) ?_
      obtain rfl := Option.some.inj h
      subst hQe
      exact W.iret (v := (0 : Int32)) hx hb hr (fun t ht hW => ⟨⟨(0 : Int32), (), rfl, rfl, ⟨by rw [ht]; exact hP, hD⟩⟩, hS.F ht⟩) hS.2.2 dX3_letterAt_34
    · have h := (if_neg c_12).symm.trans h
      refine lv_aload_n hx hb dX3_letterAt_15 rfl (lv_at hl 0 rfl) ?_
      refine va_get (D := (dC, dI)) (ci := 3) (v := .int t_place) (C := RX3) (T := TX3) (N := 2) hx hb hts in_X3 hown hK hP 0 rfl rfl 1 (by decide) f_15 (fun _ h9 => h9) rfl dX3_letterAt_16 ?_
      refine lv_aload_n hx hb dX3_letterAt_19 rfl (lv_at hl 1 rfl) ?_
      refine va_alen hx hb hK hP 1 0 rfl rfl (v := (200 : Int32)) rfl dX3_letterAt_20 ?_
      refine lv_icmp_ge (tgt := 33) hx hb dX3_letterAt_21 (by decide) (fun c_21 => ?_) (fun c_21 => ?_)
      · have h := (if_pos c_21).symm.trans h
        refine lv_iconst (v := (0 : Int32)) hx hb dX3_letterAt_33 (by decide) ?_
        obtain rfl := Option.some.inj h
        subst hQe
        exact W.iret (v := (0 : Int32)) hx hb hr (fun t ht hW => ⟨⟨(0 : Int32), (), rfl, rfl, ⟨by rw [ht]; exact hP, hD⟩⟩, hS.F ht⟩) hS.2.2 dX3_letterAt_34
      · have h := (if_neg c_21).symm.trans h
        refine lv_aload_n hx hb dX3_letterAt_24 rfl (lv_at hl 1 rfl) ?_
        refine lv_aload_n hx hb dX3_letterAt_25 rfl (lv_at hl 0 rfl) ?_
        refine va_get (D := (dC, dI)) (ci := 3) (v := .int t_place) (C := RX3) (T := TX3) (N := 2) hx hb hts in_X3 hown hK hP 0 rfl rfl 1 (by decide) f_15 (fun _ h9 => h9) rfl dX3_letterAt_26 ?_
        obtain ⟨v515, hv515, h⟩ := ob h
        refine k_ld hx hb hK hP 1 0 rfl rfl hv515 dX3_letterAt_29 ?_
        refine lv_goto (tgt := 34) hx hb dX3_letterAt_30 (by decide) ?_
        obtain rfl := Option.some.inj h
        subst hQe
        exact W.iret (v := v515) hx hb hr (fun t ht hW => ⟨⟨v515, (), rfl, rfl, ⟨by rw [ht]; exact hP, hD⟩⟩, hS.F ht⟩) hS.2.2 dX3_letterAt_34
def rm_X3_numbersBehind : Room := { frames := 0, cells := 0, slots := 0, locals := 0 }
set_option maxRecDepth 100000 in
set_option maxHeartbeats 8000000 in
theorem c_X3_numbersBehind (l : Launch) (dC : Nat → ClassId) (dI : Nat → Nat → Nat) (cI cS : ClassId) (n sz : Nat) (x0 : Int32) (res : Int32)  (h : F_X3_numbersBehind n x0 = some res) : Met l yX3_numbersBehind wsX3_numbersBehind rm_X3_numbersBehind (va_Pc [.int x0] (PRE (dC, dI) vwCl [(cI, .int), (cS, .object "RoundOfTheA$State")] sz [])) (va_Qi (fun (r : Int32) (_ : Unit) => r = res) (fun u t => POST (dC, dI) vwCl [] (va_A [] sz) t) (va_A [] sz)) 0 0 (va_A [] sz) := by
  refine Met.ofW (cc := cX3_numbersBehind) (maxL := 1) (ret := (some .int)) (by decide) rfl ?_
  intro p e s m args below meth c s₁ B hml hv
  obtain ⟨rfl, hsz, hN, hP, hK, hD0⟩ := hv
  have hx := B.exec
  have hb := B.bytes
  have hr := B.returns
  have hts := atoms_spec (ws := wsX3_numbersBehind) B.pre
  have hown : s.vm.findClass RX3 = some m.cls := findClass_of_methodNamed B.named
  have hlocks := B.notSynchronized
  subst hsz
  have hD := hD0.self (sz := s.heap.size)
  generalize hAe : va_A [] s.heap.size = A at hD ⊢
  have hA : ∀ q : Nat, s.heap.size ≤ q → A q := fun q h => by rw [← hAe]; exact Or.inr h
  have hS : va_S A s.heap s.heap [] := va_S.rf
  generalize hQe : MQ below _ _ s _ _ A = QQ
  have hl := lv_entry ([.int x0]) (n := 1) (Nat.le_of_ble_eq_true rfl)
  rw [lg_entry_eq]
  generalize (lg_sl ([.int x0]) ++ List.replicate (1 - (lg_sl ([.int x0])).length) Slot.unset).toArray = ls at hl ⊢
  have hl : lv_has ls 1 [(0, .int x0)] := hl
  rw [F_X3_numbersBehind] at h
  refine lv_iload_n hx hb dX3_numbersBehind_0 rfl (lv_at hl 0 rfl) ?_
  by_cases e_1_100 : x0 = (100 : Int32)
  · have h := (if_pos e_1_100).symm.trans h
    refine lv_tableIn (off := 95) (tgt := 96) hx hb dX3_numbersBehind_1 (by rw [e_1_100]; decide) (by rw [e_1_100]; decide) (by rw [e_1_100]; rfl) (by decide) ?_
    refine lv_iconst (v := (4 : Int32)) hx hb dX3_numbersBehind_96 (by decide) ?_
    obtain rfl := Option.some.inj h
    subst hQe
    exact W.iret (v := (4 : Int32)) hx hb hr (fun t ht hW => ⟨⟨(4 : Int32), (), rfl, rfl, ⟨by rw [ht]; exact hP, hD⟩⟩, hS.F ht⟩) hS.2.2 dX3_numbersBehind_97
  have h := (if_neg e_1_100).symm.trans h
  by_cases e_1_103 : x0 = (103 : Int32)
  · have h := (if_pos e_1_103).symm.trans h
    refine lv_tableIn (off := 97) (tgt := 98) hx hb dX3_numbersBehind_1 (by rw [e_1_103]; decide) (by rw [e_1_103]; decide) (by rw [e_1_103]; rfl) (by decide) ?_
    refine lv_iconst (v := (2 : Int32)) hx hb dX3_numbersBehind_98 (by decide) ?_
    obtain rfl := Option.some.inj h
    subst hQe
    exact W.iret (v := (2 : Int32)) hx hb hr (fun t ht hW => ⟨⟨(2 : Int32), (), rfl, rfl, ⟨by rw [ht]; exact hP, hD⟩⟩, hS.F ht⟩) hS.2.2 dX3_numbersBehind_99
  have h := (if_neg e_1_103).symm.trans h
  by_cases e_1_104 : x0 = (104 : Int32)
  · have h := (if_pos e_1_104).symm.trans h
    refine lv_tableIn (off := 99) (tgt := 100) hx hb dX3_numbersBehind_1 (by rw [e_1_104]; decide) (by rw [e_1_104]; decide) (by rw [e_1_104]; rfl) (by decide) ?_
    refine lv_iconst (v := (1 : Int32)) hx hb dX3_numbersBehind_100 (by decide) ?_
    obtain rfl := Option.some.inj h
    subst hQe
    exact W.iret (v := (1 : Int32)) hx hb hr (fun t ht hW => ⟨⟨(1 : Int32), (), rfl, rfl, ⟨by rw [ht]; exact hP, hD⟩⟩, hS.F ht⟩) hS.2.2 dX3_numbersBehind_101
  have h := (if_neg e_1_104).symm.trans h
  by_cases e_1_111 : x0 = (111 : Int32)
  · have h := (if_pos e_1_111).symm.trans h
    refine lv_tableIn (off := 97) (tgt := 98) hx hb dX3_numbersBehind_1 (by rw [e_1_111]; decide) (by rw [e_1_111]; decide) (by rw [e_1_111]; rfl) (by decide) ?_
    refine lv_iconst (v := (2 : Int32)) hx hb dX3_numbersBehind_98 (by decide) ?_
    obtain rfl := Option.some.inj h
    subst hQe
    exact W.iret (v := (2 : Int32)) hx hb hr (fun t ht hW => ⟨⟨(2 : Int32), (), rfl, rfl, ⟨by rw [ht]; exact hP, hD⟩⟩, hS.F ht⟩) hS.2.2 dX3_numbersBehind_99
  have h := (if_neg e_1_111).symm.trans h
  by_cases e_1_112 : x0 = (112 : Int32)
  · have h := (if_pos e_1_112).symm.trans h
    refine lv_tableIn (off := 97) (tgt := 98) hx hb dX3_numbersBehind_1 (by rw [e_1_112]; decide) (by rw [e_1_112]; decide) (by rw [e_1_112]; rfl) (by decide) ?_
    refine lv_iconst (v := (2 : Int32)) hx hb dX3_numbersBehind_98 (by decide) ?_
    obtain rfl := Option.some.inj h
    subst hQe
    exact W.iret (v := (2 : Int32)) hx hb hr (fun t ht hW => ⟨⟨(2 : Int32), (), rfl, rfl, ⟨by rw [ht]; exact hP, hD⟩⟩, hS.F ht⟩) hS.2.2 dX3_numbersBehind_99
  have h := (if_neg e_1_112).symm.trans h
  by_cases e_1_119 : x0 = (119 : Int32)
  · have h := (if_pos e_1_119).symm.trans h
    refine lv_tableIn (off := 99) (tgt := 100) hx hb dX3_numbersBehind_1 (by rw [e_1_119]; decide) (by rw [e_1_119]; decide) (by rw [e_1_119]; rfl) (by decide) ?_
    refine lv_iconst (v := (1 : Int32)) hx hb dX3_numbersBehind_100 (by decide) ?_
    obtain rfl := Option.some.inj h
    subst hQe
    exact W.iret (v := (1 : Int32)) hx hb hr (fun t ht hW => ⟨⟨(1 : Int32), (), rfl, rfl, ⟨by rw [ht]; exact hP, hD⟩⟩, hS.F ht⟩) hS.2.2 dX3_numbersBehind_101
  have h := (if_neg e_1_119).symm.trans h
  refine k_tableD (tgt := 102) hx hb dX3_numbersBehind_1 [100, 103, 104, 111, 112, 119] (by decide +kernel) (by decide +kernel) (by simp only [List.mem_cons, List.not_mem_nil, or_false, not_or]; exact ⟨lv_neT e_1_100 (by decide), lv_neT e_1_103 (by decide), lv_neT e_1_104 (by decide), lv_neT e_1_111 (by decide), lv_neT e_1_112 (by decide), lv_neT e_1_119 (by decide)⟩) (by decide) ?_
  refine lv_iconst (v := (0 : Int32)) hx hb dX3_numbersBehind_102 (by decide) ?_
  obtain rfl := Option.some.inj h
  subst hQe
  exact W.iret (v := (0 : Int32)) hx hb hr (fun t ht hW => ⟨⟨(0 : Int32), (), rfl, rfl, ⟨by rw [ht]; exact hP, hD⟩⟩, hS.F ht⟩) hS.2.2 dX3_numbersBehind_103
def rm_X3_takeDesk : Room := { frames := 1, cells := 0, slots := 0, locals := 24 }
set_option maxRecDepth 100000 in
set_option maxHeartbeats 8000000 in
theorem c_X3_takeDesk (l : Launch) (dC : Nat → ClassId) (dI : Nat → Nat → Nat) (cI cS : ClassId) (n sz : Nat) (a_t : Nat) (a_t_numbers : Nat) (a_h : Nat) (a_h_kind : Nat) (a_h_leanTold : Nat) (a_h_needs : Nat) (a_h_firstHears : Nat) (a_h_group : Nat) (a_h_firstPitch : Nat) (t_numbers : Nat → Int32) (t_place : Int32) (h_desks : Int32) (h_kind : Nat → Int32) (h_leanTold : Nat → Int32) (h_needs : Nat → Int32) (h_firstHears : Nat → Int32) (h_group : Nat → Int32) (h_firstPitch : Nat → Int32) (h_oboe : Int32) (h_slip : Int32) (h_warmth : Int32) (h_unheard : Int32) (res : Int32 × Int32 × (Nat → Int32) × (Nat → Int32) × (Nat → Int32) × (Nat → Int32) × (Nat → Int32) × (Nat → Int32))  (h : F_X3_takeDesk n t_numbers h_desks h_kind h_leanTold h_needs h_firstHears h_group h_firstPitch = some res) : Met l yX3_takeDesk wsX3_takeDesk rm_X3_takeDesk (va_Pc [.ref a_t, .ref a_h] (PRE (dC, dI) vwCl [(cI, .int), (cS, .object "RoundOfTheA$State")] sz [(a_t, .inr (3, [.ref a_t_numbers, .int t_place])), (a_t_numbers, .inl (cI, 4, .inl t_numbers)), (a_h, .inr (0, [.int h_desks, .ref a_h_kind, .ref a_h_leanTold, .ref a_h_needs, .ref a_h_firstHears, .ref a_h_group, .ref a_h_firstPitch, .int h_oboe, .int h_slip, .int h_warmth, .int h_unheard])), (a_h_kind, .inl (cI, 8, .inl h_kind)), (a_h_leanTold, .inl (cI, 8, .inl h_leanTold)), (a_h_needs, .inl (cI, 8, .inl h_needs)), (a_h_firstHears, .inl (cI, 8, .inl h_firstHears)), (a_h_group, .inl (cI, 8, .inl h_group)), (a_h_firstPitch, .inl (cI, 8, .inl h_firstPitch))])) (va_Qi (fun (r : Int32) (_ : Unit) => r = res.1) (fun u t => POST (dC, dI) vwCl [(a_t, .inr (3, [.ref a_t_numbers, .int t_place])), (a_t_numbers, .inl (cI, 4, .inl t_numbers)), (a_h, .inr (0, [.int res.2.1, .ref a_h_kind, .ref a_h_leanTold, .ref a_h_needs, .ref a_h_firstHears, .ref a_h_group, .ref a_h_firstPitch, .int h_oboe, .int h_slip, .int h_warmth, .int h_unheard])), (a_h_kind, .inl (cI, 8, .inl res.2.2.1)), (a_h_leanTold, .inl (cI, 8, .inl res.2.2.2.1)), (a_h_needs, .inl (cI, 8, .inl res.2.2.2.2.1)), (a_h_firstHears, .inl (cI, 8, .inl res.2.2.2.2.2.1)), (a_h_group, .inl (cI, 8, .inl res.2.2.2.2.2.2.1)), (a_h_firstPitch, .inl (cI, 8, .inl res.2.2.2.2.2.2.2))] (va_A [(a_t, .inr (3, [.ref a_t_numbers, .int t_place])), (a_t_numbers, .inl (cI, 4, .inl t_numbers)), (a_h, .inr (0, [.int h_desks, .ref a_h_kind, .ref a_h_leanTold, .ref a_h_needs, .ref a_h_firstHears, .ref a_h_group, .ref a_h_firstPitch, .int h_oboe, .int h_slip, .int h_warmth, .int h_unheard])), (a_h_kind, .inl (cI, 8, .inl h_kind)), (a_h_leanTold, .inl (cI, 8, .inl h_leanTold)), (a_h_needs, .inl (cI, 8, .inl h_needs)), (a_h_firstHears, .inl (cI, 8, .inl h_firstHears)), (a_h_group, .inl (cI, 8, .inl h_group)), (a_h_firstPitch, .inl (cI, 8, .inl h_firstPitch))] sz) t) (va_A [(a_t, .inr (3, [.ref a_t_numbers, .int t_place])), (a_t_numbers, .inl (cI, 4, .inl t_numbers)), (a_h, .inr (0, [.int h_desks, .ref a_h_kind, .ref a_h_leanTold, .ref a_h_needs, .ref a_h_firstHears, .ref a_h_group, .ref a_h_firstPitch, .int h_oboe, .int h_slip, .int h_warmth, .int h_unheard])), (a_h_kind, .inl (cI, 8, .inl h_kind)), (a_h_leanTold, .inl (cI, 8, .inl h_leanTold)), (a_h_needs, .inl (cI, 8, .inl h_needs)), (a_h_firstHears, .inl (cI, 8, .inl h_firstHears)), (a_h_group, .inl (cI, 8, .inl h_group)), (a_h_firstPitch, .inl (cI, 8, .inl h_firstPitch))] sz)) 0 0 (va_A [(a_t, .inr (3, [.ref a_t_numbers, .int t_place])), (a_t_numbers, .inl (cI, 4, .inl t_numbers)), (a_h, .inr (0, [.int h_desks, .ref a_h_kind, .ref a_h_leanTold, .ref a_h_needs, .ref a_h_firstHears, .ref a_h_group, .ref a_h_firstPitch, .int h_oboe, .int h_slip, .int h_warmth, .int h_unheard])), (a_h_kind, .inl (cI, 8, .inl h_kind)), (a_h_leanTold, .inl (cI, 8, .inl h_leanTold)), (a_h_needs, .inl (cI, 8, .inl h_needs)), (a_h_firstHears, .inl (cI, 8, .inl h_firstHears)), (a_h_group, .inl (cI, 8, .inl h_group)), (a_h_firstPitch, .inl (cI, 8, .inl h_firstPitch))] sz) := by
  refine Met.ofW (cc := cX3_takeDesk) (maxL := 6) (ret := (some .boolean)) (by decide) rfl ?_
  intro p e s m args below meth c s₁ B hml hv
  obtain ⟨rfl, hsz, hN, hP, hK, hD0⟩ := hv
  have hx := B.exec
  have hb := B.bytes
  have hr := B.returns
  have hts := atoms_spec (ws := wsX3_takeDesk) B.pre
  have hown : s.vm.findClass RX3 = some m.cls := findClass_of_methodNamed B.named
  have hlocks := B.notSynchronized
  subst hsz
  have hD := hD0.self (sz := s.heap.size)
  generalize hAe : va_A [(a_t, .inr (3, [.ref a_t_numbers, .int t_place])), (a_t_numbers, .inl (cI, 4, .inl t_numbers)), (a_h, .inr (0, [.int h_desks, .ref a_h_kind, .ref a_h_leanTold, .ref a_h_needs, .ref a_h_firstHears, .ref a_h_group, .ref a_h_firstPitch, .int h_oboe, .int h_slip, .int h_warmth, .int h_unheard])), (a_h_kind, .inl (cI, 8, .inl h_kind)), (a_h_leanTold, .inl (cI, 8, .inl h_leanTold)), (a_h_needs, .inl (cI, 8, .inl h_needs)), (a_h_firstHears, .inl (cI, 8, .inl h_firstHears)), (a_h_group, .inl (cI, 8, .inl h_group)), (a_h_firstPitch, .inl (cI, 8, .inl h_firstPitch))] s.heap.size = A at hD ⊢
  have hA : ∀ q : Nat, s.heap.size ≤ q → A q := fun q h => by rw [← hAe]; exact Or.inr h
  have hS : va_S A s.heap s.heap [] := va_S.rf
  generalize hQe : MQ below _ _ s _ _ A = QQ
  have hl := lv_entry ([.ref a_t, .ref a_h]) (n := 6) (Nat.le_of_ble_eq_true rfl)
  rw [lg_entry_eq]
  generalize (lg_sl ([.ref a_t, .ref a_h]) ++ List.replicate (6 - (lg_sl ([.ref a_t, .ref a_h])).length) Slot.unset).toArray = ls at hl ⊢
  have hl : lv_has ls 6 [(0, .ref a_t), (1, .ref a_h)] := hl
  have f_9 := hts (.fieldLink RX3 9 "RoundOfTheA$TextReader" "numbers" "[I") (by decide +kernel)
  have in_X3 := (by decide +kernel : ∀ w ∈ wsX30, w ∈ wsX3_takeDesk)
  have k_iniX5 := hts (.initialized RX5) (by decide +kernel)
  have m_st_X5_isFrom := hts (.static yX5_isFrom) (by decide +kernel)
  rw [F_X3_takeDesk] at h
  refine lv_aload_n hx hb dX3_takeDesk_0 rfl (lv_at hl 0 rfl) ?_
  refine va_get (D := (dC, dI)) (ci := 3) (v := .ref a_t_numbers) (C := RX3) (T := TX3) (N := 2) hx hb hts in_X3 hown hK hP 0 rfl rfl 0 (by decide) f_9 (fun _ h9 => h9) rfl dX3_takeDesk_1 ?_
  refine lv_iconst (v := (0 : Int32)) hx hb dX3_takeDesk_4 (by decide) ?_
  obtain ⟨v530, hv530, h⟩ := ob h
  refine k_ld hx hb hK hP 1 0 rfl rfl hv530 dX3_takeDesk_5 ?_
  refine lv_istore_n (lv' := [(2, .int v530), (0, .ref a_t), (1, .ref a_h)]) hx hb dX3_takeDesk_6 rfl hl (by decide) rfl (fun ls hl => ?_)
  refine lv_aload_n hx hb dX3_takeDesk_7 rfl (lv_at hl 1 rfl) ?_
  refine va_get (D := (dC, dI)) (ci := 3) (v := .ref a_t_numbers) (C := RX3) (T := TX3) (N := 2) hx hb hts in_X3 hown hK hP 0 rfl rfl 0 (by decide) f_9 (fun _ h9 => h9) rfl dX3_takeDesk_8 ?_
  refine lv_iconst (v := (1 : Int32)) hx hb dX3_takeDesk_11 (by decide) ?_
  obtain ⟨v531, hv531, h⟩ := ob h
  refine k_ld hx hb hK hP 1 0 rfl rfl hv531 dX3_takeDesk_12 ?_
  refine lv_istore_n (lv' := [(3, .int v531), (2, .int v530), (0, .ref a_t), (1, .ref a_h)]) hx hb dX3_takeDesk_13 rfl hl (by decide) rfl (fun ls hl => ?_)
  refine lv_aload_n hx hb dX3_takeDesk_14 rfl (lv_at hl 2 rfl) ?_
  refine va_get (D := (dC, dI)) (ci := 3) (v := .ref a_t_numbers) (C := RX3) (T := TX3) (N := 2) hx hb hts in_X3 hown hK hP 0 rfl rfl 0 (by decide) f_9 (fun _ h9 => h9) rfl dX3_takeDesk_15 ?_
  refine lv_iconst (v := (2 : Int32)) hx hb dX3_takeDesk_18 (by decide) ?_
  obtain ⟨v532, hv532, h⟩ := ob h
  refine k_ld hx hb hK hP 1 0 rfl rfl hv532 dX3_takeDesk_19 ?_
  refine lv_istore (lv' := [(4, .int v532), (3, .int v531), (2, .int v530), (0, .ref a_t), (1, .ref a_h)]) hx hb dX3_takeDesk_20 hl (by decide) rfl (fun ls hl => ?_)
  refine lv_aload_n hx hb dX3_takeDesk_22 rfl (lv_at hl 3 rfl) ?_
  refine va_get (D := (dC, dI)) (ci := 3) (v := .ref a_t_numbers) (C := RX3) (T := TX3) (N := 2) hx hb hts in_X3 hown hK hP 0 rfl rfl 0 (by decide) f_9 (fun _ h9 => h9) rfl dX3_takeDesk_23 ?_
  refine lv_iconst (v := (3 : Int32)) hx hb dX3_takeDesk_26 (by decide) ?_
  obtain ⟨v533, hv533, h⟩ := ob h
  refine k_ld hx hb hK hP 1 0 rfl rfl hv533 dX3_takeDesk_27 ?_
  refine lv_istore (lv' := [(5, .int v533), (4, .int v532), (3, .int v531), (2, .int v530), (0, .ref a_t), (1, .ref a_h)]) hx hb dX3_takeDesk_28 hl (by decide) rfl (fun ls hl => ?_)
  refine lv_iload_n hx hb dX3_takeDesk_30 rfl (lv_at hl 3 rfl) ?_
  refine lv_iconst (v := (3 : Int32)) hx hb dX3_takeDesk_31 (by decide) ?_
  refine lv_icmp_gt (tgt := 59) hx hb dX3_takeDesk_32 (by decide) (fun c_32 => ?_) (fun c_32 => ?_)
  · have h := (if_pos c_32).symm.trans h
    refine lv_iconst (v := (0 : Int32)) hx hb dX3_takeDesk_59 (by decide) ?_
    obtain rfl := Option.some.inj h
    subst hQe
    exact W.zret (v := (0 : Int32)) (ty := .boolean) hx hb hr rfl (fun t ht hW => ⟨⟨(0 : Int32), (), rfl, rfl, ⟨by rw [ht]; exact hP, hD⟩⟩, hS.F ht⟩) hS.2.2 dX3_takeDesk_60
  · have h := (if_neg c_32).symm.trans h
    refine lv_iload_n hx hb dX3_takeDesk_35 rfl (lv_at hl 2 rfl) ?_
    refine lv_bipush (v := (6 : Int32)) hx hb dX3_takeDesk_36 (by decide) ?_
    refine lv_icmp_gt (tgt := 59) hx hb dX3_takeDesk_38 (by decide) (fun c_38 => ?_) (fun c_38 => ?_)
    · have h := (if_pos c_38).symm.trans h
      refine lv_iconst (v := (0 : Int32)) hx hb dX3_takeDesk_59 (by decide) ?_
      obtain rfl := Option.some.inj h
      subst hQe
      exact W.zret (v := (0 : Int32)) (ty := .boolean) hx hb hr rfl (fun t ht hW => ⟨⟨(0 : Int32), (), rfl, rfl, ⟨by rw [ht]; exact hP, hD⟩⟩, hS.F ht⟩) hS.2.2 dX3_takeDesk_60
    · have h := (if_neg c_38).symm.trans h
      refine lv_iload hx hb dX3_takeDesk_41 (lv_at hl 1 rfl) ?_
      refine lv_iconst (v := (1 : Int32)) hx hb dX3_takeDesk_43 (by decide) ?_
      refine lv_bipush (v := (60 : Int32)) hx hb dX3_takeDesk_44 (by decide) ?_
      obtain ⟨r534, hr534, h⟩ := ob h
      refine k_Ni (As := [.int v532, .int (1 : Int32), .int (60 : Int32)]) (rest := []) (c_X5_isFrom l dC dI cI cS n _ v532 (1 : Int32) (60 : Int32) r534 hr534) (fun _ _ q => q) ⟨hx, hb, hml, hown, hts⟩ (va_cnB 3 hts gX3_takeDesk_X5_isFrom_n50 rfl rfl rfl (hN.1 _ (List.mem_of_getElem? (i := 6) rfl)) k_iniX5 (by decide +kernel) ⟨(Nat.le_of_ble_eq_true rfl), (Nat.le_of_ble_eq_true rfl)⟩) m_st_X5_isFrom hN hK hP hD hS hA rfl hl.1 rfl (Nat.le_of_ble_eq_true rfl) dX3_takeDesk_46 ⟨(Nat.le_of_ble_eq_true rfl), (Nat.le_of_ble_eq_true rfl)⟩ (fun H locs hP hD hS => ?_)
      refine lv_if_eq (tgt := 59) hx hb dX3_takeDesk_49 (by decide) (fun c_49 => ?_) (fun c_49 => ?_)
      · have h := (if_pos c_49).symm.trans h
        refine lv_iconst (v := (0 : Int32)) hx hb dX3_takeDesk_59 (by decide) ?_
        obtain rfl := Option.some.inj h
        subst hQe
        exact W.zret (v := (0 : Int32)) (ty := .boolean) hx hb hr rfl (fun t ht hW => ⟨⟨(0 : Int32), (), rfl, rfl, ⟨by rw [ht]; exact hP, hD⟩⟩, hS.F ht⟩) hS.2.2 dX3_takeDesk_60
      · have h := (if_neg c_49).symm.trans h
        refine lv_iload hx hb dX3_takeDesk_52 (lv_at hl 0 rfl) ?_
        refine lv_bipush (v := (9 : Int32)) hx hb dX3_takeDesk_54 (by decide) ?_
        refine lv_icmp_le (tgt := 61) hx hb dX3_takeDesk_56 (by decide) (fun c_56 => ?_) (fun c_56 => ?_)
        · have h := (if_pos c_56).symm.trans h
          refine lv_aload_n hx hb dX3_takeDesk_61 rfl (lv_at hl 5 rfl) ?_
          refine lv_iload_n hx hb dX3_takeDesk_62 rfl (lv_at hl 3 rfl) ?_
          refine lv_iload_n hx hb dX3_takeDesk_63 rfl (lv_at hl 2 rfl) ?_
          refine lv_iload hx hb dX3_takeDesk_64 (lv_at hl 1 rfl) ?_
          refine lv_iload hx hb dX3_takeDesk_66 (lv_at hl 0 rfl) ?_
          obtain ⟨r536, hr536, h⟩ := ob h
          refine k_Vi (As := [.int v530, .int v531, .int v532, .int v533]) (rest := []) (wr := [(a_t, .inr (3, [.ref a_t_numbers, .int t_place])), (a_t_numbers, .inl (cI, 4, .inl t_numbers))]) (c_X0_addDesk l dC dI cI cS n _ a_h a_h_kind a_h_leanTold a_h_needs a_h_firstHears a_h_group a_h_firstPitch h_desks h_kind h_leanTold h_needs h_firstHears h_group h_firstPitch h_oboe h_slip h_warmth h_unheard v530 v531 v532 v533 r536 hr536) (fun _ _ q => q) ⟨hx, hb, hml, hown, hts⟩ (cwV 4 hts gX3_takeDesk_X0_addDesk rfl rfl rfl (by decide +kernel) ⟨(Nat.le_of_ble_eq_true rfl), (Nat.le_of_ble_eq_true rfl)⟩) hN hK hP hD hS hA [2, 3, 4, 5, 6, 7, 8] [0, 1] rfl rfl (by decide) (by decide) (by decide) rfl rfl rfl hl.1 rfl (Nat.le_of_ble_eq_true rfl) dX3_takeDesk_68 ⟨(Nat.le_of_ble_eq_true rfl), (Nat.le_of_ble_eq_true rfl)⟩ (fun u537 H locs _ hP hD hS => ?_)
          have hP : va_P (dC, dI) vwCl [(a_t, .inr (3, [.ref a_t_numbers, .int t_place])), (a_t_numbers, .inl (cI, 4, .inl t_numbers)), (a_h, .inr (0, [.int r536.2.1, .ref a_h_kind, .ref a_h_leanTold, .ref a_h_needs, .ref a_h_firstHears, .ref a_h_group, .ref a_h_firstPitch, .int h_oboe, .int h_slip, .int h_warmth, .int h_unheard])), (a_h_kind, .inl (cI, 8, .inl r536.2.2.1)), (a_h_leanTold, .inl (cI, 8, .inl r536.2.2.2.1)), (a_h_needs, .inl (cI, 8, .inl r536.2.2.2.2.1)), (a_h_firstHears, .inl (cI, 8, .inl r536.2.2.2.2.2.1)), (a_h_group, .inl (cI, 8, .inl r536.2.2.2.2.2.2.1)), (a_h_firstPitch, .inl (cI, 8, .inl r536.2.2.2.2.2.2.2))] H := hP
          have hD : va_D A [(a_t, .inr (3, [.ref a_t_numbers, .int t_place])), (a_t_numbers, .inl (cI, 4, .inl t_numbers)), (a_h, .inr (0, [.int r536.2.1, .ref a_h_kind, .ref a_h_leanTold, .ref a_h_needs, .ref a_h_firstHears, .ref a_h_group, .ref a_h_firstPitch, .int h_oboe, .int h_slip, .int h_warmth, .int h_unheard])), (a_h_kind, .inl (cI, 8, .inl r536.2.2.1)), (a_h_leanTold, .inl (cI, 8, .inl r536.2.2.2.1)), (a_h_needs, .inl (cI, 8, .inl r536.2.2.2.2.1)), (a_h_firstHears, .inl (cI, 8, .inl r536.2.2.2.2.2.1)), (a_h_group, .inl (cI, 8, .inl r536.2.2.2.2.2.2.1)), (a_h_firstPitch, .inl (cI, 8, .inl r536.2.2.2.2.2.2.2))] := hD
          obtain ⟨u538, hu538, h⟩ := ob h
          obtain rfl := Option.some.inj h
          subst hQe
          exact W.zret (v := r536.1) (ty := .boolean) hx hb hr (zb_some hu538) (fun t ht hW => ⟨⟨r536.1, (), rfl, rfl, ⟨by rw [ht]; exact hP, hD⟩⟩, hS.F ht⟩) hS.2.2 dX3_takeDesk_71
        · have h := (if_neg c_56).symm.trans h
          refine lv_iconst (v := (0 : Int32)) hx hb dX3_takeDesk_59 (by decide) ?_
          obtain rfl := Option.some.inj h
          subst hQe
          exact W.zret (v := (0 : Int32)) (ty := .boolean) hx hb hr rfl (fun t ht hW => ⟨⟨(0 : Int32), (), rfl, rfl, ⟨by rw [ht]; exact hP, hD⟩⟩, hS.F ht⟩) hS.2.2 dX3_takeDesk_60
def rm_X3_takeItem : Room := { frames := 2, cells := 0, slots := 0, locals := 49 }
set_option maxRecDepth 100000 in
set_option maxHeartbeats 8000000 in
theorem c_X3_takeItem (l : Launch) (dC : Nat → ClassId) (dI : Nat → Nat → Nat) (cI cS : ClassId) (n sz : Nat) (a_t : Nat) (a_t_numbers : Nat) (a_h : Nat) (a_h_kind : Nat) (a_h_leanTold : Nat) (a_h_needs : Nat) (a_h_firstHears : Nat) (a_h_group : Nat) (a_h_firstPitch : Nat) (t_numbers : Nat → Int32) (t_place : Int32) (h_desks : Int32) (h_kind : Nat → Int32) (h_leanTold : Nat → Int32) (h_needs : Nat → Int32) (h_firstHears : Nat → Int32) (h_group : Nat → Int32) (h_firstPitch : Nat → Int32) (h_oboe : Int32) (h_slip : Int32) (h_warmth : Int32) (h_unheard : Int32) (x2 : Int32) (res : Int32 × Int32 × Int32 × Int32 × Int32 × Int32 × (Nat → Int32) × (Nat → Int32) × (Nat → Int32) × (Nat → Int32) × (Nat → Int32) × (Nat → Int32))  (h : F_X3_takeItem n t_numbers h_desks h_kind h_leanTold h_needs h_firstHears h_group h_firstPitch h_oboe h_slip h_warmth h_unheard x2 = some res) : Met l yX3_takeItem wsX3_takeItem rm_X3_takeItem (va_Pc [.ref a_t, .ref a_h, .int x2] (PRE (dC, dI) vwCl [(cI, .int), (cS, .object "RoundOfTheA$State")] sz [(a_t, .inr (3, [.ref a_t_numbers, .int t_place])), (a_t_numbers, .inl (cI, 4, .inl t_numbers)), (a_h, .inr (0, [.int h_desks, .ref a_h_kind, .ref a_h_leanTold, .ref a_h_needs, .ref a_h_firstHears, .ref a_h_group, .ref a_h_firstPitch, .int h_oboe, .int h_slip, .int h_warmth, .int h_unheard])), (a_h_kind, .inl (cI, 8, .inl h_kind)), (a_h_leanTold, .inl (cI, 8, .inl h_leanTold)), (a_h_needs, .inl (cI, 8, .inl h_needs)), (a_h_firstHears, .inl (cI, 8, .inl h_firstHears)), (a_h_group, .inl (cI, 8, .inl h_group)), (a_h_firstPitch, .inl (cI, 8, .inl h_firstPitch))])) (va_Qi (fun (r : Int32) (_ : Unit) => r = res.1) (fun u t => POST (dC, dI) vwCl [(a_t, .inr (3, [.ref a_t_numbers, .int t_place])), (a_t_numbers, .inl (cI, 4, .inl t_numbers)), (a_h, .inr (0, [.int res.2.1, .ref a_h_kind, .ref a_h_leanTold, .ref a_h_needs, .ref a_h_firstHears, .ref a_h_group, .ref a_h_firstPitch, .int res.2.2.1, .int res.2.2.2.1, .int res.2.2.2.2.1, .int res.2.2.2.2.2.1])), (a_h_kind, .inl (cI, 8, .inl res.2.2.2.2.2.2.1)), (a_h_leanTold, .inl (cI, 8, .inl res.2.2.2.2.2.2.2.1)), (a_h_needs, .inl (cI, 8, .inl res.2.2.2.2.2.2.2.2.1)), (a_h_firstHears, .inl (cI, 8, .inl res.2.2.2.2.2.2.2.2.2.1)), (a_h_group, .inl (cI, 8, .inl res.2.2.2.2.2.2.2.2.2.2.1)), (a_h_firstPitch, .inl (cI, 8, .inl res.2.2.2.2.2.2.2.2.2.2.2))] (va_A [(a_t, .inr (3, [.ref a_t_numbers, .int t_place])), (a_t_numbers, .inl (cI, 4, .inl t_numbers)), (a_h, .inr (0, [.int h_desks, .ref a_h_kind, .ref a_h_leanTold, .ref a_h_needs, .ref a_h_firstHears, .ref a_h_group, .ref a_h_firstPitch, .int h_oboe, .int h_slip, .int h_warmth, .int h_unheard])), (a_h_kind, .inl (cI, 8, .inl h_kind)), (a_h_leanTold, .inl (cI, 8, .inl h_leanTold)), (a_h_needs, .inl (cI, 8, .inl h_needs)), (a_h_firstHears, .inl (cI, 8, .inl h_firstHears)), (a_h_group, .inl (cI, 8, .inl h_group)), (a_h_firstPitch, .inl (cI, 8, .inl h_firstPitch))] sz) t) (va_A [(a_t, .inr (3, [.ref a_t_numbers, .int t_place])), (a_t_numbers, .inl (cI, 4, .inl t_numbers)), (a_h, .inr (0, [.int h_desks, .ref a_h_kind, .ref a_h_leanTold, .ref a_h_needs, .ref a_h_firstHears, .ref a_h_group, .ref a_h_firstPitch, .int h_oboe, .int h_slip, .int h_warmth, .int h_unheard])), (a_h_kind, .inl (cI, 8, .inl h_kind)), (a_h_leanTold, .inl (cI, 8, .inl h_leanTold)), (a_h_needs, .inl (cI, 8, .inl h_needs)), (a_h_firstHears, .inl (cI, 8, .inl h_firstHears)), (a_h_group, .inl (cI, 8, .inl h_group)), (a_h_firstPitch, .inl (cI, 8, .inl h_firstPitch))] sz)) 0 0 (va_A [(a_t, .inr (3, [.ref a_t_numbers, .int t_place])), (a_t_numbers, .inl (cI, 4, .inl t_numbers)), (a_h, .inr (0, [.int h_desks, .ref a_h_kind, .ref a_h_leanTold, .ref a_h_needs, .ref a_h_firstHears, .ref a_h_group, .ref a_h_firstPitch, .int h_oboe, .int h_slip, .int h_warmth, .int h_unheard])), (a_h_kind, .inl (cI, 8, .inl h_kind)), (a_h_leanTold, .inl (cI, 8, .inl h_leanTold)), (a_h_needs, .inl (cI, 8, .inl h_needs)), (a_h_firstHears, .inl (cI, 8, .inl h_firstHears)), (a_h_group, .inl (cI, 8, .inl h_group)), (a_h_firstPitch, .inl (cI, 8, .inl h_firstPitch))] sz) := by
  refine Met.ofW (cc := cX3_takeItem) (maxL := 5) (ret := (some .boolean)) (by decide) rfl ?_
  intro p e s m args below meth c s₁ B hml hv
  obtain ⟨rfl, hsz, hN, hP, hK, hD0⟩ := hv
  have hx := B.exec
  have hb := B.bytes
  have hr := B.returns
  have hts := atoms_spec (ws := wsX3_takeItem) B.pre
  have hown : s.vm.findClass RX3 = some m.cls := findClass_of_methodNamed B.named
  have hlocks := B.notSynchronized
  subst hsz
  have hD := hD0.self (sz := s.heap.size)
  generalize hAe : va_A [(a_t, .inr (3, [.ref a_t_numbers, .int t_place])), (a_t_numbers, .inl (cI, 4, .inl t_numbers)), (a_h, .inr (0, [.int h_desks, .ref a_h_kind, .ref a_h_leanTold, .ref a_h_needs, .ref a_h_firstHears, .ref a_h_group, .ref a_h_firstPitch, .int h_oboe, .int h_slip, .int h_warmth, .int h_unheard])), (a_h_kind, .inl (cI, 8, .inl h_kind)), (a_h_leanTold, .inl (cI, 8, .inl h_leanTold)), (a_h_needs, .inl (cI, 8, .inl h_needs)), (a_h_firstHears, .inl (cI, 8, .inl h_firstHears)), (a_h_group, .inl (cI, 8, .inl h_group)), (a_h_firstPitch, .inl (cI, 8, .inl h_firstPitch))] s.heap.size = A at hD ⊢
  have hA : ∀ q : Nat, s.heap.size ≤ q → A q := fun q h => by rw [← hAe]; exact Or.inr h
  have hS : va_S A s.heap s.heap [] := va_S.rf
  generalize hQe : MQ below _ _ s _ _ A = QQ
  have hl := lv_entry ([.ref a_t, .ref a_h, .int x2]) (n := 5) (Nat.le_of_ble_eq_true rfl)
  rw [lg_entry_eq]
  generalize (lg_sl ([.ref a_t, .ref a_h, .int x2]) ++ List.replicate (5 - (lg_sl ([.ref a_t, .ref a_h, .int x2])).length) Slot.unset).toArray = ls at hl ⊢
  have hl : lv_has ls 5 [(0, .ref a_t), (1, .ref a_h), (2, .int x2)] := hl
  have f_9 := hts (.fieldLink RX3 9 "RoundOfTheA$TextReader" "numbers" "[I") (by decide +kernel)
  have in_X3 := (by decide +kernel : ∀ w ∈ wsX30, w ∈ wsX3_takeItem)
  have f_62 := hts (.fieldLink RX3 62 "RoundOfTheA$Hall" "group" "[I") (by decide +kernel)
  have in_X0 := (by decide +kernel : ∀ w ∈ wsX00, w ∈ wsX3_takeItem)
  have k_iniX5 := hts (.initialized RX5) (by decide +kernel)
  have m_st_X5_isFrom := hts (.static yX5_isFrom) (by decide +kernel)
  have f_77 := hts (.fieldLink RX3 77 "RoundOfTheA$Hall" "unheard" "I") (by decide +kernel)
  have f_68 := hts (.fieldLink RX3 68 "RoundOfTheA$Hall" "oboe" "I") (by decide +kernel)
  have f_71 := hts (.fieldLink RX3 71 "RoundOfTheA$Hall" "slip" "I") (by decide +kernel)
  have f_65 := hts (.fieldLink RX3 65 "RoundOfTheA$Hall" "firstPitch" "[I") (by decide +kernel)
  have f_74 := hts (.fieldLink RX3 74 "RoundOfTheA$Hall" "warmth" "I") (by decide +kernel)
  rw [F_X3_takeItem] at h
  refine lv_aload_n hx hb dX3_takeItem_0 rfl (lv_at hl 0 rfl) ?_
  refine va_get (D := (dC, dI)) (ci := 3) (v := .ref a_t_numbers) (C := RX3) (T := TX3) (N := 2) hx hb hts in_X3 hown hK hP 0 rfl rfl 0 (by decide) f_9 (fun _ h9 => h9) rfl dX3_takeItem_1 ?_
  refine lv_iconst (v := (0 : Int32)) hx hb dX3_takeItem_4 (by decide) ?_
  obtain ⟨v549, hv549, h⟩ := ob h
  refine k_ld hx hb hK hP 1 0 rfl rfl hv549 dX3_takeItem_5 ?_
  refine lv_istore_n (lv' := [(3, .int v549), (0, .ref a_t), (1, .ref a_h), (2, .int x2)]) hx hb dX3_takeItem_6 rfl hl (by decide) rfl (fun ls hl => ?_)
  refine lv_aload_n hx hb dX3_takeItem_7 rfl (lv_at hl 1 rfl) ?_
  refine va_get (D := (dC, dI)) (ci := 3) (v := .ref a_t_numbers) (C := RX3) (T := TX3) (N := 2) hx hb hts in_X3 hown hK hP 0 rfl rfl 0 (by decide) f_9 (fun _ h9 => h9) rfl dX3_takeItem_8 ?_
  refine lv_iconst (v := (1 : Int32)) hx hb dX3_takeItem_11 (by decide) ?_
  obtain ⟨v550, hv550, h⟩ := ob h
  refine k_ld hx hb hK hP 1 0 rfl rfl hv550 dX3_takeItem_12 ?_
  refine lv_istore (lv' := [(4, .int v550), (3, .int v549), (0, .ref a_t), (1, .ref a_h), (2, .int x2)]) hx hb dX3_takeItem_13 hl (by decide) rfl (fun ls hl => ?_)
  refine lv_iload_n hx hb dX3_takeItem_15 rfl (lv_at hl 4 rfl) ?_
  by_cases e_16_100 : x2 = (100 : Int32)
  · have h := (if_pos e_16_100).symm.trans h
    refine lv_tableIn (off := 96) (tgt := 112) hx hb dX3_takeItem_16 (by rw [e_16_100]; decide) (by rw [e_16_100]; decide) (by rw [e_16_100]; rfl) (by decide) ?_
    refine lv_aload_n hx hb dX3_takeItem_112 rfl (lv_at hl 2 rfl) ?_
    refine lv_aload_n hx hb dX3_takeItem_113 rfl (lv_at hl 3 rfl) ?_
    obtain ⟨r551, hr551, h⟩ := ob h
    refine k_Vi (As := [.ref a_h]) (rest := []) (wr := []) (c_X3_takeDesk l dC dI cI cS n _ a_t a_t_numbers a_h a_h_kind a_h_leanTold a_h_needs a_h_firstHears a_h_group a_h_firstPitch t_numbers t_place h_desks h_kind h_leanTold h_needs h_firstHears h_group h_firstPitch h_oboe h_slip h_warmth h_unheard r551 hr551) (fun _ _ q => q) ⟨hx, hb, hml, hown, hts⟩ (cwV 1 hts gX3_takeItem_X3_takeDesk rfl rfl rfl (by decide +kernel) ⟨(Nat.le_of_ble_eq_true rfl), (Nat.le_of_ble_eq_true rfl)⟩) hN hK hP hD hS hA [0, 1, 2, 3, 4, 5, 6, 7, 8] [] rfl rfl (by decide) (by decide) (by decide) rfl rfl rfl hl.1 rfl (Nat.le_of_ble_eq_true rfl) dX3_takeItem_114 ⟨(Nat.le_of_ble_eq_true rfl), (Nat.le_of_ble_eq_true rfl)⟩ (fun u552 H locs _ hP hD hS => ?_)
    have hP : va_P (dC, dI) vwCl [(a_t, .inr (3, [.ref a_t_numbers, .int t_place])), (a_t_numbers, .inl (cI, 4, .inl t_numbers)), (a_h, .inr (0, [.int r551.2.1, .ref a_h_kind, .ref a_h_leanTold, .ref a_h_needs, .ref a_h_firstHears, .ref a_h_group, .ref a_h_firstPitch, .int h_oboe, .int h_slip, .int h_warmth, .int h_unheard])), (a_h_kind, .inl (cI, 8, .inl r551.2.2.1)), (a_h_leanTold, .inl (cI, 8, .inl r551.2.2.2.1)), (a_h_needs, .inl (cI, 8, .inl r551.2.2.2.2.1)), (a_h_firstHears, .inl (cI, 8, .inl r551.2.2.2.2.2.1)), (a_h_group, .inl (cI, 8, .inl r551.2.2.2.2.2.2.1)), (a_h_firstPitch, .inl (cI, 8, .inl r551.2.2.2.2.2.2.2))] H := hP
    have hD : va_D A [(a_t, .inr (3, [.ref a_t_numbers, .int t_place])), (a_t_numbers, .inl (cI, 4, .inl t_numbers)), (a_h, .inr (0, [.int r551.2.1, .ref a_h_kind, .ref a_h_leanTold, .ref a_h_needs, .ref a_h_firstHears, .ref a_h_group, .ref a_h_firstPitch, .int h_oboe, .int h_slip, .int h_warmth, .int h_unheard])), (a_h_kind, .inl (cI, 8, .inl r551.2.2.1)), (a_h_leanTold, .inl (cI, 8, .inl r551.2.2.2.1)), (a_h_needs, .inl (cI, 8, .inl r551.2.2.2.2.1)), (a_h_firstHears, .inl (cI, 8, .inl r551.2.2.2.2.2.1)), (a_h_group, .inl (cI, 8, .inl r551.2.2.2.2.2.2.1)), (a_h_firstPitch, .inl (cI, 8, .inl r551.2.2.2.2.2.2.2))] := hD
    obtain ⟨u553, hu553, h⟩ := ob h
    obtain rfl := Option.some.inj h
    subst hQe
    exact W.zret (v := r551.1) (ty := .boolean) hx hb hr (zb_some hu553) (fun t ht hW => ⟨⟨r551.1, (), rfl, rfl, ⟨by rw [ht]; exact hP, hD⟩⟩, hS.F ht⟩) hS.2.2 dX3_takeItem_117
  have h := (if_neg e_16_100).symm.trans h
  by_cases e_16_103 : x2 = (103 : Int32)
  · have h := (if_pos e_16_103).symm.trans h
    refine lv_tableIn (off := 102) (tgt := 118) hx hb dX3_takeItem_16 (by rw [e_16_103]; decide) (by rw [e_16_103]; decide) (by rw [e_16_103]; rfl) (by decide) ?_
    refine lv_aload_n hx hb dX3_takeItem_118 rfl (lv_at hl 3 rfl) ?_
    refine lv_iload_n hx hb dX3_takeItem_119 rfl (lv_at hl 1 rfl) ?_
    obtain ⟨r554, hr554, h⟩ := ob h
    refine k_Vi (As := [.int v549]) (rest := []) (wr := [(a_t, .inr (3, [.ref a_t_numbers, .int t_place])), (a_t_numbers, .inl (cI, 4, .inl t_numbers)), (a_h_kind, .inl (cI, 8, .inl h_kind)), (a_h_leanTold, .inl (cI, 8, .inl h_leanTold)), (a_h_needs, .inl (cI, 8, .inl h_needs)), (a_h_firstHears, .inl (cI, 8, .inl h_firstHears)), (a_h_group, .inl (cI, 8, .inl h_group)), (a_h_firstPitch, .inl (cI, 8, .inl h_firstPitch))]) (c_X0_hasDesk l dC dI cI cS n _ a_h a_h_kind a_h_leanTold a_h_needs a_h_firstHears a_h_group a_h_firstPitch h_desks h_oboe h_slip h_warmth h_unheard v549 r554 hr554) (fun _ _ q => q) ⟨hx, hb, hml, hown, hts⟩ (cwV 1 hts gX3_takeItem_X0_hasDesk rfl rfl rfl (by decide +kernel) ⟨(Nat.le_of_ble_eq_true rfl), (Nat.le_of_ble_eq_true rfl)⟩) hN hK hP hD hS hA [2] [0, 1, 3, 4, 5, 6, 7, 8] rfl rfl (by decide) (by decide) (by decide) rfl rfl rfl hl.1 rfl (Nat.le_of_ble_eq_true rfl) dX3_takeItem_120 ⟨(Nat.le_of_ble_eq_true rfl), (Nat.le_of_ble_eq_true rfl)⟩ (fun u555 H locs _ hP hD hS => ?_)
    have hP : va_P (dC, dI) vwCl [(a_t, .inr (3, [.ref a_t_numbers, .int t_place])), (a_t_numbers, .inl (cI, 4, .inl t_numbers)), (a_h_kind, .inl (cI, 8, .inl h_kind)), (a_h_leanTold, .inl (cI, 8, .inl h_leanTold)), (a_h_needs, .inl (cI, 8, .inl h_needs)), (a_h_firstHears, .inl (cI, 8, .inl h_firstHears)), (a_h_group, .inl (cI, 8, .inl h_group)), (a_h_firstPitch, .inl (cI, 8, .inl h_firstPitch)), (a_h, .inr (0, [.int h_desks, .ref a_h_kind, .ref a_h_leanTold, .ref a_h_needs, .ref a_h_firstHears, .ref a_h_group, .ref a_h_firstPitch, .int h_oboe, .int h_slip, .int h_warmth, .int h_unheard]))] H := hP
    have hD : va_D A [(a_t, .inr (3, [.ref a_t_numbers, .int t_place])), (a_t_numbers, .inl (cI, 4, .inl t_numbers)), (a_h_kind, .inl (cI, 8, .inl h_kind)), (a_h_leanTold, .inl (cI, 8, .inl h_leanTold)), (a_h_needs, .inl (cI, 8, .inl h_needs)), (a_h_firstHears, .inl (cI, 8, .inl h_firstHears)), (a_h_group, .inl (cI, 8, .inl h_group)), (a_h_firstPitch, .inl (cI, 8, .inl h_firstPitch)), (a_h, .inr (0, [.int h_desks, .ref a_h_kind, .ref a_h_leanTold, .ref a_h_needs, .ref a_h_firstHears, .ref a_h_group, .ref a_h_firstPitch, .int h_oboe, .int h_slip, .int h_warmth, .int h_unheard]))] := hD
    refine lv_if_eq (tgt := 132) hx hb dX3_takeItem_123 (by decide) (fun c_123 => ?_) (fun c_123 => ?_)
    · have h := (if_pos c_123).symm.trans h
      refine lv_iconst (v := (0 : Int32)) hx hb dX3_takeItem_132 (by decide) ?_
      obtain rfl := Option.some.inj h
      subst hQe
      exact W.zret (v := (0 : Int32)) (ty := .boolean) hx hb hr rfl (fun t ht hW => ⟨⟨(0 : Int32), (), rfl, rfl, ⟨by rw [ht]; exact hP.sub [0, 1, 8, 2, 3, 4, 5, 6, 7] rfl, hD.sub [0, 1, 8, 2, 3, 4, 5, 6, 7] (by decide +kernel) rfl⟩⟩, hS.F ht⟩) hS.2.2 dX3_takeItem_133
    · have h := (if_neg c_123).symm.trans h
      refine lv_iload hx hb dX3_takeItem_126 (lv_at hl 0 rfl) ?_
      refine lv_iconst (v := (5 : Int32)) hx hb dX3_takeItem_128 (by decide) ?_
      refine lv_icmp_lt (tgt := 134) hx hb dX3_takeItem_129 (by decide) (fun c_129 => ?_) (fun c_129 => ?_)
      · have h := (if_pos c_129).symm.trans h
        refine lv_aload_n hx hb dX3_takeItem_134 rfl (lv_at hl 3 rfl) ?_
        refine va_get (D := (dC, dI)) (ci := 0) (v := .ref a_h_group) (C := RX0) (T := TX0) (N := 11) hx hb hts in_X0 hown hK hP 8 rfl rfl 5 (by decide) f_62 (fun _ h9 => h9) rfl dX3_takeItem_135 ?_
        refine lv_iload_n hx hb dX3_takeItem_138 rfl (lv_at hl 1 rfl) ?_
        refine lv_iload hx hb dX3_takeItem_139 (lv_at hl 0 rfl) ?_
        obtain ⟨g556, hg556, h⟩ := ob h
        refine k_st hx hb hK hP hD hS 6 0 rfl rfl hg556 dX3_takeItem_141 (ws' := [(a_t, .inr (3, [.ref a_t_numbers, .int t_place])), (a_t_numbers, .inl (cI, 4, .inl t_numbers)), (a_h_kind, .inl (cI, 8, .inl h_kind)), (a_h_leanTold, .inl (cI, 8, .inl h_leanTold)), (a_h_needs, .inl (cI, 8, .inl h_needs)), (a_h_firstHears, .inl (cI, 8, .inl h_firstHears)), (a_h_group, .inl (cI, 8, .inl g556)), (a_h_firstPitch, .inl (cI, 8, .inl h_firstPitch)), (a_h, .inr (0, [.int h_desks, .ref a_h_kind, .ref a_h_leanTold, .ref a_h_needs, .ref a_h_firstHears, .ref a_h_group, .ref a_h_firstPitch, .int h_oboe, .int h_slip, .int h_warmth, .int h_unheard]))]) rfl (fun H locs hP hD hS => ?_)
        refine lv_iconst (v := (1 : Int32)) hx hb dX3_takeItem_142 (by decide) ?_
        obtain rfl := Option.some.inj h
        subst hQe
        exact W.zret (v := (1 : Int32)) (ty := .boolean) hx hb hr rfl (fun t ht hW => ⟨⟨(1 : Int32), (), rfl, rfl, ⟨by rw [ht]; exact hP.sub [0, 1, 8, 2, 3, 4, 5, 6, 7] rfl, hD.sub [0, 1, 8, 2, 3, 4, 5, 6, 7] (by decide +kernel) rfl⟩⟩, hS.F ht⟩) hS.2.2 dX3_takeItem_143
      · have h := (if_neg c_129).symm.trans h
        refine lv_iconst (v := (0 : Int32)) hx hb dX3_takeItem_132 (by decide) ?_
        obtain rfl := Option.some.inj h
        subst hQe
        exact W.zret (v := (0 : Int32)) (ty := .boolean) hx hb hr rfl (fun t ht hW => ⟨⟨(0 : Int32), (), rfl, rfl, ⟨by rw [ht]; exact hP.sub [0, 1, 8, 2, 3, 4, 5, 6, 7] rfl, hD.sub [0, 1, 8, 2, 3, 4, 5, 6, 7] (by decide +kernel) rfl⟩⟩, hS.F ht⟩) hS.2.2 dX3_takeItem_133
  have h := (if_neg e_16_103).symm.trans h
  by_cases e_16_104 : x2 = (104 : Int32)
  · have h := (if_pos e_16_104).symm.trans h
    refine lv_tableIn (off := 202) (tgt := 218) hx hb dX3_takeItem_16 (by rw [e_16_104]; decide) (by rw [e_16_104]; decide) (by rw [e_16_104]; rfl) (by decide) ?_
    refine lv_iload_n hx hb dX3_takeItem_218 rfl (lv_at hl 1 rfl) ?_
    refine lv_iconst (v := (1 : Int32)) hx hb dX3_takeItem_219 (by decide) ?_
    refine lv_bipush (v := (20 : Int32)) hx hb dX3_takeItem_220 (by decide) ?_
    obtain ⟨r557, hr557, h⟩ := ob h
    refine k_Ni (As := [.int v549, .int (1 : Int32), .int (20 : Int32)]) (rest := []) (c_X5_isFrom l dC dI cI cS n _ v549 (1 : Int32) (20 : Int32) r557 hr557) (fun _ _ q => q) ⟨hx, hb, hml, hown, hts⟩ (va_cnB 3 hts gX3_takeItem_X5_isFrom_n50 rfl rfl rfl (hN.1 _ (List.mem_of_getElem? (i := 6) rfl)) k_iniX5 (by decide +kernel) ⟨(Nat.le_of_ble_eq_true rfl), (Nat.le_of_ble_eq_true rfl)⟩) m_st_X5_isFrom hN hK hP hD hS hA rfl hl.1 rfl (Nat.le_of_ble_eq_true rfl) dX3_takeItem_222 ⟨(Nat.le_of_ble_eq_true rfl), (Nat.le_of_ble_eq_true rfl)⟩ (fun H locs hP hD hS => ?_)
    refine lv_if_ne (tgt := 230) hx hb dX3_takeItem_225 (by decide) (fun c_225 => ?_) (fun c_225 => ?_)
    · have h := (if_neg c_225).symm.trans h
      refine lv_aload_n hx hb dX3_takeItem_230 rfl (lv_at hl 3 rfl) ?_
      refine lv_iload_n hx hb dX3_takeItem_231 rfl (lv_at hl 1 rfl) ?_
      refine va_put (D := (dC, dI)) (ci := 0) (v := .int v549) (ty := .int) (C := RX0) (T := TX0) (N := 11) hx hb hts in_X0 tyX0 tyX0_ok nmX0 hown hK hP hD hS 2 rfl rfl 10 (by decide) f_77 (fun _ h9 => h9) rfl (by decide +kernel) rfl rfl (Nat.le_of_ble_eq_true rfl) dX3_takeItem_232 (fun H locs hP hD hS => ?_)
      have hP : va_P (dC, dI) vwCl [(a_t, .inr (3, [.ref a_t_numbers, .int t_place])), (a_t_numbers, .inl (cI, 4, .inl t_numbers)), (a_h, .inr (0, [.int h_desks, .ref a_h_kind, .ref a_h_leanTold, .ref a_h_needs, .ref a_h_firstHears, .ref a_h_group, .ref a_h_firstPitch, .int h_oboe, .int h_slip, .int h_warmth, .int v549])), (a_h_kind, .inl (cI, 8, .inl h_kind)), (a_h_leanTold, .inl (cI, 8, .inl h_leanTold)), (a_h_needs, .inl (cI, 8, .inl h_needs)), (a_h_firstHears, .inl (cI, 8, .inl h_firstHears)), (a_h_group, .inl (cI, 8, .inl h_group)), (a_h_firstPitch, .inl (cI, 8, .inl h_firstPitch))] H := hP
      have hD : va_D A [(a_t, .inr (3, [.ref a_t_numbers, .int t_place])), (a_t_numbers, .inl (cI, 4, .inl t_numbers)), (a_h, .inr (0, [.int h_desks, .ref a_h_kind, .ref a_h_leanTold, .ref a_h_needs, .ref a_h_firstHears, .ref a_h_group, .ref a_h_firstPitch, .int h_oboe, .int h_slip, .int h_warmth, .int v549])), (a_h_kind, .inl (cI, 8, .inl h_kind)), (a_h_leanTold, .inl (cI, 8, .inl h_leanTold)), (a_h_needs, .inl (cI, 8, .inl h_needs)), (a_h_firstHears, .inl (cI, 8, .inl h_firstHears)), (a_h_group, .inl (cI, 8, .inl h_group)), (a_h_firstPitch, .inl (cI, 8, .inl h_firstPitch))] := hD
      refine lv_iconst (v := (1 : Int32)) hx hb dX3_takeItem_235 (by decide) ?_
      obtain rfl := Option.some.inj h
      subst hQe
      exact W.zret (v := (1 : Int32)) (ty := .boolean) hx hb hr rfl (fun t ht hW => ⟨⟨(1 : Int32), (), rfl, rfl, ⟨by rw [ht]; exact hP, hD⟩⟩, hS.F ht⟩) hS.2.2 dX3_takeItem_236
    · have h := (if_pos c_225).symm.trans h
      refine lv_iconst (v := (0 : Int32)) hx hb dX3_takeItem_228 (by decide) ?_
      obtain rfl := Option.some.inj h
      subst hQe
      exact W.zret (v := (0 : Int32)) (ty := .boolean) hx hb hr rfl (fun t ht hW => ⟨⟨(0 : Int32), (), rfl, rfl, ⟨by rw [ht]; exact hP, hD⟩⟩, hS.F ht⟩) hS.2.2 dX3_takeItem_229
  have h := (if_neg e_16_104).symm.trans h
  by_cases e_16_111 : x2 = (111 : Int32)
  · have h := (if_pos e_16_111).symm.trans h
    refine lv_tableIn (off := 158) (tgt := 174) hx hb dX3_takeItem_16 (by rw [e_16_111]; decide) (by rw [e_16_111]; decide) (by rw [e_16_111]; rfl) (by decide) ?_
    refine lv_iload_n hx hb dX3_takeItem_174 rfl (lv_at hl 1 rfl) ?_
    refine lv_bipush (v := (18 : Int32)) hx hb dX3_takeItem_175 (by decide) ?_
    refine lv_icmp_gt (tgt := 186) hx hb dX3_takeItem_177 (by decide) (fun c_177 => ?_) (fun c_177 => ?_)
    · have h := (if_pos c_177).symm.trans h
      refine lv_iconst (v := (0 : Int32)) hx hb dX3_takeItem_186 (by decide) ?_
      obtain rfl := Option.some.inj h
      subst hQe
      exact W.zret (v := (0 : Int32)) (ty := .boolean) hx hb hr rfl (fun t ht hW => ⟨⟨(0 : Int32), (), rfl, rfl, ⟨by rw [ht]; exact hP, hD⟩⟩, hS.F ht⟩) hS.2.2 dX3_takeItem_187
    · have h := (if_neg c_177).symm.trans h
      refine lv_iload hx hb dX3_takeItem_180 (lv_at hl 0 rfl) ?_
      refine lv_iconst (v := (3 : Int32)) hx hb dX3_takeItem_182 (by decide) ?_
      refine lv_icmp_le (tgt := 188) hx hb dX3_takeItem_183 (by decide) (fun c_183 => ?_) (fun c_183 => ?_)
      · have h := (if_pos c_183).symm.trans h
        refine lv_aload_n hx hb dX3_takeItem_188 rfl (lv_at hl 3 rfl) ?_
        refine lv_iload_n hx hb dX3_takeItem_189 rfl (lv_at hl 1 rfl) ?_
        refine lv_bipush (v := (9 : Int32)) hx hb dX3_takeItem_190 (by decide) ?_
        refine lv_isub hx hb dX3_takeItem_192 ?_
        refine va_put (D := (dC, dI)) (ci := 0) (v := .int (v549 - (9 : Int32))) (ty := .int) (C := RX0) (T := TX0) (N := 11) hx hb hts in_X0 tyX0 tyX0_ok nmX0 hown hK hP hD hS 2 rfl rfl 7 (by decide) f_68 (fun _ h9 => h9) rfl (by decide +kernel) rfl rfl (Nat.le_of_ble_eq_true rfl) dX3_takeItem_193 (fun H locs hP hD hS => ?_)
        have hP : va_P (dC, dI) vwCl [(a_t, .inr (3, [.ref a_t_numbers, .int t_place])), (a_t_numbers, .inl (cI, 4, .inl t_numbers)), (a_h, .inr (0, [.int h_desks, .ref a_h_kind, .ref a_h_leanTold, .ref a_h_needs, .ref a_h_firstHears, .ref a_h_group, .ref a_h_firstPitch, .int (v549 - (9 : Int32)), .int h_slip, .int h_warmth, .int h_unheard])), (a_h_kind, .inl (cI, 8, .inl h_kind)), (a_h_leanTold, .inl (cI, 8, .inl h_leanTold)), (a_h_needs, .inl (cI, 8, .inl h_needs)), (a_h_firstHears, .inl (cI, 8, .inl h_firstHears)), (a_h_group, .inl (cI, 8, .inl h_group)), (a_h_firstPitch, .inl (cI, 8, .inl h_firstPitch))] H := hP
        have hD : va_D A [(a_t, .inr (3, [.ref a_t_numbers, .int t_place])), (a_t_numbers, .inl (cI, 4, .inl t_numbers)), (a_h, .inr (0, [.int h_desks, .ref a_h_kind, .ref a_h_leanTold, .ref a_h_needs, .ref a_h_firstHears, .ref a_h_group, .ref a_h_firstPitch, .int (v549 - (9 : Int32)), .int h_slip, .int h_warmth, .int h_unheard])), (a_h_kind, .inl (cI, 8, .inl h_kind)), (a_h_leanTold, .inl (cI, 8, .inl h_leanTold)), (a_h_needs, .inl (cI, 8, .inl h_needs)), (a_h_firstHears, .inl (cI, 8, .inl h_firstHears)), (a_h_group, .inl (cI, 8, .inl h_group)), (a_h_firstPitch, .inl (cI, 8, .inl h_firstPitch))] := hD
        refine lv_aload_n hx hb dX3_takeItem_196 rfl (lv_at hl 3 rfl) ?_
        refine lv_iload hx hb dX3_takeItem_197 (lv_at hl 0 rfl) ?_
        refine va_put (D := (dC, dI)) (ci := 0) (v := .int v550) (ty := .int) (C := RX0) (T := TX0) (N := 11) hx hb hts in_X0 tyX0 tyX0_ok nmX0 hown hK hP hD hS 2 rfl rfl 8 (by decide) f_71 (fun _ h9 => h9) rfl (by decide +kernel) rfl rfl (Nat.le_of_ble_eq_true rfl) dX3_takeItem_199 (fun H locs hP hD hS => ?_)
        have hP : va_P (dC, dI) vwCl [(a_t, .inr (3, [.ref a_t_numbers, .int t_place])), (a_t_numbers, .inl (cI, 4, .inl t_numbers)), (a_h, .inr (0, [.int h_desks, .ref a_h_kind, .ref a_h_leanTold, .ref a_h_needs, .ref a_h_firstHears, .ref a_h_group, .ref a_h_firstPitch, .int (v549 - (9 : Int32)), .int v550, .int h_warmth, .int h_unheard])), (a_h_kind, .inl (cI, 8, .inl h_kind)), (a_h_leanTold, .inl (cI, 8, .inl h_leanTold)), (a_h_needs, .inl (cI, 8, .inl h_needs)), (a_h_firstHears, .inl (cI, 8, .inl h_firstHears)), (a_h_group, .inl (cI, 8, .inl h_group)), (a_h_firstPitch, .inl (cI, 8, .inl h_firstPitch))] H := hP
        have hD : va_D A [(a_t, .inr (3, [.ref a_t_numbers, .int t_place])), (a_t_numbers, .inl (cI, 4, .inl t_numbers)), (a_h, .inr (0, [.int h_desks, .ref a_h_kind, .ref a_h_leanTold, .ref a_h_needs, .ref a_h_firstHears, .ref a_h_group, .ref a_h_firstPitch, .int (v549 - (9 : Int32)), .int v550, .int h_warmth, .int h_unheard])), (a_h_kind, .inl (cI, 8, .inl h_kind)), (a_h_leanTold, .inl (cI, 8, .inl h_leanTold)), (a_h_needs, .inl (cI, 8, .inl h_needs)), (a_h_firstHears, .inl (cI, 8, .inl h_firstHears)), (a_h_group, .inl (cI, 8, .inl h_group)), (a_h_firstPitch, .inl (cI, 8, .inl h_firstPitch))] := hD
        refine lv_iconst (v := (1 : Int32)) hx hb dX3_takeItem_202 (by decide) ?_
        obtain rfl := Option.some.inj h
        subst hQe
        exact W.zret (v := (1 : Int32)) (ty := .boolean) hx hb hr rfl (fun t ht hW => ⟨⟨(1 : Int32), (), rfl, rfl, ⟨by rw [ht]; exact hP, hD⟩⟩, hS.F ht⟩) hS.2.2 dX3_takeItem_203
      · have h := (if_neg c_183).symm.trans h
        refine lv_iconst (v := (0 : Int32)) hx hb dX3_takeItem_186 (by decide) ?_
        obtain rfl := Option.some.inj h
        subst hQe
        exact W.zret (v := (0 : Int32)) (ty := .boolean) hx hb hr rfl (fun t ht hW => ⟨⟨(0 : Int32), (), rfl, rfl, ⟨by rw [ht]; exact hP, hD⟩⟩, hS.F ht⟩) hS.2.2 dX3_takeItem_187
  have h := (if_neg e_16_111).symm.trans h
  by_cases e_16_112 : x2 = (112 : Int32)
  · have h := (if_pos e_16_112).symm.trans h
    refine lv_tableIn (off := 128) (tgt := 144) hx hb dX3_takeItem_16 (by rw [e_16_112]; decide) (by rw [e_16_112]; decide) (by rw [e_16_112]; rfl) (by decide) ?_
    refine lv_aload_n hx hb dX3_takeItem_144 rfl (lv_at hl 3 rfl) ?_
    refine lv_iload_n hx hb dX3_takeItem_145 rfl (lv_at hl 1 rfl) ?_
    obtain ⟨r559, hr559, h⟩ := ob h
    refine k_Vi (As := [.int v549]) (rest := []) (wr := [(a_t, .inr (3, [.ref a_t_numbers, .int t_place])), (a_t_numbers, .inl (cI, 4, .inl t_numbers)), (a_h_kind, .inl (cI, 8, .inl h_kind)), (a_h_leanTold, .inl (cI, 8, .inl h_leanTold)), (a_h_needs, .inl (cI, 8, .inl h_needs)), (a_h_firstHears, .inl (cI, 8, .inl h_firstHears)), (a_h_group, .inl (cI, 8, .inl h_group)), (a_h_firstPitch, .inl (cI, 8, .inl h_firstPitch))]) (c_X0_hasDesk l dC dI cI cS n _ a_h a_h_kind a_h_leanTold a_h_needs a_h_firstHears a_h_group a_h_firstPitch h_desks h_oboe h_slip h_warmth h_unheard v549 r559 hr559) (fun _ _ q => q) ⟨hx, hb, hml, hown, hts⟩ (cwV 1 hts gX3_takeItem_X0_hasDesk rfl rfl rfl (by decide +kernel) ⟨(Nat.le_of_ble_eq_true rfl), (Nat.le_of_ble_eq_true rfl)⟩) hN hK hP hD hS hA [2] [0, 1, 3, 4, 5, 6, 7, 8] rfl rfl (by decide) (by decide) (by decide) rfl rfl rfl hl.1 rfl (Nat.le_of_ble_eq_true rfl) dX3_takeItem_146 ⟨(Nat.le_of_ble_eq_true rfl), (Nat.le_of_ble_eq_true rfl)⟩ (fun u560 H locs _ hP hD hS => ?_)
    have hP : va_P (dC, dI) vwCl [(a_t, .inr (3, [.ref a_t_numbers, .int t_place])), (a_t_numbers, .inl (cI, 4, .inl t_numbers)), (a_h_kind, .inl (cI, 8, .inl h_kind)), (a_h_leanTold, .inl (cI, 8, .inl h_leanTold)), (a_h_needs, .inl (cI, 8, .inl h_needs)), (a_h_firstHears, .inl (cI, 8, .inl h_firstHears)), (a_h_group, .inl (cI, 8, .inl h_group)), (a_h_firstPitch, .inl (cI, 8, .inl h_firstPitch)), (a_h, .inr (0, [.int h_desks, .ref a_h_kind, .ref a_h_leanTold, .ref a_h_needs, .ref a_h_firstHears, .ref a_h_group, .ref a_h_firstPitch, .int h_oboe, .int h_slip, .int h_warmth, .int h_unheard]))] H := hP
    have hD : va_D A [(a_t, .inr (3, [.ref a_t_numbers, .int t_place])), (a_t_numbers, .inl (cI, 4, .inl t_numbers)), (a_h_kind, .inl (cI, 8, .inl h_kind)), (a_h_leanTold, .inl (cI, 8, .inl h_leanTold)), (a_h_needs, .inl (cI, 8, .inl h_needs)), (a_h_firstHears, .inl (cI, 8, .inl h_firstHears)), (a_h_group, .inl (cI, 8, .inl h_group)), (a_h_firstPitch, .inl (cI, 8, .inl h_firstPitch)), (a_h, .inr (0, [.int h_desks, .ref a_h_kind, .ref a_h_leanTold, .ref a_h_needs, .ref a_h_firstHears, .ref a_h_group, .ref a_h_firstPitch, .int h_oboe, .int h_slip, .int h_warmth, .int h_unheard]))] := hD
    refine lv_if_eq (tgt := 159) hx hb dX3_takeItem_149 (by decide) (fun c_149 => ?_) (fun c_149 => ?_)
    · have h := (if_pos c_149).symm.trans h
      refine lv_iconst (v := (0 : Int32)) hx hb dX3_takeItem_159 (by decide) ?_
      obtain rfl := Option.some.inj h
      subst hQe
      exact W.zret (v := (0 : Int32)) (ty := .boolean) hx hb hr rfl (fun t ht hW => ⟨⟨(0 : Int32), (), rfl, rfl, ⟨by rw [ht]; exact hP.sub [0, 1, 8, 2, 3, 4, 5, 6, 7] rfl, hD.sub [0, 1, 8, 2, 3, 4, 5, 6, 7] (by decide +kernel) rfl⟩⟩, hS.F ht⟩) hS.2.2 dX3_takeItem_160
    · have h := (if_neg c_149).symm.trans h
      refine lv_iload hx hb dX3_takeItem_152 (lv_at hl 0 rfl) ?_
      refine lv_bipush (v := (40 : Int32)) hx hb dX3_takeItem_154 (by decide) ?_
      refine lv_icmp_le (tgt := 161) hx hb dX3_takeItem_156 (by decide) (fun c_156 => ?_) (fun c_156 => ?_)
      · have h := (if_pos c_156).symm.trans h
        refine lv_aload_n hx hb dX3_takeItem_161 rfl (lv_at hl 3 rfl) ?_
        refine va_get (D := (dC, dI)) (ci := 0) (v := .ref a_h_firstPitch) (C := RX0) (T := TX0) (N := 11) hx hb hts in_X0 hown hK hP 8 rfl rfl 6 (by decide) f_65 (fun _ h9 => h9) rfl dX3_takeItem_162 ?_
        refine lv_iload_n hx hb dX3_takeItem_165 rfl (lv_at hl 1 rfl) ?_
        refine lv_iload hx hb dX3_takeItem_166 (lv_at hl 0 rfl) ?_
        refine lv_bipush (v := (20 : Int32)) hx hb dX3_takeItem_168 (by decide) ?_
        refine lv_isub hx hb dX3_takeItem_170 ?_
        obtain ⟨g561, hg561, h⟩ := ob h
        refine k_st hx hb hK hP hD hS 7 0 rfl rfl hg561 dX3_takeItem_171 (ws' := [(a_t, .inr (3, [.ref a_t_numbers, .int t_place])), (a_t_numbers, .inl (cI, 4, .inl t_numbers)), (a_h_kind, .inl (cI, 8, .inl h_kind)), (a_h_leanTold, .inl (cI, 8, .inl h_leanTold)), (a_h_needs, .inl (cI, 8, .inl h_needs)), (a_h_firstHears, .inl (cI, 8, .inl h_firstHears)), (a_h_group, .inl (cI, 8, .inl h_group)), (a_h_firstPitch, .inl (cI, 8, .inl g561)), (a_h, .inr (0, [.int h_desks, .ref a_h_kind, .ref a_h_leanTold, .ref a_h_needs, .ref a_h_firstHears, .ref a_h_group, .ref a_h_firstPitch, .int h_oboe, .int h_slip, .int h_warmth, .int h_unheard]))]) rfl (fun H locs hP hD hS => ?_)
        refine lv_iconst (v := (1 : Int32)) hx hb dX3_takeItem_172 (by decide) ?_
        obtain rfl := Option.some.inj h
        subst hQe
        exact W.zret (v := (1 : Int32)) (ty := .boolean) hx hb hr rfl (fun t ht hW => ⟨⟨(1 : Int32), (), rfl, rfl, ⟨by rw [ht]; exact hP.sub [0, 1, 8, 2, 3, 4, 5, 6, 7] rfl, hD.sub [0, 1, 8, 2, 3, 4, 5, 6, 7] (by decide +kernel) rfl⟩⟩, hS.F ht⟩) hS.2.2 dX3_takeItem_173
      · have h := (if_neg c_156).symm.trans h
        refine lv_iconst (v := (0 : Int32)) hx hb dX3_takeItem_159 (by decide) ?_
        obtain rfl := Option.some.inj h
        subst hQe
        exact W.zret (v := (0 : Int32)) (ty := .boolean) hx hb hr rfl (fun t ht hW => ⟨⟨(0 : Int32), (), rfl, rfl, ⟨by rw [ht]; exact hP.sub [0, 1, 8, 2, 3, 4, 5, 6, 7] rfl, hD.sub [0, 1, 8, 2, 3, 4, 5, 6, 7] (by decide +kernel) rfl⟩⟩, hS.F ht⟩) hS.2.2 dX3_takeItem_160
  have h := (if_neg e_16_112).symm.trans h
  by_cases e_16_119 : x2 = (119 : Int32)
  · have h := (if_pos e_16_119).symm.trans h
    refine lv_tableIn (off := 188) (tgt := 204) hx hb dX3_takeItem_16 (by rw [e_16_119]; decide) (by rw [e_16_119]; decide) (by rw [e_16_119]; rfl) (by decide) ?_
    refine lv_iload_n hx hb dX3_takeItem_204 rfl (lv_at hl 1 rfl) ?_
    refine lv_iconst (v := (3 : Int32)) hx hb dX3_takeItem_205 (by decide) ?_
    refine lv_icmp_le (tgt := 211) hx hb dX3_takeItem_206 (by decide) (fun c_206 => ?_) (fun c_206 => ?_)
    · have h := (if_pos c_206).symm.trans h
      refine lv_aload_n hx hb dX3_takeItem_211 rfl (lv_at hl 3 rfl) ?_
      refine lv_iload_n hx hb dX3_takeItem_212 rfl (lv_at hl 1 rfl) ?_
      refine va_put (D := (dC, dI)) (ci := 0) (v := .int v549) (ty := .int) (C := RX0) (T := TX0) (N := 11) hx hb hts in_X0 tyX0 tyX0_ok nmX0 hown hK hP hD hS 2 rfl rfl 9 (by decide) f_74 (fun _ h9 => h9) rfl (by decide +kernel) rfl rfl (Nat.le_of_ble_eq_true rfl) dX3_takeItem_213 (fun H locs hP hD hS => ?_)
      have hP : va_P (dC, dI) vwCl [(a_t, .inr (3, [.ref a_t_numbers, .int t_place])), (a_t_numbers, .inl (cI, 4, .inl t_numbers)), (a_h, .inr (0, [.int h_desks, .ref a_h_kind, .ref a_h_leanTold, .ref a_h_needs, .ref a_h_firstHears, .ref a_h_group, .ref a_h_firstPitch, .int h_oboe, .int h_slip, .int v549, .int h_unheard])), (a_h_kind, .inl (cI, 8, .inl h_kind)), (a_h_leanTold, .inl (cI, 8, .inl h_leanTold)), (a_h_needs, .inl (cI, 8, .inl h_needs)), (a_h_firstHears, .inl (cI, 8, .inl h_firstHears)), (a_h_group, .inl (cI, 8, .inl h_group)), (a_h_firstPitch, .inl (cI, 8, .inl h_firstPitch))] H := hP
      have hD : va_D A [(a_t, .inr (3, [.ref a_t_numbers, .int t_place])), (a_t_numbers, .inl (cI, 4, .inl t_numbers)), (a_h, .inr (0, [.int h_desks, .ref a_h_kind, .ref a_h_leanTold, .ref a_h_needs, .ref a_h_firstHears, .ref a_h_group, .ref a_h_firstPitch, .int h_oboe, .int h_slip, .int v549, .int h_unheard])), (a_h_kind, .inl (cI, 8, .inl h_kind)), (a_h_leanTold, .inl (cI, 8, .inl h_leanTold)), (a_h_needs, .inl (cI, 8, .inl h_needs)), (a_h_firstHears, .inl (cI, 8, .inl h_firstHears)), (a_h_group, .inl (cI, 8, .inl h_group)), (a_h_firstPitch, .inl (cI, 8, .inl h_firstPitch))] := hD
      refine lv_iconst (v := (1 : Int32)) hx hb dX3_takeItem_216 (by decide) ?_
      obtain rfl := Option.some.inj h
      subst hQe
      exact W.zret (v := (1 : Int32)) (ty := .boolean) hx hb hr rfl (fun t ht hW => ⟨⟨(1 : Int32), (), rfl, rfl, ⟨by rw [ht]; exact hP, hD⟩⟩, hS.F ht⟩) hS.2.2 dX3_takeItem_217
    · have h := (if_neg c_206).symm.trans h
      refine lv_iconst (v := (0 : Int32)) hx hb dX3_takeItem_209 (by decide) ?_
      obtain rfl := Option.some.inj h
      subst hQe
      exact W.zret (v := (0 : Int32)) (ty := .boolean) hx hb hr rfl (fun t ht hW => ⟨⟨(0 : Int32), (), rfl, rfl, ⟨by rw [ht]; exact hP, hD⟩⟩, hS.F ht⟩) hS.2.2 dX3_takeItem_210
  have h := (if_neg e_16_119).symm.trans h
  refine k_tableD (tgt := 237) hx hb dX3_takeItem_16 [100, 103, 104, 111, 112, 119] (by decide +kernel) (by decide +kernel) (by simp only [List.mem_cons, List.not_mem_nil, or_false, not_or]; exact ⟨lv_neT e_16_100 (by decide), lv_neT e_16_103 (by decide), lv_neT e_16_104 (by decide), lv_neT e_16_111 (by decide), lv_neT e_16_112 (by decide), lv_neT e_16_119 (by decide)⟩) (by decide) ?_
  refine lv_iconst (v := (0 : Int32)) hx hb dX3_takeItem_237 (by decide) ?_
  obtain rfl := Option.some.inj h
  subst hQe
  exact W.zret (v := (0 : Int32)) (ty := .boolean) hx hb hr rfl (fun t ht hW => ⟨⟨(0 : Int32), (), rfl, rfl, ⟨by rw [ht]; exact hP, hD⟩⟩, hS.F ht⟩) hS.2.2 dX3_takeItem_238
def rm_X3_readNumber : Room := { frames := 1, cells := 0, slots := 0, locals := 22 }
set_option maxRecDepth 100000 in
set_option maxHeartbeats 8000000 in
theorem c_X3_readNumber (l : Launch) (dC : Nat → ClassId) (dI : Nat → Nat → Nat) (cI cS : ClassId) (n sz : Nat) (a_t : Nat) (a_t_numbers : Nat) (a_b : Nat) (t_numbers : Nat → Int32) (t_place : Int32) (x1 : Int32) (b : Nat → Int32) (x3 : Int32) (res : Int32 × Int32 × (Nat → Int32))  (h : F_X3_readNumber n t_numbers t_place x1 b x3 = some res) : Met l yX3_readNumber wsX3_readNumber rm_X3_readNumber (va_Pc [.ref a_t, .int x1, .ref a_b, .int x3] (PRE (dC, dI) vwCl [(cI, .int), (cS, .object "RoundOfTheA$State")] sz [(a_t, .inr (3, [.ref a_t_numbers, .int t_place])), (a_t_numbers, .inl (cI, 4, .inl t_numbers)), (a_b, .inl (cI, 200, .inl b))])) (va_Qi (fun (r : Int32) (_ : Unit) => r = res.1) (fun u t => POST (dC, dI) vwCl [(a_t, .inr (3, [.ref a_t_numbers, .int res.2.1])), (a_t_numbers, .inl (cI, 4, .inl res.2.2)), (a_b, .inl (cI, 200, .inl b))] (va_A [(a_t, .inr (3, [.ref a_t_numbers, .int t_place])), (a_t_numbers, .inl (cI, 4, .inl t_numbers)), (a_b, .inl (cI, 200, .inl b))] sz) t) (va_A [(a_t, .inr (3, [.ref a_t_numbers, .int t_place])), (a_t_numbers, .inl (cI, 4, .inl t_numbers)), (a_b, .inl (cI, 200, .inl b))] sz)) 0 0 (va_A [(a_t, .inr (3, [.ref a_t_numbers, .int t_place])), (a_t_numbers, .inl (cI, 4, .inl t_numbers)), (a_b, .inl (cI, 200, .inl b))] sz) := by
  refine Met.ofW (cc := cX3_readNumber) (maxL := 6) (ret := (some .boolean)) (by decide) rfl ?_
  intro p e s m args below meth c s₁ B hml hv
  obtain ⟨rfl, hsz, hN, hP, hK, hD0⟩ := hv
  have hx := B.exec
  have hb := B.bytes
  have hr := B.returns
  have hts := atoms_spec (ws := wsX3_readNumber) B.pre
  have hown : s.vm.findClass RX3 = some m.cls := findClass_of_methodNamed B.named
  have hlocks := B.notSynchronized
  subst hsz
  have hD := hD0.self (sz := s.heap.size)
  generalize hAe : va_A [(a_t, .inr (3, [.ref a_t_numbers, .int t_place])), (a_t_numbers, .inl (cI, 4, .inl t_numbers)), (a_b, .inl (cI, 200, .inl b))] s.heap.size = A at hD ⊢
  have hA : ∀ q : Nat, s.heap.size ≤ q → A q := fun q h => by rw [← hAe]; exact Or.inr h
  have hS : va_S A s.heap s.heap [] := va_S.rf
  generalize hQe : MQ below _ _ s _ _ A = QQ
  have hl := lv_entry ([.ref a_t, .int x1, .ref a_b, .int x3]) (n := 6) (Nat.le_of_ble_eq_true rfl)
  rw [lg_entry_eq]
  generalize (lg_sl ([.ref a_t, .int x1, .ref a_b, .int x3]) ++ List.replicate (6 - (lg_sl ([.ref a_t, .int x1, .ref a_b, .int x3])).length) Slot.unset).toArray = ls at hl ⊢
  have hl : lv_has ls 6 [(0, .ref a_t), (1, .int x1), (2, .ref a_b), (3, .int x3)] := hl
  have k_iniX5 := hts (.initialized RX5) (by decide +kernel)
  have m_st_X5_isFrom := hts (.static yX5_isFrom) (by decide +kernel)
  have f_15 := hts (.fieldLink RX3 15 "RoundOfTheA$TextReader" "place" "I") (by decide +kernel)
  have in_X3 := (by decide +kernel : ∀ w ∈ wsX30, w ∈ wsX3_readNumber)
  have f_9 := hts (.fieldLink RX3 9 "RoundOfTheA$TextReader" "numbers" "[I") (by decide +kernel)
  rw [F_X3_readNumber] at h
  refine lv_iconst (v := (0 : Int32)) hx hb dX3_readNumber_0 (by decide) ?_
  refine lv_istore (lv' := [(4, .int (0 : Int32)), (0, .ref a_t), (1, .int x1), (2, .ref a_b), (3, .int x3)]) hx hb dX3_readNumber_1 hl (by decide) rfl (fun ls hl => ?_)
  refine lv_iconst (v := (0 : Int32)) hx hb dX3_readNumber_3 (by decide) ?_
  refine lv_istore (lv' := [(5, .int (0 : Int32)), (4, .int (0 : Int32)), (0, .ref a_t), (1, .int x1), (2, .ref a_b), (3, .int x3)]) hx hb dX3_readNumber_4 hl (by decide) rfl (fun ls hl => ?_)
  obtain ⟨j604, hjj604, h⟩ := ob h
  have Jj604 : ∀ (H : Heap) (locs : List Loc), va_P (dC, dI) vwCl [(a_t, .inr (3, [.ref a_t_numbers, .int j604.2.2])), (a_t_numbers, .inl (cI, 4, .inl t_numbers)), (a_b, .inl (cI, 200, .inl b))] H → va_D A [(a_t, .inr (3, [.ref a_t_numbers, .int j604.2.2])), (a_t_numbers, .inl (cI, 4, .inl t_numbers)), (a_b, .inl (cI, 200, .inl b))] → va_S A s.heap H locs → ∀ ls : Array Slot, lv_has ls 6 [(0, .ref a_t), (1, .int x1), (2, .ref a_b), (3, .int x3), (4, .int j604.1), (5, .int j604.2.1)] → W p l e (headSpec wsX3_readNumber rm_X3_readNumber).room s m ([.ref a_t, .int x1, .ref a_b, .int x3] : List Value).toArray below meth c H locs 0 0 QQ (F0 m 61 ls []) := by
    intro H locs hP hD hS ls hl
    refine lv_iload hx hb dX3_readNumber_61 (lv_at hl 4 rfl) ?_
    refine lv_if_eq (tgt := 75) hx hb dX3_readNumber_63 (by decide) (fun c_63 => ?_) (fun c_63 => ?_)
    · have h := (if_pos c_63).symm.trans h
      refine lv_iconst (v := (0 : Int32)) hx hb dX3_readNumber_75 (by decide) ?_
      obtain rfl := Option.some.inj h
      subst hQe
      exact W.zret (v := (0 : Int32)) (ty := .boolean) hx hb hr rfl (fun t ht hW => ⟨⟨(0 : Int32), (), rfl, rfl, ⟨by rw [ht]; exact hP, hD⟩⟩, hS.F ht⟩) hS.2.2 dX3_readNumber_76
    · have h := (if_neg c_63).symm.trans h
      refine lv_iload_n hx hb dX3_readNumber_66 rfl (lv_at hl 1 rfl) ?_
      refine lv_if_lt (tgt := 75) hx hb dX3_readNumber_67 (by decide) (fun c_67 => ?_) (fun c_67 => ?_)
      · have h := (if_pos c_67).symm.trans h
        refine lv_iconst (v := (0 : Int32)) hx hb dX3_readNumber_75 (by decide) ?_
        obtain rfl := Option.some.inj h
        subst hQe
        exact W.zret (v := (0 : Int32)) (ty := .boolean) hx hb hr rfl (fun t ht hW => ⟨⟨(0 : Int32), (), rfl, rfl, ⟨by rw [ht]; exact hP, hD⟩⟩, hS.F ht⟩) hS.2.2 dX3_readNumber_76
      · have h := (if_neg c_67).symm.trans h
        refine lv_iload_n hx hb dX3_readNumber_70 rfl (lv_at hl 1 rfl) ?_
        refine lv_iconst (v := (4 : Int32)) hx hb dX3_readNumber_71 (by decide) ?_
        refine lv_icmp_lt (tgt := 77) hx hb dX3_readNumber_72 (by decide) (fun c_72 => ?_) (fun c_72 => ?_)
        · have h := (if_pos c_72).symm.trans h
          refine lv_aload_n hx hb dX3_readNumber_77 rfl (lv_at hl 0 rfl) ?_
          refine va_get (D := (dC, dI)) (ci := 3) (v := .ref a_t_numbers) (C := RX3) (T := TX3) (N := 2) hx hb hts in_X3 hown hK hP 0 rfl rfl 0 (by decide) f_9 (fun _ h9 => h9) rfl dX3_readNumber_78 ?_
          refine lv_iload_n hx hb dX3_readNumber_81 rfl (lv_at hl 1 rfl) ?_
          refine lv_iload hx hb dX3_readNumber_82 (lv_at hl 5 rfl) ?_
          obtain ⟨g611, hg611, h⟩ := ob h
          refine k_st hx hb hK hP hD hS 1 0 rfl rfl hg611 dX3_readNumber_84 (ws' := [(a_t, .inr (3, [.ref a_t_numbers, .int j604.2.2])), (a_t_numbers, .inl (cI, 4, .inl g611)), (a_b, .inl (cI, 200, .inl b))]) rfl (fun H locs hP hD hS => ?_)
          refine lv_iconst (v := (1 : Int32)) hx hb dX3_readNumber_85 (by decide) ?_
          obtain rfl := Option.some.inj h
          subst hQe
          exact W.zret (v := (1 : Int32)) (ty := .boolean) hx hb hr rfl (fun t ht hW => ⟨⟨(1 : Int32), (), rfl, rfl, ⟨by rw [ht]; exact hP, hD⟩⟩, hS.F ht⟩) hS.2.2 dX3_readNumber_86
        · have h := (if_neg c_72).symm.trans h
          refine lv_iconst (v := (0 : Int32)) hx hb dX3_readNumber_75 (by decide) ?_
          obtain rfl := Option.some.inj h
          subst hQe
          exact W.zret (v := (0 : Int32)) (ty := .boolean) hx hb hr rfl (fun t ht hW => ⟨⟨(0 : Int32), (), rfl, rfl, ⟨by rw [ht]; exact hP, hD⟩⟩, hS.F ht⟩) hS.2.2 dX3_readNumber_76
  have K6 : ∀ (k : Nat) (y4_6 : Int32) (y5_6 : Int32) (t_1v_6 : Int32), L_X3_readNumber_6 n b x3 k y4_6 y5_6 t_1v_6 = some j604 → ∀ (H : Heap) (locs : List Loc), va_P (dC, dI) vwCl [(a_t, .inr (3, [.ref a_t_numbers, .int t_1v_6])), (a_t_numbers, .inl (cI, 4, .inl t_numbers)), (a_b, .inl (cI, 200, .inl b))] H → va_D A [(a_t, .inr (3, [.ref a_t_numbers, .int t_1v_6])), (a_t_numbers, .inl (cI, 4, .inl t_numbers)), (a_b, .inl (cI, 200, .inl b))] → va_S A s.heap H locs → ∀ ls : Array Slot, lv_has ls 6 [(0, .ref a_t), (1, .int x1), (2, .ref a_b), (3, .int x3), (4, .int y4_6), (5, .int y5_6)] → W p l e (headSpec wsX3_readNumber rm_X3_readNumber).room s m ([.ref a_t, .int x1, .ref a_b, .int x3] : List Value).toArray below meth c H locs 0 0 QQ (F0 m 6 ls []) := by
    intro k
    induction k with
    | zero =>
      intro y4_6 y5_6 t_1v_6 h
      rw [L_X3_readNumber_6] at h
      cases h
    | succ k ih =>
      intro y4_6 y5_6 t_1v_6 h H locs hP hD hS ls hl
      rw [L_X3_readNumber_6] at h
      refine lv_iload hx hb dX3_readNumber_6 (lv_at hl 4 rfl) ?_
      refine lv_iconst (v := (2 : Int32)) hx hb dX3_readNumber_8 (by decide) ?_
      refine lv_icmp_ge (tgt := 61) hx hb dX3_readNumber_9 (by decide) (fun c_9 => ?_) (fun c_9 => ?_)
      · have h := (if_pos c_9).symm.trans h
        obtain rfl := Option.some.inj h
        exact Jj604 _ _ hP hD hS _ hl
      · have h := (if_neg c_9).symm.trans h
        refine lv_aload_n hx hb dX3_readNumber_12 rfl (lv_at hl 0 rfl) ?_
        refine lv_aload_n hx hb dX3_readNumber_13 rfl (lv_at hl 2 rfl) ?_
        refine lv_iload_n hx hb dX3_readNumber_14 rfl (lv_at hl 3 rfl) ?_
        obtain ⟨r605, hr605, h⟩ := ob h
        refine k_Vi (As := [.ref a_b, .int x3]) (rest := []) (wr := [(a_t_numbers, .inl (cI, 4, .inl t_numbers))]) (c_X3_letterAt l dC dI cI cS n _ a_t a_t_numbers a_b t_1v_6 b x3 r605 hr605) (fun _ _ q => q) ⟨hx, hb, hml, hown, hts⟩ (cwV 2 hts gX3_readNumber_X3_letterAt rfl rfl rfl (by decide +kernel) ⟨(Nat.le_of_ble_eq_true rfl), (Nat.le_of_ble_eq_true rfl)⟩) hN hK hP hD hS hA [0, 2] [1] rfl rfl (by decide) (by decide) (by decide) rfl rfl rfl hl.1 rfl (Nat.le_of_ble_eq_true rfl) dX3_readNumber_15 ⟨(Nat.le_of_ble_eq_true rfl), (Nat.le_of_ble_eq_true rfl)⟩ (fun u606 H locs _ hP hD hS => ?_)
        have hP : va_P (dC, dI) vwCl [(a_t_numbers, .inl (cI, 4, .inl t_numbers)), (a_t, .inr (3, [.ref a_t_numbers, .int t_1v_6])), (a_b, .inl (cI, 200, .inl b))] H := hP
        have hD : va_D A [(a_t_numbers, .inl (cI, 4, .inl t_numbers)), (a_t, .inr (3, [.ref a_t_numbers, .int t_1v_6])), (a_b, .inl (cI, 200, .inl b))] := hD
        refine lv_bipush (v := (48 : Int32)) hx hb dX3_readNumber_18 (by decide) ?_
        refine lv_bipush (v := (57 : Int32)) hx hb dX3_readNumber_20 (by decide) ?_
        obtain ⟨r607, hr607, h⟩ := ob h
        refine k_Ni (As := [.int r605, .int (48 : Int32), .int (57 : Int32)]) (rest := []) (c_X5_isFrom l dC dI cI cS n _ r605 (48 : Int32) (57 : Int32) r607 hr607) (fun _ _ q => q) ⟨hx, hb, hml, hown, hts⟩ (va_cnB 3 hts gX3_readNumber_X5_isFrom_n50 rfl rfl rfl (hN.1 _ (List.mem_of_getElem? (i := 6) rfl)) k_iniX5 (by decide +kernel) ⟨(Nat.le_of_ble_eq_true rfl), (Nat.le_of_ble_eq_true rfl)⟩) m_st_X5_isFrom hN hK hP hD hS hA rfl hl.1 rfl (Nat.le_of_ble_eq_true rfl) dX3_readNumber_22 ⟨(Nat.le_of_ble_eq_true rfl), (Nat.le_of_ble_eq_true rfl)⟩ (fun H locs hP hD hS => ?_)
        refine lv_if_eq (tgt := 61) hx hb dX3_readNumber_25 (by decide) (fun c_25 => ?_) (fun c_25 => ?_)
        · have h := (if_pos c_25).symm.trans h
          obtain rfl := Option.some.inj h
          exact Jj604 _ _ (hP.sub [1, 0, 2] rfl) (hD.sub [1, 0, 2] (by decide +kernel) rfl) hS _ hl
        · have h := (if_neg c_25).symm.trans h
          refine lv_iload hx hb dX3_readNumber_28 (lv_at hl 5 rfl) ?_
          refine lv_bipush (v := (10 : Int32)) hx hb dX3_readNumber_30 (by decide) ?_
          refine lv_imul hx hb dX3_readNumber_32 ?_
          refine lv_aload_n hx hb dX3_readNumber_33 rfl (lv_at hl 0 rfl) ?_
          refine lv_aload_n hx hb dX3_readNumber_34 rfl (lv_at hl 2 rfl) ?_
          refine lv_iload_n hx hb dX3_readNumber_35 rfl (lv_at hl 3 rfl) ?_
          obtain ⟨r609, hr609, h⟩ := ob h
          refine k_Vi (As := [.ref a_b, .int x3]) (rest := [.int (y5_6 * (10 : Int32))]) (wr := [(a_t_numbers, .inl (cI, 4, .inl t_numbers))]) (c_X3_letterAt l dC dI cI cS n _ a_t a_t_numbers a_b t_1v_6 b x3 r609 hr609) (fun _ _ q => q) ⟨hx, hb, hml, hown, hts⟩ (cwV 2 hts gX3_readNumber_X3_letterAt rfl rfl rfl (by decide +kernel) ⟨(Nat.le_of_ble_eq_true rfl), (Nat.le_of_ble_eq_true rfl)⟩) hN hK hP hD hS hA [1, 2] [0] rfl rfl (by decide) (by decide) (by decide) rfl rfl rfl hl.1 rfl (Nat.le_of_ble_eq_true rfl) dX3_readNumber_36 ⟨(Nat.le_of_ble_eq_true rfl), (Nat.le_of_ble_eq_true rfl)⟩ (fun u610 H locs _ hP hD hS => ?_)
          have hP : va_P (dC, dI) vwCl [(a_t_numbers, .inl (cI, 4, .inl t_numbers)), (a_t, .inr (3, [.ref a_t_numbers, .int t_1v_6])), (a_b, .inl (cI, 200, .inl b))] H := hP
          have hD : va_D A [(a_t_numbers, .inl (cI, 4, .inl t_numbers)), (a_t, .inr (3, [.ref a_t_numbers, .int t_1v_6])), (a_b, .inl (cI, 200, .inl b))] := hD
          refine lv_iadd hx hb dX3_readNumber_39 ?_
          refine lv_bipush (v := (48 : Int32)) hx hb dX3_readNumber_40 (by decide) ?_
          refine lv_isub hx hb dX3_readNumber_42 ?_
          refine lv_istore (lv' := [(5, .int (((y5_6 * (10 : Int32)) + r609) - (48 : Int32))), (0, .ref a_t), (1, .int x1), (2, .ref a_b), (3, .int x3), (4, .int y4_6)]) hx hb dX3_readNumber_43 hl (by decide) rfl (fun ls hl => ?_)
          refine lv_iinc (v := (y4_6 + (1 : Int32))) (lv' := [(4, .int (y4_6 + (1 : Int32))), (5, .int (((y5_6 * (10 : Int32)) + r609) - (48 : Int32))), (0, .ref a_t), (1, .int x1), (2, .ref a_b), (3, .int x3)]) hx hb dX3_readNumber_45 hl (k := 5) rfl rfl (by decide) rfl (fun ls hl => ?_)
          refine lv_aload_n hx hb dX3_readNumber_48 rfl (lv_at hl 2 rfl) ?_
          refine lv_dup hx hb dX3_readNumber_49 rfl ?_
          refine va_get (D := (dC, dI)) (ci := 3) (v := .int t_1v_6) (C := RX3) (T := TX3) (N := 2) hx hb hts in_X3 hown hK hP 1 rfl rfl 1 (by decide) f_15 (fun _ h9 => h9) rfl dX3_readNumber_50 ?_
          refine lv_iconst (v := (1 : Int32)) hx hb dX3_readNumber_53 (by decide) ?_
          refine lv_iadd hx hb dX3_readNumber_54 ?_
          refine va_put (D := (dC, dI)) (ci := 3) (v := .int (t_1v_6 + (1 : Int32))) (ty := .int) (C := RX3) (T := TX3) (N := 2) hx hb hts in_X3 tyX3 tyX3_ok nmX3 hown hK hP hD hS 1 rfl rfl 1 (by decide) f_15 (fun _ h9 => h9) rfl (by decide +kernel) rfl rfl (Nat.le_of_ble_eq_true rfl) dX3_readNumber_55 (fun H locs hP hD hS => ?_)
          have hP : va_P (dC, dI) vwCl [(a_t_numbers, .inl (cI, 4, .inl t_numbers)), (a_t, .inr (3, [.ref a_t_numbers, .int (t_1v_6 + (1 : Int32))])), (a_b, .inl (cI, 200, .inl b))] H := hP
          have hD : va_D A [(a_t_numbers, .inl (cI, 4, .inl t_numbers)), (a_t, .inr (3, [.ref a_t_numbers, .int (t_1v_6 + (1 : Int32))])), (a_b, .inl (cI, 200, .inl b))] := hD
          refine lv_goto (tgt := 6) hx hb dX3_readNumber_58 (by decide) ?_
          exact ih _ _ _ h _ _ (hP.sub [1, 0, 2] rfl) (hD.sub [1, 0, 2] (by decide +kernel) rfl) hS _ (lv_sub hl [2, 3, 4, 5, 0, 1] rfl)
  exact K6 n (0 : Int32) (0 : Int32) t_place hjj604 _ _ hP hD hS _ (lv_sub hl [2, 3, 4, 5, 1, 0] rfl)
def rm_X3_readItem : Room := { frames := 3, cells := 0, slots := 0, locals := 73 }
set_option maxRecDepth 100000 in
set_option maxHeartbeats 8000000 in
theorem c_X3_readItem (l : Launch) (dC : Nat → ClassId) (dI : Nat → Nat → Nat) (cI cS : ClassId) (n sz : Nat) (a_t : Nat) (a_t_numbers : Nat) (a_h : Nat) (a_h_kind : Nat) (a_h_leanTold : Nat) (a_h_needs : Nat) (a_h_firstHears : Nat) (a_h_group : Nat) (a_h_firstPitch : Nat) (a_b : Nat) (t_numbers : Nat → Int32) (t_place : Int32) (h_desks : Int32) (h_kind : Nat → Int32) (h_leanTold : Nat → Int32) (h_needs : Nat → Int32) (h_firstHears : Nat → Int32) (h_group : Nat → Int32) (h_firstPitch : Nat → Int32) (h_oboe : Int32) (h_slip : Int32) (h_warmth : Int32) (h_unheard : Int32) (b : Nat → Int32) (x3 : Int32) (res : Int32 × Int32 × (Nat → Int32) × Int32 × Int32 × Int32 × Int32 × Int32 × (Nat → Int32) × (Nat → Int32) × (Nat → Int32) × (Nat → Int32) × (Nat → Int32) × (Nat → Int32))  (h : F_X3_readItem n t_numbers t_place h_desks h_kind h_leanTold h_needs h_firstHears h_group h_firstPitch h_oboe h_slip h_warmth h_unheard b x3 = some res) : Met l yX3_readItem wsX3_readItem rm_X3_readItem (va_Pc [.ref a_t, .ref a_h, .ref a_b, .int x3] (PRE (dC, dI) vwCl [(cI, .int), (cS, .object "RoundOfTheA$State")] sz [(a_t, .inr (3, [.ref a_t_numbers, .int t_place])), (a_t_numbers, .inl (cI, 4, .inl t_numbers)), (a_h, .inr (0, [.int h_desks, .ref a_h_kind, .ref a_h_leanTold, .ref a_h_needs, .ref a_h_firstHears, .ref a_h_group, .ref a_h_firstPitch, .int h_oboe, .int h_slip, .int h_warmth, .int h_unheard])), (a_h_kind, .inl (cI, 8, .inl h_kind)), (a_h_leanTold, .inl (cI, 8, .inl h_leanTold)), (a_h_needs, .inl (cI, 8, .inl h_needs)), (a_h_firstHears, .inl (cI, 8, .inl h_firstHears)), (a_h_group, .inl (cI, 8, .inl h_group)), (a_h_firstPitch, .inl (cI, 8, .inl h_firstPitch)), (a_b, .inl (cI, 200, .inl b))])) (va_Qi (fun (r : Int32) (_ : Unit) => r = res.1) (fun u t => POST (dC, dI) vwCl [(a_t, .inr (3, [.ref a_t_numbers, .int res.2.1])), (a_t_numbers, .inl (cI, 4, .inl res.2.2.1)), (a_h, .inr (0, [.int res.2.2.2.1, .ref a_h_kind, .ref a_h_leanTold, .ref a_h_needs, .ref a_h_firstHears, .ref a_h_group, .ref a_h_firstPitch, .int res.2.2.2.2.1, .int res.2.2.2.2.2.1, .int res.2.2.2.2.2.2.1, .int res.2.2.2.2.2.2.2.1])), (a_h_kind, .inl (cI, 8, .inl res.2.2.2.2.2.2.2.2.1)), (a_h_leanTold, .inl (cI, 8, .inl res.2.2.2.2.2.2.2.2.2.1)), (a_h_needs, .inl (cI, 8, .inl res.2.2.2.2.2.2.2.2.2.2.1)), (a_h_firstHears, .inl (cI, 8, .inl res.2.2.2.2.2.2.2.2.2.2.2.1)), (a_h_group, .inl (cI, 8, .inl res.2.2.2.2.2.2.2.2.2.2.2.2.1)), (a_h_firstPitch, .inl (cI, 8, .inl res.2.2.2.2.2.2.2.2.2.2.2.2.2)), (a_b, .inl (cI, 200, .inl b))] (va_A [(a_t, .inr (3, [.ref a_t_numbers, .int t_place])), (a_t_numbers, .inl (cI, 4, .inl t_numbers)), (a_h, .inr (0, [.int h_desks, .ref a_h_kind, .ref a_h_leanTold, .ref a_h_needs, .ref a_h_firstHears, .ref a_h_group, .ref a_h_firstPitch, .int h_oboe, .int h_slip, .int h_warmth, .int h_unheard])), (a_h_kind, .inl (cI, 8, .inl h_kind)), (a_h_leanTold, .inl (cI, 8, .inl h_leanTold)), (a_h_needs, .inl (cI, 8, .inl h_needs)), (a_h_firstHears, .inl (cI, 8, .inl h_firstHears)), (a_h_group, .inl (cI, 8, .inl h_group)), (a_h_firstPitch, .inl (cI, 8, .inl h_firstPitch)), (a_b, .inl (cI, 200, .inl b))] sz) t) (va_A [(a_t, .inr (3, [.ref a_t_numbers, .int t_place])), (a_t_numbers, .inl (cI, 4, .inl t_numbers)), (a_h, .inr (0, [.int h_desks, .ref a_h_kind, .ref a_h_leanTold, .ref a_h_needs, .ref a_h_firstHears, .ref a_h_group, .ref a_h_firstPitch, .int h_oboe, .int h_slip, .int h_warmth, .int h_unheard])), (a_h_kind, .inl (cI, 8, .inl h_kind)), (a_h_leanTold, .inl (cI, 8, .inl h_leanTold)), (a_h_needs, .inl (cI, 8, .inl h_needs)), (a_h_firstHears, .inl (cI, 8, .inl h_firstHears)), (a_h_group, .inl (cI, 8, .inl h_group)), (a_h_firstPitch, .inl (cI, 8, .inl h_firstPitch)), (a_b, .inl (cI, 200, .inl b))] sz)) 0 0 (va_A [(a_t, .inr (3, [.ref a_t_numbers, .int t_place])), (a_t_numbers, .inl (cI, 4, .inl t_numbers)), (a_h, .inr (0, [.int h_desks, .ref a_h_kind, .ref a_h_leanTold, .ref a_h_needs, .ref a_h_firstHears, .ref a_h_group, .ref a_h_firstPitch, .int h_oboe, .int h_slip, .int h_warmth, .int h_unheard])), (a_h_kind, .inl (cI, 8, .inl h_kind)), (a_h_leanTold, .inl (cI, 8, .inl h_leanTold)), (a_h_needs, .inl (cI, 8, .inl h_needs)), (a_h_firstHears, .inl (cI, 8, .inl h_firstHears)), (a_h_group, .inl (cI, 8, .inl h_group)), (a_h_firstPitch, .inl (cI, 8, .inl h_firstPitch)), (a_b, .inl (cI, 200, .inl b))] sz) := by
  refine Met.ofW (cc := cX3_readItem) (maxL := 7) (ret := (some .boolean)) (by decide) rfl ?_
  intro p e s m args below meth c s₁ B hml hv
  obtain ⟨rfl, hsz, hN, hP, hK, hD0⟩ := hv
  have hx := B.exec
  have hb := B.bytes
  have hr := B.returns
  have hts := atoms_spec (ws := wsX3_readItem) B.pre
  have hown : s.vm.findClass RX3 = some m.cls := findClass_of_methodNamed B.named
  have hlocks := B.notSynchronized
  subst hsz
  have hD := hD0.self (sz := s.heap.size)
  generalize hAe : va_A [(a_t, .inr (3, [.ref a_t_numbers, .int t_place])), (a_t_numbers, .inl (cI, 4, .inl t_numbers)), (a_h, .inr (0, [.int h_desks, .ref a_h_kind, .ref a_h_leanTold, .ref a_h_needs, .ref a_h_firstHears, .ref a_h_group, .ref a_h_firstPitch, .int h_oboe, .int h_slip, .int h_warmth, .int h_unheard])), (a_h_kind, .inl (cI, 8, .inl h_kind)), (a_h_leanTold, .inl (cI, 8, .inl h_leanTold)), (a_h_needs, .inl (cI, 8, .inl h_needs)), (a_h_firstHears, .inl (cI, 8, .inl h_firstHears)), (a_h_group, .inl (cI, 8, .inl h_group)), (a_h_firstPitch, .inl (cI, 8, .inl h_firstPitch)), (a_b, .inl (cI, 200, .inl b))] s.heap.size = A at hD ⊢
  have hA : ∀ q : Nat, s.heap.size ≤ q → A q := fun q h => by rw [← hAe]; exact Or.inr h
  have hS : va_S A s.heap s.heap [] := va_S.rf
  generalize hQe : MQ below _ _ s _ _ A = QQ
  have hl := lv_entry ([.ref a_t, .ref a_h, .ref a_b, .int x3]) (n := 7) (Nat.le_of_ble_eq_true rfl)
  rw [lg_entry_eq]
  generalize (lg_sl ([.ref a_t, .ref a_h, .ref a_b, .int x3]) ++ List.replicate (7 - (lg_sl ([.ref a_t, .ref a_h, .ref a_b, .int x3])).length) Slot.unset).toArray = ls at hl ⊢
  have hl : lv_has ls 7 [(0, .ref a_t), (1, .ref a_h), (2, .ref a_b), (3, .int x3)] := hl
  have f_15 := hts (.fieldLink RX3 15 "RoundOfTheA$TextReader" "place" "I") (by decide +kernel)
  have in_X3 := (by decide +kernel : ∀ w ∈ wsX30, w ∈ wsX3_readItem)
  rw [F_X3_readItem] at h
  refine lv_aload_n hx hb dX3_readItem_0 rfl (lv_at hl 0 rfl) ?_
  refine lv_aload_n hx hb dX3_readItem_1 rfl (lv_at hl 2 rfl) ?_
  refine lv_iload_n hx hb dX3_readItem_2 rfl (lv_at hl 3 rfl) ?_
  obtain ⟨r638, hr638, h⟩ := ob h
  refine k_Vi (As := [.ref a_b, .int x3]) (rest := []) (wr := [(a_t_numbers, .inl (cI, 4, .inl t_numbers)), (a_h, .inr (0, [.int h_desks, .ref a_h_kind, .ref a_h_leanTold, .ref a_h_needs, .ref a_h_firstHears, .ref a_h_group, .ref a_h_firstPitch, .int h_oboe, .int h_slip, .int h_warmth, .int h_unheard])), (a_h_kind, .inl (cI, 8, .inl h_kind)), (a_h_leanTold, .inl (cI, 8, .inl h_leanTold)), (a_h_needs, .inl (cI, 8, .inl h_needs)), (a_h_firstHears, .inl (cI, 8, .inl h_firstHears)), (a_h_group, .inl (cI, 8, .inl h_group)), (a_h_firstPitch, .inl (cI, 8, .inl h_firstPitch))]) (c_X3_letterAt l dC dI cI cS n _ a_t a_t_numbers a_b t_place b x3 r638 hr638) (fun _ _ q => q) ⟨hx, hb, hml, hown, hts⟩ (cwV 2 hts gX3_readItem_X3_letterAt rfl rfl rfl (by decide +kernel) ⟨(Nat.le_of_ble_eq_true rfl), (Nat.le_of_ble_eq_true rfl)⟩) hN hK hP hD hS hA [0, 9] [1, 2, 3, 4, 5, 6, 7, 8] rfl rfl (by decide) (by decide) (by decide) rfl rfl rfl hl.1 rfl (Nat.le_of_ble_eq_true rfl) dX3_readItem_3 ⟨(Nat.le_of_ble_eq_true rfl), (Nat.le_of_ble_eq_true rfl)⟩ (fun u639 H locs _ hP hD hS => ?_)
  have hP : va_P (dC, dI) vwCl [(a_t_numbers, .inl (cI, 4, .inl t_numbers)), (a_h, .inr (0, [.int h_desks, .ref a_h_kind, .ref a_h_leanTold, .ref a_h_needs, .ref a_h_firstHears, .ref a_h_group, .ref a_h_firstPitch, .int h_oboe, .int h_slip, .int h_warmth, .int h_unheard])), (a_h_kind, .inl (cI, 8, .inl h_kind)), (a_h_leanTold, .inl (cI, 8, .inl h_leanTold)), (a_h_needs, .inl (cI, 8, .inl h_needs)), (a_h_firstHears, .inl (cI, 8, .inl h_firstHears)), (a_h_group, .inl (cI, 8, .inl h_group)), (a_h_firstPitch, .inl (cI, 8, .inl h_firstPitch)), (a_t, .inr (3, [.ref a_t_numbers, .int t_place])), (a_b, .inl (cI, 200, .inl b))] H := hP
  have hD : va_D A [(a_t_numbers, .inl (cI, 4, .inl t_numbers)), (a_h, .inr (0, [.int h_desks, .ref a_h_kind, .ref a_h_leanTold, .ref a_h_needs, .ref a_h_firstHears, .ref a_h_group, .ref a_h_firstPitch, .int h_oboe, .int h_slip, .int h_warmth, .int h_unheard])), (a_h_kind, .inl (cI, 8, .inl h_kind)), (a_h_leanTold, .inl (cI, 8, .inl h_leanTold)), (a_h_needs, .inl (cI, 8, .inl h_needs)), (a_h_firstHears, .inl (cI, 8, .inl h_firstHears)), (a_h_group, .inl (cI, 8, .inl h_group)), (a_h_firstPitch, .inl (cI, 8, .inl h_firstPitch)), (a_t, .inr (3, [.ref a_t_numbers, .int t_place])), (a_b, .inl (cI, 200, .inl b))] := hD
  refine lv_istore (lv' := [(4, .int r638), (0, .ref a_t), (1, .ref a_h), (2, .ref a_b), (3, .int x3)]) hx hb dX3_readItem_6 hl (by decide) rfl (fun ls hl => ?_)
  refine lv_iload hx hb dX3_readItem_8 (lv_at hl 0 rfl) ?_
  obtain ⟨r640, hr640, h⟩ := ob h
  refine k_Si (As := [.int r638]) (rest := []) (c_X3_numbersBehind l dC dI cI cS n _ r638 r640 hr640) (fun _ _ q => q) ⟨hx, hb, hml, hown, hts⟩ (va_cwS 1 hts gX3_readItem_X3_numbersBehind rfl rfl rfl (by decide +kernel) ⟨(Nat.le_of_ble_eq_true rfl), (Nat.le_of_ble_eq_true rfl)⟩) hN hK hP hD hS hA rfl hl.1 rfl (Nat.le_of_ble_eq_true rfl) dX3_readItem_10 ⟨(Nat.le_of_ble_eq_true rfl), (Nat.le_of_ble_eq_true rfl)⟩ (fun H locs hP hD hS => ?_)
  refine lv_istore (lv' := [(5, .int r640), (4, .int r638), (0, .ref a_t), (1, .ref a_h), (2, .ref a_b), (3, .int x3)]) hx hb dX3_readItem_13 hl (by decide) rfl (fun ls hl => ?_)
  refine lv_iload hx hb dX3_readItem_15 (lv_at hl 0 rfl) ?_
  refine lv_if_ne (tgt := 22) hx hb dX3_readItem_17 (by decide) (fun c_17 => ?_) (fun c_17 => ?_)
  · have h := (if_neg c_17).symm.trans h
    refine lv_iconst (v := (0 : Int32)) hx hb dX3_readItem_22 (by decide) ?_
    refine lv_istore (lv' := [(6, .int (0 : Int32)), (5, .int r640), (4, .int r638), (0, .ref a_t), (1, .ref a_h), (2, .ref a_b), (3, .int x3)]) hx hb dX3_readItem_23 hl (by decide) rfl (fun ls hl => ?_)
    have K25 : ∀ (k : Nat) (y6_25 : Int32) (t_numbersv_25 : Nat → Int32) (t_1v_25 : Int32), L_X3_readItem_25 n h_desks h_kind h_leanTold h_needs h_firstHears h_group h_firstPitch h_oboe h_slip h_warmth h_unheard b x3 r638 r640 k y6_25 t_numbersv_25 t_1v_25 = some res → ∀ (H : Heap) (locs : List Loc), va_P (dC, dI) vwCl [(a_t_numbers, .inl (cI, 4, .inl t_numbersv_25)), (a_h, .inr (0, [.int h_desks, .ref a_h_kind, .ref a_h_leanTold, .ref a_h_needs, .ref a_h_firstHears, .ref a_h_group, .ref a_h_firstPitch, .int h_oboe, .int h_slip, .int h_warmth, .int h_unheard])), (a_h_kind, .inl (cI, 8, .inl h_kind)), (a_h_leanTold, .inl (cI, 8, .inl h_leanTold)), (a_h_needs, .inl (cI, 8, .inl h_needs)), (a_h_firstHears, .inl (cI, 8, .inl h_firstHears)), (a_h_group, .inl (cI, 8, .inl h_group)), (a_h_firstPitch, .inl (cI, 8, .inl h_firstPitch)), (a_t, .inr (3, [.ref a_t_numbers, .int t_1v_25])), (a_b, .inl (cI, 200, .inl b))] H → va_D A [(a_t_numbers, .inl (cI, 4, .inl t_numbersv_25)), (a_h, .inr (0, [.int h_desks, .ref a_h_kind, .ref a_h_leanTold, .ref a_h_needs, .ref a_h_firstHears, .ref a_h_group, .ref a_h_firstPitch, .int h_oboe, .int h_slip, .int h_warmth, .int h_unheard])), (a_h_kind, .inl (cI, 8, .inl h_kind)), (a_h_leanTold, .inl (cI, 8, .inl h_leanTold)), (a_h_needs, .inl (cI, 8, .inl h_needs)), (a_h_firstHears, .inl (cI, 8, .inl h_firstHears)), (a_h_group, .inl (cI, 8, .inl h_group)), (a_h_firstPitch, .inl (cI, 8, .inl h_firstPitch)), (a_t, .inr (3, [.ref a_t_numbers, .int t_1v_25])), (a_b, .inl (cI, 200, .inl b))] → va_S A s.heap H locs → ∀ ls : Array Slot, lv_has ls 7 [(0, .ref a_t), (1, .ref a_h), (2, .ref a_b), (3, .int x3), (4, .int r638), (5, .int r640), (6, .int y6_25)] → W p l e (headSpec wsX3_readItem rm_X3_readItem).room s m ([.ref a_t, .ref a_h, .ref a_b, .int x3] : List Value).toArray below meth c H locs 0 0 QQ (F0 m 25 ls []) := by
      intro k
      induction k with
      | zero =>
        intro y6_25 t_numbersv_25 t_1v_25 h
        rw [L_X3_readItem_25] at h
        cases h
      | succ k ih =>
        intro y6_25 t_numbersv_25 t_1v_25 h H locs hP hD hS ls hl
        rw [L_X3_readItem_25] at h
        refine lv_iload hx hb dX3_readItem_25 (lv_at hl 6 rfl) ?_
        refine lv_iload hx hb dX3_readItem_27 (lv_at hl 5 rfl) ?_
        refine lv_icmp_ge (tgt := 94) hx hb dX3_readItem_29 (by decide) (fun c_29 => ?_) (fun c_29 => ?_)
        · have h := (if_pos c_29).symm.trans h
          refine lv_aload_n hx hb dX3_readItem_94 rfl (lv_at hl 0 rfl) ?_
          refine lv_dup hx hb dX3_readItem_95 rfl ?_
          refine va_get (D := (dC, dI)) (ci := 3) (v := .int t_1v_25) (C := RX3) (T := TX3) (N := 2) hx hb hts in_X3 hown hK hP 8 rfl rfl 1 (by decide) f_15 (fun _ h9 => h9) rfl dX3_readItem_96 ?_
          refine lv_iconst (v := (1 : Int32)) hx hb dX3_readItem_99 (by decide) ?_
          refine lv_iadd hx hb dX3_readItem_100 ?_
          refine va_put (D := (dC, dI)) (ci := 3) (v := .int (t_1v_25 + (1 : Int32))) (ty := .int) (C := RX3) (T := TX3) (N := 2) hx hb hts in_X3 tyX3 tyX3_ok nmX3 hown hK hP hD hS 8 rfl rfl 1 (by decide) f_15 (fun _ h9 => h9) rfl (by decide +kernel) rfl rfl (Nat.le_of_ble_eq_true rfl) dX3_readItem_101 (fun H locs hP hD hS => ?_)
          have hP : va_P (dC, dI) vwCl [(a_t_numbers, .inl (cI, 4, .inl t_numbersv_25)), (a_h, .inr (0, [.int h_desks, .ref a_h_kind, .ref a_h_leanTold, .ref a_h_needs, .ref a_h_firstHears, .ref a_h_group, .ref a_h_firstPitch, .int h_oboe, .int h_slip, .int h_warmth, .int h_unheard])), (a_h_kind, .inl (cI, 8, .inl h_kind)), (a_h_leanTold, .inl (cI, 8, .inl h_leanTold)), (a_h_needs, .inl (cI, 8, .inl h_needs)), (a_h_firstHears, .inl (cI, 8, .inl h_firstHears)), (a_h_group, .inl (cI, 8, .inl h_group)), (a_h_firstPitch, .inl (cI, 8, .inl h_firstPitch)), (a_t, .inr (3, [.ref a_t_numbers, .int (t_1v_25 + (1 : Int32))])), (a_b, .inl (cI, 200, .inl b))] H := hP
          have hD : va_D A [(a_t_numbers, .inl (cI, 4, .inl t_numbersv_25)), (a_h, .inr (0, [.int h_desks, .ref a_h_kind, .ref a_h_leanTold, .ref a_h_needs, .ref a_h_firstHears, .ref a_h_group, .ref a_h_firstPitch, .int h_oboe, .int h_slip, .int h_warmth, .int h_unheard])), (a_h_kind, .inl (cI, 8, .inl h_kind)), (a_h_leanTold, .inl (cI, 8, .inl h_leanTold)), (a_h_needs, .inl (cI, 8, .inl h_needs)), (a_h_firstHears, .inl (cI, 8, .inl h_firstHears)), (a_h_group, .inl (cI, 8, .inl h_group)), (a_h_firstPitch, .inl (cI, 8, .inl h_firstPitch)), (a_t, .inr (3, [.ref a_t_numbers, .int (t_1v_25 + (1 : Int32))])), (a_b, .inl (cI, 200, .inl b))] := hD
          refine lv_aload_n hx hb dX3_readItem_104 rfl (lv_at hl 0 rfl) ?_
          refine lv_aload_n hx hb dX3_readItem_105 rfl (lv_at hl 1 rfl) ?_
          refine lv_iload hx hb dX3_readItem_106 (lv_at hl 4 rfl) ?_
          obtain ⟨r667, hr667, h⟩ := ob h
          refine k_Vi (As := [.ref a_h, .int r638]) (rest := []) (wr := [(a_b, .inl (cI, 200, .inl b))]) (c_X3_takeItem l dC dI cI cS n _ a_t a_t_numbers a_h a_h_kind a_h_leanTold a_h_needs a_h_firstHears a_h_group a_h_firstPitch t_numbersv_25 (t_1v_25 + (1 : Int32)) h_desks h_kind h_leanTold h_needs h_firstHears h_group h_firstPitch h_oboe h_slip h_warmth h_unheard r638 r667 hr667) (fun _ _ q => q) ⟨hx, hb, hml, hown, hts⟩ (cwV 2 hts gX3_readItem_X3_takeItem rfl rfl rfl (by decide +kernel) ⟨(Nat.le_of_ble_eq_true rfl), (Nat.le_of_ble_eq_true rfl)⟩) hN hK hP hD hS hA [8, 0, 1, 2, 3, 4, 5, 6, 7] [9] rfl rfl (by decide) (by decide) (by decide) rfl rfl rfl hl.1 rfl (Nat.le_of_ble_eq_true rfl) dX3_readItem_108 ⟨(Nat.le_of_ble_eq_true rfl), (Nat.le_of_ble_eq_true rfl)⟩ (fun u668 H locs _ hP hD hS => ?_)
          have hP : va_P (dC, dI) vwCl [(a_b, .inl (cI, 200, .inl b)), (a_t, .inr (3, [.ref a_t_numbers, .int (t_1v_25 + (1 : Int32))])), (a_t_numbers, .inl (cI, 4, .inl t_numbersv_25)), (a_h, .inr (0, [.int r667.2.1, .ref a_h_kind, .ref a_h_leanTold, .ref a_h_needs, .ref a_h_firstHears, .ref a_h_group, .ref a_h_firstPitch, .int r667.2.2.1, .int r667.2.2.2.1, .int r667.2.2.2.2.1, .int r667.2.2.2.2.2.1])), (a_h_kind, .inl (cI, 8, .inl r667.2.2.2.2.2.2.1)), (a_h_leanTold, .inl (cI, 8, .inl r667.2.2.2.2.2.2.2.1)), (a_h_needs, .inl (cI, 8, .inl r667.2.2.2.2.2.2.2.2.1)), (a_h_firstHears, .inl (cI, 8, .inl r667.2.2.2.2.2.2.2.2.2.1)), (a_h_group, .inl (cI, 8, .inl r667.2.2.2.2.2.2.2.2.2.2.1)), (a_h_firstPitch, .inl (cI, 8, .inl r667.2.2.2.2.2.2.2.2.2.2.2))] H := hP
          have hD : va_D A [(a_b, .inl (cI, 200, .inl b)), (a_t, .inr (3, [.ref a_t_numbers, .int (t_1v_25 + (1 : Int32))])), (a_t_numbers, .inl (cI, 4, .inl t_numbersv_25)), (a_h, .inr (0, [.int r667.2.1, .ref a_h_kind, .ref a_h_leanTold, .ref a_h_needs, .ref a_h_firstHears, .ref a_h_group, .ref a_h_firstPitch, .int r667.2.2.1, .int r667.2.2.2.1, .int r667.2.2.2.2.1, .int r667.2.2.2.2.2.1])), (a_h_kind, .inl (cI, 8, .inl r667.2.2.2.2.2.2.1)), (a_h_leanTold, .inl (cI, 8, .inl r667.2.2.2.2.2.2.2.1)), (a_h_needs, .inl (cI, 8, .inl r667.2.2.2.2.2.2.2.2.1)), (a_h_firstHears, .inl (cI, 8, .inl r667.2.2.2.2.2.2.2.2.2.1)), (a_h_group, .inl (cI, 8, .inl r667.2.2.2.2.2.2.2.2.2.2.1)), (a_h_firstPitch, .inl (cI, 8, .inl r667.2.2.2.2.2.2.2.2.2.2.2))] := hD
          obtain ⟨u669, hu669, h⟩ := ob h
          obtain rfl := Option.some.inj h
          subst hQe
          exact W.zret (v := r667.1) (ty := .boolean) hx hb hr (zb_some hu669) (fun t ht hW => ⟨⟨r667.1, (), rfl, rfl, ⟨by rw [ht]; exact hP.sub [1, 2, 3, 4, 5, 6, 7, 8, 9, 0] rfl, hD.sub [1, 2, 3, 4, 5, 6, 7, 8, 9, 0] (by decide +kernel) rfl⟩⟩, hS.F ht⟩) hS.2.2 dX3_readItem_111
        · have h := (if_neg c_29).symm.trans h
          refine lv_iload hx hb dX3_readItem_32 (lv_at hl 6 rfl) ?_
          refine lv_iconst (v := (4 : Int32)) hx hb dX3_readItem_34 (by decide) ?_
          refine lv_icmp_ge (tgt := 94) hx hb dX3_readItem_35 (by decide) (fun c_35 => ?_) (fun c_35 => ?_)
          · have h := (if_pos c_35).symm.trans h
            refine lv_aload_n hx hb dX3_readItem_94 rfl (lv_at hl 0 rfl) ?_
            refine lv_dup hx hb dX3_readItem_95 rfl ?_
            refine va_get (D := (dC, dI)) (ci := 3) (v := .int t_1v_25) (C := RX3) (T := TX3) (N := 2) hx hb hts in_X3 hown hK hP 8 rfl rfl 1 (by decide) f_15 (fun _ h9 => h9) rfl dX3_readItem_96 ?_
            refine lv_iconst (v := (1 : Int32)) hx hb dX3_readItem_99 (by decide) ?_
            refine lv_iadd hx hb dX3_readItem_100 ?_
            refine va_put (D := (dC, dI)) (ci := 3) (v := .int (t_1v_25 + (1 : Int32))) (ty := .int) (C := RX3) (T := TX3) (N := 2) hx hb hts in_X3 tyX3 tyX3_ok nmX3 hown hK hP hD hS 8 rfl rfl 1 (by decide) f_15 (fun _ h9 => h9) rfl (by decide +kernel) rfl rfl (Nat.le_of_ble_eq_true rfl) dX3_readItem_101 (fun H locs hP hD hS => ?_)
            have hP : va_P (dC, dI) vwCl [(a_t_numbers, .inl (cI, 4, .inl t_numbersv_25)), (a_h, .inr (0, [.int h_desks, .ref a_h_kind, .ref a_h_leanTold, .ref a_h_needs, .ref a_h_firstHears, .ref a_h_group, .ref a_h_firstPitch, .int h_oboe, .int h_slip, .int h_warmth, .int h_unheard])), (a_h_kind, .inl (cI, 8, .inl h_kind)), (a_h_leanTold, .inl (cI, 8, .inl h_leanTold)), (a_h_needs, .inl (cI, 8, .inl h_needs)), (a_h_firstHears, .inl (cI, 8, .inl h_firstHears)), (a_h_group, .inl (cI, 8, .inl h_group)), (a_h_firstPitch, .inl (cI, 8, .inl h_firstPitch)), (a_t, .inr (3, [.ref a_t_numbers, .int (t_1v_25 + (1 : Int32))])), (a_b, .inl (cI, 200, .inl b))] H := hP
            have hD : va_D A [(a_t_numbers, .inl (cI, 4, .inl t_numbersv_25)), (a_h, .inr (0, [.int h_desks, .ref a_h_kind, .ref a_h_leanTold, .ref a_h_needs, .ref a_h_firstHears, .ref a_h_group, .ref a_h_firstPitch, .int h_oboe, .int h_slip, .int h_warmth, .int h_unheard])), (a_h_kind, .inl (cI, 8, .inl h_kind)), (a_h_leanTold, .inl (cI, 8, .inl h_leanTold)), (a_h_needs, .inl (cI, 8, .inl h_needs)), (a_h_firstHears, .inl (cI, 8, .inl h_firstHears)), (a_h_group, .inl (cI, 8, .inl h_group)), (a_h_firstPitch, .inl (cI, 8, .inl h_firstPitch)), (a_t, .inr (3, [.ref a_t_numbers, .int (t_1v_25 + (1 : Int32))])), (a_b, .inl (cI, 200, .inl b))] := hD
            refine lv_aload_n hx hb dX3_readItem_104 rfl (lv_at hl 0 rfl) ?_
            refine lv_aload_n hx hb dX3_readItem_105 rfl (lv_at hl 1 rfl) ?_
            refine lv_iload hx hb dX3_readItem_106 (lv_at hl 4 rfl) ?_
            obtain ⟨r670, hr670, h⟩ := ob h
            refine k_Vi (As := [.ref a_h, .int r638]) (rest := []) (wr := [(a_b, .inl (cI, 200, .inl b))]) (c_X3_takeItem l dC dI cI cS n _ a_t a_t_numbers a_h a_h_kind a_h_leanTold a_h_needs a_h_firstHears a_h_group a_h_firstPitch t_numbersv_25 (t_1v_25 + (1 : Int32)) h_desks h_kind h_leanTold h_needs h_firstHears h_group h_firstPitch h_oboe h_slip h_warmth h_unheard r638 r670 hr670) (fun _ _ q => q) ⟨hx, hb, hml, hown, hts⟩ (cwV 2 hts gX3_readItem_X3_takeItem rfl rfl rfl (by decide +kernel) ⟨(Nat.le_of_ble_eq_true rfl), (Nat.le_of_ble_eq_true rfl)⟩) hN hK hP hD hS hA [8, 0, 1, 2, 3, 4, 5, 6, 7] [9] rfl rfl (by decide) (by decide) (by decide) rfl rfl rfl hl.1 rfl (Nat.le_of_ble_eq_true rfl) dX3_readItem_108 ⟨(Nat.le_of_ble_eq_true rfl), (Nat.le_of_ble_eq_true rfl)⟩ (fun u671 H locs _ hP hD hS => ?_)
            have hP : va_P (dC, dI) vwCl [(a_b, .inl (cI, 200, .inl b)), (a_t, .inr (3, [.ref a_t_numbers, .int (t_1v_25 + (1 : Int32))])), (a_t_numbers, .inl (cI, 4, .inl t_numbersv_25)), (a_h, .inr (0, [.int r670.2.1, .ref a_h_kind, .ref a_h_leanTold, .ref a_h_needs, .ref a_h_firstHears, .ref a_h_group, .ref a_h_firstPitch, .int r670.2.2.1, .int r670.2.2.2.1, .int r670.2.2.2.2.1, .int r670.2.2.2.2.2.1])), (a_h_kind, .inl (cI, 8, .inl r670.2.2.2.2.2.2.1)), (a_h_leanTold, .inl (cI, 8, .inl r670.2.2.2.2.2.2.2.1)), (a_h_needs, .inl (cI, 8, .inl r670.2.2.2.2.2.2.2.2.1)), (a_h_firstHears, .inl (cI, 8, .inl r670.2.2.2.2.2.2.2.2.2.1)), (a_h_group, .inl (cI, 8, .inl r670.2.2.2.2.2.2.2.2.2.2.1)), (a_h_firstPitch, .inl (cI, 8, .inl r670.2.2.2.2.2.2.2.2.2.2.2))] H := hP
            have hD : va_D A [(a_b, .inl (cI, 200, .inl b)), (a_t, .inr (3, [.ref a_t_numbers, .int (t_1v_25 + (1 : Int32))])), (a_t_numbers, .inl (cI, 4, .inl t_numbersv_25)), (a_h, .inr (0, [.int r670.2.1, .ref a_h_kind, .ref a_h_leanTold, .ref a_h_needs, .ref a_h_firstHears, .ref a_h_group, .ref a_h_firstPitch, .int r670.2.2.1, .int r670.2.2.2.1, .int r670.2.2.2.2.1, .int r670.2.2.2.2.2.1])), (a_h_kind, .inl (cI, 8, .inl r670.2.2.2.2.2.2.1)), (a_h_leanTold, .inl (cI, 8, .inl r670.2.2.2.2.2.2.2.1)), (a_h_needs, .inl (cI, 8, .inl r670.2.2.2.2.2.2.2.2.1)), (a_h_firstHears, .inl (cI, 8, .inl r670.2.2.2.2.2.2.2.2.2.1)), (a_h_group, .inl (cI, 8, .inl r670.2.2.2.2.2.2.2.2.2.2.1)), (a_h_firstPitch, .inl (cI, 8, .inl r670.2.2.2.2.2.2.2.2.2.2.2))] := hD
            obtain ⟨u672, hu672, h⟩ := ob h
            obtain rfl := Option.some.inj h
            subst hQe
            exact W.zret (v := r670.1) (ty := .boolean) hx hb hr (zb_some hu672) (fun t ht hW => ⟨⟨r670.1, (), rfl, rfl, ⟨by rw [ht]; exact hP.sub [1, 2, 3, 4, 5, 6, 7, 8, 9, 0] rfl, hD.sub [1, 2, 3, 4, 5, 6, 7, 8, 9, 0] (by decide +kernel) rfl⟩⟩, hS.F ht⟩) hS.2.2 dX3_readItem_111
          · have h := (if_neg c_35).symm.trans h
            refine lv_aload_n hx hb dX3_readItem_38 rfl (lv_at hl 0 rfl) ?_
            refine lv_dup hx hb dX3_readItem_39 rfl ?_
            refine va_get (D := (dC, dI)) (ci := 3) (v := .int t_1v_25) (C := RX3) (T := TX3) (N := 2) hx hb hts in_X3 hown hK hP 8 rfl rfl 1 (by decide) f_15 (fun _ h9 => h9) rfl dX3_readItem_40 ?_
            refine lv_iconst (v := (1 : Int32)) hx hb dX3_readItem_43 (by decide) ?_
            refine lv_iadd hx hb dX3_readItem_44 ?_
            refine va_put (D := (dC, dI)) (ci := 3) (v := .int (t_1v_25 + (1 : Int32))) (ty := .int) (C := RX3) (T := TX3) (N := 2) hx hb hts in_X3 tyX3 tyX3_ok nmX3 hown hK hP hD hS 8 rfl rfl 1 (by decide) f_15 (fun _ h9 => h9) rfl (by decide +kernel) rfl rfl (Nat.le_of_ble_eq_true rfl) dX3_readItem_45 (fun H locs hP hD hS => ?_)
            have hP : va_P (dC, dI) vwCl [(a_t_numbers, .inl (cI, 4, .inl t_numbersv_25)), (a_h, .inr (0, [.int h_desks, .ref a_h_kind, .ref a_h_leanTold, .ref a_h_needs, .ref a_h_firstHears, .ref a_h_group, .ref a_h_firstPitch, .int h_oboe, .int h_slip, .int h_warmth, .int h_unheard])), (a_h_kind, .inl (cI, 8, .inl h_kind)), (a_h_leanTold, .inl (cI, 8, .inl h_leanTold)), (a_h_needs, .inl (cI, 8, .inl h_needs)), (a_h_firstHears, .inl (cI, 8, .inl h_firstHears)), (a_h_group, .inl (cI, 8, .inl h_group)), (a_h_firstPitch, .inl (cI, 8, .inl h_firstPitch)), (a_t, .inr (3, [.ref a_t_numbers, .int (t_1v_25 + (1 : Int32))])), (a_b, .inl (cI, 200, .inl b))] H := hP
            have hD : va_D A [(a_t_numbers, .inl (cI, 4, .inl t_numbersv_25)), (a_h, .inr (0, [.int h_desks, .ref a_h_kind, .ref a_h_leanTold, .ref a_h_needs, .ref a_h_firstHears, .ref a_h_group, .ref a_h_firstPitch, .int h_oboe, .int h_slip, .int h_warmth, .int h_unheard])), (a_h_kind, .inl (cI, 8, .inl h_kind)), (a_h_leanTold, .inl (cI, 8, .inl h_leanTold)), (a_h_needs, .inl (cI, 8, .inl h_needs)), (a_h_firstHears, .inl (cI, 8, .inl h_firstHears)), (a_h_group, .inl (cI, 8, .inl h_group)), (a_h_firstPitch, .inl (cI, 8, .inl h_firstPitch)), (a_t, .inr (3, [.ref a_t_numbers, .int (t_1v_25 + (1 : Int32))])), (a_b, .inl (cI, 200, .inl b))] := hD
            refine lv_aload_n hx hb dX3_readItem_48 rfl (lv_at hl 0 rfl) ?_
            refine lv_iload hx hb dX3_readItem_49 (lv_at hl 6 rfl) ?_
            refine lv_aload_n hx hb dX3_readItem_51 rfl (lv_at hl 2 rfl) ?_
            refine lv_iload_n hx hb dX3_readItem_52 rfl (lv_at hl 3 rfl) ?_
            obtain ⟨r673, hr673, h⟩ := ob h
            refine k_Vi (As := [.int y6_25, .ref a_b, .int x3]) (rest := []) (wr := [(a_h, .inr (0, [.int h_desks, .ref a_h_kind, .ref a_h_leanTold, .ref a_h_needs, .ref a_h_firstHears, .ref a_h_group, .ref a_h_firstPitch, .int h_oboe, .int h_slip, .int h_warmth, .int h_unheard])), (a_h_kind, .inl (cI, 8, .inl h_kind)), (a_h_leanTold, .inl (cI, 8, .inl h_leanTold)), (a_h_needs, .inl (cI, 8, .inl h_needs)), (a_h_firstHears, .inl (cI, 8, .inl h_firstHears)), (a_h_group, .inl (cI, 8, .inl h_group)), (a_h_firstPitch, .inl (cI, 8, .inl h_firstPitch))]) (c_X3_readNumber l dC dI cI cS n _ a_t a_t_numbers a_b t_numbersv_25 (t_1v_25 + (1 : Int32)) y6_25 b x3 r673 hr673) (fun _ _ q => q) ⟨hx, hb, hml, hown, hts⟩ (cwV 3 hts gX3_readItem_X3_readNumber rfl rfl rfl (by decide +kernel) ⟨(Nat.le_of_ble_eq_true rfl), (Nat.le_of_ble_eq_true rfl)⟩) hN hK hP hD hS hA [8, 0, 9] [1, 2, 3, 4, 5, 6, 7] rfl rfl (by decide) (by decide) (by decide) rfl rfl rfl hl.1 rfl (Nat.le_of_ble_eq_true rfl) dX3_readItem_53 ⟨(Nat.le_of_ble_eq_true rfl), (Nat.le_of_ble_eq_true rfl)⟩ (fun u674 H locs _ hP hD hS => ?_)
            have hP : va_P (dC, dI) vwCl [(a_h, .inr (0, [.int h_desks, .ref a_h_kind, .ref a_h_leanTold, .ref a_h_needs, .ref a_h_firstHears, .ref a_h_group, .ref a_h_firstPitch, .int h_oboe, .int h_slip, .int h_warmth, .int h_unheard])), (a_h_kind, .inl (cI, 8, .inl h_kind)), (a_h_leanTold, .inl (cI, 8, .inl h_leanTold)), (a_h_needs, .inl (cI, 8, .inl h_needs)), (a_h_firstHears, .inl (cI, 8, .inl h_firstHears)), (a_h_group, .inl (cI, 8, .inl h_group)), (a_h_firstPitch, .inl (cI, 8, .inl h_firstPitch)), (a_t, .inr (3, [.ref a_t_numbers, .int r673.2.1])), (a_t_numbers, .inl (cI, 4, .inl r673.2.2)), (a_b, .inl (cI, 200, .inl b))] H := hP
            have hD : va_D A [(a_h, .inr (0, [.int h_desks, .ref a_h_kind, .ref a_h_leanTold, .ref a_h_needs, .ref a_h_firstHears, .ref a_h_group, .ref a_h_firstPitch, .int h_oboe, .int h_slip, .int h_warmth, .int h_unheard])), (a_h_kind, .inl (cI, 8, .inl h_kind)), (a_h_leanTold, .inl (cI, 8, .inl h_leanTold)), (a_h_needs, .inl (cI, 8, .inl h_needs)), (a_h_firstHears, .inl (cI, 8, .inl h_firstHears)), (a_h_group, .inl (cI, 8, .inl h_group)), (a_h_firstPitch, .inl (cI, 8, .inl h_firstPitch)), (a_t, .inr (3, [.ref a_t_numbers, .int r673.2.1])), (a_t_numbers, .inl (cI, 4, .inl r673.2.2)), (a_b, .inl (cI, 200, .inl b))] := hD
            refine lv_if_ne (tgt := 61) hx hb dX3_readItem_56 (by decide) (fun c_56 => ?_) (fun c_56 => ?_)
            · have h := (if_neg c_56).symm.trans h
              refine lv_aload_n hx hb dX3_readItem_61 rfl (lv_at hl 0 rfl) ?_
              refine lv_aload_n hx hb dX3_readItem_62 rfl (lv_at hl 2 rfl) ?_
              refine lv_iload_n hx hb dX3_readItem_63 rfl (lv_at hl 3 rfl) ?_
              obtain ⟨r675, hr675, h⟩ := ob h
              refine k_Vi (As := [.ref a_b, .int x3]) (rest := []) (wr := [(a_h, .inr (0, [.int h_desks, .ref a_h_kind, .ref a_h_leanTold, .ref a_h_needs, .ref a_h_firstHears, .ref a_h_group, .ref a_h_firstPitch, .int h_oboe, .int h_slip, .int h_warmth, .int h_unheard])), (a_h_kind, .inl (cI, 8, .inl h_kind)), (a_h_leanTold, .inl (cI, 8, .inl h_leanTold)), (a_h_needs, .inl (cI, 8, .inl h_needs)), (a_h_firstHears, .inl (cI, 8, .inl h_firstHears)), (a_h_group, .inl (cI, 8, .inl h_group)), (a_h_firstPitch, .inl (cI, 8, .inl h_firstPitch)), (a_t_numbers, .inl (cI, 4, .inl r673.2.2))]) (c_X3_letterAt l dC dI cI cS n _ a_t a_t_numbers a_b r673.2.1 b x3 r675 hr675) (fun _ _ q => q) ⟨hx, hb, hml, hown, hts⟩ (cwV 2 hts gX3_readItem_X3_letterAt rfl rfl rfl (by decide +kernel) ⟨(Nat.le_of_ble_eq_true rfl), (Nat.le_of_ble_eq_true rfl)⟩) hN hK hP hD hS hA [7, 9] [0, 1, 2, 3, 4, 5, 6, 8] rfl rfl (by decide) (by decide) (by decide) rfl rfl rfl hl.1 rfl (Nat.le_of_ble_eq_true rfl) dX3_readItem_64 ⟨(Nat.le_of_ble_eq_true rfl), (Nat.le_of_ble_eq_true rfl)⟩ (fun u676 H locs _ hP hD hS => ?_)
              have hP : va_P (dC, dI) vwCl [(a_h, .inr (0, [.int h_desks, .ref a_h_kind, .ref a_h_leanTold, .ref a_h_needs, .ref a_h_firstHears, .ref a_h_group, .ref a_h_firstPitch, .int h_oboe, .int h_slip, .int h_warmth, .int h_unheard])), (a_h_kind, .inl (cI, 8, .inl h_kind)), (a_h_leanTold, .inl (cI, 8, .inl h_leanTold)), (a_h_needs, .inl (cI, 8, .inl h_needs)), (a_h_firstHears, .inl (cI, 8, .inl h_firstHears)), (a_h_group, .inl (cI, 8, .inl h_group)), (a_h_firstPitch, .inl (cI, 8, .inl h_firstPitch)), (a_t_numbers, .inl (cI, 4, .inl r673.2.2)), (a_t, .inr (3, [.ref a_t_numbers, .int r673.2.1])), (a_b, .inl (cI, 200, .inl b))] H := hP
              have hD : va_D A [(a_h, .inr (0, [.int h_desks, .ref a_h_kind, .ref a_h_leanTold, .ref a_h_needs, .ref a_h_firstHears, .ref a_h_group, .ref a_h_firstPitch, .int h_oboe, .int h_slip, .int h_warmth, .int h_unheard])), (a_h_kind, .inl (cI, 8, .inl h_kind)), (a_h_leanTold, .inl (cI, 8, .inl h_leanTold)), (a_h_needs, .inl (cI, 8, .inl h_needs)), (a_h_firstHears, .inl (cI, 8, .inl h_firstHears)), (a_h_group, .inl (cI, 8, .inl h_group)), (a_h_firstPitch, .inl (cI, 8, .inl h_firstPitch)), (a_t_numbers, .inl (cI, 4, .inl r673.2.2)), (a_t, .inr (3, [.ref a_t_numbers, .int r673.2.1])), (a_b, .inl (cI, 200, .inl b))] := hD
              refine lv_iload hx hb dX3_readItem_67 (lv_at hl 6 rfl) ?_
              refine lv_iconst (v := (1 : Int32)) hx hb dX3_readItem_69 (by decide) ?_
              refine lv_iadd hx hb dX3_readItem_70 ?_
              refine lv_iload hx hb dX3_readItem_71 (lv_at hl 5 rfl) ?_
              obtain ⟨j677, hjj677, h⟩ := ob h
              have Jj677 : ∀ (H : Heap) (locs : List Loc), va_P (dC, dI) vwCl [(a_h, .inr (0, [.int h_desks, .ref a_h_kind, .ref a_h_leanTold, .ref a_h_needs, .ref a_h_firstHears, .ref a_h_group, .ref a_h_firstPitch, .int h_oboe, .int h_slip, .int h_warmth, .int h_unheard])), (a_h_kind, .inl (cI, 8, .inl h_kind)), (a_h_leanTold, .inl (cI, 8, .inl h_leanTold)), (a_h_needs, .inl (cI, 8, .inl h_needs)), (a_h_firstHears, .inl (cI, 8, .inl h_firstHears)), (a_h_group, .inl (cI, 8, .inl h_group)), (a_h_firstPitch, .inl (cI, 8, .inl h_firstPitch)), (a_t_numbers, .inl (cI, 4, .inl r673.2.2)), (a_t, .inr (3, [.ref a_t_numbers, .int r673.2.1])), (a_b, .inl (cI, 200, .inl b))] H → va_D A [(a_h, .inr (0, [.int h_desks, .ref a_h_kind, .ref a_h_leanTold, .ref a_h_needs, .ref a_h_firstHears, .ref a_h_group, .ref a_h_firstPitch, .int h_oboe, .int h_slip, .int h_warmth, .int h_unheard])), (a_h_kind, .inl (cI, 8, .inl h_kind)), (a_h_leanTold, .inl (cI, 8, .inl h_leanTold)), (a_h_needs, .inl (cI, 8, .inl h_needs)), (a_h_firstHears, .inl (cI, 8, .inl h_firstHears)), (a_h_group, .inl (cI, 8, .inl h_group)), (a_h_firstPitch, .inl (cI, 8, .inl h_firstPitch)), (a_t_numbers, .inl (cI, 4, .inl r673.2.2)), (a_t, .inr (3, [.ref a_t_numbers, .int r673.2.1])), (a_b, .inl (cI, 200, .inl b))] → va_S A s.heap H locs → ∀ ls : Array Slot, lv_has ls 7 [(0, .ref a_t), (1, .ref a_h), (2, .ref a_b), (3, .int x3), (4, .int r638), (5, .int r640), (6, .int y6_25)] → W p l e (headSpec wsX3_readItem rm_X3_readItem).room s m ([.ref a_t, .ref a_h, .ref a_b, .int x3] : List Value).toArray below meth c H locs 0 0 QQ (F0 m 83 ls [.int j677, .int r675]) := by
                intro H locs hP hD hS ls hl
                refine lv_icmp_eq (tgt := 88) hx hb dX3_readItem_83 (by decide) (fun c_83 => ?_) (fun c_83 => ?_)
                · have h := (if_pos c_83).symm.trans h
                  refine lv_iinc (v := (y6_25 + (1 : Int32))) (lv' := [(6, .int (y6_25 + (1 : Int32))), (0, .ref a_t), (1, .ref a_h), (2, .ref a_b), (3, .int x3), (4, .int r638), (5, .int r640)]) hx hb dX3_readItem_88 hl (k := 6) rfl rfl (by decide) rfl (fun ls hl => ?_)
                  refine lv_goto (tgt := 25) hx hb dX3_readItem_91 (by decide) ?_
                  exact ih _ _ _ h _ _ (hP.sub [7, 0, 1, 2, 3, 4, 5, 6, 8, 9] rfl) (hD.sub [7, 0, 1, 2, 3, 4, 5, 6, 8, 9] (by decide +kernel) rfl) hS _ (lv_sub hl [1, 2, 3, 4, 5, 6, 0] rfl)
                · have h := (if_neg c_83).symm.trans h
                  refine lv_iconst (v := (0 : Int32)) hx hb dX3_readItem_86 (by decide) ?_
                  obtain rfl := Option.some.inj h
                  subst hQe
                  exact W.zret (v := (0 : Int32)) (ty := .boolean) hx hb hr rfl (fun t ht hW => ⟨⟨(0 : Int32), (), rfl, rfl, ⟨by rw [ht]; exact hP.sub [8, 7, 0, 1, 2, 3, 4, 5, 6, 9] rfl, hD.sub [8, 7, 0, 1, 2, 3, 4, 5, 6, 9] (by decide +kernel) rfl⟩⟩, hS.F ht⟩) hS.2.2 dX3_readItem_87
              refine lv_icmp_ge (tgt := 81) hx hb dX3_readItem_73 (by decide) (fun c_73 => ?_) (fun c_73 => ?_)
              · have h := (if_pos c_73).symm.trans hjj677
                refine lv_bipush (v := (59 : Int32)) hx hb dX3_readItem_81 (by decide) ?_
                obtain rfl := Option.some.inj h
                exact Jj677 _ _ hP hD hS _ hl
              · have h := (if_neg c_73).symm.trans hjj677
                refine lv_bipush (v := (44 : Int32)) hx hb dX3_readItem_76 (by decide) ?_
                refine lv_goto (tgt := 83) hx hb dX3_readItem_78 (by decide) ?_
                obtain rfl := Option.some.inj h
                exact Jj677 _ _ hP hD hS _ hl
            · have h := (if_pos c_56).symm.trans h
              refine lv_iconst (v := (0 : Int32)) hx hb dX3_readItem_59 (by decide) ?_
              obtain rfl := Option.some.inj h
              subst hQe
              exact W.zret (v := (0 : Int32)) (ty := .boolean) hx hb hr rfl (fun t ht hW => ⟨⟨(0 : Int32), (), rfl, rfl, ⟨by rw [ht]; exact hP.sub [7, 8, 0, 1, 2, 3, 4, 5, 6, 9] rfl, hD.sub [7, 8, 0, 1, 2, 3, 4, 5, 6, 9] (by decide +kernel) rfl⟩⟩, hS.F ht⟩) hS.2.2 dX3_readItem_60
    exact K25 n (0 : Int32) t_numbers t_place h _ _ hP hD hS _ (lv_sub hl [3, 4, 5, 6, 2, 1, 0] rfl)
  · have h := (if_pos c_17).symm.trans h
    refine lv_iconst (v := (0 : Int32)) hx hb dX3_readItem_20 (by decide) ?_
    obtain rfl := Option.some.inj h
    subst hQe
    exact W.zret (v := (0 : Int32)) (ty := .boolean) hx hb hr rfl (fun t ht hW => ⟨⟨(0 : Int32), (), rfl, rfl, ⟨by rw [ht]; exact hP.sub [8, 0, 1, 2, 3, 4, 5, 6, 7, 9] rfl, hD.sub [8, 0, 1, 2, 3, 4, 5, 6, 7, 9] (by decide +kernel) rfl⟩⟩, hS.F ht⟩) hS.2.2 dX3_readItem_21
def rm_X3_readInto : Room := { frames := 4, cells := 0, slots := 0, locals := 99 }
set_option maxRecDepth 100000 in
set_option maxHeartbeats 8000000 in
theorem c_X3_readInto (l : Launch) (dC : Nat → ClassId) (dI : Nat → Nat → Nat) (cI cS : ClassId) (n sz : Nat) (a_t : Nat) (a_t_numbers : Nat) (a_h : Nat) (a_h_kind : Nat) (a_h_leanTold : Nat) (a_h_needs : Nat) (a_h_firstHears : Nat) (a_h_group : Nat) (a_h_firstPitch : Nat) (a_b : Nat) (t_numbers : Nat → Int32) (t_place : Int32) (h_desks : Int32) (h_kind : Nat → Int32) (h_leanTold : Nat → Int32) (h_needs : Nat → Int32) (h_firstHears : Nat → Int32) (h_group : Nat → Int32) (h_firstPitch : Nat → Int32) (h_oboe : Int32) (h_slip : Int32) (h_warmth : Int32) (h_unheard : Int32) (b : Nat → Int32) (x3 : Int32) (res : Int32 × Int32 × (Nat → Int32) × Int32 × Int32 × Int32 × Int32 × Int32 × (Nat → Int32) × (Nat → Int32) × (Nat → Int32) × (Nat → Int32) × (Nat → Int32) × (Nat → Int32))  (h : F_X3_readInto n t_numbers h_kind h_leanTold h_needs h_firstHears h_group h_firstPitch b x3 = some res) : Met l yX3_readInto wsX3_readInto rm_X3_readInto (va_Pc [.ref a_t, .ref a_h, .ref a_b, .int x3] (PRE (dC, dI) vwCl [(cI, .int), (cS, .object "RoundOfTheA$State")] sz [(a_t, .inr (3, [.ref a_t_numbers, .int t_place])), (a_t_numbers, .inl (cI, 4, .inl t_numbers)), (a_h, .inr (0, [.int h_desks, .ref a_h_kind, .ref a_h_leanTold, .ref a_h_needs, .ref a_h_firstHears, .ref a_h_group, .ref a_h_firstPitch, .int h_oboe, .int h_slip, .int h_warmth, .int h_unheard])), (a_h_kind, .inl (cI, 8, .inl h_kind)), (a_h_leanTold, .inl (cI, 8, .inl h_leanTold)), (a_h_needs, .inl (cI, 8, .inl h_needs)), (a_h_firstHears, .inl (cI, 8, .inl h_firstHears)), (a_h_group, .inl (cI, 8, .inl h_group)), (a_h_firstPitch, .inl (cI, 8, .inl h_firstPitch)), (a_b, .inl (cI, 200, .inl b))])) (va_Qi (fun (r : Int32) (_ : Unit) => r = res.1) (fun u t => POST (dC, dI) vwCl [(a_t, .inr (3, [.ref a_t_numbers, .int res.2.1])), (a_t_numbers, .inl (cI, 4, .inl res.2.2.1)), (a_h, .inr (0, [.int res.2.2.2.1, .ref a_h_kind, .ref a_h_leanTold, .ref a_h_needs, .ref a_h_firstHears, .ref a_h_group, .ref a_h_firstPitch, .int res.2.2.2.2.1, .int res.2.2.2.2.2.1, .int res.2.2.2.2.2.2.1, .int res.2.2.2.2.2.2.2.1])), (a_h_kind, .inl (cI, 8, .inl res.2.2.2.2.2.2.2.2.1)), (a_h_leanTold, .inl (cI, 8, .inl res.2.2.2.2.2.2.2.2.2.1)), (a_h_needs, .inl (cI, 8, .inl res.2.2.2.2.2.2.2.2.2.2.1)), (a_h_firstHears, .inl (cI, 8, .inl res.2.2.2.2.2.2.2.2.2.2.2.1)), (a_h_group, .inl (cI, 8, .inl res.2.2.2.2.2.2.2.2.2.2.2.2.1)), (a_h_firstPitch, .inl (cI, 8, .inl res.2.2.2.2.2.2.2.2.2.2.2.2.2)), (a_b, .inl (cI, 200, .inl b))] (va_A [(a_t, .inr (3, [.ref a_t_numbers, .int t_place])), (a_t_numbers, .inl (cI, 4, .inl t_numbers)), (a_h, .inr (0, [.int h_desks, .ref a_h_kind, .ref a_h_leanTold, .ref a_h_needs, .ref a_h_firstHears, .ref a_h_group, .ref a_h_firstPitch, .int h_oboe, .int h_slip, .int h_warmth, .int h_unheard])), (a_h_kind, .inl (cI, 8, .inl h_kind)), (a_h_leanTold, .inl (cI, 8, .inl h_leanTold)), (a_h_needs, .inl (cI, 8, .inl h_needs)), (a_h_firstHears, .inl (cI, 8, .inl h_firstHears)), (a_h_group, .inl (cI, 8, .inl h_group)), (a_h_firstPitch, .inl (cI, 8, .inl h_firstPitch)), (a_b, .inl (cI, 200, .inl b))] sz) t) (va_A [(a_t, .inr (3, [.ref a_t_numbers, .int t_place])), (a_t_numbers, .inl (cI, 4, .inl t_numbers)), (a_h, .inr (0, [.int h_desks, .ref a_h_kind, .ref a_h_leanTold, .ref a_h_needs, .ref a_h_firstHears, .ref a_h_group, .ref a_h_firstPitch, .int h_oboe, .int h_slip, .int h_warmth, .int h_unheard])), (a_h_kind, .inl (cI, 8, .inl h_kind)), (a_h_leanTold, .inl (cI, 8, .inl h_leanTold)), (a_h_needs, .inl (cI, 8, .inl h_needs)), (a_h_firstHears, .inl (cI, 8, .inl h_firstHears)), (a_h_group, .inl (cI, 8, .inl h_group)), (a_h_firstPitch, .inl (cI, 8, .inl h_firstPitch)), (a_b, .inl (cI, 200, .inl b))] sz)) 0 0 (va_A [(a_t, .inr (3, [.ref a_t_numbers, .int t_place])), (a_t_numbers, .inl (cI, 4, .inl t_numbers)), (a_h, .inr (0, [.int h_desks, .ref a_h_kind, .ref a_h_leanTold, .ref a_h_needs, .ref a_h_firstHears, .ref a_h_group, .ref a_h_firstPitch, .int h_oboe, .int h_slip, .int h_warmth, .int h_unheard])), (a_h_kind, .inl (cI, 8, .inl h_kind)), (a_h_leanTold, .inl (cI, 8, .inl h_leanTold)), (a_h_needs, .inl (cI, 8, .inl h_needs)), (a_h_firstHears, .inl (cI, 8, .inl h_firstHears)), (a_h_group, .inl (cI, 8, .inl h_group)), (a_h_firstPitch, .inl (cI, 8, .inl h_firstPitch)), (a_b, .inl (cI, 200, .inl b))] sz) := by
  refine Met.ofW (cc := cX3_readInto) (maxL := 7) (ret := (some .int)) (by decide) rfl ?_
  intro p e s m args below meth c s₁ B hml hv
  obtain ⟨rfl, hsz, hN, hP, hK, hD0⟩ := hv
  have hx := B.exec
  have hb := B.bytes
  have hr := B.returns
  have hts := atoms_spec (ws := wsX3_readInto) B.pre
  have hown : s.vm.findClass RX3 = some m.cls := findClass_of_methodNamed B.named
  have hlocks := B.notSynchronized
  subst hsz
  have hD := hD0.self (sz := s.heap.size)
  generalize hAe : va_A [(a_t, .inr (3, [.ref a_t_numbers, .int t_place])), (a_t_numbers, .inl (cI, 4, .inl t_numbers)), (a_h, .inr (0, [.int h_desks, .ref a_h_kind, .ref a_h_leanTold, .ref a_h_needs, .ref a_h_firstHears, .ref a_h_group, .ref a_h_firstPitch, .int h_oboe, .int h_slip, .int h_warmth, .int h_unheard])), (a_h_kind, .inl (cI, 8, .inl h_kind)), (a_h_leanTold, .inl (cI, 8, .inl h_leanTold)), (a_h_needs, .inl (cI, 8, .inl h_needs)), (a_h_firstHears, .inl (cI, 8, .inl h_firstHears)), (a_h_group, .inl (cI, 8, .inl h_group)), (a_h_firstPitch, .inl (cI, 8, .inl h_firstPitch)), (a_b, .inl (cI, 200, .inl b))] s.heap.size = A at hD ⊢
  have hA : ∀ q : Nat, s.heap.size ≤ q → A q := fun q h => by rw [← hAe]; exact Or.inr h
  have hS : va_S A s.heap s.heap [] := va_S.rf
  generalize hQe : MQ below _ _ s _ _ A = QQ
  have hl := lv_entry ([.ref a_t, .ref a_h, .ref a_b, .int x3]) (n := 7) (Nat.le_of_ble_eq_true rfl)
  rw [lg_entry_eq]
  generalize (lg_sl ([.ref a_t, .ref a_h, .ref a_b, .int x3]) ++ List.replicate (7 - (lg_sl ([.ref a_t, .ref a_h, .ref a_b, .int x3])).length) Slot.unset).toArray = ls at hl ⊢
  have hl : lv_has ls 7 [(0, .ref a_t), (1, .ref a_h), (2, .ref a_b), (3, .int x3)] := hl
  have m_19 := hts (.methodLink RX3 19 Lib.Math.min.name) (by decide +kernel)
  have ms_min := hts (.static Lib.Math.min.name) (by decide +kernel)
  have m_mi := hts (.initialized "java/lang/Math") (by decide +kernel)
  have mc_min := hts (.code Lib.Math.min.name Lib.Math.min.code 2 (some .int)) (by decide +kernel)
  have f_15 := hts (.fieldLink RX3 15 "RoundOfTheA$TextReader" "place" "I") (by decide +kernel)
  have in_X3 := (by decide +kernel : ∀ w ∈ wsX30, w ∈ wsX3_readInto)
  rw [F_X3_readInto] at h
  refine lv_iload_n hx hb dX3_readInto_0 rfl (lv_at hl 3 rfl) ?_
  refine lv_aload_n hx hb dX3_readInto_1 rfl (lv_at hl 2 rfl) ?_
  refine va_alen hx hb hK hP 9 0 rfl rfl (v := (200 : Int32)) rfl dX3_readInto_2 ?_
  refine va_mmin hx hb (hml.trans hl.1.symm) hown m_19 ms_min m_mi mc_min (Nat.le_of_ble_eq_true rfl) (Nat.le_of_ble_eq_true rfl) (Nat.le_of_ble_eq_true rfl) (Nat.le_of_ble_eq_true rfl) dX3_readInto_3 ?_
  refine lv_istore (lv' := [(4, .int (if (200 : Int32) < x3 then (200 : Int32) else x3)), (0, .ref a_t), (1, .ref a_h), (2, .ref a_b), (3, .int x3)]) hx hb dX3_readInto_6 hl (by decide) rfl (fun ls hl => ?_)
  refine lv_aload_n hx hb dX3_readInto_8 rfl (lv_at hl 2 rfl) ?_
  obtain ⟨r698, hr698, h⟩ := ob h
  refine k_Vv (As := []) (rest := []) (wr := [(a_t, .inr (3, [.ref a_t_numbers, .int t_place])), (a_t_numbers, .inl (cI, 4, .inl t_numbers)), (a_h_kind, .inl (cI, 8, .inl h_kind)), (a_h_leanTold, .inl (cI, 8, .inl h_leanTold)), (a_h_needs, .inl (cI, 8, .inl h_needs)), (a_h_firstHears, .inl (cI, 8, .inl h_firstHears)), (a_h_group, .inl (cI, 8, .inl h_group)), (a_h_firstPitch, .inl (cI, 8, .inl h_firstPitch)), (a_b, .inl (cI, 200, .inl b))]) (c_X0_clear l dC dI cI cS n _ a_h a_h_kind a_h_leanTold a_h_needs a_h_firstHears a_h_group a_h_firstPitch h_desks h_oboe h_slip h_warmth h_unheard r698 hr698) ⟨hx, hb, hml, hown, hts⟩ (cwV 0 hts gX3_readInto_X0_clear rfl rfl rfl (by decide +kernel) ⟨(Nat.le_of_ble_eq_true rfl), (Nat.le_of_ble_eq_true rfl)⟩) hN hK hP hD hS hA [2] [0, 1, 3, 4, 5, 6, 7, 8, 9] rfl rfl (by decide) (by decide) (by decide) rfl rfl rfl hl.1 rfl (Nat.le_of_ble_eq_true rfl) dX3_readInto_9 ⟨(Nat.le_of_ble_eq_true rfl), (Nat.le_of_ble_eq_true rfl)⟩ (fun u699 H locs _ hP hD hS => ?_)
  have hP : va_P (dC, dI) vwCl [(a_t, .inr (3, [.ref a_t_numbers, .int t_place])), (a_t_numbers, .inl (cI, 4, .inl t_numbers)), (a_h_kind, .inl (cI, 8, .inl h_kind)), (a_h_leanTold, .inl (cI, 8, .inl h_leanTold)), (a_h_needs, .inl (cI, 8, .inl h_needs)), (a_h_firstHears, .inl (cI, 8, .inl h_firstHears)), (a_h_group, .inl (cI, 8, .inl h_group)), (a_h_firstPitch, .inl (cI, 8, .inl h_firstPitch)), (a_b, .inl (cI, 200, .inl b)), (a_h, .inr (0, [.int r698.1, .ref a_h_kind, .ref a_h_leanTold, .ref a_h_needs, .ref a_h_firstHears, .ref a_h_group, .ref a_h_firstPitch, .int r698.2.1, .int r698.2.2.1, .int r698.2.2.2.1, .int r698.2.2.2.2]))] H := hP
  have hD : va_D A [(a_t, .inr (3, [.ref a_t_numbers, .int t_place])), (a_t_numbers, .inl (cI, 4, .inl t_numbers)), (a_h_kind, .inl (cI, 8, .inl h_kind)), (a_h_leanTold, .inl (cI, 8, .inl h_leanTold)), (a_h_needs, .inl (cI, 8, .inl h_needs)), (a_h_firstHears, .inl (cI, 8, .inl h_firstHears)), (a_h_group, .inl (cI, 8, .inl h_group)), (a_h_firstPitch, .inl (cI, 8, .inl h_firstPitch)), (a_b, .inl (cI, 200, .inl b)), (a_h, .inr (0, [.int r698.1, .ref a_h_kind, .ref a_h_leanTold, .ref a_h_needs, .ref a_h_firstHears, .ref a_h_group, .ref a_h_firstPitch, .int r698.2.1, .int r698.2.2.1, .int r698.2.2.2.1, .int r698.2.2.2.2]))] := hD
  refine lv_aload_n hx hb dX3_readInto_12 rfl (lv_at hl 1 rfl) ?_
  refine lv_iconst (v := (0 : Int32)) hx hb dX3_readInto_13 (by decide) ?_
  refine va_put (D := (dC, dI)) (ci := 3) (v := .int (0 : Int32)) (ty := .int) (C := RX3) (T := TX3) (N := 2) hx hb hts in_X3 tyX3 tyX3_ok nmX3 hown hK hP hD hS 0 rfl rfl 1 (by decide) f_15 (fun _ h9 => h9) rfl (by decide +kernel) rfl rfl (Nat.le_of_ble_eq_true rfl) dX3_readInto_14 (fun H locs hP hD hS => ?_)
  have hP : va_P (dC, dI) vwCl [(a_t, .inr (3, [.ref a_t_numbers, .int (0 : Int32)])), (a_t_numbers, .inl (cI, 4, .inl t_numbers)), (a_h_kind, .inl (cI, 8, .inl h_kind)), (a_h_leanTold, .inl (cI, 8, .inl h_leanTold)), (a_h_needs, .inl (cI, 8, .inl h_needs)), (a_h_firstHears, .inl (cI, 8, .inl h_firstHears)), (a_h_group, .inl (cI, 8, .inl h_group)), (a_h_firstPitch, .inl (cI, 8, .inl h_firstPitch)), (a_b, .inl (cI, 200, .inl b)), (a_h, .inr (0, [.int r698.1, .ref a_h_kind, .ref a_h_leanTold, .ref a_h_needs, .ref a_h_firstHears, .ref a_h_group, .ref a_h_firstPitch, .int r698.2.1, .int r698.2.2.1, .int r698.2.2.2.1, .int r698.2.2.2.2]))] H := hP
  have hD : va_D A [(a_t, .inr (3, [.ref a_t_numbers, .int (0 : Int32)])), (a_t_numbers, .inl (cI, 4, .inl t_numbers)), (a_h_kind, .inl (cI, 8, .inl h_kind)), (a_h_leanTold, .inl (cI, 8, .inl h_leanTold)), (a_h_needs, .inl (cI, 8, .inl h_needs)), (a_h_firstHears, .inl (cI, 8, .inl h_firstHears)), (a_h_group, .inl (cI, 8, .inl h_group)), (a_h_firstPitch, .inl (cI, 8, .inl h_firstPitch)), (a_b, .inl (cI, 200, .inl b)), (a_h, .inr (0, [.int r698.1, .ref a_h_kind, .ref a_h_leanTold, .ref a_h_needs, .ref a_h_firstHears, .ref a_h_group, .ref a_h_firstPitch, .int r698.2.1, .int r698.2.2.1, .int r698.2.2.2.1, .int r698.2.2.2.2]))] := hD
  refine lv_iconst (v := (0 : Int32)) hx hb dX3_readInto_17 (by decide) ?_
  refine lv_istore (lv' := [(5, .int (0 : Int32)), (4, .int (if (200 : Int32) < x3 then (200 : Int32) else x3)), (0, .ref a_t), (1, .ref a_h), (2, .ref a_b), (3, .int x3)]) hx hb dX3_readInto_18 hl (by decide) rfl (fun ls hl => ?_)
  have K20 : ∀ (k : Nat) (y5_20 : Int32) (t_1v_20 : Int32) (t_numbersv_20 : Nat → Int32) (h_kindv_20 : Nat → Int32) (h_leanToldv_20 : Nat → Int32) (h_needsv_20 : Nat → Int32) (h_firstHearsv_20 : Nat → Int32) (h_groupv_20 : Nat → Int32) (h_firstPitchv_20 : Nat → Int32) (h_0v_20 : Int32) (h_7v_20 : Int32) (h_8v_20 : Int32) (h_9v_20 : Int32) (h_10v_20 : Int32), L_X3_readInto_20 n b x3 k y5_20 t_1v_20 t_numbersv_20 h_kindv_20 h_leanToldv_20 h_needsv_20 h_firstHearsv_20 h_groupv_20 h_firstPitchv_20 h_0v_20 h_7v_20 h_8v_20 h_9v_20 h_10v_20 = some res → ∀ (H : Heap) (locs : List Loc), va_P (dC, dI) vwCl [(a_t, .inr (3, [.ref a_t_numbers, .int t_1v_20])), (a_t_numbers, .inl (cI, 4, .inl t_numbersv_20)), (a_h_kind, .inl (cI, 8, .inl h_kindv_20)), (a_h_leanTold, .inl (cI, 8, .inl h_leanToldv_20)), (a_h_needs, .inl (cI, 8, .inl h_needsv_20)), (a_h_firstHears, .inl (cI, 8, .inl h_firstHearsv_20)), (a_h_group, .inl (cI, 8, .inl h_groupv_20)), (a_h_firstPitch, .inl (cI, 8, .inl h_firstPitchv_20)), (a_b, .inl (cI, 200, .inl b)), (a_h, .inr (0, [.int h_0v_20, .ref a_h_kind, .ref a_h_leanTold, .ref a_h_needs, .ref a_h_firstHears, .ref a_h_group, .ref a_h_firstPitch, .int h_7v_20, .int h_8v_20, .int h_9v_20, .int h_10v_20]))] H → va_D A [(a_t, .inr (3, [.ref a_t_numbers, .int t_1v_20])), (a_t_numbers, .inl (cI, 4, .inl t_numbersv_20)), (a_h_kind, .inl (cI, 8, .inl h_kindv_20)), (a_h_leanTold, .inl (cI, 8, .inl h_leanToldv_20)), (a_h_needs, .inl (cI, 8, .inl h_needsv_20)), (a_h_firstHears, .inl (cI, 8, .inl h_firstHearsv_20)), (a_h_group, .inl (cI, 8, .inl h_groupv_20)), (a_h_firstPitch, .inl (cI, 8, .inl h_firstPitchv_20)), (a_b, .inl (cI, 200, .inl b)), (a_h, .inr (0, [.int h_0v_20, .ref a_h_kind, .ref a_h_leanTold, .ref a_h_needs, .ref a_h_firstHears, .ref a_h_group, .ref a_h_firstPitch, .int h_7v_20, .int h_8v_20, .int h_9v_20, .int h_10v_20]))] → va_S A s.heap H locs → ∀ ls : Array Slot, lv_has ls 7 [(0, .ref a_t), (1, .ref a_h), (2, .ref a_b), (3, .int x3), (4, .int (if (200 : Int32) < x3 then (200 : Int32) else x3)), (5, .int y5_20)] → W p l e (headSpec wsX3_readInto rm_X3_readInto).room s m ([.ref a_t, .ref a_h, .ref a_b, .int x3] : List Value).toArray below meth c H locs 0 0 QQ (F0 m 20 ls []) := by
    intro k
    induction k with
    | zero =>
      intro y5_20 t_1v_20 t_numbersv_20 h_kindv_20 h_leanToldv_20 h_needsv_20 h_firstHearsv_20 h_groupv_20 h_firstPitchv_20 h_0v_20 h_7v_20 h_8v_20 h_9v_20 h_10v_20 h
      rw [L_X3_readInto_20] at h
      cases h
    | succ k ih =>
      intro y5_20 t_1v_20 t_numbersv_20 h_kindv_20 h_leanToldv_20 h_needsv_20 h_firstHearsv_20 h_groupv_20 h_firstPitchv_20 h_0v_20 h_7v_20 h_8v_20 h_9v_20 h_10v_20 h H locs hP hD hS ls hl
      rw [L_X3_readInto_20] at h
      refine lv_iload hx hb dX3_readInto_20 (lv_at hl 5 rfl) ?_
      refine lv_iload hx hb dX3_readInto_22 (lv_at hl 4 rfl) ?_
      refine lv_icmp_ge (tgt := 62) hx hb dX3_readInto_24 (by decide) (fun c_24 => ?_) (fun c_24 => ?_)
      · have h := (if_pos c_24).symm.trans h
        refine lv_bipush (v := (-4 : Int32)) hx hb dX3_readInto_62 (by decide) ?_
        obtain rfl := Option.some.inj h
        subst hQe
        exact W.iret (v := (-4 : Int32)) hx hb hr (fun t ht hW => ⟨⟨(-4 : Int32), (), rfl, rfl, ⟨by rw [ht]; exact hP.sub [0, 1, 9, 2, 3, 4, 5, 6, 7, 8] rfl, hD.sub [0, 1, 9, 2, 3, 4, 5, 6, 7, 8] (by decide +kernel) rfl⟩⟩, hS.F ht⟩) hS.2.2 dX3_readInto_64
      · have h := (if_neg c_24).symm.trans h
        refine lv_aload_n hx hb dX3_readInto_27 rfl (lv_at hl 0 rfl) ?_
        refine va_get (D := (dC, dI)) (ci := 3) (v := .int t_1v_20) (C := RX3) (T := TX3) (N := 2) hx hb hts in_X3 hown hK hP 0 rfl rfl 1 (by decide) f_15 (fun _ h9 => h9) rfl dX3_readInto_28 ?_
        refine lv_iload hx hb dX3_readInto_31 (lv_at hl 4 rfl) ?_
        refine lv_icmp_ge (tgt := 62) hx hb dX3_readInto_33 (by decide) (fun c_33 => ?_) (fun c_33 => ?_)
        · have h := (if_pos c_33).symm.trans h
          refine lv_bipush (v := (-4 : Int32)) hx hb dX3_readInto_62 (by decide) ?_
          obtain rfl := Option.some.inj h
          subst hQe
          exact W.iret (v := (-4 : Int32)) hx hb hr (fun t ht hW => ⟨⟨(-4 : Int32), (), rfl, rfl, ⟨by rw [ht]; exact hP.sub [0, 1, 9, 2, 3, 4, 5, 6, 7, 8] rfl, hD.sub [0, 1, 9, 2, 3, 4, 5, 6, 7, 8] (by decide +kernel) rfl⟩⟩, hS.F ht⟩) hS.2.2 dX3_readInto_64
        · have h := (if_neg c_33).symm.trans h
          refine lv_aload_n hx hb dX3_readInto_36 rfl (lv_at hl 0 rfl) ?_
          refine va_get (D := (dC, dI)) (ci := 3) (v := .int t_1v_20) (C := RX3) (T := TX3) (N := 2) hx hb hts in_X3 hown hK hP 0 rfl rfl 1 (by decide) f_15 (fun _ h9 => h9) rfl dX3_readInto_37 ?_
          refine lv_istore (lv' := [(6, .int t_1v_20), (0, .ref a_t), (1, .ref a_h), (2, .ref a_b), (3, .int x3), (4, .int (if (200 : Int32) < x3 then (200 : Int32) else x3)), (5, .int y5_20)]) hx hb dX3_readInto_40 hl (by decide) rfl (fun ls hl => ?_)
          refine lv_aload_n hx hb dX3_readInto_42 rfl (lv_at hl 1 rfl) ?_
          refine lv_aload_n hx hb dX3_readInto_43 rfl (lv_at hl 2 rfl) ?_
          refine lv_aload_n hx hb dX3_readInto_44 rfl (lv_at hl 3 rfl) ?_
          refine lv_iload hx hb dX3_readInto_45 (lv_at hl 5 rfl) ?_
          obtain ⟨r718, hr718, h⟩ := ob h
          refine k_Vi (As := [.ref a_h, .ref a_b, .int (if (200 : Int32) < x3 then (200 : Int32) else x3)]) (rest := []) (wr := []) (c_X3_readItem l dC dI cI cS n _ a_t a_t_numbers a_h a_h_kind a_h_leanTold a_h_needs a_h_firstHears a_h_group a_h_firstPitch a_b t_numbersv_20 t_1v_20 h_0v_20 h_kindv_20 h_leanToldv_20 h_needsv_20 h_firstHearsv_20 h_groupv_20 h_firstPitchv_20 h_7v_20 h_8v_20 h_9v_20 h_10v_20 b (if (200 : Int32) < x3 then (200 : Int32) else x3) r718 hr718) (fun _ _ q => q) ⟨hx, hb, hml, hown, hts⟩ (cwV 3 hts gX3_readInto_X3_readItem rfl rfl rfl (by decide +kernel) ⟨(Nat.le_of_ble_eq_true rfl), (Nat.le_of_ble_eq_true rfl)⟩) hN hK hP hD hS hA [0, 1, 9, 2, 3, 4, 5, 6, 7, 8] [] rfl rfl (by decide) (by decide) (by decide) rfl rfl rfl hl.1 rfl (Nat.le_of_ble_eq_true rfl) dX3_readInto_47 ⟨(Nat.le_of_ble_eq_true rfl), (Nat.le_of_ble_eq_true rfl)⟩ (fun u719 H locs _ hP hD hS => ?_)
          have hP : va_P (dC, dI) vwCl [(a_t, .inr (3, [.ref a_t_numbers, .int r718.2.1])), (a_t_numbers, .inl (cI, 4, .inl r718.2.2.1)), (a_h, .inr (0, [.int r718.2.2.2.1, .ref a_h_kind, .ref a_h_leanTold, .ref a_h_needs, .ref a_h_firstHears, .ref a_h_group, .ref a_h_firstPitch, .int r718.2.2.2.2.1, .int r718.2.2.2.2.2.1, .int r718.2.2.2.2.2.2.1, .int r718.2.2.2.2.2.2.2.1])), (a_h_kind, .inl (cI, 8, .inl r718.2.2.2.2.2.2.2.2.1)), (a_h_leanTold, .inl (cI, 8, .inl r718.2.2.2.2.2.2.2.2.2.1)), (a_h_needs, .inl (cI, 8, .inl r718.2.2.2.2.2.2.2.2.2.2.1)), (a_h_firstHears, .inl (cI, 8, .inl r718.2.2.2.2.2.2.2.2.2.2.2.1)), (a_h_group, .inl (cI, 8, .inl r718.2.2.2.2.2.2.2.2.2.2.2.2.1)), (a_h_firstPitch, .inl (cI, 8, .inl r718.2.2.2.2.2.2.2.2.2.2.2.2.2)), (a_b, .inl (cI, 200, .inl b))] H := hP
          have hD : va_D A [(a_t, .inr (3, [.ref a_t_numbers, .int r718.2.1])), (a_t_numbers, .inl (cI, 4, .inl r718.2.2.1)), (a_h, .inr (0, [.int r718.2.2.2.1, .ref a_h_kind, .ref a_h_leanTold, .ref a_h_needs, .ref a_h_firstHears, .ref a_h_group, .ref a_h_firstPitch, .int r718.2.2.2.2.1, .int r718.2.2.2.2.2.1, .int r718.2.2.2.2.2.2.1, .int r718.2.2.2.2.2.2.2.1])), (a_h_kind, .inl (cI, 8, .inl r718.2.2.2.2.2.2.2.2.1)), (a_h_leanTold, .inl (cI, 8, .inl r718.2.2.2.2.2.2.2.2.2.1)), (a_h_needs, .inl (cI, 8, .inl r718.2.2.2.2.2.2.2.2.2.2.1)), (a_h_firstHears, .inl (cI, 8, .inl r718.2.2.2.2.2.2.2.2.2.2.2.1)), (a_h_group, .inl (cI, 8, .inl r718.2.2.2.2.2.2.2.2.2.2.2.2.1)), (a_h_firstPitch, .inl (cI, 8, .inl r718.2.2.2.2.2.2.2.2.2.2.2.2.2)), (a_b, .inl (cI, 200, .inl b))] := hD
          refine lv_if_ne (tgt := 56) hx hb dX3_readInto_50 (by decide) (fun c_50 => ?_) (fun c_50 => ?_)
          · have h := (if_neg c_50).symm.trans h
            refine lv_iinc (v := (y5_20 + (1 : Int32))) (lv' := [(5, .int (y5_20 + (1 : Int32))), (6, .int t_1v_20), (0, .ref a_t), (1, .ref a_h), (2, .ref a_b), (3, .int x3), (4, .int (if (200 : Int32) < x3 then (200 : Int32) else x3))]) hx hb dX3_readInto_56 hl (k := 6) rfl rfl (by decide) rfl (fun ls hl => ?_)
            refine lv_goto (tgt := 20) hx hb dX3_readInto_59 (by decide) ?_
            exact ih _ _ _ _ _ _ _ _ _ _ _ _ _ _ h _ _ (hP.sub [0, 1, 3, 4, 5, 6, 7, 8, 9, 2] rfl) (hD.sub [0, 1, 3, 4, 5, 6, 7, 8, 9, 2] (by decide +kernel) rfl) hS _ (lv_sub hl [2, 3, 4, 5, 6, 0] rfl)
          · have h := (if_pos c_50).symm.trans h
            refine lv_iload hx hb dX3_readInto_53 (lv_at hl 0 rfl) ?_
            obtain rfl := Option.some.inj h
            subst hQe
            exact W.iret (v := t_1v_20) hx hb hr (fun t ht hW => ⟨⟨t_1v_20, (), rfl, rfl, ⟨by rw [ht]; exact hP, hD⟩⟩, hS.F ht⟩) hS.2.2 dX3_readInto_55
  exact K20 n (0 : Int32) (0 : Int32) t_numbers h_kind h_leanTold h_needs h_firstHears h_group h_firstPitch r698.1 r698.2.1 r698.2.2.1 r698.2.2.2.1 r698.2.2.2.2 h _ _ hP hD hS _ (lv_sub hl [2, 3, 4, 5, 1, 0] rfl)
def rm_X4_init : Room := { frames := 2, cells := 3, slots := 20, locals := 40 }
set_option maxRecDepth 100000 in
set_option maxHeartbeats 8000000 in
theorem c_X4_init (l : Launch) (dC : Nat → ClassId) (dI : Nat → Nat → Nat) (cI cS : ClassId) (n sz : Nat) (a_t : Nat) (res : Unit)  (h : F_X4_init n = some res) : Met l yX4_init wsX4_init rm_X4_init (va_Pc [.ref a_t] (PRE (dC, dI) vwCl [(cI, .int), (cS, .object "RoundOfTheA$State")] sz [(a_t, .inr (4, [.null, .int (0 : Int32), .int (0 : Int32), .int (0 : Int32), .int (0 : Int32)]))])) (va_Qv (fun _ : Nat × Nat × Nat => True) (fun u t => POST (dC, dI) vwCl [(a_t, .inr (4, [.ref u.1, .int (-1 : Int32), .int (0 : Int32), .int (0 : Int32), .int (0 : Int32)])), (u.1, .inr (2, [.ref u.2.1, .ref u.2.2, .int (0 : Int32), .int (0 : Int32)])), (u.2.1, .inl (cI, 8, .inl (fun _ => 0))), (u.2.2, .inl (cI, 8, .inl (fun _ => 0)))] (va_A [(a_t, .inr (4, [.null, .int (0 : Int32), .int (0 : Int32), .int (0 : Int32), .int (0 : Int32)]))] sz) t) (va_A [(a_t, .inr (4, [.null, .int (0 : Int32), .int (0 : Int32), .int (0 : Int32), .int (0 : Int32)]))] sz)) 3 20 (va_A [(a_t, .inr (4, [.null, .int (0 : Int32), .int (0 : Int32), .int (0 : Int32), .int (0 : Int32)]))] sz) := by
  refine Met.ofW (cc := cX4_init) (maxL := 1) (ret := none) (by decide) rfl ?_
  intro p e s m args below meth c s₁ B hml hv
  obtain ⟨rfl, hsz, hN, hP, hK, hD0⟩ := hv
  have hx := B.exec
  have hb := B.bytes
  have hr := B.returns
  have hts := atoms_spec (ws := wsX4_init) B.pre
  have hown : s.vm.findClass RX4 = some m.cls := findClass_of_methodNamed B.named
  have hlocks := B.notSynchronized
  have hin : meth.name = "<init>" := (name_of_methodNamed B.named B.method).1
  subst hsz
  have hD := hD0.self (sz := s.heap.size)
  generalize hAe : va_A [(a_t, .inr (4, [.null, .int (0 : Int32), .int (0 : Int32), .int (0 : Int32), .int (0 : Int32)]))] s.heap.size = A at hD ⊢
  have hA : ∀ q : Nat, s.heap.size ≤ q → A q := fun q h => by rw [← hAe]; exact Or.inr h
  have hS : va_S A s.heap s.heap [] := va_S.rf
  generalize hQe : MQ below _ _ s _ _ A = QQ
  have hl := lv_entry ([.ref a_t]) (n := 1) (Nat.le_of_ble_eq_true rfl)
  rw [lg_entry_eq]
  generalize (lg_sl ([.ref a_t]) ++ List.replicate (1 - (lg_sl ([.ref a_t])).length) Slot.unset).toArray = ls at hl ⊢
  have hl : lv_has ls 1 [(0, .ref a_t)] := hl
  have m_3 := hts (.methodLink RX4 3 objectInit) (by decide +kernel)
  have m_oi := hts (.instanceMethod objectInit) (by decide +kernel)
  have m_oc := hts (.code objectInit ⟨#[0xb1]⟩ 1 none) (by decide +kernel)
  have k_9 := hts (.classLink RX4 9 RX2) (by decide +kernel)
  have k_inX2 := hts (.instantiable RX2 4) (by decide +kernel)
  have k_iniX2 := hts (.initialized RX2) (by decide +kernel)
  have in_X2 := (by decide +kernel : ∀ w ∈ wsX20, w ∈ wsX4_init)
  have m_in_X2_init := hts (.instanceMethod yX2_init) (by decide +kernel)
  have f_12 := hts (.fieldLink RX4 12 "RoundOfTheA$Tuner" "ahead" "LRoundOfTheA$State;") (by decide +kernel)
  have in_X4 := (by decide +kernel : ∀ w ∈ wsX40, w ∈ wsX4_init)
  have f_18 := hts (.fieldLink RX4 18 "RoundOfTheA$Tuner" "straightDesk" "I") (by decide +kernel)
  have f_22 := hts (.fieldLink RX4 22 "RoundOfTheA$Tuner" "draws" "Z") (by decide +kernel)
  have f_26 := hts (.fieldLink RX4 26 "RoundOfTheA$Tuner" "drawSeed" "I") (by decide +kernel)
  have f_29 := hts (.fieldLink RX4 29 "RoundOfTheA$Tuner" "drawn" "I") (by decide +kernel)
  rw [F_X4_init] at h
  refine lv_aload_n hx hb dX4_init_0 rfl (lv_at hl 0 rfl) ?_
  refine W.objInit hx hb hown m_3 m_oi m_oc rfl (by rw [hml]; exact hl.1) rfl dX4_init_1 (Nat.le_of_ble_eq_true rfl) (Nat.le_of_ble_eq_true rfl) ?_
  refine W.eq (g2 := F0 m 4 ls []) rfl ?_
  refine lv_aload_n hx hb dX4_init_4 rfl (lv_at hl 0 rfl) ?_
  refine va_new (ci := 2) (fs := [.null, .null, .int (0 : Int32), .int (0 : Int32)]) (C := RX2) (T := TX2) (N := 4) hx hb hts in_X2 tyX2 tyX2_ok hown k_9 k_inX2 k_iniX2 hK hP hD hS hA rfl (fun j hj => by rcases (show j = 0 ∨ j = 1 ∨ j = 2 ∨ j = 3 by omega) with rfl | rfl | rfl | rfl <;> rfl) (Nat.le_of_ble_eq_true rfl) (Nat.le_of_ble_eq_true rfl) dX4_init_5 (fun o726 H hP hD hS => ?_)
  refine W.widen (k := 1) (n := 4) (Nat.le_of_ble_eq_true rfl) (Nat.le_of_ble_eq_true rfl) ?_
  have hP : va_P (dC, dI) vwCl [(a_t, .inr (4, [.null, .int (0 : Int32), .int (0 : Int32), .int (0 : Int32), .int (0 : Int32)])), (o726, .inr (2, [.null, .null, .int (0 : Int32), .int (0 : Int32)]))] H := hP
  have hD : va_D A [(a_t, .inr (4, [.null, .int (0 : Int32), .int (0 : Int32), .int (0 : Int32), .int (0 : Int32)])), (o726, .inr (2, [.null, .null, .int (0 : Int32), .int (0 : Int32)]))] := hD
  refine lv_dup hx hb dX4_init_8 rfl ?_
  obtain ⟨r727, hr727, h⟩ := ob h
  refine k_INv (As := []) (rest := [.ref o726, .ref a_t]) (wr := [(a_t, .inr (4, [.null, .int (0 : Int32), .int (0 : Int32), .int (0 : Int32), .int (0 : Int32)]))]) (c_X2_init l dC dI cI cS n _ o726 r727 hr727) ⟨hx, hb, hml, hown, hts⟩ (va_cnB 0 hts gX4_init_X2_init_n11 rfl rfl rfl (hN.1 _ (List.mem_of_getElem? (i := 5) rfl)) k_iniX2 (by decide +kernel) ⟨(Nat.le_of_ble_eq_true rfl), (Nat.le_of_ble_eq_true rfl)⟩) rfl m_in_X2_init hN hK hP hD hS hA [1] [0] rfl rfl (by decide) (by decide) (by decide) rfl hl.1 rfl (Nat.le_of_ble_eq_true rfl) dX4_init_9 ⟨(Nat.le_of_ble_eq_true rfl), (Nat.le_of_ble_eq_true rfl)⟩ (fun u728 H locs _ hP hD hS => ?_)
  refine W.widen (k := 3) (n := 20) (Nat.le_of_ble_eq_true rfl) (Nat.le_of_ble_eq_true rfl) ?_
  have hP : va_P (dC, dI) vwCl [(a_t, .inr (4, [.null, .int (0 : Int32), .int (0 : Int32), .int (0 : Int32), .int (0 : Int32)])), (o726, .inr (2, [.ref u728.1, .ref u728.2, .int (0 : Int32), .int (0 : Int32)])), (u728.1, .inl (cI, 8, .inl (fun _ => 0))), (u728.2, .inl (cI, 8, .inl (fun _ => 0)))] H := hP
  have hD : va_D A [(a_t, .inr (4, [.null, .int (0 : Int32), .int (0 : Int32), .int (0 : Int32), .int (0 : Int32)])), (o726, .inr (2, [.ref u728.1, .ref u728.2, .int (0 : Int32), .int (0 : Int32)])), (u728.1, .inl (cI, 8, .inl (fun _ => 0))), (u728.2, .inl (cI, 8, .inl (fun _ => 0)))] := hD
  refine va_putF (D := (dC, dI)) (ci := 4) (v := .ref o726) (ty := (tyX4 0)) (C := RX4) (T := TX4) (N := 5) hx hb hts in_X4 tyX4 tyX4_ok nmX4 hown hK hP hD hS 0 rfl rfl 0 (by decide) f_12 (fun _ h9 => h9) rfl hin rfl (by decide +kernel) rfl rfl (Nat.le_of_ble_eq_true rfl) dX4_init_12 (fun H locs hP hD hS => ?_)
  have hP : va_P (dC, dI) vwCl [(a_t, .inr (4, [.ref o726, .int (0 : Int32), .int (0 : Int32), .int (0 : Int32), .int (0 : Int32)])), (o726, .inr (2, [.ref u728.1, .ref u728.2, .int (0 : Int32), .int (0 : Int32)])), (u728.1, .inl (cI, 8, .inl (fun _ => 0))), (u728.2, .inl (cI, 8, .inl (fun _ => 0)))] H := hP
  have hD : va_D A [(a_t, .inr (4, [.ref o726, .int (0 : Int32), .int (0 : Int32), .int (0 : Int32), .int (0 : Int32)])), (o726, .inr (2, [.ref u728.1, .ref u728.2, .int (0 : Int32), .int (0 : Int32)])), (u728.1, .inl (cI, 8, .inl (fun _ => 0))), (u728.2, .inl (cI, 8, .inl (fun _ => 0)))] := hD
  refine lv_aload_n hx hb dX4_init_15 rfl (lv_at hl 0 rfl) ?_
  refine lv_iconst (v := (-1 : Int32)) hx hb dX4_init_16 (by decide) ?_
  refine va_put (D := (dC, dI)) (ci := 4) (v := .int (-1 : Int32)) (ty := .int) (C := RX4) (T := TX4) (N := 5) hx hb hts in_X4 tyX4 tyX4_ok nmX4 hown hK hP hD hS 0 rfl rfl 1 (by decide) f_18 (fun _ h9 => h9) rfl (by decide +kernel) rfl rfl (Nat.le_of_ble_eq_true rfl) dX4_init_17 (fun H locs hP hD hS => ?_)
  have hP : va_P (dC, dI) vwCl [(a_t, .inr (4, [.ref o726, .int (-1 : Int32), .int (0 : Int32), .int (0 : Int32), .int (0 : Int32)])), (o726, .inr (2, [.ref u728.1, .ref u728.2, .int (0 : Int32), .int (0 : Int32)])), (u728.1, .inl (cI, 8, .inl (fun _ => 0))), (u728.2, .inl (cI, 8, .inl (fun _ => 0)))] H := hP
  have hD : va_D A [(a_t, .inr (4, [.ref o726, .int (-1 : Int32), .int (0 : Int32), .int (0 : Int32), .int (0 : Int32)])), (o726, .inr (2, [.ref u728.1, .ref u728.2, .int (0 : Int32), .int (0 : Int32)])), (u728.1, .inl (cI, 8, .inl (fun _ => 0))), (u728.2, .inl (cI, 8, .inl (fun _ => 0)))] := hD
  refine lv_aload_n hx hb dX4_init_20 rfl (lv_at hl 0 rfl) ?_
  refine lv_iconst (v := (0 : Int32)) hx hb dX4_init_21 (by decide) ?_
  refine va_put (D := (dC, dI)) (ci := 4) (v := .int (0 : Int32)) (ty := .boolean) (C := RX4) (T := TX4) (N := 5) hx hb hts in_X4 tyX4 tyX4_ok nmX4 hown hK hP hD hS 0 rfl rfl 2 (by decide) f_22 (fun _ h9 => h9) rfl (by decide +kernel) rfl rfl (Nat.le_of_ble_eq_true rfl) dX4_init_22 (fun H locs hP hD hS => ?_)
  have hP : va_P (dC, dI) vwCl [(a_t, .inr (4, [.ref o726, .int (-1 : Int32), .int (0 : Int32), .int (0 : Int32), .int (0 : Int32)])), (o726, .inr (2, [.ref u728.1, .ref u728.2, .int (0 : Int32), .int (0 : Int32)])), (u728.1, .inl (cI, 8, .inl (fun _ => 0))), (u728.2, .inl (cI, 8, .inl (fun _ => 0)))] H := hP
  have hD : va_D A [(a_t, .inr (4, [.ref o726, .int (-1 : Int32), .int (0 : Int32), .int (0 : Int32), .int (0 : Int32)])), (o726, .inr (2, [.ref u728.1, .ref u728.2, .int (0 : Int32), .int (0 : Int32)])), (u728.1, .inl (cI, 8, .inl (fun _ => 0))), (u728.2, .inl (cI, 8, .inl (fun _ => 0)))] := hD
  refine lv_aload_n hx hb dX4_init_25 rfl (lv_at hl 0 rfl) ?_
  refine lv_iconst (v := (0 : Int32)) hx hb dX4_init_26 (by decide) ?_
  refine va_put (D := (dC, dI)) (ci := 4) (v := .int (0 : Int32)) (ty := .int) (C := RX4) (T := TX4) (N := 5) hx hb hts in_X4 tyX4 tyX4_ok nmX4 hown hK hP hD hS 0 rfl rfl 3 (by decide) f_26 (fun _ h9 => h9) rfl (by decide +kernel) rfl rfl (Nat.le_of_ble_eq_true rfl) dX4_init_27 (fun H locs hP hD hS => ?_)
  have hP : va_P (dC, dI) vwCl [(a_t, .inr (4, [.ref o726, .int (-1 : Int32), .int (0 : Int32), .int (0 : Int32), .int (0 : Int32)])), (o726, .inr (2, [.ref u728.1, .ref u728.2, .int (0 : Int32), .int (0 : Int32)])), (u728.1, .inl (cI, 8, .inl (fun _ => 0))), (u728.2, .inl (cI, 8, .inl (fun _ => 0)))] H := hP
  have hD : va_D A [(a_t, .inr (4, [.ref o726, .int (-1 : Int32), .int (0 : Int32), .int (0 : Int32), .int (0 : Int32)])), (o726, .inr (2, [.ref u728.1, .ref u728.2, .int (0 : Int32), .int (0 : Int32)])), (u728.1, .inl (cI, 8, .inl (fun _ => 0))), (u728.2, .inl (cI, 8, .inl (fun _ => 0)))] := hD
  refine lv_aload_n hx hb dX4_init_30 rfl (lv_at hl 0 rfl) ?_
  refine lv_iconst (v := (0 : Int32)) hx hb dX4_init_31 (by decide) ?_
  refine va_put (D := (dC, dI)) (ci := 4) (v := .int (0 : Int32)) (ty := .int) (C := RX4) (T := TX4) (N := 5) hx hb hts in_X4 tyX4 tyX4_ok nmX4 hown hK hP hD hS 0 rfl rfl 4 (by decide) f_29 (fun _ h9 => h9) rfl (by decide +kernel) rfl rfl (Nat.le_of_ble_eq_true rfl) dX4_init_32 (fun H locs hP hD hS => ?_)
  have hP : va_P (dC, dI) vwCl [(a_t, .inr (4, [.ref o726, .int (-1 : Int32), .int (0 : Int32), .int (0 : Int32), .int (0 : Int32)])), (o726, .inr (2, [.ref u728.1, .ref u728.2, .int (0 : Int32), .int (0 : Int32)])), (u728.1, .inl (cI, 8, .inl (fun _ => 0))), (u728.2, .inl (cI, 8, .inl (fun _ => 0)))] H := hP
  have hD : va_D A [(a_t, .inr (4, [.ref o726, .int (-1 : Int32), .int (0 : Int32), .int (0 : Int32), .int (0 : Int32)])), (o726, .inr (2, [.ref u728.1, .ref u728.2, .int (0 : Int32), .int (0 : Int32)])), (u728.1, .inl (cI, 8, .inl (fun _ => 0))), (u728.2, .inl (cI, 8, .inl (fun _ => 0)))] := hD
  obtain rfl := Option.some.inj h
  subst hQe
  refine W.widen (k := 3) (n := 20) (Nat.le_of_ble_eq_true rfl) (Nat.le_of_ble_eq_true rfl) ?_
  exact W.vret hx hb hr (fun t ht hW => ⟨⟨(o726, u728.1, u728.2), rfl, trivial, ⟨by rw [ht]; exact hP, hD⟩⟩, hS.F ht⟩) hS.2.2 dX4_init_35
def rm_X4_tuneAsIs : Room := { frames := 0, cells := 0, slots := 0, locals := 0 }
set_option maxRecDepth 100000 in
set_option maxHeartbeats 8000000 in
theorem c_X4_tuneAsIs (l : Launch) (dC : Nat → ClassId) (dI : Nat → Nat → Nat) (cI cS : ClassId) (n sz : Nat) (a_t : Nat) (a_t_ahead : Nat) (t_straightDesk : Int32) (t_draws : Int32) (t_drawSeed : Int32) (t_drawn : Int32) (res : Int32 × Int32)  (h : F_X4_tuneAsIs n = some res) : Met l yX4_tuneAsIs wsX4_tuneAsIs rm_X4_tuneAsIs (va_Pc [.ref a_t] (PRE (dC, dI) vwCl [(cI, .int), (cS, .object "RoundOfTheA$State")] sz [(a_t, .inr (4, [.ref a_t_ahead, .int t_straightDesk, .int t_draws, .int t_drawSeed, .int t_drawn]))])) (va_Qv (fun _ : Unit => True) (fun u t => POST (dC, dI) vwCl [(a_t, .inr (4, [.ref a_t_ahead, .int res.1, .int res.2, .int t_drawSeed, .int t_drawn]))] (va_A [(a_t, .inr (4, [.ref a_t_ahead, .int t_straightDesk, .int t_draws, .int t_drawSeed, .int t_drawn]))] sz) t) (va_A [(a_t, .inr (4, [.ref a_t_ahead, .int t_straightDesk, .int t_draws, .int t_drawSeed, .int t_drawn]))] sz)) 0 0 (va_A [(a_t, .inr (4, [.ref a_t_ahead, .int t_straightDesk, .int t_draws, .int t_drawSeed, .int t_drawn]))] sz) := by
  refine Met.ofW (cc := cX4_tuneAsIs) (maxL := 1) (ret := none) (by decide) rfl ?_
  intro p e s m args below meth c s₁ B hml hv
  obtain ⟨rfl, hsz, hN, hP, hK, hD0⟩ := hv
  have hx := B.exec
  have hb := B.bytes
  have hr := B.returns
  have hts := atoms_spec (ws := wsX4_tuneAsIs) B.pre
  have hown : s.vm.findClass RX4 = some m.cls := findClass_of_methodNamed B.named
  have hlocks := B.notSynchronized
  subst hsz
  have hD := hD0.self (sz := s.heap.size)
  generalize hAe : va_A [(a_t, .inr (4, [.ref a_t_ahead, .int t_straightDesk, .int t_draws, .int t_drawSeed, .int t_drawn]))] s.heap.size = A at hD ⊢
  have hA : ∀ q : Nat, s.heap.size ≤ q → A q := fun q h => by rw [← hAe]; exact Or.inr h
  have hS : va_S A s.heap s.heap [] := va_S.rf
  generalize hQe : MQ below _ _ s _ _ A = QQ
  have hl := lv_entry ([.ref a_t]) (n := 1) (Nat.le_of_ble_eq_true rfl)
  rw [lg_entry_eq]
  generalize (lg_sl ([.ref a_t]) ++ List.replicate (1 - (lg_sl ([.ref a_t])).length) Slot.unset).toArray = ls at hl ⊢
  have hl : lv_has ls 1 [(0, .ref a_t)] := hl
  have f_18 := hts (.fieldLink RX4 18 "RoundOfTheA$Tuner" "straightDesk" "I") (by decide +kernel)
  have in_X4 := (by decide +kernel : ∀ w ∈ wsX40, w ∈ wsX4_tuneAsIs)
  have f_22 := hts (.fieldLink RX4 22 "RoundOfTheA$Tuner" "draws" "Z") (by decide +kernel)
  rw [F_X4_tuneAsIs] at h
  refine lv_aload_n hx hb dX4_tuneAsIs_0 rfl (lv_at hl 0 rfl) ?_
  refine lv_iconst (v := (-1 : Int32)) hx hb dX4_tuneAsIs_1 (by decide) ?_
  refine va_put (D := (dC, dI)) (ci := 4) (v := .int (-1 : Int32)) (ty := .int) (C := RX4) (T := TX4) (N := 5) hx hb hts in_X4 tyX4 tyX4_ok nmX4 hown hK hP hD hS 0 rfl rfl 1 (by decide) f_18 (fun _ h9 => h9) rfl (by decide +kernel) rfl rfl (Nat.le_of_ble_eq_true rfl) dX4_tuneAsIs_2 (fun H locs hP hD hS => ?_)
  have hP : va_P (dC, dI) vwCl [(a_t, .inr (4, [.ref a_t_ahead, .int (-1 : Int32), .int t_draws, .int t_drawSeed, .int t_drawn]))] H := hP
  have hD : va_D A [(a_t, .inr (4, [.ref a_t_ahead, .int (-1 : Int32), .int t_draws, .int t_drawSeed, .int t_drawn]))] := hD
  refine lv_aload_n hx hb dX4_tuneAsIs_5 rfl (lv_at hl 0 rfl) ?_
  refine lv_iconst (v := (0 : Int32)) hx hb dX4_tuneAsIs_6 (by decide) ?_
  refine va_put (D := (dC, dI)) (ci := 4) (v := .int (0 : Int32)) (ty := .boolean) (C := RX4) (T := TX4) (N := 5) hx hb hts in_X4 tyX4 tyX4_ok nmX4 hown hK hP hD hS 0 rfl rfl 2 (by decide) f_22 (fun _ h9 => h9) rfl (by decide +kernel) rfl rfl (Nat.le_of_ble_eq_true rfl) dX4_tuneAsIs_7 (fun H locs hP hD hS => ?_)
  have hP : va_P (dC, dI) vwCl [(a_t, .inr (4, [.ref a_t_ahead, .int (-1 : Int32), .int (0 : Int32), .int t_drawSeed, .int t_drawn]))] H := hP
  have hD : va_D A [(a_t, .inr (4, [.ref a_t_ahead, .int (-1 : Int32), .int (0 : Int32), .int t_drawSeed, .int t_drawn]))] := hD
  obtain rfl := Option.some.inj h
  subst hQe
  exact W.vret hx hb hr (fun t ht hW => ⟨⟨(), rfl, trivial, ⟨by rw [ht]; exact hP, hD⟩⟩, hS.F ht⟩) hS.2.2 dX4_tuneAsIs_10
def rm_X4_straighten : Room := { frames := 0, cells := 0, slots := 0, locals := 0 }
set_option maxRecDepth 100000 in
set_option maxHeartbeats 8000000 in
theorem c_X4_straighten (l : Launch) (dC : Nat → ClassId) (dI : Nat → Nat → Nat) (cI cS : ClassId) (n sz : Nat) (a_t : Nat) (a_t_ahead : Nat) (t_straightDesk : Int32) (t_draws : Int32) (t_drawSeed : Int32) (t_drawn : Int32) (x1 : Int32) (res : Int32)  (h : F_X4_straighten n x1 = some res) : Met l yX4_straighten wsX4_straighten rm_X4_straighten (va_Pc [.ref a_t, .int x1] (PRE (dC, dI) vwCl [(cI, .int), (cS, .object "RoundOfTheA$State")] sz [(a_t, .inr (4, [.ref a_t_ahead, .int t_straightDesk, .int t_draws, .int t_drawSeed, .int t_drawn]))])) (va_Qv (fun _ : Unit => True) (fun u t => POST (dC, dI) vwCl [(a_t, .inr (4, [.ref a_t_ahead, .int res, .int t_draws, .int t_drawSeed, .int t_drawn]))] (va_A [(a_t, .inr (4, [.ref a_t_ahead, .int t_straightDesk, .int t_draws, .int t_drawSeed, .int t_drawn]))] sz) t) (va_A [(a_t, .inr (4, [.ref a_t_ahead, .int t_straightDesk, .int t_draws, .int t_drawSeed, .int t_drawn]))] sz)) 0 0 (va_A [(a_t, .inr (4, [.ref a_t_ahead, .int t_straightDesk, .int t_draws, .int t_drawSeed, .int t_drawn]))] sz) := by
  refine Met.ofW (cc := cX4_straighten) (maxL := 2) (ret := none) (by decide) rfl ?_
  intro p e s m args below meth c s₁ B hml hv
  obtain ⟨rfl, hsz, hN, hP, hK, hD0⟩ := hv
  have hx := B.exec
  have hb := B.bytes
  have hr := B.returns
  have hts := atoms_spec (ws := wsX4_straighten) B.pre
  have hown : s.vm.findClass RX4 = some m.cls := findClass_of_methodNamed B.named
  have hlocks := B.notSynchronized
  subst hsz
  have hD := hD0.self (sz := s.heap.size)
  generalize hAe : va_A [(a_t, .inr (4, [.ref a_t_ahead, .int t_straightDesk, .int t_draws, .int t_drawSeed, .int t_drawn]))] s.heap.size = A at hD ⊢
  have hA : ∀ q : Nat, s.heap.size ≤ q → A q := fun q h => by rw [← hAe]; exact Or.inr h
  have hS : va_S A s.heap s.heap [] := va_S.rf
  generalize hQe : MQ below _ _ s _ _ A = QQ
  have hl := lv_entry ([.ref a_t, .int x1]) (n := 2) (Nat.le_of_ble_eq_true rfl)
  rw [lg_entry_eq]
  generalize (lg_sl ([.ref a_t, .int x1]) ++ List.replicate (2 - (lg_sl ([.ref a_t, .int x1])).length) Slot.unset).toArray = ls at hl ⊢
  have hl : lv_has ls 2 [(0, .ref a_t), (1, .int x1)] := hl
  have f_18 := hts (.fieldLink RX4 18 "RoundOfTheA$Tuner" "straightDesk" "I") (by decide +kernel)
  have in_X4 := (by decide +kernel : ∀ w ∈ wsX40, w ∈ wsX4_straighten)
  rw [F_X4_straighten] at h
  refine lv_aload_n hx hb dX4_straighten_0 rfl (lv_at hl 0 rfl) ?_
  refine lv_iload_n hx hb dX4_straighten_1 rfl (lv_at hl 1 rfl) ?_
  refine va_put (D := (dC, dI)) (ci := 4) (v := .int x1) (ty := .int) (C := RX4) (T := TX4) (N := 5) hx hb hts in_X4 tyX4 tyX4_ok nmX4 hown hK hP hD hS 0 rfl rfl 1 (by decide) f_18 (fun _ h9 => h9) rfl (by decide +kernel) rfl rfl (Nat.le_of_ble_eq_true rfl) dX4_straighten_2 (fun H locs hP hD hS => ?_)
  have hP : va_P (dC, dI) vwCl [(a_t, .inr (4, [.ref a_t_ahead, .int x1, .int t_draws, .int t_drawSeed, .int t_drawn]))] H := hP
  have hD : va_D A [(a_t, .inr (4, [.ref a_t_ahead, .int x1, .int t_draws, .int t_drawSeed, .int t_drawn]))] := hD
  obtain rfl := Option.some.inj h
  subst hQe
  exact W.vret hx hb hr (fun t ht hW => ⟨⟨(), rfl, trivial, ⟨by rw [ht]; exact hP, hD⟩⟩, hS.F ht⟩) hS.2.2 dX4_straighten_5
def rm_X4_drawBy : Room := { frames := 0, cells := 0, slots := 0, locals := 0 }
set_option maxRecDepth 100000 in
set_option maxHeartbeats 8000000 in
theorem c_X4_drawBy (l : Launch) (dC : Nat → ClassId) (dI : Nat → Nat → Nat) (cI cS : ClassId) (n sz : Nat) (a_t : Nat) (a_t_ahead : Nat) (t_straightDesk : Int32) (t_draws : Int32) (t_drawSeed : Int32) (t_drawn : Int32) (x1 : Int32) (res : Int32 × Int32 × Int32)  (h : F_X4_drawBy n x1 = some res) : Met l yX4_drawBy wsX4_drawBy rm_X4_drawBy (va_Pc [.ref a_t, .int x1] (PRE (dC, dI) vwCl [(cI, .int), (cS, .object "RoundOfTheA$State")] sz [(a_t, .inr (4, [.ref a_t_ahead, .int t_straightDesk, .int t_draws, .int t_drawSeed, .int t_drawn]))])) (va_Qv (fun _ : Unit => True) (fun u t => POST (dC, dI) vwCl [(a_t, .inr (4, [.ref a_t_ahead, .int t_straightDesk, .int res.1, .int res.2.1, .int res.2.2]))] (va_A [(a_t, .inr (4, [.ref a_t_ahead, .int t_straightDesk, .int t_draws, .int t_drawSeed, .int t_drawn]))] sz) t) (va_A [(a_t, .inr (4, [.ref a_t_ahead, .int t_straightDesk, .int t_draws, .int t_drawSeed, .int t_drawn]))] sz)) 0 0 (va_A [(a_t, .inr (4, [.ref a_t_ahead, .int t_straightDesk, .int t_draws, .int t_drawSeed, .int t_drawn]))] sz) := by
  refine Met.ofW (cc := cX4_drawBy) (maxL := 2) (ret := none) (by decide) rfl ?_
  intro p e s m args below meth c s₁ B hml hv
  obtain ⟨rfl, hsz, hN, hP, hK, hD0⟩ := hv
  have hx := B.exec
  have hb := B.bytes
  have hr := B.returns
  have hts := atoms_spec (ws := wsX4_drawBy) B.pre
  have hown : s.vm.findClass RX4 = some m.cls := findClass_of_methodNamed B.named
  have hlocks := B.notSynchronized
  subst hsz
  have hD := hD0.self (sz := s.heap.size)
  generalize hAe : va_A [(a_t, .inr (4, [.ref a_t_ahead, .int t_straightDesk, .int t_draws, .int t_drawSeed, .int t_drawn]))] s.heap.size = A at hD ⊢
  have hA : ∀ q : Nat, s.heap.size ≤ q → A q := fun q h => by rw [← hAe]; exact Or.inr h
  have hS : va_S A s.heap s.heap [] := va_S.rf
  generalize hQe : MQ below _ _ s _ _ A = QQ
  have hl := lv_entry ([.ref a_t, .int x1]) (n := 2) (Nat.le_of_ble_eq_true rfl)
  rw [lg_entry_eq]
  generalize (lg_sl ([.ref a_t, .int x1]) ++ List.replicate (2 - (lg_sl ([.ref a_t, .int x1])).length) Slot.unset).toArray = ls at hl ⊢
  have hl : lv_has ls 2 [(0, .ref a_t), (1, .int x1)] := hl
  have f_22 := hts (.fieldLink RX4 22 "RoundOfTheA$Tuner" "draws" "Z") (by decide +kernel)
  have in_X4 := (by decide +kernel : ∀ w ∈ wsX40, w ∈ wsX4_drawBy)
  have f_26 := hts (.fieldLink RX4 26 "RoundOfTheA$Tuner" "drawSeed" "I") (by decide +kernel)
  have f_29 := hts (.fieldLink RX4 29 "RoundOfTheA$Tuner" "drawn" "I") (by decide +kernel)
  rw [F_X4_drawBy] at h
  refine lv_aload_n hx hb dX4_drawBy_0 rfl (lv_at hl 0 rfl) ?_
  refine lv_iconst (v := (1 : Int32)) hx hb dX4_drawBy_1 (by decide) ?_
  refine va_put (D := (dC, dI)) (ci := 4) (v := .int (1 : Int32)) (ty := .boolean) (C := RX4) (T := TX4) (N := 5) hx hb hts in_X4 tyX4 tyX4_ok nmX4 hown hK hP hD hS 0 rfl rfl 2 (by decide) f_22 (fun _ h9 => h9) rfl (by decide +kernel) rfl rfl (Nat.le_of_ble_eq_true rfl) dX4_drawBy_2 (fun H locs hP hD hS => ?_)
  have hP : va_P (dC, dI) vwCl [(a_t, .inr (4, [.ref a_t_ahead, .int t_straightDesk, .int (1 : Int32), .int t_drawSeed, .int t_drawn]))] H := hP
  have hD : va_D A [(a_t, .inr (4, [.ref a_t_ahead, .int t_straightDesk, .int (1 : Int32), .int t_drawSeed, .int t_drawn]))] := hD
  refine lv_aload_n hx hb dX4_drawBy_5 rfl (lv_at hl 0 rfl) ?_
  refine lv_iload_n hx hb dX4_drawBy_6 rfl (lv_at hl 1 rfl) ?_
  refine va_put (D := (dC, dI)) (ci := 4) (v := .int x1) (ty := .int) (C := RX4) (T := TX4) (N := 5) hx hb hts in_X4 tyX4 tyX4_ok nmX4 hown hK hP hD hS 0 rfl rfl 3 (by decide) f_26 (fun _ h9 => h9) rfl (by decide +kernel) rfl rfl (Nat.le_of_ble_eq_true rfl) dX4_drawBy_7 (fun H locs hP hD hS => ?_)
  have hP : va_P (dC, dI) vwCl [(a_t, .inr (4, [.ref a_t_ahead, .int t_straightDesk, .int (1 : Int32), .int x1, .int t_drawn]))] H := hP
  have hD : va_D A [(a_t, .inr (4, [.ref a_t_ahead, .int t_straightDesk, .int (1 : Int32), .int x1, .int t_drawn]))] := hD
  refine lv_aload_n hx hb dX4_drawBy_10 rfl (lv_at hl 0 rfl) ?_
  refine lv_iconst (v := (0 : Int32)) hx hb dX4_drawBy_11 (by decide) ?_
  refine va_put (D := (dC, dI)) (ci := 4) (v := .int (0 : Int32)) (ty := .int) (C := RX4) (T := TX4) (N := 5) hx hb hts in_X4 tyX4 tyX4_ok nmX4 hown hK hP hD hS 0 rfl rfl 4 (by decide) f_29 (fun _ h9 => h9) rfl (by decide +kernel) rfl rfl (Nat.le_of_ble_eq_true rfl) dX4_drawBy_12 (fun H locs hP hD hS => ?_)
  have hP : va_P (dC, dI) vwCl [(a_t, .inr (4, [.ref a_t_ahead, .int t_straightDesk, .int (1 : Int32), .int x1, .int (0 : Int32)]))] H := hP
  have hD : va_D A [(a_t, .inr (4, [.ref a_t_ahead, .int t_straightDesk, .int (1 : Int32), .int x1, .int (0 : Int32)]))] := hD
  obtain rfl := Option.some.inj h
  subst hQe
  exact W.vret hx hb hr (fun t ht hW => ⟨⟨(), rfl, trivial, ⟨by rw [ht]; exact hP, hD⟩⟩, hS.F ht⟩) hS.2.2 dX4_drawBy_15
def rm_X4_noteFor : Room := { frames := 2, cells := 0, slots := 0, locals := 42 }
set_option maxRecDepth 100000 in
set_option maxHeartbeats 8000000 in
theorem c_X4_noteFor (l : Launch) (dC : Nat → ClassId) (dI : Nat → Nat → Nat) (cI cS : ClassId) (n sz : Nat) (a_t : Nat) (a_t_ahead : Nat) (a_t_ahead_pitch : Nat) (a_t_ahead_hears : Nat) (a_h : Nat) (a_h_kind : Nat) (a_h_leanTold : Nat) (a_h_needs : Nat) (a_h_firstHears : Nat) (a_h_group : Nat) (a_h_firstPitch : Nat) (t_ahead_pitch : Nat → Int32) (t_ahead_hears : Nat → Int32) (t_ahead_oboe : Int32) (t_ahead_seconds : Int32) (t_straightDesk : Int32) (t_draws : Int32) (t_drawSeed : Int32) (t_drawn : Int32) (h_desks : Int32) (h_leanTold : Nat → Int32) (h_oboe : Int32) (h_slip : Int32) (h_warmth : Int32) (h_unheard : Int32) (x2 : Int32) (x3 : Int32) (res : Int32)  (h : F_X4_noteFor n t_ahead_pitch t_ahead_hears t_ahead_oboe t_straightDesk h_desks h_leanTold x2 x3 = some res) : Met l yX4_noteFor wsX4_noteFor rm_X4_noteFor (va_Pc [.ref a_t, .ref a_h, .int x2, .int x3] (PRE (dC, dI) vwCl [(cI, .int), (cS, .object "RoundOfTheA$State")] sz [(a_t, .inr (4, [.ref a_t_ahead, .int t_straightDesk, .int t_draws, .int t_drawSeed, .int t_drawn])), (a_t_ahead, .inr (2, [.ref a_t_ahead_pitch, .ref a_t_ahead_hears, .int t_ahead_oboe, .int t_ahead_seconds])), (a_t_ahead_pitch, .inl (cI, 8, .inl t_ahead_pitch)), (a_t_ahead_hears, .inl (cI, 8, .inl t_ahead_hears)), (a_h, .inr (0, [.int h_desks, .ref a_h_kind, .ref a_h_leanTold, .ref a_h_needs, .ref a_h_firstHears, .ref a_h_group, .ref a_h_firstPitch, .int h_oboe, .int h_slip, .int h_warmth, .int h_unheard])), (a_h_leanTold, .inl (cI, 8, .inl h_leanTold))])) (va_Qi (fun (r : Int32) (_ : Unit) => r = res) (fun u t => POST (dC, dI) vwCl [(a_t, .inr (4, [.ref a_t_ahead, .int t_straightDesk, .int t_draws, .int t_drawSeed, .int t_drawn])), (a_t_ahead, .inr (2, [.ref a_t_ahead_pitch, .ref a_t_ahead_hears, .int t_ahead_oboe, .int t_ahead_seconds])), (a_t_ahead_pitch, .inl (cI, 8, .inl t_ahead_pitch)), (a_t_ahead_hears, .inl (cI, 8, .inl t_ahead_hears)), (a_h, .inr (0, [.int h_desks, .ref a_h_kind, .ref a_h_leanTold, .ref a_h_needs, .ref a_h_firstHears, .ref a_h_group, .ref a_h_firstPitch, .int h_oboe, .int h_slip, .int h_warmth, .int h_unheard])), (a_h_leanTold, .inl (cI, 8, .inl h_leanTold))] (va_A [(a_t, .inr (4, [.ref a_t_ahead, .int t_straightDesk, .int t_draws, .int t_drawSeed, .int t_drawn])), (a_t_ahead, .inr (2, [.ref a_t_ahead_pitch, .ref a_t_ahead_hears, .int t_ahead_oboe, .int t_ahead_seconds])), (a_t_ahead_pitch, .inl (cI, 8, .inl t_ahead_pitch)), (a_t_ahead_hears, .inl (cI, 8, .inl t_ahead_hears)), (a_h, .inr (0, [.int h_desks, .ref a_h_kind, .ref a_h_leanTold, .ref a_h_needs, .ref a_h_firstHears, .ref a_h_group, .ref a_h_firstPitch, .int h_oboe, .int h_slip, .int h_warmth, .int h_unheard])), (a_h_leanTold, .inl (cI, 8, .inl h_leanTold))] sz) t) (va_A [(a_t, .inr (4, [.ref a_t_ahead, .int t_straightDesk, .int t_draws, .int t_drawSeed, .int t_drawn])), (a_t_ahead, .inr (2, [.ref a_t_ahead_pitch, .ref a_t_ahead_hears, .int t_ahead_oboe, .int t_ahead_seconds])), (a_t_ahead_pitch, .inl (cI, 8, .inl t_ahead_pitch)), (a_t_ahead_hears, .inl (cI, 8, .inl t_ahead_hears)), (a_h, .inr (0, [.int h_desks, .ref a_h_kind, .ref a_h_leanTold, .ref a_h_needs, .ref a_h_firstHears, .ref a_h_group, .ref a_h_firstPitch, .int h_oboe, .int h_slip, .int h_warmth, .int h_unheard])), (a_h_leanTold, .inl (cI, 8, .inl h_leanTold))] sz)) 0 0 (va_A [(a_t, .inr (4, [.ref a_t_ahead, .int t_straightDesk, .int t_draws, .int t_drawSeed, .int t_drawn])), (a_t_ahead, .inr (2, [.ref a_t_ahead_pitch, .ref a_t_ahead_hears, .int t_ahead_oboe, .int t_ahead_seconds])), (a_t_ahead_pitch, .inl (cI, 8, .inl t_ahead_pitch)), (a_t_ahead_hears, .inl (cI, 8, .inl t_ahead_hears)), (a_h, .inr (0, [.int h_desks, .ref a_h_kind, .ref a_h_leanTold, .ref a_h_needs, .ref a_h_firstHears, .ref a_h_group, .ref a_h_firstPitch, .int h_oboe, .int h_slip, .int h_warmth, .int h_unheard])), (a_h_leanTold, .inl (cI, 8, .inl h_leanTold))] sz) := by
  refine Met.ofW (cc := cX4_noteFor) (maxL := 6) (ret := (some .int)) (by decide) rfl ?_
  intro p e s m args below meth c s₁ B hml hv
  obtain ⟨rfl, hsz, hN, hP, hK, hD0⟩ := hv
  have hx := B.exec
  have hb := B.bytes
  have hr := B.returns
  have hts := atoms_spec (ws := wsX4_noteFor) B.pre
  have hown : s.vm.findClass RX4 = some m.cls := findClass_of_methodNamed B.named
  have hlocks := B.notSynchronized
  subst hsz
  have hD := hD0.self (sz := s.heap.size)
  generalize hAe : va_A [(a_t, .inr (4, [.ref a_t_ahead, .int t_straightDesk, .int t_draws, .int t_drawSeed, .int t_drawn])), (a_t_ahead, .inr (2, [.ref a_t_ahead_pitch, .ref a_t_ahead_hears, .int t_ahead_oboe, .int t_ahead_seconds])), (a_t_ahead_pitch, .inl (cI, 8, .inl t_ahead_pitch)), (a_t_ahead_hears, .inl (cI, 8, .inl t_ahead_hears)), (a_h, .inr (0, [.int h_desks, .ref a_h_kind, .ref a_h_leanTold, .ref a_h_needs, .ref a_h_firstHears, .ref a_h_group, .ref a_h_firstPitch, .int h_oboe, .int h_slip, .int h_warmth, .int h_unheard])), (a_h_leanTold, .inl (cI, 8, .inl h_leanTold))] s.heap.size = A at hD ⊢
  have hA : ∀ q : Nat, s.heap.size ≤ q → A q := fun q h => by rw [← hAe]; exact Or.inr h
  have hS : va_S A s.heap s.heap [] := va_S.rf
  generalize hQe : MQ below _ _ s _ _ A = QQ
  have hl := lv_entry ([.ref a_t, .ref a_h, .int x2, .int x3]) (n := 6) (Nat.le_of_ble_eq_true rfl)
  rw [lg_entry_eq]
  generalize (lg_sl ([.ref a_t, .ref a_h, .int x2, .int x3]) ++ List.replicate (6 - (lg_sl ([.ref a_t, .ref a_h, .int x2, .int x3])).length) Slot.unset).toArray = ls at hl ⊢
  have hl : lv_has ls 6 [(0, .ref a_t), (1, .ref a_h), (2, .int x2), (3, .int x3)] := hl
  have f_12 := hts (.fieldLink RX4 12 "RoundOfTheA$Tuner" "ahead" "LRoundOfTheA$State;") (by decide +kernel)
  have in_X4 := (by decide +kernel : ∀ w ∈ wsX40, w ∈ wsX4_noteFor)
  have f_85 := hts (.fieldLink RX4 85 "RoundOfTheA$State" "hears" "[I") (by decide +kernel)
  have in_X2 := (by decide +kernel : ∀ w ∈ wsX20, w ∈ wsX4_noteFor)
  have f_18 := hts (.fieldLink RX4 18 "RoundOfTheA$Tuner" "straightDesk" "I") (by decide +kernel)
  rw [F_X4_noteFor] at h
  refine lv_aload_n hx hb dX4_noteFor_0 rfl (lv_at hl 1 rfl) ?_
  refine lv_iload_n hx hb dX4_noteFor_1 rfl (lv_at hl 2 rfl) ?_
  obtain ⟨r751, hr751, h⟩ := ob h
  refine k_Vi (As := [.int x2]) (rest := []) (wr := [(a_t, .inr (4, [.ref a_t_ahead, .int t_straightDesk, .int t_draws, .int t_drawSeed, .int t_drawn])), (a_t_ahead, .inr (2, [.ref a_t_ahead_pitch, .ref a_t_ahead_hears, .int t_ahead_oboe, .int t_ahead_seconds])), (a_t_ahead_pitch, .inl (cI, 8, .inl t_ahead_pitch)), (a_t_ahead_hears, .inl (cI, 8, .inl t_ahead_hears)), (a_h_leanTold, .inl (cI, 8, .inl h_leanTold))]) (c_X0_hasDesk l dC dI cI cS n _ a_h a_h_kind a_h_leanTold a_h_needs a_h_firstHears a_h_group a_h_firstPitch h_desks h_oboe h_slip h_warmth h_unheard x2 r751 hr751) (fun _ _ q => q) ⟨hx, hb, hml, hown, hts⟩ (cwV 1 hts gX4_noteFor_X0_hasDesk rfl rfl rfl (by decide +kernel) ⟨(Nat.le_of_ble_eq_true rfl), (Nat.le_of_ble_eq_true rfl)⟩) hN hK hP hD hS hA [4] [0, 1, 2, 3, 5] rfl rfl (by decide) (by decide) (by decide) rfl rfl rfl hl.1 rfl (Nat.le_of_ble_eq_true rfl) dX4_noteFor_2 ⟨(Nat.le_of_ble_eq_true rfl), (Nat.le_of_ble_eq_true rfl)⟩ (fun u752 H locs _ hP hD hS => ?_)
  have hP : va_P (dC, dI) vwCl [(a_t, .inr (4, [.ref a_t_ahead, .int t_straightDesk, .int t_draws, .int t_drawSeed, .int t_drawn])), (a_t_ahead, .inr (2, [.ref a_t_ahead_pitch, .ref a_t_ahead_hears, .int t_ahead_oboe, .int t_ahead_seconds])), (a_t_ahead_pitch, .inl (cI, 8, .inl t_ahead_pitch)), (a_t_ahead_hears, .inl (cI, 8, .inl t_ahead_hears)), (a_h_leanTold, .inl (cI, 8, .inl h_leanTold)), (a_h, .inr (0, [.int h_desks, .ref a_h_kind, .ref a_h_leanTold, .ref a_h_needs, .ref a_h_firstHears, .ref a_h_group, .ref a_h_firstPitch, .int h_oboe, .int h_slip, .int h_warmth, .int h_unheard]))] H := hP
  have hD : va_D A [(a_t, .inr (4, [.ref a_t_ahead, .int t_straightDesk, .int t_draws, .int t_drawSeed, .int t_drawn])), (a_t_ahead, .inr (2, [.ref a_t_ahead_pitch, .ref a_t_ahead_hears, .int t_ahead_oboe, .int t_ahead_seconds])), (a_t_ahead_pitch, .inl (cI, 8, .inl t_ahead_pitch)), (a_t_ahead_hears, .inl (cI, 8, .inl t_ahead_hears)), (a_h_leanTold, .inl (cI, 8, .inl h_leanTold)), (a_h, .inr (0, [.int h_desks, .ref a_h_kind, .ref a_h_leanTold, .ref a_h_needs, .ref a_h_firstHears, .ref a_h_group, .ref a_h_firstPitch, .int h_oboe, .int h_slip, .int h_warmth, .int h_unheard]))] := hD
  obtain ⟨j754, hjj754, h⟩ := ob h
  have Jj754 : ∀ (H : Heap) (locs : List Loc), va_P (dC, dI) vwCl [(a_t, .inr (4, [.ref a_t_ahead, .int t_straightDesk, .int t_draws, .int t_drawSeed, .int t_drawn])), (a_t_ahead, .inr (2, [.ref a_t_ahead_pitch, .ref a_t_ahead_hears, .int t_ahead_oboe, .int t_ahead_seconds])), (a_t_ahead_pitch, .inl (cI, 8, .inl t_ahead_pitch)), (a_t_ahead_hears, .inl (cI, 8, .inl t_ahead_hears)), (a_h_leanTold, .inl (cI, 8, .inl h_leanTold)), (a_h, .inr (0, [.int h_desks, .ref a_h_kind, .ref a_h_leanTold, .ref a_h_needs, .ref a_h_firstHears, .ref a_h_group, .ref a_h_firstPitch, .int h_oboe, .int h_slip, .int h_warmth, .int h_unheard]))] H → va_D A [(a_t, .inr (4, [.ref a_t_ahead, .int t_straightDesk, .int t_draws, .int t_drawSeed, .int t_drawn])), (a_t_ahead, .inr (2, [.ref a_t_ahead_pitch, .ref a_t_ahead_hears, .int t_ahead_oboe, .int t_ahead_seconds])), (a_t_ahead_pitch, .inl (cI, 8, .inl t_ahead_pitch)), (a_t_ahead_hears, .inl (cI, 8, .inl t_ahead_hears)), (a_h_leanTold, .inl (cI, 8, .inl h_leanTold)), (a_h, .inr (0, [.int h_desks, .ref a_h_kind, .ref a_h_leanTold, .ref a_h_needs, .ref a_h_firstHears, .ref a_h_group, .ref a_h_firstPitch, .int h_oboe, .int h_slip, .int h_warmth, .int h_unheard]))] → va_S A s.heap H locs → ∀ ls : Array Slot, lv_has ls 6 [(0, .ref a_t), (1, .ref a_h), (2, .int x2), (3, .int x3)] → W p l e (headSpec wsX4_noteFor rm_X4_noteFor).room s m ([.ref a_t, .ref a_h, .int x2, .int x3] : List Value).toArray below meth c H locs 0 0 QQ (F0 m 22 ls [.int j754]) := by
    intro H locs hP hD hS ls hl
    refine lv_istore (lv' := [(4, .int j754), (0, .ref a_t), (1, .ref a_h), (2, .int x2), (3, .int x3)]) hx hb dX4_noteFor_22 hl (by decide) rfl (fun ls hl => ?_)
    refine lv_iload hx hb dX4_noteFor_24 (lv_at hl 0 rfl) ?_
    refine lv_bipush (v := (8 : Int32)) hx hb dX4_noteFor_26 (by decide) ?_
    refine lv_icmp_ne (tgt := 33) hx hb dX4_noteFor_28 (by decide) (fun c_28 => ?_) (fun c_28 => ?_)
    · have h := (if_neg c_28).symm.trans h
      refine lv_iload_n hx hb dX4_noteFor_33 rfl (lv_at hl 3 rfl) ?_
      refine lv_aload_n hx hb dX4_noteFor_34 rfl (lv_at hl 1 rfl) ?_
      refine va_get (D := (dC, dI)) (ci := 4) (v := .int t_straightDesk) (C := RX4) (T := TX4) (N := 5) hx hb hts in_X4 hown hK hP 0 rfl rfl 1 (by decide) f_18 (fun _ h9 => h9) rfl dX4_noteFor_35 ?_
      obtain ⟨j758, hjj758, h⟩ := ob h
      have Jj758 : ∀ (H : Heap) (locs : List Loc), va_P (dC, dI) vwCl [(a_t, .inr (4, [.ref a_t_ahead, .int t_straightDesk, .int t_draws, .int t_drawSeed, .int t_drawn])), (a_t_ahead, .inr (2, [.ref a_t_ahead_pitch, .ref a_t_ahead_hears, .int t_ahead_oboe, .int t_ahead_seconds])), (a_t_ahead_pitch, .inl (cI, 8, .inl t_ahead_pitch)), (a_t_ahead_hears, .inl (cI, 8, .inl t_ahead_hears)), (a_h_leanTold, .inl (cI, 8, .inl h_leanTold)), (a_h, .inr (0, [.int h_desks, .ref a_h_kind, .ref a_h_leanTold, .ref a_h_needs, .ref a_h_firstHears, .ref a_h_group, .ref a_h_firstPitch, .int h_oboe, .int h_slip, .int h_warmth, .int h_unheard]))] H → va_D A [(a_t, .inr (4, [.ref a_t_ahead, .int t_straightDesk, .int t_draws, .int t_drawSeed, .int t_drawn])), (a_t_ahead, .inr (2, [.ref a_t_ahead_pitch, .ref a_t_ahead_hears, .int t_ahead_oboe, .int t_ahead_seconds])), (a_t_ahead_pitch, .inl (cI, 8, .inl t_ahead_pitch)), (a_t_ahead_hears, .inl (cI, 8, .inl t_ahead_hears)), (a_h_leanTold, .inl (cI, 8, .inl h_leanTold)), (a_h, .inr (0, [.int h_desks, .ref a_h_kind, .ref a_h_leanTold, .ref a_h_needs, .ref a_h_firstHears, .ref a_h_group, .ref a_h_firstPitch, .int h_oboe, .int h_slip, .int h_warmth, .int h_unheard]))] → va_S A s.heap H locs → ∀ ls : Array Slot, lv_has ls 6 [(0, .ref a_t), (1, .ref a_h), (2, .int x2), (3, .int x3), (4, .int j754)] → W p l e (headSpec wsX4_noteFor rm_X4_noteFor).room s m ([.ref a_t, .ref a_h, .int x2, .int x3] : List Value).toArray below meth c H locs 0 0 QQ (F0 m 50 ls [.int j758]) := by
        intro H locs hP hD hS ls hl
        refine lv_istore (lv' := [(5, .int j758), (0, .ref a_t), (1, .ref a_h), (2, .int x2), (3, .int x3), (4, .int j754)]) hx hb dX4_noteFor_50 hl (by decide) rfl (fun ls hl => ?_)
        refine lv_aload_n hx hb dX4_noteFor_52 rfl (lv_at hl 1 rfl) ?_
        refine va_get (D := (dC, dI)) (ci := 4) (v := .ref a_t_ahead) (C := RX4) (T := TX4) (N := 5) hx hb hts in_X4 hown hK hP 0 rfl rfl 0 (by decide) f_12 (fun _ h9 => h9) rfl dX4_noteFor_53 ?_
        refine lv_iload hx hb dX4_noteFor_56 (lv_at hl 5 rfl) ?_
        obtain ⟨r761, hr761, h⟩ := ob h
        refine k_Vi (As := [.int j754]) (rest := []) (wr := [(a_t, .inr (4, [.ref a_t_ahead, .int t_straightDesk, .int t_draws, .int t_drawSeed, .int t_drawn])), (a_t_ahead_hears, .inl (cI, 8, .inl t_ahead_hears)), (a_h_leanTold, .inl (cI, 8, .inl h_leanTold)), (a_h, .inr (0, [.int h_desks, .ref a_h_kind, .ref a_h_leanTold, .ref a_h_needs, .ref a_h_firstHears, .ref a_h_group, .ref a_h_firstPitch, .int h_oboe, .int h_slip, .int h_warmth, .int h_unheard]))]) (c_X2_pitchOf l dC dI cI cS n _ a_t_ahead a_t_ahead_pitch a_t_ahead_hears t_ahead_pitch t_ahead_oboe t_ahead_seconds j754 r761 hr761) (fun _ _ q => q) ⟨hx, hb, hml, hown, hts⟩ (cwV 1 hts gX4_noteFor_X2_pitchOf rfl rfl rfl (by decide +kernel) ⟨(Nat.le_of_ble_eq_true rfl), (Nat.le_of_ble_eq_true rfl)⟩) hN hK hP hD hS hA [1, 2] [0, 3, 4, 5] rfl rfl (by decide) (by decide) (by decide) rfl rfl rfl hl.1 rfl (Nat.le_of_ble_eq_true rfl) dX4_noteFor_58 ⟨(Nat.le_of_ble_eq_true rfl), (Nat.le_of_ble_eq_true rfl)⟩ (fun u762 H locs _ hP hD hS => ?_)
        have hP : va_P (dC, dI) vwCl [(a_t, .inr (4, [.ref a_t_ahead, .int t_straightDesk, .int t_draws, .int t_drawSeed, .int t_drawn])), (a_t_ahead_hears, .inl (cI, 8, .inl t_ahead_hears)), (a_h_leanTold, .inl (cI, 8, .inl h_leanTold)), (a_h, .inr (0, [.int h_desks, .ref a_h_kind, .ref a_h_leanTold, .ref a_h_needs, .ref a_h_firstHears, .ref a_h_group, .ref a_h_firstPitch, .int h_oboe, .int h_slip, .int h_warmth, .int h_unheard])), (a_t_ahead, .inr (2, [.ref a_t_ahead_pitch, .ref a_t_ahead_hears, .int t_ahead_oboe, .int t_ahead_seconds])), (a_t_ahead_pitch, .inl (cI, 8, .inl t_ahead_pitch))] H := hP
        have hD : va_D A [(a_t, .inr (4, [.ref a_t_ahead, .int t_straightDesk, .int t_draws, .int t_drawSeed, .int t_drawn])), (a_t_ahead_hears, .inl (cI, 8, .inl t_ahead_hears)), (a_h_leanTold, .inl (cI, 8, .inl h_leanTold)), (a_h, .inr (0, [.int h_desks, .ref a_h_kind, .ref a_h_leanTold, .ref a_h_needs, .ref a_h_firstHears, .ref a_h_group, .ref a_h_firstPitch, .int h_oboe, .int h_slip, .int h_warmth, .int h_unheard])), (a_t_ahead, .inr (2, [.ref a_t_ahead_pitch, .ref a_t_ahead_hears, .int t_ahead_oboe, .int t_ahead_seconds])), (a_t_ahead_pitch, .inl (cI, 8, .inl t_ahead_pitch))] := hD
        refine lv_iload hx hb dX4_noteFor_61 (lv_at hl 0 rfl) ?_
        refine lv_iadd hx hb dX4_noteFor_63 ?_
        refine lv_iload_n hx hb dX4_noteFor_64 rfl (lv_at hl 4 rfl) ?_
        refine lv_iadd hx hb dX4_noteFor_65 ?_
        obtain rfl := Option.some.inj h
        subst hQe
        exact W.iret (v := ((r761 + j758) + x3)) hx hb hr (fun t ht hW => ⟨⟨((r761 + j758) + x3), (), rfl, rfl, ⟨by rw [ht]; exact hP.sub [0, 4, 5, 1, 3, 2] rfl, hD.sub [0, 4, 5, 1, 3, 2] (by decide +kernel) rfl⟩⟩, hS.F ht⟩) hS.2.2 dX4_noteFor_66
      refine lv_icmp_ne (tgt := 45) hx hb dX4_noteFor_38 (by decide) (fun c_38 => ?_) (fun c_38 => ?_)
      · have h := (if_neg c_38).symm.trans hjj758
        refine lv_aload_n hx hb dX4_noteFor_45 rfl (lv_at hl 2 rfl) ?_
        refine lv_iload_n hx hb dX4_noteFor_46 rfl (lv_at hl 3 rfl) ?_
        obtain ⟨r759, hr759, h⟩ := ob h
        refine k_Vi (As := [.int x2]) (rest := []) (wr := [(a_t, .inr (4, [.ref a_t_ahead, .int t_straightDesk, .int t_draws, .int t_drawSeed, .int t_drawn])), (a_t_ahead, .inr (2, [.ref a_t_ahead_pitch, .ref a_t_ahead_hears, .int t_ahead_oboe, .int t_ahead_seconds])), (a_t_ahead_pitch, .inl (cI, 8, .inl t_ahead_pitch)), (a_t_ahead_hears, .inl (cI, 8, .inl t_ahead_hears))]) (c_X0_leanOf l dC dI cI cS n _ a_h a_h_kind a_h_leanTold a_h_needs a_h_firstHears a_h_group a_h_firstPitch h_desks h_leanTold h_oboe h_slip h_warmth h_unheard x2 r759 hr759) (fun _ _ q => q) ⟨hx, hb, hml, hown, hts⟩ (cwV 1 hts gX4_noteFor_X0_leanOf rfl rfl rfl (by decide +kernel) ⟨(Nat.le_of_ble_eq_true rfl), (Nat.le_of_ble_eq_true rfl)⟩) hN hK hP hD hS hA [5, 4] [0, 1, 2, 3] rfl rfl (by decide) (by decide) (by decide) rfl rfl rfl hl.1 rfl (Nat.le_of_ble_eq_true rfl) dX4_noteFor_47 ⟨(Nat.le_of_ble_eq_true rfl), (Nat.le_of_ble_eq_true rfl)⟩ (fun u760 H locs _ hP hD hS => ?_)
        have hP : va_P (dC, dI) vwCl [(a_t, .inr (4, [.ref a_t_ahead, .int t_straightDesk, .int t_draws, .int t_drawSeed, .int t_drawn])), (a_t_ahead, .inr (2, [.ref a_t_ahead_pitch, .ref a_t_ahead_hears, .int t_ahead_oboe, .int t_ahead_seconds])), (a_t_ahead_pitch, .inl (cI, 8, .inl t_ahead_pitch)), (a_t_ahead_hears, .inl (cI, 8, .inl t_ahead_hears)), (a_h, .inr (0, [.int h_desks, .ref a_h_kind, .ref a_h_leanTold, .ref a_h_needs, .ref a_h_firstHears, .ref a_h_group, .ref a_h_firstPitch, .int h_oboe, .int h_slip, .int h_warmth, .int h_unheard])), (a_h_leanTold, .inl (cI, 8, .inl h_leanTold))] H := hP
        have hD : va_D A [(a_t, .inr (4, [.ref a_t_ahead, .int t_straightDesk, .int t_draws, .int t_drawSeed, .int t_drawn])), (a_t_ahead, .inr (2, [.ref a_t_ahead_pitch, .ref a_t_ahead_hears, .int t_ahead_oboe, .int t_ahead_seconds])), (a_t_ahead_pitch, .inl (cI, 8, .inl t_ahead_pitch)), (a_t_ahead_hears, .inl (cI, 8, .inl t_ahead_hears)), (a_h, .inr (0, [.int h_desks, .ref a_h_kind, .ref a_h_leanTold, .ref a_h_needs, .ref a_h_firstHears, .ref a_h_group, .ref a_h_firstPitch, .int h_oboe, .int h_slip, .int h_warmth, .int h_unheard])), (a_h_leanTold, .inl (cI, 8, .inl h_leanTold))] := hD
        obtain rfl := Option.some.inj h
        exact Jj758 _ _ (hP.sub [0, 1, 2, 3, 5, 4] rfl) (hD.sub [0, 1, 2, 3, 5, 4] (by decide +kernel) rfl) hS _ (lv_sub hl [1, 2, 3, 4, 0] rfl)
      · have h := (if_pos c_38).symm.trans hjj758
        refine lv_iconst (v := (0 : Int32)) hx hb dX4_noteFor_41 (by decide) ?_
        refine lv_goto (tgt := 50) hx hb dX4_noteFor_42 (by decide) ?_
        obtain rfl := Option.some.inj h
        exact Jj758 _ _ hP hD hS _ (lv_sub hl [1, 2, 3, 4, 0] rfl)
    · have h := (if_pos c_28).symm.trans h
      refine lv_iconst (v := (0 : Int32)) hx hb dX4_noteFor_31 (by decide) ?_
      obtain rfl := Option.some.inj h
      subst hQe
      exact W.iret (v := (0 : Int32)) hx hb hr (fun t ht hW => ⟨⟨(0 : Int32), (), rfl, rfl, ⟨by rw [ht]; exact hP.sub [0, 1, 2, 3, 5, 4] rfl, hD.sub [0, 1, 2, 3, 5, 4] (by decide +kernel) rfl⟩⟩, hS.F ht⟩) hS.2.2 dX4_noteFor_32
  refine lv_if_eq (tgt := 20) hx hb dX4_noteFor_5 (by decide) (fun c_5 => ?_) (fun c_5 => ?_)
  · have h := (if_pos c_5).symm.trans hjj754
    refine lv_bipush (v := (8 : Int32)) hx hb dX4_noteFor_20 (by decide) ?_
    obtain rfl := Option.some.inj h
    exact Jj754 _ _ hP hD hS _ hl
  · have h := (if_neg c_5).symm.trans hjj754
    refine lv_aload_n hx hb dX4_noteFor_8 rfl (lv_at hl 0 rfl) ?_
    refine va_get (D := (dC, dI)) (ci := 4) (v := .ref a_t_ahead) (C := RX4) (T := TX4) (N := 5) hx hb hts in_X4 hown hK hP 0 rfl rfl 0 (by decide) f_12 (fun _ h9 => h9) rfl dX4_noteFor_9 ?_
    refine va_get (D := (dC, dI)) (ci := 2) (v := .ref a_t_ahead_hears) (C := RX2) (T := TX2) (N := 4) hx hb hts in_X2 hown hK hP 1 rfl rfl 1 (by decide) f_85 (fun _ h9 => h9) rfl dX4_noteFor_12 ?_
    refine lv_iload_n hx hb dX4_noteFor_15 rfl (lv_at hl 2 rfl) ?_
    obtain ⟨v755, hv755, h⟩ := ob h
    refine k_ld hx hb hK hP 3 0 rfl rfl hv755 dX4_noteFor_16 ?_
    refine lv_goto (tgt := 22) hx hb dX4_noteFor_17 (by decide) ?_
    obtain rfl := Option.some.inj h
    exact Jj754 _ _ hP hD hS _ hl
def rm_X4_nextDraw : Room := { frames := 0, cells := 0, slots := 0, locals := 0 }
set_option maxRecDepth 100000 in
set_option maxHeartbeats 8000000 in
theorem c_X4_nextDraw (l : Launch) (dC : Nat → ClassId) (dI : Nat → Nat → Nat) (cI cS : ClassId) (n sz : Nat) (a_t : Nat) (a_t_ahead : Nat) (t_straightDesk : Int32) (t_draws : Int32) (t_drawSeed : Int32) (t_drawn : Int32) (res : Int32 × Int32)  (h : F_X4_nextDraw n t_draws t_drawSeed t_drawn = some res) : Met l yX4_nextDraw wsX4_nextDraw rm_X4_nextDraw (va_Pc [.ref a_t] (PRE (dC, dI) vwCl [(cI, .int), (cS, .object "RoundOfTheA$State")] sz [(a_t, .inr (4, [.ref a_t_ahead, .int t_straightDesk, .int t_draws, .int t_drawSeed, .int t_drawn]))])) (va_Qi (fun (r : Int32) (_ : Unit) => r = res.1) (fun u t => POST (dC, dI) vwCl [(a_t, .inr (4, [.ref a_t_ahead, .int t_straightDesk, .int t_draws, .int t_drawSeed, .int res.2]))] (va_A [(a_t, .inr (4, [.ref a_t_ahead, .int t_straightDesk, .int t_draws, .int t_drawSeed, .int t_drawn]))] sz) t) (va_A [(a_t, .inr (4, [.ref a_t_ahead, .int t_straightDesk, .int t_draws, .int t_drawSeed, .int t_drawn]))] sz)) 0 0 (va_A [(a_t, .inr (4, [.ref a_t_ahead, .int t_straightDesk, .int t_draws, .int t_drawSeed, .int t_drawn]))] sz) := by
  refine Met.ofW (cc := cX4_nextDraw) (maxL := 3) (ret := (some .int)) (by decide) rfl ?_
  intro p e s m args below meth c s₁ B hml hv
  obtain ⟨rfl, hsz, hN, hP, hK, hD0⟩ := hv
  have hx := B.exec
  have hb := B.bytes
  have hr := B.returns
  have hts := atoms_spec (ws := wsX4_nextDraw) B.pre
  have hown : s.vm.findClass RX4 = some m.cls := findClass_of_methodNamed B.named
  have hlocks := B.notSynchronized
  subst hsz
  have hD := hD0.self (sz := s.heap.size)
  generalize hAe : va_A [(a_t, .inr (4, [.ref a_t_ahead, .int t_straightDesk, .int t_draws, .int t_drawSeed, .int t_drawn]))] s.heap.size = A at hD ⊢
  have hA : ∀ q : Nat, s.heap.size ≤ q → A q := fun q h => by rw [← hAe]; exact Or.inr h
  have hS : va_S A s.heap s.heap [] := va_S.rf
  generalize hQe : MQ below _ _ s _ _ A = QQ
  have hl := lv_entry ([.ref a_t]) (n := 3) (Nat.le_of_ble_eq_true rfl)
  rw [lg_entry_eq]
  generalize (lg_sl ([.ref a_t]) ++ List.replicate (3 - (lg_sl ([.ref a_t])).length) Slot.unset).toArray = ls at hl ⊢
  have hl : lv_has ls 3 [(0, .ref a_t)] := hl
  have f_22 := hts (.fieldLink RX4 22 "RoundOfTheA$Tuner" "draws" "Z") (by decide +kernel)
  have in_X4 := (by decide +kernel : ∀ w ∈ wsX40, w ∈ wsX4_nextDraw)
  have k_108 := hts (.constantLong RX4 108 (7919)) (by decide +kernel)
  have f_26 := hts (.fieldLink RX4 26 "RoundOfTheA$Tuner" "drawSeed" "I") (by decide +kernel)
  have k_110 := hts (.constantLong RX4 110 (6151)) (by decide +kernel)
  have f_29 := hts (.fieldLink RX4 29 "RoundOfTheA$Tuner" "drawn" "I") (by decide +kernel)
  have k_112 := hts (.constantLong RX4 112 (65521)) (by decide +kernel)
  have k_114 := hts (.constantLong RX4 114 (3)) (by decide +kernel)
  rw [F_X4_nextDraw] at h
  refine lv_aload_n hx hb dX4_nextDraw_0 rfl (lv_at hl 0 rfl) ?_
  refine va_get (D := (dC, dI)) (ci := 4) (v := .int t_draws) (C := RX4) (T := TX4) (N := 5) hx hb hts in_X4 hown hK hP 0 rfl rfl 2 (by decide) f_22 (fun _ h9 => h9) rfl dX4_nextDraw_1 ?_
  refine lv_if_ne (tgt := 9) hx hb dX4_nextDraw_4 (by decide) (fun c_4 => ?_) (fun c_4 => ?_)
  · have h := (if_neg c_4).symm.trans h
    refine lv_ldc2 (v := (7919 : Int64)) hx hb hown k_108 dX4_nextDraw_9 ?_
    refine lv_aload_n hx hb dX4_nextDraw_12 rfl (lv_at hl 0 rfl) ?_
    refine va_get (D := (dC, dI)) (ci := 4) (v := .int t_drawSeed) (C := RX4) (T := TX4) (N := 5) hx hb hts in_X4 hown hK hP 0 rfl rfl 3 (by decide) f_26 (fun _ h9 => h9) rfl dX4_nextDraw_13 ?_
    refine lv_i2l (v := (Int32.toInt64 t_drawSeed)) hx hb dX4_nextDraw_16 rfl ?_
    refine lv_lmul hx hb dX4_nextDraw_17 ?_
    refine lv_ldc2 (v := (6151 : Int64)) hx hb hown k_110 dX4_nextDraw_18 ?_
    refine lv_aload_n hx hb dX4_nextDraw_21 rfl (lv_at hl 0 rfl) ?_
    refine va_get (D := (dC, dI)) (ci := 4) (v := .int t_drawn) (C := RX4) (T := TX4) (N := 5) hx hb hts in_X4 hown hK hP 0 rfl rfl 4 (by decide) f_29 (fun _ h9 => h9) rfl dX4_nextDraw_22 ?_
    refine lv_i2l (v := (Int32.toInt64 t_drawn)) hx hb dX4_nextDraw_25 rfl ?_
    refine lv_lmul hx hb dX4_nextDraw_26 ?_
    refine lv_ladd hx hb dX4_nextDraw_27 ?_
    refine lv_lconst (v := (1 : Int64)) hx hb dX4_nextDraw_28 (by decide) ?_
    refine lv_ladd hx hb dX4_nextDraw_29 ?_
    refine lv_lstore_n (lv' := [(1, .long ((((7919 : Int64) * (Int32.toInt64 t_drawSeed)) + ((6151 : Int64) * (Int32.toInt64 t_drawn))) + (1 : Int64))), (0, .ref a_t)]) hx hb dX4_nextDraw_30 rfl hl (by decide) rfl (fun ls hl => ?_)
    refine lv_aload_n hx hb dX4_nextDraw_31 rfl (lv_at hl 1 rfl) ?_
    refine lv_dup hx hb dX4_nextDraw_32 rfl ?_
    refine va_get (D := (dC, dI)) (ci := 4) (v := .int t_drawn) (C := RX4) (T := TX4) (N := 5) hx hb hts in_X4 hown hK hP 0 rfl rfl 4 (by decide) f_29 (fun _ h9 => h9) rfl dX4_nextDraw_33 ?_
    refine lv_iconst (v := (1 : Int32)) hx hb dX4_nextDraw_36 (by decide) ?_
    refine lv_iadd hx hb dX4_nextDraw_37 ?_
    refine va_put (D := (dC, dI)) (ci := 4) (v := .int (t_drawn + (1 : Int32))) (ty := .int) (C := RX4) (T := TX4) (N := 5) hx hb hts in_X4 tyX4 tyX4_ok nmX4 hown hK hP hD hS 0 rfl rfl 4 (by decide) f_29 (fun _ h9 => h9) rfl (by decide +kernel) rfl rfl (Nat.le_of_ble_eq_true rfl) dX4_nextDraw_38 (fun H locs hP hD hS => ?_)
    have hP : va_P (dC, dI) vwCl [(a_t, .inr (4, [.ref a_t_ahead, .int t_straightDesk, .int t_draws, .int t_drawSeed, .int (t_drawn + (1 : Int32))]))] H := hP
    have hD : va_D A [(a_t, .inr (4, [.ref a_t_ahead, .int t_straightDesk, .int t_draws, .int t_drawSeed, .int (t_drawn + (1 : Int32))]))] := hD
    refine lv_lload_n hx hb dX4_nextDraw_41 rfl (lv_at hl 0 rfl) ?_
    refine lv_lload_n hx hb dX4_nextDraw_42 rfl (lv_at hl 0 rfl) ?_
    refine lv_lmul hx hb dX4_nextDraw_43 ?_
    refine lv_ldc2 (v := (65521 : Int64)) hx hb hown k_112 dX4_nextDraw_44 ?_
    refine lv_lrem hx hb dX4_nextDraw_47 (by decide) ?_
    refine lv_ldc2 (v := (3 : Int64)) hx hb hown k_114 dX4_nextDraw_48 ?_
    refine lv_lrem hx hb dX4_nextDraw_51 (by decide) ?_
    refine lv_l2i (v := (Int64.toInt32 (((((((7919 : Int64) * (Int32.toInt64 t_drawSeed)) + ((6151 : Int64) * (Int32.toInt64 t_drawn))) + (1 : Int64)) * ((((7919 : Int64) * (Int32.toInt64 t_drawSeed)) + ((6151 : Int64) * (Int32.toInt64 t_drawn))) + (1 : Int64))) - (((((7919 : Int64) * (Int32.toInt64 t_drawSeed)) + ((6151 : Int64) * (Int32.toInt64 t_drawn))) + (1 : Int64)) * ((((7919 : Int64) * (Int32.toInt64 t_drawSeed)) + ((6151 : Int64) * (Int32.toInt64 t_drawn))) + (1 : Int64))) / (65521 : Int64) * (65521 : Int64)) - ((((((7919 : Int64) * (Int32.toInt64 t_drawSeed)) + ((6151 : Int64) * (Int32.toInt64 t_drawn))) + (1 : Int64)) * ((((7919 : Int64) * (Int32.toInt64 t_drawSeed)) + ((6151 : Int64) * (Int32.toInt64 t_drawn))) + (1 : Int64))) - (((((7919 : Int64) * (Int32.toInt64 t_drawSeed)) + ((6151 : Int64) * (Int32.toInt64 t_drawn))) + (1 : Int64)) * ((((7919 : Int64) * (Int32.toInt64 t_drawSeed)) + ((6151 : Int64) * (Int32.toInt64 t_drawn))) + (1 : Int64))) / (65521 : Int64) * (65521 : Int64)) / (3 : Int64) * (3 : Int64)))) hx hb dX4_nextDraw_52 rfl ?_
    refine lv_iconst (v := (1 : Int32)) hx hb dX4_nextDraw_53 (by decide) ?_
    refine lv_isub hx hb dX4_nextDraw_54 ?_
    obtain rfl := Option.some.inj h
    subst hQe
    exact W.iret (v := ((Int64.toInt32 (((((((7919 : Int64) * (Int32.toInt64 t_drawSeed)) + ((6151 : Int64) * (Int32.toInt64 t_drawn))) + (1 : Int64)) * ((((7919 : Int64) * (Int32.toInt64 t_drawSeed)) + ((6151 : Int64) * (Int32.toInt64 t_drawn))) + (1 : Int64))) - (((((7919 : Int64) * (Int32.toInt64 t_drawSeed)) + ((6151 : Int64) * (Int32.toInt64 t_drawn))) + (1 : Int64)) * ((((7919 : Int64) * (Int32.toInt64 t_drawSeed)) + ((6151 : Int64) * (Int32.toInt64 t_drawn))) + (1 : Int64))) / (65521 : Int64) * (65521 : Int64)) - ((((((7919 : Int64) * (Int32.toInt64 t_drawSeed)) + ((6151 : Int64) * (Int32.toInt64 t_drawn))) + (1 : Int64)) * ((((7919 : Int64) * (Int32.toInt64 t_drawSeed)) + ((6151 : Int64) * (Int32.toInt64 t_drawn))) + (1 : Int64))) - (((((7919 : Int64) * (Int32.toInt64 t_drawSeed)) + ((6151 : Int64) * (Int32.toInt64 t_drawn))) + (1 : Int64)) * ((((7919 : Int64) * (Int32.toInt64 t_drawSeed)) + ((6151 : Int64) * (Int32.toInt64 t_drawn))) + (1 : Int64))) / (65521 : Int64) * (65521 : Int64)) / (3 : Int64) * (3 : Int64))) - (1 : Int32))) hx hb hr (fun t ht hW => ⟨⟨((Int64.toInt32 (((((((7919 : Int64) * (Int32.toInt64 t_drawSeed)) + ((6151 : Int64) * (Int32.toInt64 t_drawn))) + (1 : Int64)) * ((((7919 : Int64) * (Int32.toInt64 t_drawSeed)) + ((6151 : Int64) * (Int32.toInt64 t_drawn))) + (1 : Int64))) - (((((7919 : Int64) * (Int32.toInt64 t_drawSeed)) + ((6151 : Int64) * (Int32.toInt64 t_drawn))) + (1 : Int64)) * ((((7919 : Int64) * (Int32.toInt64 t_drawSeed)) + ((6151 : Int64) * (Int32.toInt64 t_drawn))) + (1 : Int64))) / (65521 : Int64) * (65521 : Int64)) - ((((((7919 : Int64) * (Int32.toInt64 t_drawSeed)) + ((6151 : Int64) * (Int32.toInt64 t_drawn))) + (1 : Int64)) * ((((7919 : Int64) * (Int32.toInt64 t_drawSeed)) + ((6151 : Int64) * (Int32.toInt64 t_drawn))) + (1 : Int64))) - (((((7919 : Int64) * (Int32.toInt64 t_drawSeed)) + ((6151 : Int64) * (Int32.toInt64 t_drawn))) + (1 : Int64)) * ((((7919 : Int64) * (Int32.toInt64 t_drawSeed)) + ((6151 : Int64) * (Int32.toInt64 t_drawn))) + (1 : Int64))) / (65521 : Int64) * (65521 : Int64)) / (3 : Int64) * (3 : Int64))) - (1 : Int32)), (), rfl, rfl, ⟨by rw [ht]; exact hP, hD⟩⟩, hS.F ht⟩) hS.2.2 dX4_nextDraw_55
  · have h := (if_pos c_4).symm.trans h
    refine lv_iconst (v := (0 : Int32)) hx hb dX4_nextDraw_7 (by decide) ?_
    obtain rfl := Option.some.inj h
    subst hQe
    exact W.iret (v := (0 : Int32)) hx hb hr (fun t ht hW => ⟨⟨(0 : Int32), (), rfl, rfl, ⟨by rw [ht]; exact hP, hD⟩⟩, hS.F ht⟩) hS.2.2 dX4_nextDraw_8
def rm_X4_letTune : Room := { frames := 3, cells := 0, slots := 0, locals := 67 }
set_option maxRecDepth 100000 in
set_option maxHeartbeats 8000000 in
theorem c_X4_letTune (l : Launch) (dC : Nat → ClassId) (dI : Nat → Nat → Nat) (cI cS : ClassId) (n sz : Nat) (a_t : Nat) (a_t_ahead : Nat) (a_t_ahead_pitch : Nat) (a_t_ahead_hears : Nat) (a_h : Nat) (a_h_kind : Nat) (a_h_leanTold : Nat) (a_h_needs : Nat) (a_h_firstHears : Nat) (a_h_group : Nat) (a_h_firstPitch : Nat) (a_s : Nat) (a_s_pitch : Nat) (a_s_hears : Nat) (t_ahead_pitch : Nat → Int32) (t_ahead_hears : Nat → Int32) (t_ahead_oboe : Int32) (t_ahead_seconds : Int32) (t_straightDesk : Int32) (t_draws : Int32) (t_drawSeed : Int32) (t_drawn : Int32) (h_desks : Int32) (h_kind : Nat → Int32) (h_leanTold : Nat → Int32) (h_needs : Nat → Int32) (h_oboe : Int32) (h_slip : Int32) (h_warmth : Int32) (h_unheard : Int32) (s_pitch : Nat → Int32) (s_hears : Nat → Int32) (s_oboe : Int32) (s_seconds : Int32) (x3 : Int32) (res : Int32 × Int32 × Int32 × Int32 × (Nat → Int32) × (Nat → Int32) × Int32 × Int32 × (Nat → Int32))  (h : F_X4_letTune n t_ahead_pitch t_ahead_hears t_straightDesk t_draws t_drawSeed t_drawn h_desks h_kind h_leanTold h_needs h_slip h_warmth s_pitch s_hears s_oboe s_seconds x3 = some res) : Met l yX4_letTune wsX4_letTune rm_X4_letTune (va_Pc [.ref a_t, .ref a_h, .ref a_s, .int x3] (PRE (dC, dI) vwCl [(cI, .int), (cS, .object "RoundOfTheA$State")] sz [(a_t, .inr (4, [.ref a_t_ahead, .int t_straightDesk, .int t_draws, .int t_drawSeed, .int t_drawn])), (a_t_ahead, .inr (2, [.ref a_t_ahead_pitch, .ref a_t_ahead_hears, .int t_ahead_oboe, .int t_ahead_seconds])), (a_t_ahead_pitch, .inl (cI, 8, .inl t_ahead_pitch)), (a_t_ahead_hears, .inl (cI, 8, .inl t_ahead_hears)), (a_h, .inr (0, [.int h_desks, .ref a_h_kind, .ref a_h_leanTold, .ref a_h_needs, .ref a_h_firstHears, .ref a_h_group, .ref a_h_firstPitch, .int h_oboe, .int h_slip, .int h_warmth, .int h_unheard])), (a_h_kind, .inl (cI, 8, .inl h_kind)), (a_h_leanTold, .inl (cI, 8, .inl h_leanTold)), (a_h_needs, .inl (cI, 8, .inl h_needs)), (a_s, .inr (2, [.ref a_s_pitch, .ref a_s_hears, .int s_oboe, .int s_seconds])), (a_s_pitch, .inl (cI, 8, .inl s_pitch)), (a_s_hears, .inl (cI, 8, .inl s_hears))])) (va_Qi (fun (r : Int32) (_ : Unit) => r = res.1) (fun u t => POST (dC, dI) vwCl [(a_t, .inr (4, [.ref a_t_ahead, .int t_straightDesk, .int t_draws, .int t_drawSeed, .int res.2.1])), (a_t_ahead, .inr (2, [.ref a_t_ahead_pitch, .ref a_t_ahead_hears, .int res.2.2.1, .int res.2.2.2.1])), (a_t_ahead_pitch, .inl (cI, 8, .inl res.2.2.2.2.1)), (a_t_ahead_hears, .inl (cI, 8, .inl res.2.2.2.2.2.1)), (a_h, .inr (0, [.int h_desks, .ref a_h_kind, .ref a_h_leanTold, .ref a_h_needs, .ref a_h_firstHears, .ref a_h_group, .ref a_h_firstPitch, .int h_oboe, .int h_slip, .int h_warmth, .int h_unheard])), (a_h_kind, .inl (cI, 8, .inl h_kind)), (a_h_leanTold, .inl (cI, 8, .inl h_leanTold)), (a_h_needs, .inl (cI, 8, .inl h_needs)), (a_s, .inr (2, [.ref a_s_pitch, .ref a_s_hears, .int res.2.2.2.2.2.2.1, .int res.2.2.2.2.2.2.2.1])), (a_s_pitch, .inl (cI, 8, .inl res.2.2.2.2.2.2.2.2)), (a_s_hears, .inl (cI, 8, .inl s_hears))] (va_A [(a_t, .inr (4, [.ref a_t_ahead, .int t_straightDesk, .int t_draws, .int t_drawSeed, .int t_drawn])), (a_t_ahead, .inr (2, [.ref a_t_ahead_pitch, .ref a_t_ahead_hears, .int t_ahead_oboe, .int t_ahead_seconds])), (a_t_ahead_pitch, .inl (cI, 8, .inl t_ahead_pitch)), (a_t_ahead_hears, .inl (cI, 8, .inl t_ahead_hears)), (a_h, .inr (0, [.int h_desks, .ref a_h_kind, .ref a_h_leanTold, .ref a_h_needs, .ref a_h_firstHears, .ref a_h_group, .ref a_h_firstPitch, .int h_oboe, .int h_slip, .int h_warmth, .int h_unheard])), (a_h_kind, .inl (cI, 8, .inl h_kind)), (a_h_leanTold, .inl (cI, 8, .inl h_leanTold)), (a_h_needs, .inl (cI, 8, .inl h_needs)), (a_s, .inr (2, [.ref a_s_pitch, .ref a_s_hears, .int s_oboe, .int s_seconds])), (a_s_pitch, .inl (cI, 8, .inl s_pitch)), (a_s_hears, .inl (cI, 8, .inl s_hears))] sz) t) (va_A [(a_t, .inr (4, [.ref a_t_ahead, .int t_straightDesk, .int t_draws, .int t_drawSeed, .int t_drawn])), (a_t_ahead, .inr (2, [.ref a_t_ahead_pitch, .ref a_t_ahead_hears, .int t_ahead_oboe, .int t_ahead_seconds])), (a_t_ahead_pitch, .inl (cI, 8, .inl t_ahead_pitch)), (a_t_ahead_hears, .inl (cI, 8, .inl t_ahead_hears)), (a_h, .inr (0, [.int h_desks, .ref a_h_kind, .ref a_h_leanTold, .ref a_h_needs, .ref a_h_firstHears, .ref a_h_group, .ref a_h_firstPitch, .int h_oboe, .int h_slip, .int h_warmth, .int h_unheard])), (a_h_kind, .inl (cI, 8, .inl h_kind)), (a_h_leanTold, .inl (cI, 8, .inl h_leanTold)), (a_h_needs, .inl (cI, 8, .inl h_needs)), (a_s, .inr (2, [.ref a_s_pitch, .ref a_s_hears, .int s_oboe, .int s_seconds])), (a_s_pitch, .inl (cI, 8, .inl s_pitch)), (a_s_hears, .inl (cI, 8, .inl s_hears))] sz)) 0 0 (va_A [(a_t, .inr (4, [.ref a_t_ahead, .int t_straightDesk, .int t_draws, .int t_drawSeed, .int t_drawn])), (a_t_ahead, .inr (2, [.ref a_t_ahead_pitch, .ref a_t_ahead_hears, .int t_ahead_oboe, .int t_ahead_seconds])), (a_t_ahead_pitch, .inl (cI, 8, .inl t_ahead_pitch)), (a_t_ahead_hears, .inl (cI, 8, .inl t_ahead_hears)), (a_h, .inr (0, [.int h_desks, .ref a_h_kind, .ref a_h_leanTold, .ref a_h_needs, .ref a_h_firstHears, .ref a_h_group, .ref a_h_firstPitch, .int h_oboe, .int h_slip, .int h_warmth, .int h_unheard])), (a_h_kind, .inl (cI, 8, .inl h_kind)), (a_h_leanTold, .inl (cI, 8, .inl h_leanTold)), (a_h_needs, .inl (cI, 8, .inl h_needs)), (a_s, .inr (2, [.ref a_s_pitch, .ref a_s_hears, .int s_oboe, .int s_seconds])), (a_s_pitch, .inl (cI, 8, .inl s_pitch)), (a_s_hears, .inl (cI, 8, .inl s_hears))] sz) := by
  refine Met.ofW (cc := cX4_letTune) (maxL := 9) (ret := (some .int)) (by decide) rfl ?_
  intro p e s m args below meth c s₁ B hml hv
  obtain ⟨rfl, hsz, hN, hP, hK, hD0⟩ := hv
  have hx := B.exec
  have hb := B.bytes
  have hr := B.returns
  have hts := atoms_spec (ws := wsX4_letTune) B.pre
  have hown : s.vm.findClass RX4 = some m.cls := findClass_of_methodNamed B.named
  have hlocks := B.notSynchronized
  subst hsz
  have hD := hD0.self (sz := s.heap.size)
  generalize hAe : va_A [(a_t, .inr (4, [.ref a_t_ahead, .int t_straightDesk, .int t_draws, .int t_drawSeed, .int t_drawn])), (a_t_ahead, .inr (2, [.ref a_t_ahead_pitch, .ref a_t_ahead_hears, .int t_ahead_oboe, .int t_ahead_seconds])), (a_t_ahead_pitch, .inl (cI, 8, .inl t_ahead_pitch)), (a_t_ahead_hears, .inl (cI, 8, .inl t_ahead_hears)), (a_h, .inr (0, [.int h_desks, .ref a_h_kind, .ref a_h_leanTold, .ref a_h_needs, .ref a_h_firstHears, .ref a_h_group, .ref a_h_firstPitch, .int h_oboe, .int h_slip, .int h_warmth, .int h_unheard])), (a_h_kind, .inl (cI, 8, .inl h_kind)), (a_h_leanTold, .inl (cI, 8, .inl h_leanTold)), (a_h_needs, .inl (cI, 8, .inl h_needs)), (a_s, .inr (2, [.ref a_s_pitch, .ref a_s_hears, .int s_oboe, .int s_seconds])), (a_s_pitch, .inl (cI, 8, .inl s_pitch)), (a_s_hears, .inl (cI, 8, .inl s_hears))] s.heap.size = A at hD ⊢
  have hA : ∀ q : Nat, s.heap.size ≤ q → A q := fun q h => by rw [← hAe]; exact Or.inr h
  have hS : va_S A s.heap s.heap [] := va_S.rf
  generalize hQe : MQ below _ _ s _ _ A = QQ
  have hl := lv_entry ([.ref a_t, .ref a_h, .ref a_s, .int x3]) (n := 9) (Nat.le_of_ble_eq_true rfl)
  rw [lg_entry_eq]
  generalize (lg_sl ([.ref a_t, .ref a_h, .ref a_s, .int x3]) ++ List.replicate (9 - (lg_sl ([.ref a_t, .ref a_h, .ref a_s, .int x3])).length) Slot.unset).toArray = ls at hl ⊢
  have hl : lv_has ls 9 [(0, .ref a_t), (1, .ref a_h), (2, .ref a_s), (3, .int x3)] := hl
  have f_12 := hts (.fieldLink RX4 12 "RoundOfTheA$Tuner" "ahead" "LRoundOfTheA$State;") (by decide +kernel)
  have in_X4 := (by decide +kernel : ∀ w ∈ wsX40, w ∈ wsX4_letTune)
  have f_54 := hts (.fieldLink RX4 54 "RoundOfTheA$Hall" "desks" "I") (by decide +kernel)
  have in_X0 := (by decide +kernel : ∀ w ∈ wsX00, w ∈ wsX4_letTune)
  have k_iniX5 := hts (.initialized RX5) (by decide +kernel)
  have m_st_X5_isIn := hts (.static yX5_isIn) (by decide +kernel)
  have f_61 := hts (.fieldLink RX4 61 "RoundOfTheA$State" "pitch" "[I") (by decide +kernel)
  have in_X2 := (by decide +kernel : ∀ w ∈ wsX20, w ∈ wsX4_letTune)
  have m_st_X5_within := hts (.static yX5_within) (by decide +kernel)
  have f_76 := hts (.fieldLink RX4 76 "RoundOfTheA$Hall" "needs" "[I") (by decide +kernel)
  have m_79 := hts (.methodLink RX4 79 Lib.Math.max.name) (by decide +kernel)
  have ms_max := hts (.static Lib.Math.max.name) (by decide +kernel)
  have m_mi := hts (.initialized "java/lang/Math") (by decide +kernel)
  have mc_max := hts (.code Lib.Math.max.name Lib.Math.max.code 2 (some .int)) (by decide +kernel)
  have f_85 := hts (.fieldLink RX4 85 "RoundOfTheA$State" "hears" "[I") (by decide +kernel)
  have f_88 := hts (.fieldLink RX4 88 "RoundOfTheA$State" "oboe" "I") (by decide +kernel)
  have f_91 := hts (.fieldLink RX4 91 "RoundOfTheA$Hall" "slip" "I") (by decide +kernel)
  rw [F_X4_letTune] at h
  refine lv_aload_n hx hb dX4_letTune_0 rfl (lv_at hl 1 rfl) ?_
  refine lv_iload_n hx hb dX4_letTune_1 rfl (lv_at hl 3 rfl) ?_
  obtain ⟨r837, hr837, h⟩ := ob h
  refine k_Vi (As := [.int x3]) (rest := []) (wr := [(a_t, .inr (4, [.ref a_t_ahead, .int t_straightDesk, .int t_draws, .int t_drawSeed, .int t_drawn])), (a_t_ahead, .inr (2, [.ref a_t_ahead_pitch, .ref a_t_ahead_hears, .int t_ahead_oboe, .int t_ahead_seconds])), (a_t_ahead_pitch, .inl (cI, 8, .inl t_ahead_pitch)), (a_t_ahead_hears, .inl (cI, 8, .inl t_ahead_hears)), (a_h_leanTold, .inl (cI, 8, .inl h_leanTold)), (a_h_needs, .inl (cI, 8, .inl h_needs)), (a_s, .inr (2, [.ref a_s_pitch, .ref a_s_hears, .int s_oboe, .int s_seconds])), (a_s_pitch, .inl (cI, 8, .inl s_pitch)), (a_s_hears, .inl (cI, 8, .inl s_hears))]) (c_X0_tunableOf l dC dI cI cS n _ a_h a_h_kind a_h_leanTold a_h_needs a_h_firstHears a_h_group a_h_firstPitch h_desks h_kind h_oboe h_slip h_warmth h_unheard x3 r837 hr837) (fun _ _ q => q) ⟨hx, hb, hml, hown, hts⟩ (cwV 1 hts gX4_letTune_X0_tunableOf rfl rfl rfl (by decide +kernel) ⟨(Nat.le_of_ble_eq_true rfl), (Nat.le_of_ble_eq_true rfl)⟩) hN hK hP hD hS hA [4, 5] [0, 1, 2, 3, 6, 7, 8, 9, 10] rfl rfl (by decide) (by decide) (by decide) rfl rfl rfl hl.1 rfl (Nat.le_of_ble_eq_true rfl) dX4_letTune_2 ⟨(Nat.le_of_ble_eq_true rfl), (Nat.le_of_ble_eq_true rfl)⟩ (fun u838 H locs _ hP hD hS => ?_)
  have hP : va_P (dC, dI) vwCl [(a_t, .inr (4, [.ref a_t_ahead, .int t_straightDesk, .int t_draws, .int t_drawSeed, .int t_drawn])), (a_t_ahead, .inr (2, [.ref a_t_ahead_pitch, .ref a_t_ahead_hears, .int t_ahead_oboe, .int t_ahead_seconds])), (a_t_ahead_pitch, .inl (cI, 8, .inl t_ahead_pitch)), (a_t_ahead_hears, .inl (cI, 8, .inl t_ahead_hears)), (a_h_leanTold, .inl (cI, 8, .inl h_leanTold)), (a_h_needs, .inl (cI, 8, .inl h_needs)), (a_s, .inr (2, [.ref a_s_pitch, .ref a_s_hears, .int s_oboe, .int s_seconds])), (a_s_pitch, .inl (cI, 8, .inl s_pitch)), (a_s_hears, .inl (cI, 8, .inl s_hears)), (a_h, .inr (0, [.int h_desks, .ref a_h_kind, .ref a_h_leanTold, .ref a_h_needs, .ref a_h_firstHears, .ref a_h_group, .ref a_h_firstPitch, .int h_oboe, .int h_slip, .int h_warmth, .int h_unheard])), (a_h_kind, .inl (cI, 8, .inl h_kind))] H := hP
  have hD : va_D A [(a_t, .inr (4, [.ref a_t_ahead, .int t_straightDesk, .int t_draws, .int t_drawSeed, .int t_drawn])), (a_t_ahead, .inr (2, [.ref a_t_ahead_pitch, .ref a_t_ahead_hears, .int t_ahead_oboe, .int t_ahead_seconds])), (a_t_ahead_pitch, .inl (cI, 8, .inl t_ahead_pitch)), (a_t_ahead_hears, .inl (cI, 8, .inl t_ahead_hears)), (a_h_leanTold, .inl (cI, 8, .inl h_leanTold)), (a_h_needs, .inl (cI, 8, .inl h_needs)), (a_s, .inr (2, [.ref a_s_pitch, .ref a_s_hears, .int s_oboe, .int s_seconds])), (a_s_pitch, .inl (cI, 8, .inl s_pitch)), (a_s_hears, .inl (cI, 8, .inl s_hears)), (a_h, .inr (0, [.int h_desks, .ref a_h_kind, .ref a_h_leanTold, .ref a_h_needs, .ref a_h_firstHears, .ref a_h_group, .ref a_h_firstPitch, .int h_oboe, .int h_slip, .int h_warmth, .int h_unheard])), (a_h_kind, .inl (cI, 8, .inl h_kind))] := hD
  refine lv_istore (lv' := [(4, .int r837), (0, .ref a_t), (1, .ref a_h), (2, .ref a_s), (3, .int x3)]) hx hb dX4_letTune_5 hl (by decide) rfl (fun ls hl => ?_)
  refine lv_iload hx hb dX4_letTune_7 (lv_at hl 0 rfl) ?_
  obtain ⟨r839, hr839, h⟩ := ob h
  refine k_Si (As := [.int r837]) (rest := []) (c_J6_bitCount_0f7a4 l dC dI cI cS n _ r837 r839 hr839) (fun _ _ q => q) ⟨hx, hb, hml, hown, hts⟩ (va_cwS 1 hts gX4_letTune_J6_bitCount_0f7a4 rfl rfl rfl (by decide +kernel) ⟨(Nat.le_of_ble_eq_true rfl), (Nat.le_of_ble_eq_true rfl)⟩) hN hK hP hD hS hA rfl hl.1 rfl (Nat.le_of_ble_eq_true rfl) dX4_letTune_9 ⟨(Nat.le_of_ble_eq_true rfl), (Nat.le_of_ble_eq_true rfl)⟩ (fun H locs hP hD hS => ?_)
  refine lv_iconst (v := (1 : Int32)) hx hb dX4_letTune_12 (by decide) ?_
  refine lv_isub hx hb dX4_letTune_13 ?_
  refine lv_iconst (v := (2 : Int32)) hx hb dX4_letTune_14 (by decide) ?_
  refine lv_idiv hx hb dX4_letTune_15 (by decide) ?_
  refine lv_istore (lv' := [(5, .int ((r839 - (1 : Int32)) / (2 : Int32))), (4, .int r837), (0, .ref a_t), (1, .ref a_h), (2, .ref a_s), (3, .int x3)]) hx hb dX4_letTune_16 hl (by decide) rfl (fun ls hl => ?_)
  refine lv_iconst (v := (0 : Int32)) hx hb dX4_letTune_18 (by decide) ?_
  refine lv_istore (lv' := [(6, .int (0 : Int32)), (5, .int ((r839 - (1 : Int32)) / (2 : Int32))), (4, .int r837), (0, .ref a_t), (1, .ref a_h), (2, .ref a_s), (3, .int x3)]) hx hb dX4_letTune_19 hl (by decide) rfl (fun ls hl => ?_)
  refine lv_iconst (v := (0 : Int32)) hx hb dX4_letTune_21 (by decide) ?_
  refine lv_istore (lv' := [(7, .int (0 : Int32)), (6, .int (0 : Int32)), (5, .int ((r839 - (1 : Int32)) / (2 : Int32))), (4, .int r837), (0, .ref a_t), (1, .ref a_h), (2, .ref a_s), (3, .int x3)]) hx hb dX4_letTune_22 hl (by decide) rfl (fun ls hl => ?_)
  refine lv_aload_n hx hb dX4_letTune_24 rfl (lv_at hl 4 rfl) ?_
  refine va_get (D := (dC, dI)) (ci := 4) (v := .ref a_t_ahead) (C := RX4) (T := TX4) (N := 5) hx hb hts in_X4 hown hK hP 0 rfl rfl 0 (by decide) f_12 (fun _ h9 => h9) rfl dX4_letTune_25 ?_
  refine lv_aload_n hx hb dX4_letTune_28 rfl (lv_at hl 6 rfl) ?_
  obtain ⟨r841, hr841, h⟩ := ob h
  refine k_Vv (As := [.ref a_s]) (rest := []) (wr := [(a_t, .inr (4, [.ref a_t_ahead, .int t_straightDesk, .int t_draws, .int t_drawSeed, .int t_drawn])), (a_h_leanTold, .inl (cI, 8, .inl h_leanTold)), (a_h_needs, .inl (cI, 8, .inl h_needs)), (a_h, .inr (0, [.int h_desks, .ref a_h_kind, .ref a_h_leanTold, .ref a_h_needs, .ref a_h_firstHears, .ref a_h_group, .ref a_h_firstPitch, .int h_oboe, .int h_slip, .int h_warmth, .int h_unheard])), (a_h_kind, .inl (cI, 8, .inl h_kind))]) (c_X2_become l dC dI cI cS n _ a_t_ahead a_t_ahead_pitch a_t_ahead_hears a_s a_s_pitch a_s_hears t_ahead_pitch t_ahead_hears t_ahead_oboe t_ahead_seconds s_pitch s_hears s_oboe s_seconds r841 hr841) ⟨hx, hb, hml, hown, hts⟩ (cwV 1 hts gX4_letTune_X2_become rfl rfl rfl (by decide +kernel) ⟨(Nat.le_of_ble_eq_true rfl), (Nat.le_of_ble_eq_true rfl)⟩) hN hK hP hD hS hA [1, 2, 3, 6, 7, 8] [0, 4, 5, 9, 10] rfl rfl (by decide) (by decide) (by decide) rfl rfl rfl hl.1 rfl (Nat.le_of_ble_eq_true rfl) dX4_letTune_29 ⟨(Nat.le_of_ble_eq_true rfl), (Nat.le_of_ble_eq_true rfl)⟩ (fun u842 H locs _ hP hD hS => ?_)
  have hP : va_P (dC, dI) vwCl [(a_t, .inr (4, [.ref a_t_ahead, .int t_straightDesk, .int t_draws, .int t_drawSeed, .int t_drawn])), (a_h_leanTold, .inl (cI, 8, .inl h_leanTold)), (a_h_needs, .inl (cI, 8, .inl h_needs)), (a_h, .inr (0, [.int h_desks, .ref a_h_kind, .ref a_h_leanTold, .ref a_h_needs, .ref a_h_firstHears, .ref a_h_group, .ref a_h_firstPitch, .int h_oboe, .int h_slip, .int h_warmth, .int h_unheard])), (a_h_kind, .inl (cI, 8, .inl h_kind)), (a_t_ahead, .inr (2, [.ref a_t_ahead_pitch, .ref a_t_ahead_hears, .int r841.1, .int r841.2.1])), (a_t_ahead_pitch, .inl (cI, 8, .inl r841.2.2.1)), (a_t_ahead_hears, .inl (cI, 8, .inl r841.2.2.2)), (a_s, .inr (2, [.ref a_s_pitch, .ref a_s_hears, .int s_oboe, .int s_seconds])), (a_s_pitch, .inl (cI, 8, .inl s_pitch)), (a_s_hears, .inl (cI, 8, .inl s_hears))] H := hP
  have hD : va_D A [(a_t, .inr (4, [.ref a_t_ahead, .int t_straightDesk, .int t_draws, .int t_drawSeed, .int t_drawn])), (a_h_leanTold, .inl (cI, 8, .inl h_leanTold)), (a_h_needs, .inl (cI, 8, .inl h_needs)), (a_h, .inr (0, [.int h_desks, .ref a_h_kind, .ref a_h_leanTold, .ref a_h_needs, .ref a_h_firstHears, .ref a_h_group, .ref a_h_firstPitch, .int h_oboe, .int h_slip, .int h_warmth, .int h_unheard])), (a_h_kind, .inl (cI, 8, .inl h_kind)), (a_t_ahead, .inr (2, [.ref a_t_ahead_pitch, .ref a_t_ahead_hears, .int r841.1, .int r841.2.1])), (a_t_ahead_pitch, .inl (cI, 8, .inl r841.2.2.1)), (a_t_ahead_hears, .inl (cI, 8, .inl r841.2.2.2)), (a_s, .inr (2, [.ref a_s_pitch, .ref a_s_hears, .int s_oboe, .int s_seconds])), (a_s_pitch, .inl (cI, 8, .inl s_pitch)), (a_s_hears, .inl (cI, 8, .inl s_hears))] := hD
  refine lv_iconst (v := (0 : Int32)) hx hb dX4_letTune_32 (by decide) ?_
  refine lv_istore (lv' := [(8, .int (0 : Int32)), (7, .int (0 : Int32)), (6, .int (0 : Int32)), (5, .int ((r839 - (1 : Int32)) / (2 : Int32))), (4, .int r837), (0, .ref a_t), (1, .ref a_h), (2, .ref a_s), (3, .int x3)]) hx hb dX4_letTune_33 hl (by decide) rfl (fun ls hl => ?_)
  obtain ⟨j890, hjj890, h⟩ := ob h
  have Jj890 : ∀ (H : Heap) (locs : List Loc), va_P (dC, dI) vwCl [(a_t, .inr (4, [.ref a_t_ahead, .int t_straightDesk, .int t_draws, .int t_drawSeed, .int j890.2.2.2.1])), (a_h_leanTold, .inl (cI, 8, .inl h_leanTold)), (a_h_needs, .inl (cI, 8, .inl h_needs)), (a_h, .inr (0, [.int h_desks, .ref a_h_kind, .ref a_h_leanTold, .ref a_h_needs, .ref a_h_firstHears, .ref a_h_group, .ref a_h_firstPitch, .int h_oboe, .int h_slip, .int h_warmth, .int h_unheard])), (a_h_kind, .inl (cI, 8, .inl h_kind)), (a_t_ahead, .inr (2, [.ref a_t_ahead_pitch, .ref a_t_ahead_hears, .int r841.1, .int r841.2.1])), (a_t_ahead_pitch, .inl (cI, 8, .inl r841.2.2.1)), (a_t_ahead_hears, .inl (cI, 8, .inl r841.2.2.2)), (a_s, .inr (2, [.ref a_s_pitch, .ref a_s_hears, .int s_oboe, .int s_seconds])), (a_s_pitch, .inl (cI, 8, .inl j890.2.2.2.2)), (a_s_hears, .inl (cI, 8, .inl s_hears))] H → va_D A [(a_t, .inr (4, [.ref a_t_ahead, .int t_straightDesk, .int t_draws, .int t_drawSeed, .int j890.2.2.2.1])), (a_h_leanTold, .inl (cI, 8, .inl h_leanTold)), (a_h_needs, .inl (cI, 8, .inl h_needs)), (a_h, .inr (0, [.int h_desks, .ref a_h_kind, .ref a_h_leanTold, .ref a_h_needs, .ref a_h_firstHears, .ref a_h_group, .ref a_h_firstPitch, .int h_oboe, .int h_slip, .int h_warmth, .int h_unheard])), (a_h_kind, .inl (cI, 8, .inl h_kind)), (a_t_ahead, .inr (2, [.ref a_t_ahead_pitch, .ref a_t_ahead_hears, .int r841.1, .int r841.2.1])), (a_t_ahead_pitch, .inl (cI, 8, .inl r841.2.2.1)), (a_t_ahead_hears, .inl (cI, 8, .inl r841.2.2.2)), (a_s, .inr (2, [.ref a_s_pitch, .ref a_s_hears, .int s_oboe, .int s_seconds])), (a_s_pitch, .inl (cI, 8, .inl j890.2.2.2.2)), (a_s_hears, .inl (cI, 8, .inl s_hears))] → va_S A s.heap H locs → ∀ ls : Array Slot, lv_has ls 9 [(0, .ref a_t), (1, .ref a_h), (2, .ref a_s), (3, .int x3), (4, .int r837), (5, .int ((r839 - (1 : Int32)) / (2 : Int32))), (6, .int j890.1), (7, .int j890.2.1), (8, .int j890.2.2.1)] → W p l e (headSpec wsX4_letTune rm_X4_letTune).room s m ([.ref a_t, .ref a_h, .ref a_s, .int x3] : List Value).toArray below meth c H locs 0 0 QQ (F0 m 119 ls []) := by
    intro H locs hP hD hS ls hl
    refine lv_iload hx hb dX4_letTune_119 (lv_at hl 7 rfl) ?_
    obtain ⟨j914, hjj914, h⟩ := ob h
    have Jj914 : ∀ (H : Heap) (locs : List Loc), va_P (dC, dI) vwCl [(a_t, .inr (4, [.ref a_t_ahead, .int t_straightDesk, .int t_draws, .int t_drawSeed, .int j890.2.2.2.1])), (a_h_leanTold, .inl (cI, 8, .inl h_leanTold)), (a_h_needs, .inl (cI, 8, .inl h_needs)), (a_h, .inr (0, [.int h_desks, .ref a_h_kind, .ref a_h_leanTold, .ref a_h_needs, .ref a_h_firstHears, .ref a_h_group, .ref a_h_firstPitch, .int h_oboe, .int h_slip, .int h_warmth, .int h_unheard])), (a_h_kind, .inl (cI, 8, .inl h_kind)), (a_t_ahead, .inr (2, [.ref a_t_ahead_pitch, .ref a_t_ahead_hears, .int r841.1, .int r841.2.1])), (a_t_ahead_pitch, .inl (cI, 8, .inl r841.2.2.1)), (a_t_ahead_hears, .inl (cI, 8, .inl r841.2.2.2)), (a_s, .inr (2, [.ref a_s_pitch, .ref a_s_hears, .int j914, .int s_seconds])), (a_s_pitch, .inl (cI, 8, .inl j890.2.2.2.2)), (a_s_hears, .inl (cI, 8, .inl s_hears))] H → va_D A [(a_t, .inr (4, [.ref a_t_ahead, .int t_straightDesk, .int t_draws, .int t_drawSeed, .int j890.2.2.2.1])), (a_h_leanTold, .inl (cI, 8, .inl h_leanTold)), (a_h_needs, .inl (cI, 8, .inl h_needs)), (a_h, .inr (0, [.int h_desks, .ref a_h_kind, .ref a_h_leanTold, .ref a_h_needs, .ref a_h_firstHears, .ref a_h_group, .ref a_h_firstPitch, .int h_oboe, .int h_slip, .int h_warmth, .int h_unheard])), (a_h_kind, .inl (cI, 8, .inl h_kind)), (a_t_ahead, .inr (2, [.ref a_t_ahead_pitch, .ref a_t_ahead_hears, .int r841.1, .int r841.2.1])), (a_t_ahead_pitch, .inl (cI, 8, .inl r841.2.2.1)), (a_t_ahead_hears, .inl (cI, 8, .inl r841.2.2.2)), (a_s, .inr (2, [.ref a_s_pitch, .ref a_s_hears, .int j914, .int s_seconds])), (a_s_pitch, .inl (cI, 8, .inl j890.2.2.2.2)), (a_s_hears, .inl (cI, 8, .inl s_hears))] → va_S A s.heap H locs → ∀ ls : Array Slot, lv_has ls 9 [(0, .ref a_t), (1, .ref a_h), (2, .ref a_s), (3, .int x3), (4, .int r837), (5, .int ((r839 - (1 : Int32)) / (2 : Int32))), (6, .int j890.1), (7, .int j890.2.1), (8, .int j890.2.2.1)] → W p l e (headSpec wsX4_letTune rm_X4_letTune).room s m ([.ref a_t, .ref a_h, .ref a_s, .int x3] : List Value).toArray below meth c H locs 0 0 QQ (F0 m 140 ls []) := by
      intro H locs hP hD hS ls hl
      refine lv_aload_n hx hb dX4_letTune_140 rfl (lv_at hl 2 rfl) ?_
      refine lv_aload_n hx hb dX4_letTune_141 rfl (lv_at hl 1 rfl) ?_
      refine lv_iload hx hb dX4_letTune_142 (lv_at hl 6 rfl) ?_
      obtain ⟨r917, hr917, h⟩ := ob h
      refine k_Vv (As := [.ref a_h, .int j890.1]) (rest := []) (wr := [(a_t, .inr (4, [.ref a_t_ahead, .int t_straightDesk, .int t_draws, .int t_drawSeed, .int j890.2.2.2.1])), (a_h_leanTold, .inl (cI, 8, .inl h_leanTold)), (a_h_needs, .inl (cI, 8, .inl h_needs)), (a_t_ahead, .inr (2, [.ref a_t_ahead_pitch, .ref a_t_ahead_hears, .int r841.1, .int r841.2.1])), (a_t_ahead_pitch, .inl (cI, 8, .inl r841.2.2.1)), (a_t_ahead_hears, .inl (cI, 8, .inl r841.2.2.2)), (a_s_hears, .inl (cI, 8, .inl s_hears))]) (c_X2_letPass l dC dI cI cS n _ a_s a_s_pitch a_s_hears a_h a_h_kind a_h_leanTold a_h_needs a_h_firstHears a_h_group a_h_firstPitch j890.2.2.2.2 j914 s_seconds h_desks h_kind h_oboe h_slip h_warmth h_unheard j890.1 r917 hr917) ⟨hx, hb, hml, hown, hts⟩ (cwV 2 hts gX4_letTune_X2_letPass rfl rfl rfl (by decide +kernel) ⟨(Nat.le_of_ble_eq_true rfl), (Nat.le_of_ble_eq_true rfl)⟩) hN hK hP hD hS hA [8, 9, 3, 4] [0, 1, 2, 5, 6, 7, 10] rfl rfl (by decide) (by decide) (by decide) rfl rfl rfl hl.1 rfl (Nat.le_of_ble_eq_true rfl) dX4_letTune_144 ⟨(Nat.le_of_ble_eq_true rfl), (Nat.le_of_ble_eq_true rfl)⟩ (fun u918 H locs _ hP hD hS => ?_)
      have hP : va_P (dC, dI) vwCl [(a_t, .inr (4, [.ref a_t_ahead, .int t_straightDesk, .int t_draws, .int t_drawSeed, .int j890.2.2.2.1])), (a_h_leanTold, .inl (cI, 8, .inl h_leanTold)), (a_h_needs, .inl (cI, 8, .inl h_needs)), (a_t_ahead, .inr (2, [.ref a_t_ahead_pitch, .ref a_t_ahead_hears, .int r841.1, .int r841.2.1])), (a_t_ahead_pitch, .inl (cI, 8, .inl r841.2.2.1)), (a_t_ahead_hears, .inl (cI, 8, .inl r841.2.2.2)), (a_s_hears, .inl (cI, 8, .inl s_hears)), (a_s, .inr (2, [.ref a_s_pitch, .ref a_s_hears, .int j914, .int r917.1])), (a_s_pitch, .inl (cI, 8, .inl r917.2)), (a_h, .inr (0, [.int h_desks, .ref a_h_kind, .ref a_h_leanTold, .ref a_h_needs, .ref a_h_firstHears, .ref a_h_group, .ref a_h_firstPitch, .int h_oboe, .int h_slip, .int h_warmth, .int h_unheard])), (a_h_kind, .inl (cI, 8, .inl h_kind))] H := hP
      have hD : va_D A [(a_t, .inr (4, [.ref a_t_ahead, .int t_straightDesk, .int t_draws, .int t_drawSeed, .int j890.2.2.2.1])), (a_h_leanTold, .inl (cI, 8, .inl h_leanTold)), (a_h_needs, .inl (cI, 8, .inl h_needs)), (a_t_ahead, .inr (2, [.ref a_t_ahead_pitch, .ref a_t_ahead_hears, .int r841.1, .int r841.2.1])), (a_t_ahead_pitch, .inl (cI, 8, .inl r841.2.2.1)), (a_t_ahead_hears, .inl (cI, 8, .inl r841.2.2.2)), (a_s_hears, .inl (cI, 8, .inl s_hears)), (a_s, .inr (2, [.ref a_s_pitch, .ref a_s_hears, .int j914, .int r917.1])), (a_s_pitch, .inl (cI, 8, .inl r917.2)), (a_h, .inr (0, [.int h_desks, .ref a_h_kind, .ref a_h_leanTold, .ref a_h_needs, .ref a_h_firstHears, .ref a_h_group, .ref a_h_firstPitch, .int h_oboe, .int h_slip, .int h_warmth, .int h_unheard])), (a_h_kind, .inl (cI, 8, .inl h_kind))] := hD
      refine lv_iload hx hb dX4_letTune_147 (lv_at hl 6 rfl) ?_
      obtain rfl := Option.some.inj h
      subst hQe
      exact W.iret (v := j890.1) hx hb hr (fun t ht hW => ⟨⟨j890.1, (), rfl, rfl, ⟨by rw [ht]; exact hP.sub [0, 3, 4, 5, 9, 10, 1, 2, 7, 8, 6] rfl, hD.sub [0, 3, 4, 5, 9, 10, 1, 2, 7, 8, 6] (by decide +kernel) rfl⟩⟩, hS.F ht⟩) hS.2.2 dX4_letTune_149
    refine lv_if_eq (tgt := 140) hx hb dX4_letTune_121 (by decide) (fun c_121 => ?_) (fun c_121 => ?_)
    · have h := (if_pos c_121).symm.trans hjj914
      obtain rfl := Option.some.inj h
      exact Jj914 _ _ hP hD hS _ hl
    · have h := (if_neg c_121).symm.trans hjj914
      refine lv_aload_n hx hb dX4_letTune_124 rfl (lv_at hl 2 rfl) ?_
      refine lv_aload_n hx hb dX4_letTune_125 rfl (lv_at hl 2 rfl) ?_
      refine va_get (D := (dC, dI)) (ci := 2) (v := .int s_oboe) (C := RX2) (T := TX2) (N := 4) hx hb hts in_X2 hown hK hP 8 rfl rfl 2 (by decide) f_88 (fun _ h9 => h9) rfl dX4_letTune_126 ?_
      refine lv_aload_n hx hb dX4_letTune_129 rfl (lv_at hl 1 rfl) ?_
      refine va_get (D := (dC, dI)) (ci := 0) (v := .int h_slip) (C := RX0) (T := TX0) (N := 11) hx hb hts in_X0 hown hK hP 3 rfl rfl 8 (by decide) f_91 (fun _ h9 => h9) rfl dX4_letTune_130 ?_
      refine lv_iadd hx hb dX4_letTune_133 ?_
      obtain ⟨r915, hr915, h⟩ := ob h
      refine k_Ni (As := [.int (s_oboe + h_slip)]) (rest := [.ref a_s]) (c_X5_within l dC dI cI cS n _ (s_oboe + h_slip) r915 hr915) (fun _ _ q => q) ⟨hx, hb, hml, hown, hts⟩ (va_cnB 1 hts gX4_letTune_X5_within_n73 rfl rfl rfl (hN.1 _ (List.mem_of_getElem? (i := 9) rfl)) k_iniX5 (by decide +kernel) ⟨(Nat.le_of_ble_eq_true rfl), (Nat.le_of_ble_eq_true rfl)⟩) m_st_X5_within hN hK hP hD hS hA rfl hl.1 rfl (Nat.le_of_ble_eq_true rfl) dX4_letTune_134 ⟨(Nat.le_of_ble_eq_true rfl), (Nat.le_of_ble_eq_true rfl)⟩ (fun H locs hP hD hS => ?_)
      refine va_put (D := (dC, dI)) (ci := 2) (v := .int r915) (ty := .int) (C := RX2) (T := TX2) (N := 4) hx hb hts in_X2 tyX2 tyX2_ok nmX2 hown hK hP hD hS 8 rfl rfl 2 (by decide) f_88 (fun _ h9 => h9) rfl (by decide +kernel) rfl rfl (Nat.le_of_ble_eq_true rfl) dX4_letTune_137 (fun H locs hP hD hS => ?_)
      have hP : va_P (dC, dI) vwCl [(a_t, .inr (4, [.ref a_t_ahead, .int t_straightDesk, .int t_draws, .int t_drawSeed, .int j890.2.2.2.1])), (a_h_leanTold, .inl (cI, 8, .inl h_leanTold)), (a_h_needs, .inl (cI, 8, .inl h_needs)), (a_h, .inr (0, [.int h_desks, .ref a_h_kind, .ref a_h_leanTold, .ref a_h_needs, .ref a_h_firstHears, .ref a_h_group, .ref a_h_firstPitch, .int h_oboe, .int h_slip, .int h_warmth, .int h_unheard])), (a_h_kind, .inl (cI, 8, .inl h_kind)), (a_t_ahead, .inr (2, [.ref a_t_ahead_pitch, .ref a_t_ahead_hears, .int r841.1, .int r841.2.1])), (a_t_ahead_pitch, .inl (cI, 8, .inl r841.2.2.1)), (a_t_ahead_hears, .inl (cI, 8, .inl r841.2.2.2)), (a_s, .inr (2, [.ref a_s_pitch, .ref a_s_hears, .int r915, .int s_seconds])), (a_s_pitch, .inl (cI, 8, .inl j890.2.2.2.2)), (a_s_hears, .inl (cI, 8, .inl s_hears))] H := hP
      have hD : va_D A [(a_t, .inr (4, [.ref a_t_ahead, .int t_straightDesk, .int t_draws, .int t_drawSeed, .int j890.2.2.2.1])), (a_h_leanTold, .inl (cI, 8, .inl h_leanTold)), (a_h_needs, .inl (cI, 8, .inl h_needs)), (a_h, .inr (0, [.int h_desks, .ref a_h_kind, .ref a_h_leanTold, .ref a_h_needs, .ref a_h_firstHears, .ref a_h_group, .ref a_h_firstPitch, .int h_oboe, .int h_slip, .int h_warmth, .int h_unheard])), (a_h_kind, .inl (cI, 8, .inl h_kind)), (a_t_ahead, .inr (2, [.ref a_t_ahead_pitch, .ref a_t_ahead_hears, .int r841.1, .int r841.2.1])), (a_t_ahead_pitch, .inl (cI, 8, .inl r841.2.2.1)), (a_t_ahead_hears, .inl (cI, 8, .inl r841.2.2.2)), (a_s, .inr (2, [.ref a_s_pitch, .ref a_s_hears, .int r915, .int s_seconds])), (a_s_pitch, .inl (cI, 8, .inl j890.2.2.2.2)), (a_s_hears, .inl (cI, 8, .inl s_hears))] := hD
      obtain rfl := Option.some.inj h
      exact Jj914 _ _ hP hD hS _ hl
  have K35 : ∀ (k : Nat) (y6_35 : Int32) (y7_35 : Int32) (y8_35 : Int32) (t_4v_35 : Int32) (s_pitchv_35 : Nat → Int32), L_X4_letTune_35 n t_straightDesk t_draws t_drawSeed h_desks h_leanTold h_needs r837 r839 r841 k y6_35 y7_35 y8_35 t_4v_35 s_pitchv_35 = some j890 → ∀ (H : Heap) (locs : List Loc), va_P (dC, dI) vwCl [(a_t, .inr (4, [.ref a_t_ahead, .int t_straightDesk, .int t_draws, .int t_drawSeed, .int t_4v_35])), (a_h_leanTold, .inl (cI, 8, .inl h_leanTold)), (a_h_needs, .inl (cI, 8, .inl h_needs)), (a_h, .inr (0, [.int h_desks, .ref a_h_kind, .ref a_h_leanTold, .ref a_h_needs, .ref a_h_firstHears, .ref a_h_group, .ref a_h_firstPitch, .int h_oboe, .int h_slip, .int h_warmth, .int h_unheard])), (a_h_kind, .inl (cI, 8, .inl h_kind)), (a_t_ahead, .inr (2, [.ref a_t_ahead_pitch, .ref a_t_ahead_hears, .int r841.1, .int r841.2.1])), (a_t_ahead_pitch, .inl (cI, 8, .inl r841.2.2.1)), (a_t_ahead_hears, .inl (cI, 8, .inl r841.2.2.2)), (a_s, .inr (2, [.ref a_s_pitch, .ref a_s_hears, .int s_oboe, .int s_seconds])), (a_s_pitch, .inl (cI, 8, .inl s_pitchv_35)), (a_s_hears, .inl (cI, 8, .inl s_hears))] H → va_D A [(a_t, .inr (4, [.ref a_t_ahead, .int t_straightDesk, .int t_draws, .int t_drawSeed, .int t_4v_35])), (a_h_leanTold, .inl (cI, 8, .inl h_leanTold)), (a_h_needs, .inl (cI, 8, .inl h_needs)), (a_h, .inr (0, [.int h_desks, .ref a_h_kind, .ref a_h_leanTold, .ref a_h_needs, .ref a_h_firstHears, .ref a_h_group, .ref a_h_firstPitch, .int h_oboe, .int h_slip, .int h_warmth, .int h_unheard])), (a_h_kind, .inl (cI, 8, .inl h_kind)), (a_t_ahead, .inr (2, [.ref a_t_ahead_pitch, .ref a_t_ahead_hears, .int r841.1, .int r841.2.1])), (a_t_ahead_pitch, .inl (cI, 8, .inl r841.2.2.1)), (a_t_ahead_hears, .inl (cI, 8, .inl r841.2.2.2)), (a_s, .inr (2, [.ref a_s_pitch, .ref a_s_hears, .int s_oboe, .int s_seconds])), (a_s_pitch, .inl (cI, 8, .inl s_pitchv_35)), (a_s_hears, .inl (cI, 8, .inl s_hears))] → va_S A s.heap H locs → ∀ ls : Array Slot, lv_has ls 9 [(0, .ref a_t), (1, .ref a_h), (2, .ref a_s), (3, .int x3), (4, .int r837), (5, .int ((r839 - (1 : Int32)) / (2 : Int32))), (6, .int y6_35), (7, .int y7_35), (8, .int y8_35)] → W p l e (headSpec wsX4_letTune rm_X4_letTune).room s m ([.ref a_t, .ref a_h, .ref a_s, .int x3] : List Value).toArray below meth c H locs 0 0 QQ (F0 m 35 ls []) := by
    intro k
    induction k with
    | zero =>
      intro y6_35 y7_35 y8_35 t_4v_35 s_pitchv_35 h
      rw [L_X4_letTune_35] at h
      cases h
    | succ k ih =>
      intro y6_35 y7_35 y8_35 t_4v_35 s_pitchv_35 h H locs hP hD hS ls hl
      rw [L_X4_letTune_35] at h
      refine lv_iload hx hb dX4_letTune_35 (lv_at hl 8 rfl) ?_
      refine lv_aload_n hx hb dX4_letTune_37 rfl (lv_at hl 1 rfl) ?_
      refine va_get (D := (dC, dI)) (ci := 0) (v := .int h_desks) (C := RX0) (T := TX0) (N := 11) hx hb hts in_X0 hown hK hP 3 rfl rfl 0 (by decide) f_54 (fun _ h9 => h9) rfl dX4_letTune_38 ?_
      refine lv_icmp_ge (tgt := 119) hx hb dX4_letTune_41 (by decide) (fun c_41 => ?_) (fun c_41 => ?_)
      · have h := (if_pos c_41).symm.trans h
        obtain rfl := Option.some.inj h
        exact Jj890 _ _ hP hD hS _ hl
      · have h := (if_neg c_41).symm.trans h
        refine lv_iload hx hb dX4_letTune_44 (lv_at hl 4 rfl) ?_
        refine lv_iload hx hb dX4_letTune_46 (lv_at hl 8 rfl) ?_
        obtain ⟨r891, hr891, h⟩ := ob h
        refine k_Ni (As := [.int r837, .int y8_35]) (rest := []) (c_X5_isIn l dC dI cI cS n _ r837 y8_35 r891 hr891) (fun _ _ q => q) ⟨hx, hb, hml, hown, hts⟩ (va_cnB 2 hts gX4_letTune_X5_isIn_n57 rfl rfl rfl (hN.1 _ (List.mem_of_getElem? (i := 8) rfl)) k_iniX5 (by decide +kernel) ⟨(Nat.le_of_ble_eq_true rfl), (Nat.le_of_ble_eq_true rfl)⟩) m_st_X5_isIn hN hK hP hD hS hA rfl hl.1 rfl (Nat.le_of_ble_eq_true rfl) dX4_letTune_48 ⟨(Nat.le_of_ble_eq_true rfl), (Nat.le_of_ble_eq_true rfl)⟩ (fun H locs hP hD hS => ?_)
        obtain ⟨j902, hjj902, h⟩ := ob h
        have Jj902 : ∀ (H : Heap) (locs : List Loc), va_P (dC, dI) vwCl [(a_t, .inr (4, [.ref a_t_ahead, .int t_straightDesk, .int t_draws, .int t_drawSeed, .int j902.2.2.2])), (a_h_leanTold, .inl (cI, 8, .inl h_leanTold)), (a_h_needs, .inl (cI, 8, .inl h_needs)), (a_h, .inr (0, [.int h_desks, .ref a_h_kind, .ref a_h_leanTold, .ref a_h_needs, .ref a_h_firstHears, .ref a_h_group, .ref a_h_firstPitch, .int h_oboe, .int h_slip, .int h_warmth, .int h_unheard])), (a_h_kind, .inl (cI, 8, .inl h_kind)), (a_t_ahead, .inr (2, [.ref a_t_ahead_pitch, .ref a_t_ahead_hears, .int r841.1, .int r841.2.1])), (a_t_ahead_pitch, .inl (cI, 8, .inl r841.2.2.1)), (a_t_ahead_hears, .inl (cI, 8, .inl r841.2.2.2)), (a_s, .inr (2, [.ref a_s_pitch, .ref a_s_hears, .int s_oboe, .int s_seconds])), (a_s_pitch, .inl (cI, 8, .inl j902.2.2.1)), (a_s_hears, .inl (cI, 8, .inl s_hears))] H → va_D A [(a_t, .inr (4, [.ref a_t_ahead, .int t_straightDesk, .int t_draws, .int t_drawSeed, .int j902.2.2.2])), (a_h_leanTold, .inl (cI, 8, .inl h_leanTold)), (a_h_needs, .inl (cI, 8, .inl h_needs)), (a_h, .inr (0, [.int h_desks, .ref a_h_kind, .ref a_h_leanTold, .ref a_h_needs, .ref a_h_firstHears, .ref a_h_group, .ref a_h_firstPitch, .int h_oboe, .int h_slip, .int h_warmth, .int h_unheard])), (a_h_kind, .inl (cI, 8, .inl h_kind)), (a_t_ahead, .inr (2, [.ref a_t_ahead_pitch, .ref a_t_ahead_hears, .int r841.1, .int r841.2.1])), (a_t_ahead_pitch, .inl (cI, 8, .inl r841.2.2.1)), (a_t_ahead_hears, .inl (cI, 8, .inl r841.2.2.2)), (a_s, .inr (2, [.ref a_s_pitch, .ref a_s_hears, .int s_oboe, .int s_seconds])), (a_s_pitch, .inl (cI, 8, .inl j902.2.2.1)), (a_s_hears, .inl (cI, 8, .inl s_hears))] → va_S A s.heap H locs → ∀ ls : Array Slot, lv_has ls 9 [(0, .ref a_t), (1, .ref a_h), (2, .ref a_s), (3, .int x3), (4, .int r837), (5, .int ((r839 - (1 : Int32)) / (2 : Int32))), (6, .int j902.1), (7, .int j902.2.1), (8, .int y8_35)] → W p l e (headSpec wsX4_letTune rm_X4_letTune).room s m ([.ref a_t, .ref a_h, .ref a_s, .int x3] : List Value).toArray below meth c H locs 0 0 QQ (F0 m 113 ls []) := by
          intro H locs hP hD hS ls hl
          refine lv_iinc (v := (y8_35 + (1 : Int32))) (lv' := [(8, .int (y8_35 + (1 : Int32))), (0, .ref a_t), (1, .ref a_h), (2, .ref a_s), (3, .int x3), (4, .int r837), (5, .int ((r839 - (1 : Int32)) / (2 : Int32))), (6, .int j902.1), (7, .int j902.2.1)]) hx hb dX4_letTune_113 hl (k := 8) rfl rfl (by decide) rfl (fun ls hl => ?_)
          refine lv_goto (tgt := 35) hx hb dX4_letTune_116 (by decide) ?_
          exact ih _ _ _ _ _ h _ _ hP hD hS _ (lv_sub hl [1, 2, 3, 4, 5, 6, 7, 8, 0] rfl)
        refine lv_if_ne (tgt := 57) hx hb dX4_letTune_51 (by decide) (fun c_51 => ?_) (fun c_51 => ?_)
        · have h := (if_neg c_51).symm.trans hjj902
          refine lv_aload_n hx hb dX4_letTune_57 rfl (lv_at hl 2 rfl) ?_
          refine va_get (D := (dC, dI)) (ci := 2) (v := .ref a_s_pitch) (C := RX2) (T := TX2) (N := 4) hx hb hts in_X2 hown hK hP 8 rfl rfl 0 (by decide) f_61 (fun _ h9 => h9) rfl dX4_letTune_58 ?_
          refine lv_iload hx hb dX4_letTune_61 (lv_at hl 8 rfl) ?_
          refine lv_aload_n hx hb dX4_letTune_63 rfl (lv_at hl 0 rfl) ?_
          refine lv_aload_n hx hb dX4_letTune_64 rfl (lv_at hl 1 rfl) ?_
          refine lv_iload hx hb dX4_letTune_65 (lv_at hl 8 rfl) ?_
          refine lv_iload hx hb dX4_letTune_67 (lv_at hl 5 rfl) ?_
          obtain ⟨r903, hr903, h⟩ := ob h
          refine k_Vi (As := [.ref a_h, .int y8_35, .int ((r839 - (1 : Int32)) / (2 : Int32))]) (rest := [.int y8_35, .ref a_s_pitch]) (wr := [(a_h_needs, .inl (cI, 8, .inl h_needs)), (a_h_kind, .inl (cI, 8, .inl h_kind)), (a_s, .inr (2, [.ref a_s_pitch, .ref a_s_hears, .int s_oboe, .int s_seconds])), (a_s_pitch, .inl (cI, 8, .inl s_pitchv_35)), (a_s_hears, .inl (cI, 8, .inl s_hears))]) (c_X4_noteFor l dC dI cI cS n _ a_t a_t_ahead a_t_ahead_pitch a_t_ahead_hears a_h a_h_kind a_h_leanTold a_h_needs a_h_firstHears a_h_group a_h_firstPitch r841.2.2.1 r841.2.2.2 r841.1 r841.2.1 t_straightDesk t_draws t_drawSeed t_4v_35 h_desks h_leanTold h_oboe h_slip h_warmth h_unheard y8_35 ((r839 - (1 : Int32)) / (2 : Int32)) r903 hr903) (fun _ _ q => q) ⟨hx, hb, hml, hown, hts⟩ (cwV 3 hts gX4_letTune_X4_noteFor rfl rfl rfl (by decide +kernel) ⟨(Nat.le_of_ble_eq_true rfl), (Nat.le_of_ble_eq_true rfl)⟩) hN hK hP hD hS hA [0, 5, 6, 7, 3, 1] [2, 4, 8, 9, 10] rfl rfl (by decide) (by decide) (by decide) rfl rfl rfl hl.1 rfl (Nat.le_of_ble_eq_true rfl) dX4_letTune_69 ⟨(Nat.le_of_ble_eq_true rfl), (Nat.le_of_ble_eq_true rfl)⟩ (fun u904 H locs _ hP hD hS => ?_)
          have hP : va_P (dC, dI) vwCl [(a_h_needs, .inl (cI, 8, .inl h_needs)), (a_h_kind, .inl (cI, 8, .inl h_kind)), (a_s, .inr (2, [.ref a_s_pitch, .ref a_s_hears, .int s_oboe, .int s_seconds])), (a_s_pitch, .inl (cI, 8, .inl s_pitchv_35)), (a_s_hears, .inl (cI, 8, .inl s_hears)), (a_t, .inr (4, [.ref a_t_ahead, .int t_straightDesk, .int t_draws, .int t_drawSeed, .int t_4v_35])), (a_t_ahead, .inr (2, [.ref a_t_ahead_pitch, .ref a_t_ahead_hears, .int r841.1, .int r841.2.1])), (a_t_ahead_pitch, .inl (cI, 8, .inl r841.2.2.1)), (a_t_ahead_hears, .inl (cI, 8, .inl r841.2.2.2)), (a_h, .inr (0, [.int h_desks, .ref a_h_kind, .ref a_h_leanTold, .ref a_h_needs, .ref a_h_firstHears, .ref a_h_group, .ref a_h_firstPitch, .int h_oboe, .int h_slip, .int h_warmth, .int h_unheard])), (a_h_leanTold, .inl (cI, 8, .inl h_leanTold))] H := hP
          have hD : va_D A [(a_h_needs, .inl (cI, 8, .inl h_needs)), (a_h_kind, .inl (cI, 8, .inl h_kind)), (a_s, .inr (2, [.ref a_s_pitch, .ref a_s_hears, .int s_oboe, .int s_seconds])), (a_s_pitch, .inl (cI, 8, .inl s_pitchv_35)), (a_s_hears, .inl (cI, 8, .inl s_hears)), (a_t, .inr (4, [.ref a_t_ahead, .int t_straightDesk, .int t_draws, .int t_drawSeed, .int t_4v_35])), (a_t_ahead, .inr (2, [.ref a_t_ahead_pitch, .ref a_t_ahead_hears, .int r841.1, .int r841.2.1])), (a_t_ahead_pitch, .inl (cI, 8, .inl r841.2.2.1)), (a_t_ahead_hears, .inl (cI, 8, .inl r841.2.2.2)), (a_h, .inr (0, [.int h_desks, .ref a_h_kind, .ref a_h_leanTold, .ref a_h_needs, .ref a_h_firstHears, .ref a_h_group, .ref a_h_firstPitch, .int h_oboe, .int h_slip, .int h_warmth, .int h_unheard])), (a_h_leanTold, .inl (cI, 8, .inl h_leanTold))] := hD
          refine lv_aload_n hx hb dX4_letTune_72 rfl (lv_at hl 0 rfl) ?_
          obtain ⟨r905, hr905, h⟩ := ob h
          refine k_Vi (As := []) (rest := [.int r903, .int y8_35, .ref a_s_pitch]) (wr := [(a_h_needs, .inl (cI, 8, .inl h_needs)), (a_h_kind, .inl (cI, 8, .inl h_kind)), (a_s, .inr (2, [.ref a_s_pitch, .ref a_s_hears, .int s_oboe, .int s_seconds])), (a_s_pitch, .inl (cI, 8, .inl s_pitchv_35)), (a_s_hears, .inl (cI, 8, .inl s_hears)), (a_t_ahead, .inr (2, [.ref a_t_ahead_pitch, .ref a_t_ahead_hears, .int r841.1, .int r841.2.1])), (a_t_ahead_pitch, .inl (cI, 8, .inl r841.2.2.1)), (a_t_ahead_hears, .inl (cI, 8, .inl r841.2.2.2)), (a_h, .inr (0, [.int h_desks, .ref a_h_kind, .ref a_h_leanTold, .ref a_h_needs, .ref a_h_firstHears, .ref a_h_group, .ref a_h_firstPitch, .int h_oboe, .int h_slip, .int h_warmth, .int h_unheard])), (a_h_leanTold, .inl (cI, 8, .inl h_leanTold))]) (c_X4_nextDraw l dC dI cI cS n _ a_t a_t_ahead t_straightDesk t_draws t_drawSeed t_4v_35 r905 hr905) (fun _ _ q => q) ⟨hx, hb, hml, hown, hts⟩ (cwV 0 hts gX4_letTune_X4_nextDraw rfl rfl rfl (by decide +kernel) ⟨(Nat.le_of_ble_eq_true rfl), (Nat.le_of_ble_eq_true rfl)⟩) hN hK hP hD hS hA [5] [0, 1, 2, 3, 4, 6, 7, 8, 9, 10] rfl rfl (by decide) (by decide) (by decide) rfl rfl rfl hl.1 rfl (Nat.le_of_ble_eq_true rfl) dX4_letTune_73 ⟨(Nat.le_of_ble_eq_true rfl), (Nat.le_of_ble_eq_true rfl)⟩ (fun u906 H locs _ hP hD hS => ?_)
          have hP : va_P (dC, dI) vwCl [(a_h_needs, .inl (cI, 8, .inl h_needs)), (a_h_kind, .inl (cI, 8, .inl h_kind)), (a_s, .inr (2, [.ref a_s_pitch, .ref a_s_hears, .int s_oboe, .int s_seconds])), (a_s_pitch, .inl (cI, 8, .inl s_pitchv_35)), (a_s_hears, .inl (cI, 8, .inl s_hears)), (a_t_ahead, .inr (2, [.ref a_t_ahead_pitch, .ref a_t_ahead_hears, .int r841.1, .int r841.2.1])), (a_t_ahead_pitch, .inl (cI, 8, .inl r841.2.2.1)), (a_t_ahead_hears, .inl (cI, 8, .inl r841.2.2.2)), (a_h, .inr (0, [.int h_desks, .ref a_h_kind, .ref a_h_leanTold, .ref a_h_needs, .ref a_h_firstHears, .ref a_h_group, .ref a_h_firstPitch, .int h_oboe, .int h_slip, .int h_warmth, .int h_unheard])), (a_h_leanTold, .inl (cI, 8, .inl h_leanTold)), (a_t, .inr (4, [.ref a_t_ahead, .int t_straightDesk, .int t_draws, .int t_drawSeed, .int r905.2]))] H := hP
          have hD : va_D A [(a_h_needs, .inl (cI, 8, .inl h_needs)), (a_h_kind, .inl (cI, 8, .inl h_kind)), (a_s, .inr (2, [.ref a_s_pitch, .ref a_s_hears, .int s_oboe, .int s_seconds])), (a_s_pitch, .inl (cI, 8, .inl s_pitchv_35)), (a_s_hears, .inl (cI, 8, .inl s_hears)), (a_t_ahead, .inr (2, [.ref a_t_ahead_pitch, .ref a_t_ahead_hears, .int r841.1, .int r841.2.1])), (a_t_ahead_pitch, .inl (cI, 8, .inl r841.2.2.1)), (a_t_ahead_hears, .inl (cI, 8, .inl r841.2.2.2)), (a_h, .inr (0, [.int h_desks, .ref a_h_kind, .ref a_h_leanTold, .ref a_h_needs, .ref a_h_firstHears, .ref a_h_group, .ref a_h_firstPitch, .int h_oboe, .int h_slip, .int h_warmth, .int h_unheard])), (a_h_leanTold, .inl (cI, 8, .inl h_leanTold)), (a_t, .inr (4, [.ref a_t_ahead, .int t_straightDesk, .int t_draws, .int t_drawSeed, .int r905.2]))] := hD
          refine lv_iadd hx hb dX4_letTune_76 ?_
          obtain ⟨r907, hr907, h⟩ := ob h
          refine k_Ni (As := [.int (r903 + r905.1)]) (rest := [.int y8_35, .ref a_s_pitch]) (c_X5_within l dC dI cI cS n _ (r903 + r905.1) r907 hr907) (fun _ _ q => q) ⟨hx, hb, hml, hown, hts⟩ (va_cnB 1 hts gX4_letTune_X5_within_n73 rfl rfl rfl (hN.1 _ (List.mem_of_getElem? (i := 9) rfl)) k_iniX5 (by decide +kernel) ⟨(Nat.le_of_ble_eq_true rfl), (Nat.le_of_ble_eq_true rfl)⟩) m_st_X5_within hN hK hP hD hS hA rfl hl.1 rfl (Nat.le_of_ble_eq_true rfl) dX4_letTune_77 ⟨(Nat.le_of_ble_eq_true rfl), (Nat.le_of_ble_eq_true rfl)⟩ (fun H locs hP hD hS => ?_)
          obtain ⟨g909, hg909, h⟩ := ob h
          refine k_st hx hb hK hP hD hS 3 0 rfl rfl hg909 dX4_letTune_80 (ws' := [(a_h_needs, .inl (cI, 8, .inl h_needs)), (a_h_kind, .inl (cI, 8, .inl h_kind)), (a_s, .inr (2, [.ref a_s_pitch, .ref a_s_hears, .int s_oboe, .int s_seconds])), (a_s_pitch, .inl (cI, 8, .inl g909)), (a_s_hears, .inl (cI, 8, .inl s_hears)), (a_t_ahead, .inr (2, [.ref a_t_ahead_pitch, .ref a_t_ahead_hears, .int r841.1, .int r841.2.1])), (a_t_ahead_pitch, .inl (cI, 8, .inl r841.2.2.1)), (a_t_ahead_hears, .inl (cI, 8, .inl r841.2.2.2)), (a_h, .inr (0, [.int h_desks, .ref a_h_kind, .ref a_h_leanTold, .ref a_h_needs, .ref a_h_firstHears, .ref a_h_group, .ref a_h_firstPitch, .int h_oboe, .int h_slip, .int h_warmth, .int h_unheard])), (a_h_leanTold, .inl (cI, 8, .inl h_leanTold)), (a_t, .inr (4, [.ref a_t_ahead, .int t_straightDesk, .int t_draws, .int t_drawSeed, .int r905.2]))]) rfl (fun H locs hP hD hS => ?_)
          refine lv_iload hx hb dX4_letTune_81 (lv_at hl 6 rfl) ?_
          refine lv_aload_n hx hb dX4_letTune_83 rfl (lv_at hl 1 rfl) ?_
          refine va_get (D := (dC, dI)) (ci := 0) (v := .ref a_h_needs) (C := RX0) (T := TX0) (N := 11) hx hb hts in_X0 hown hK hP 8 rfl rfl 3 (by decide) f_76 (fun _ h9 => h9) rfl dX4_letTune_84 ?_
          refine lv_iload hx hb dX4_letTune_87 (lv_at hl 8 rfl) ?_
          obtain ⟨v910, hv910, h⟩ := ob h
          refine k_ld hx hb hK hP 0 0 rfl rfl hv910 dX4_letTune_89 ?_
          refine va_mmax hx hb (hml.trans hl.1.symm) hown m_79 ms_max m_mi mc_max (Nat.le_of_ble_eq_true rfl) (Nat.le_of_ble_eq_true rfl) (Nat.le_of_ble_eq_true rfl) (Nat.le_of_ble_eq_true rfl) dX4_letTune_90 ?_
          refine lv_istore (lv' := [(6, .int (if y6_35 < v910 then v910 else y6_35)), (0, .ref a_t), (1, .ref a_h), (2, .ref a_s), (3, .int x3), (4, .int r837), (5, .int ((r839 - (1 : Int32)) / (2 : Int32))), (7, .int y7_35), (8, .int y8_35)]) hx hb dX4_letTune_93 hl (by decide) rfl (fun ls hl => ?_)
          refine lv_aload_n hx hb dX4_letTune_95 rfl (lv_at hl 1 rfl) ?_
          refine va_get (D := (dC, dI)) (ci := 4) (v := .ref a_t_ahead) (C := RX4) (T := TX4) (N := 5) hx hb hts in_X4 hown hK hP 10 rfl rfl 0 (by decide) f_12 (fun _ h9 => h9) rfl dX4_letTune_96 ?_
          refine va_get (D := (dC, dI)) (ci := 2) (v := .ref a_t_ahead_hears) (C := RX2) (T := TX2) (N := 4) hx hb hts in_X2 hown hK hP 5 rfl rfl 1 (by decide) f_85 (fun _ h9 => h9) rfl dX4_letTune_99 ?_
          refine lv_iload hx hb dX4_letTune_102 (lv_at hl 8 rfl) ?_
          obtain ⟨v911, hv911, h⟩ := ob h
          refine k_ld hx hb hK hP 7 0 rfl rfl hv911 dX4_letTune_104 ?_
          refine lv_bipush (v := (9 : Int32)) hx hb dX4_letTune_105 (by decide) ?_
          refine lv_icmp_ne (tgt := 113) hx hb dX4_letTune_107 (by decide) (fun c_107 => ?_) (fun c_107 => ?_)
          · have h := (if_neg c_107).symm.trans h
            obtain rfl := Option.some.inj h
            exact Jj902 _ _ (hP.sub [10, 9, 0, 8, 1, 5, 6, 7, 2, 3, 4] rfl) (hD.sub [10, 9, 0, 8, 1, 5, 6, 7, 2, 3, 4] (by decide +kernel) rfl) hS _ (lv_sub hl [1, 2, 3, 4, 5, 6, 0, 7, 8] rfl)
          · have h := (if_pos c_107).symm.trans h
            refine lv_iconst (v := (1 : Int32)) hx hb dX4_letTune_110 (by decide) ?_
            refine lv_istore (lv' := [(7, .int (1 : Int32)), (6, .int (if y6_35 < v910 then v910 else y6_35)), (0, .ref a_t), (1, .ref a_h), (2, .ref a_s), (3, .int x3), (4, .int r837), (5, .int ((r839 - (1 : Int32)) / (2 : Int32))), (8, .int y8_35)]) hx hb dX4_letTune_111 hl (by decide) rfl (fun ls hl => ?_)
            obtain rfl := Option.some.inj h
            exact Jj902 _ _ (hP.sub [10, 9, 0, 8, 1, 5, 6, 7, 2, 3, 4] rfl) (hD.sub [10, 9, 0, 8, 1, 5, 6, 7, 2, 3, 4] (by decide +kernel) rfl) hS _ (lv_sub hl [2, 3, 4, 5, 6, 7, 1, 0, 8] rfl)
        · have h := (if_pos c_51).symm.trans hjj902
          refine lv_goto (tgt := 113) hx hb dX4_letTune_54 (by decide) ?_
          obtain rfl := Option.some.inj h
          exact Jj902 _ _ hP hD hS _ hl
  exact K35 n (0 : Int32) (0 : Int32) (0 : Int32) t_drawn s_pitch hjj890 _ _ hP hD hS _ (lv_sub hl [5, 6, 7, 8, 4, 3, 2, 1, 0] rfl)
def rm_X4_letGroupsTune : Room := { frames := 4, cells := 0, slots := 0, locals := 95 }
set_option maxRecDepth 100000 in
set_option maxHeartbeats 8000000 in
theorem c_X4_letGroupsTune (l : Launch) (dC : Nat → ClassId) (dI : Nat → Nat → Nat) (cI cS : ClassId) (n sz : Nat) (a_t : Nat) (a_t_ahead : Nat) (a_t_ahead_pitch : Nat) (a_t_ahead_hears : Nat) (a_h : Nat) (a_h_kind : Nat) (a_h_leanTold : Nat) (a_h_needs : Nat) (a_h_firstHears : Nat) (a_h_group : Nat) (a_h_firstPitch : Nat) (a_s : Nat) (a_s_pitch : Nat) (a_s_hears : Nat) (t_ahead_pitch : Nat → Int32) (t_ahead_hears : Nat → Int32) (t_ahead_oboe : Int32) (t_ahead_seconds : Int32) (t_straightDesk : Int32) (t_draws : Int32) (t_drawSeed : Int32) (t_drawn : Int32) (h_desks : Int32) (h_kind : Nat → Int32) (h_leanTold : Nat → Int32) (h_needs : Nat → Int32) (h_group : Nat → Int32) (h_oboe : Int32) (h_slip : Int32) (h_warmth : Int32) (h_unheard : Int32) (s_pitch : Nat → Int32) (s_hears : Nat → Int32) (s_oboe : Int32) (s_seconds : Int32) (res : Int32 × Int32 × Int32 × Int32 × (Nat → Int32) × (Nat → Int32) × Int32 × Int32 × (Nat → Int32))  (h : F_X4_letGroupsTune n t_ahead_pitch t_ahead_hears t_ahead_oboe t_ahead_seconds t_straightDesk t_draws t_drawSeed t_drawn h_desks h_kind h_leanTold h_needs h_group h_slip h_warmth s_pitch s_hears s_oboe s_seconds = some res) : Met l yX4_letGroupsTune wsX4_letGroupsTune rm_X4_letGroupsTune (va_Pc [.ref a_t, .ref a_h, .ref a_s] (PRE (dC, dI) vwCl [(cI, .int), (cS, .object "RoundOfTheA$State")] sz [(a_t, .inr (4, [.ref a_t_ahead, .int t_straightDesk, .int t_draws, .int t_drawSeed, .int t_drawn])), (a_t_ahead, .inr (2, [.ref a_t_ahead_pitch, .ref a_t_ahead_hears, .int t_ahead_oboe, .int t_ahead_seconds])), (a_t_ahead_pitch, .inl (cI, 8, .inl t_ahead_pitch)), (a_t_ahead_hears, .inl (cI, 8, .inl t_ahead_hears)), (a_h, .inr (0, [.int h_desks, .ref a_h_kind, .ref a_h_leanTold, .ref a_h_needs, .ref a_h_firstHears, .ref a_h_group, .ref a_h_firstPitch, .int h_oboe, .int h_slip, .int h_warmth, .int h_unheard])), (a_h_kind, .inl (cI, 8, .inl h_kind)), (a_h_leanTold, .inl (cI, 8, .inl h_leanTold)), (a_h_needs, .inl (cI, 8, .inl h_needs)), (a_h_group, .inl (cI, 8, .inl h_group)), (a_s, .inr (2, [.ref a_s_pitch, .ref a_s_hears, .int s_oboe, .int s_seconds])), (a_s_pitch, .inl (cI, 8, .inl s_pitch)), (a_s_hears, .inl (cI, 8, .inl s_hears))])) (va_Qi (fun (r : Int32) (_ : Unit) => r = res.1) (fun u t => POST (dC, dI) vwCl [(a_t, .inr (4, [.ref a_t_ahead, .int t_straightDesk, .int t_draws, .int t_drawSeed, .int res.2.1])), (a_t_ahead, .inr (2, [.ref a_t_ahead_pitch, .ref a_t_ahead_hears, .int res.2.2.1, .int res.2.2.2.1])), (a_t_ahead_pitch, .inl (cI, 8, .inl res.2.2.2.2.1)), (a_t_ahead_hears, .inl (cI, 8, .inl res.2.2.2.2.2.1)), (a_h, .inr (0, [.int h_desks, .ref a_h_kind, .ref a_h_leanTold, .ref a_h_needs, .ref a_h_firstHears, .ref a_h_group, .ref a_h_firstPitch, .int h_oboe, .int h_slip, .int h_warmth, .int h_unheard])), (a_h_kind, .inl (cI, 8, .inl h_kind)), (a_h_leanTold, .inl (cI, 8, .inl h_leanTold)), (a_h_needs, .inl (cI, 8, .inl h_needs)), (a_h_group, .inl (cI, 8, .inl h_group)), (a_s, .inr (2, [.ref a_s_pitch, .ref a_s_hears, .int res.2.2.2.2.2.2.1, .int res.2.2.2.2.2.2.2.1])), (a_s_pitch, .inl (cI, 8, .inl res.2.2.2.2.2.2.2.2)), (a_s_hears, .inl (cI, 8, .inl s_hears))] (va_A [(a_t, .inr (4, [.ref a_t_ahead, .int t_straightDesk, .int t_draws, .int t_drawSeed, .int t_drawn])), (a_t_ahead, .inr (2, [.ref a_t_ahead_pitch, .ref a_t_ahead_hears, .int t_ahead_oboe, .int t_ahead_seconds])), (a_t_ahead_pitch, .inl (cI, 8, .inl t_ahead_pitch)), (a_t_ahead_hears, .inl (cI, 8, .inl t_ahead_hears)), (a_h, .inr (0, [.int h_desks, .ref a_h_kind, .ref a_h_leanTold, .ref a_h_needs, .ref a_h_firstHears, .ref a_h_group, .ref a_h_firstPitch, .int h_oboe, .int h_slip, .int h_warmth, .int h_unheard])), (a_h_kind, .inl (cI, 8, .inl h_kind)), (a_h_leanTold, .inl (cI, 8, .inl h_leanTold)), (a_h_needs, .inl (cI, 8, .inl h_needs)), (a_h_group, .inl (cI, 8, .inl h_group)), (a_s, .inr (2, [.ref a_s_pitch, .ref a_s_hears, .int s_oboe, .int s_seconds])), (a_s_pitch, .inl (cI, 8, .inl s_pitch)), (a_s_hears, .inl (cI, 8, .inl s_hears))] sz) t) (va_A [(a_t, .inr (4, [.ref a_t_ahead, .int t_straightDesk, .int t_draws, .int t_drawSeed, .int t_drawn])), (a_t_ahead, .inr (2, [.ref a_t_ahead_pitch, .ref a_t_ahead_hears, .int t_ahead_oboe, .int t_ahead_seconds])), (a_t_ahead_pitch, .inl (cI, 8, .inl t_ahead_pitch)), (a_t_ahead_hears, .inl (cI, 8, .inl t_ahead_hears)), (a_h, .inr (0, [.int h_desks, .ref a_h_kind, .ref a_h_leanTold, .ref a_h_needs, .ref a_h_firstHears, .ref a_h_group, .ref a_h_firstPitch, .int h_oboe, .int h_slip, .int h_warmth, .int h_unheard])), (a_h_kind, .inl (cI, 8, .inl h_kind)), (a_h_leanTold, .inl (cI, 8, .inl h_leanTold)), (a_h_needs, .inl (cI, 8, .inl h_needs)), (a_h_group, .inl (cI, 8, .inl h_group)), (a_s, .inr (2, [.ref a_s_pitch, .ref a_s_hears, .int s_oboe, .int s_seconds])), (a_s_pitch, .inl (cI, 8, .inl s_pitch)), (a_s_hears, .inl (cI, 8, .inl s_hears))] sz)) 0 0 (va_A [(a_t, .inr (4, [.ref a_t_ahead, .int t_straightDesk, .int t_draws, .int t_drawSeed, .int t_drawn])), (a_t_ahead, .inr (2, [.ref a_t_ahead_pitch, .ref a_t_ahead_hears, .int t_ahead_oboe, .int t_ahead_seconds])), (a_t_ahead_pitch, .inl (cI, 8, .inl t_ahead_pitch)), (a_t_ahead_hears, .inl (cI, 8, .inl t_ahead_hears)), (a_h, .inr (0, [.int h_desks, .ref a_h_kind, .ref a_h_leanTold, .ref a_h_needs, .ref a_h_firstHears, .ref a_h_group, .ref a_h_firstPitch, .int h_oboe, .int h_slip, .int h_warmth, .int h_unheard])), (a_h_kind, .inl (cI, 8, .inl h_kind)), (a_h_leanTold, .inl (cI, 8, .inl h_leanTold)), (a_h_needs, .inl (cI, 8, .inl h_needs)), (a_h_group, .inl (cI, 8, .inl h_group)), (a_s, .inr (2, [.ref a_s_pitch, .ref a_s_hears, .int s_oboe, .int s_seconds])), (a_s_pitch, .inl (cI, 8, .inl s_pitch)), (a_s_hears, .inl (cI, 8, .inl s_hears))] sz) := by
  refine Met.ofW (cc := cX4_letGroupsTune) (maxL := 5) (ret := (some .int)) (by decide) rfl ?_
  intro p e s m args below meth c s₁ B hml hv
  obtain ⟨rfl, hsz, hN, hP, hK, hD0⟩ := hv
  have hx := B.exec
  have hb := B.bytes
  have hr := B.returns
  have hts := atoms_spec (ws := wsX4_letGroupsTune) B.pre
  have hown : s.vm.findClass RX4 = some m.cls := findClass_of_methodNamed B.named
  have hlocks := B.notSynchronized
  subst hsz
  have hD := hD0.self (sz := s.heap.size)
  generalize hAe : va_A [(a_t, .inr (4, [.ref a_t_ahead, .int t_straightDesk, .int t_draws, .int t_drawSeed, .int t_drawn])), (a_t_ahead, .inr (2, [.ref a_t_ahead_pitch, .ref a_t_ahead_hears, .int t_ahead_oboe, .int t_ahead_seconds])), (a_t_ahead_pitch, .inl (cI, 8, .inl t_ahead_pitch)), (a_t_ahead_hears, .inl (cI, 8, .inl t_ahead_hears)), (a_h, .inr (0, [.int h_desks, .ref a_h_kind, .ref a_h_leanTold, .ref a_h_needs, .ref a_h_firstHears, .ref a_h_group, .ref a_h_firstPitch, .int h_oboe, .int h_slip, .int h_warmth, .int h_unheard])), (a_h_kind, .inl (cI, 8, .inl h_kind)), (a_h_leanTold, .inl (cI, 8, .inl h_leanTold)), (a_h_needs, .inl (cI, 8, .inl h_needs)), (a_h_group, .inl (cI, 8, .inl h_group)), (a_s, .inr (2, [.ref a_s_pitch, .ref a_s_hears, .int s_oboe, .int s_seconds])), (a_s_pitch, .inl (cI, 8, .inl s_pitch)), (a_s_hears, .inl (cI, 8, .inl s_hears))] s.heap.size = A at hD ⊢
  have hA : ∀ q : Nat, s.heap.size ≤ q → A q := fun q h => by rw [← hAe]; exact Or.inr h
  have hS : va_S A s.heap s.heap [] := va_S.rf
  generalize hQe : MQ below _ _ s _ _ A = QQ
  have hl := lv_entry ([.ref a_t, .ref a_h, .ref a_s]) (n := 5) (Nat.le_of_ble_eq_true rfl)
  rw [lg_entry_eq]
  generalize (lg_sl ([.ref a_t, .ref a_h, .ref a_s]) ++ List.replicate (5 - (lg_sl ([.ref a_t, .ref a_h, .ref a_s])).length) Slot.unset).toArray = ls at hl ⊢
  have hl : lv_has ls 5 [(0, .ref a_t), (1, .ref a_h), (2, .ref a_s)] := hl
  rw [F_X4_letGroupsTune] at h
  refine lv_iconst (v := (0 : Int32)) hx hb dX4_letGroupsTune_0 (by decide) ?_
  refine lv_istore_n (lv' := [(3, .int (0 : Int32)), (0, .ref a_t), (1, .ref a_h), (2, .ref a_s)]) hx hb dX4_letGroupsTune_1 rfl hl (by decide) rfl (fun ls hl => ?_)
  refine lv_iconst (v := (0 : Int32)) hx hb dX4_letGroupsTune_2 (by decide) ?_
  refine lv_istore (lv' := [(4, .int (0 : Int32)), (3, .int (0 : Int32)), (0, .ref a_t), (1, .ref a_h), (2, .ref a_s)]) hx hb dX4_letGroupsTune_3 hl (by decide) rfl (fun ls hl => ?_)
  obtain ⟨j958, hjj958, h⟩ := ob h
  have Jj958 : ∀ (H : Heap) (locs : List Loc), va_P (dC, dI) vwCl [(a_t, .inr (4, [.ref a_t_ahead, .int t_straightDesk, .int t_draws, .int t_drawSeed, .int j958.2.2.1])), (a_t_ahead, .inr (2, [.ref a_t_ahead_pitch, .ref a_t_ahead_hears, .int j958.2.2.2.1, .int j958.2.2.2.2.1])), (a_t_ahead_pitch, .inl (cI, 8, .inl j958.2.2.2.2.2.1)), (a_t_ahead_hears, .inl (cI, 8, .inl j958.2.2.2.2.2.2.1)), (a_h, .inr (0, [.int h_desks, .ref a_h_kind, .ref a_h_leanTold, .ref a_h_needs, .ref a_h_firstHears, .ref a_h_group, .ref a_h_firstPitch, .int h_oboe, .int h_slip, .int h_warmth, .int h_unheard])), (a_h_kind, .inl (cI, 8, .inl h_kind)), (a_h_leanTold, .inl (cI, 8, .inl h_leanTold)), (a_h_needs, .inl (cI, 8, .inl h_needs)), (a_h_group, .inl (cI, 8, .inl h_group)), (a_s, .inr (2, [.ref a_s_pitch, .ref a_s_hears, .int j958.2.2.2.2.2.2.2.1, .int j958.2.2.2.2.2.2.2.2.1])), (a_s_pitch, .inl (cI, 8, .inl j958.2.2.2.2.2.2.2.2.2)), (a_s_hears, .inl (cI, 8, .inl s_hears))] H → va_D A [(a_t, .inr (4, [.ref a_t_ahead, .int t_straightDesk, .int t_draws, .int t_drawSeed, .int j958.2.2.1])), (a_t_ahead, .inr (2, [.ref a_t_ahead_pitch, .ref a_t_ahead_hears, .int j958.2.2.2.1, .int j958.2.2.2.2.1])), (a_t_ahead_pitch, .inl (cI, 8, .inl j958.2.2.2.2.2.1)), (a_t_ahead_hears, .inl (cI, 8, .inl j958.2.2.2.2.2.2.1)), (a_h, .inr (0, [.int h_desks, .ref a_h_kind, .ref a_h_leanTold, .ref a_h_needs, .ref a_h_firstHears, .ref a_h_group, .ref a_h_firstPitch, .int h_oboe, .int h_slip, .int h_warmth, .int h_unheard])), (a_h_kind, .inl (cI, 8, .inl h_kind)), (a_h_leanTold, .inl (cI, 8, .inl h_leanTold)), (a_h_needs, .inl (cI, 8, .inl h_needs)), (a_h_group, .inl (cI, 8, .inl h_group)), (a_s, .inr (2, [.ref a_s_pitch, .ref a_s_hears, .int j958.2.2.2.2.2.2.2.1, .int j958.2.2.2.2.2.2.2.2.1])), (a_s_pitch, .inl (cI, 8, .inl j958.2.2.2.2.2.2.2.2.2)), (a_s_hears, .inl (cI, 8, .inl s_hears))] → va_S A s.heap H locs → ∀ ls : Array Slot, lv_has ls 5 [(0, .ref a_t), (1, .ref a_h), (2, .ref a_s), (3, .int j958.1), (4, .int j958.2.1)] → W p l e (headSpec wsX4_letGroupsTune rm_X4_letGroupsTune).room s m ([.ref a_t, .ref a_h, .ref a_s] : List Value).toArray below meth c H locs 0 0 QQ (F0 m 32 ls []) := by
    intro H locs hP hD hS ls hl
    refine lv_iload_n hx hb dX4_letGroupsTune_32 rfl (lv_at hl 3 rfl) ?_
    obtain rfl := Option.some.inj h
    subst hQe
    exact W.iret (v := j958.1) hx hb hr (fun t ht hW => ⟨⟨j958.1, (), rfl, rfl, ⟨by rw [ht]; exact hP, hD⟩⟩, hS.F ht⟩) hS.2.2 dX4_letGroupsTune_33
  have K5 : ∀ (k : Nat) (y3_5 : Int32) (y4_5 : Int32) (t_4v_5 : Int32) (t_ahead_2v_5 : Int32) (t_ahead_3v_5 : Int32) (t_ahead_pitchv_5 : Nat → Int32) (t_ahead_hearsv_5 : Nat → Int32) (s_2v_5 : Int32) (s_3v_5 : Int32) (s_pitchv_5 : Nat → Int32), L_X4_letGroupsTune_5 n t_straightDesk t_draws t_drawSeed h_desks h_kind h_leanTold h_needs h_group h_slip h_warmth s_hears k y3_5 y4_5 t_4v_5 t_ahead_2v_5 t_ahead_3v_5 t_ahead_pitchv_5 t_ahead_hearsv_5 s_2v_5 s_3v_5 s_pitchv_5 = some j958 → ∀ (H : Heap) (locs : List Loc), va_P (dC, dI) vwCl [(a_t, .inr (4, [.ref a_t_ahead, .int t_straightDesk, .int t_draws, .int t_drawSeed, .int t_4v_5])), (a_t_ahead, .inr (2, [.ref a_t_ahead_pitch, .ref a_t_ahead_hears, .int t_ahead_2v_5, .int t_ahead_3v_5])), (a_t_ahead_pitch, .inl (cI, 8, .inl t_ahead_pitchv_5)), (a_t_ahead_hears, .inl (cI, 8, .inl t_ahead_hearsv_5)), (a_h, .inr (0, [.int h_desks, .ref a_h_kind, .ref a_h_leanTold, .ref a_h_needs, .ref a_h_firstHears, .ref a_h_group, .ref a_h_firstPitch, .int h_oboe, .int h_slip, .int h_warmth, .int h_unheard])), (a_h_kind, .inl (cI, 8, .inl h_kind)), (a_h_leanTold, .inl (cI, 8, .inl h_leanTold)), (a_h_needs, .inl (cI, 8, .inl h_needs)), (a_h_group, .inl (cI, 8, .inl h_group)), (a_s, .inr (2, [.ref a_s_pitch, .ref a_s_hears, .int s_2v_5, .int s_3v_5])), (a_s_pitch, .inl (cI, 8, .inl s_pitchv_5)), (a_s_hears, .inl (cI, 8, .inl s_hears))] H → va_D A [(a_t, .inr (4, [.ref a_t_ahead, .int t_straightDesk, .int t_draws, .int t_drawSeed, .int t_4v_5])), (a_t_ahead, .inr (2, [.ref a_t_ahead_pitch, .ref a_t_ahead_hears, .int t_ahead_2v_5, .int t_ahead_3v_5])), (a_t_ahead_pitch, .inl (cI, 8, .inl t_ahead_pitchv_5)), (a_t_ahead_hears, .inl (cI, 8, .inl t_ahead_hearsv_5)), (a_h, .inr (0, [.int h_desks, .ref a_h_kind, .ref a_h_leanTold, .ref a_h_needs, .ref a_h_firstHears, .ref a_h_group, .ref a_h_firstPitch, .int h_oboe, .int h_slip, .int h_warmth, .int h_unheard])), (a_h_kind, .inl (cI, 8, .inl h_kind)), (a_h_leanTold, .inl (cI, 8, .inl h_leanTold)), (a_h_needs, .inl (cI, 8, .inl h_needs)), (a_h_group, .inl (cI, 8, .inl h_group)), (a_s, .inr (2, [.ref a_s_pitch, .ref a_s_hears, .int s_2v_5, .int s_3v_5])), (a_s_pitch, .inl (cI, 8, .inl s_pitchv_5)), (a_s_hears, .inl (cI, 8, .inl s_hears))] → va_S A s.heap H locs → ∀ ls : Array Slot, lv_has ls 5 [(0, .ref a_t), (1, .ref a_h), (2, .ref a_s), (3, .int y3_5), (4, .int y4_5)] → W p l e (headSpec wsX4_letGroupsTune rm_X4_letGroupsTune).room s m ([.ref a_t, .ref a_h, .ref a_s] : List Value).toArray below meth c H locs 0 0 QQ (F0 m 5 ls []) := by
    intro k
    induction k with
    | zero =>
      intro y3_5 y4_5 t_4v_5 t_ahead_2v_5 t_ahead_3v_5 t_ahead_pitchv_5 t_ahead_hearsv_5 s_2v_5 s_3v_5 s_pitchv_5 h
      rw [L_X4_letGroupsTune_5] at h
      cases h
    | succ k ih =>
      intro y3_5 y4_5 t_4v_5 t_ahead_2v_5 t_ahead_3v_5 t_ahead_pitchv_5 t_ahead_hearsv_5 s_2v_5 s_3v_5 s_pitchv_5 h H locs hP hD hS ls hl
      rw [L_X4_letGroupsTune_5] at h
      refine lv_iload hx hb dX4_letGroupsTune_5 (lv_at hl 4 rfl) ?_
      refine lv_iconst (v := (5 : Int32)) hx hb dX4_letGroupsTune_7 (by decide) ?_
      refine lv_icmp_ge (tgt := 32) hx hb dX4_letGroupsTune_8 (by decide) (fun c_8 => ?_) (fun c_8 => ?_)
      · have h := (if_pos c_8).symm.trans h
        obtain rfl := Option.some.inj h
        exact Jj958 _ _ hP hD hS _ hl
      · have h := (if_neg c_8).symm.trans h
        refine lv_iload_n hx hb dX4_letGroupsTune_11 rfl (lv_at hl 3 rfl) ?_
        refine lv_aload_n hx hb dX4_letGroupsTune_12 rfl (lv_at hl 0 rfl) ?_
        refine lv_aload_n hx hb dX4_letGroupsTune_13 rfl (lv_at hl 1 rfl) ?_
        refine lv_aload_n hx hb dX4_letGroupsTune_14 rfl (lv_at hl 2 rfl) ?_
        refine lv_aload_n hx hb dX4_letGroupsTune_15 rfl (lv_at hl 1 rfl) ?_
        refine lv_iload hx hb dX4_letGroupsTune_16 (lv_at hl 4 rfl) ?_
        obtain ⟨r959, hr959, h⟩ := ob h
        refine k_Vi (As := [.int y4_5]) (rest := [.ref a_s, .ref a_h, .ref a_t, .int y3_5]) (wr := [(a_t, .inr (4, [.ref a_t_ahead, .int t_straightDesk, .int t_draws, .int t_drawSeed, .int t_4v_5])), (a_t_ahead, .inr (2, [.ref a_t_ahead_pitch, .ref a_t_ahead_hears, .int t_ahead_2v_5, .int t_ahead_3v_5])), (a_t_ahead_pitch, .inl (cI, 8, .inl t_ahead_pitchv_5)), (a_t_ahead_hears, .inl (cI, 8, .inl t_ahead_hearsv_5)), (a_h_kind, .inl (cI, 8, .inl h_kind)), (a_h_leanTold, .inl (cI, 8, .inl h_leanTold)), (a_h_needs, .inl (cI, 8, .inl h_needs)), (a_s, .inr (2, [.ref a_s_pitch, .ref a_s_hears, .int s_2v_5, .int s_3v_5])), (a_s_pitch, .inl (cI, 8, .inl s_pitchv_5)), (a_s_hears, .inl (cI, 8, .inl s_hears))]) (c_X0_desksOfGroup l dC dI cI cS n _ a_h a_h_kind a_h_leanTold a_h_needs a_h_firstHears a_h_group a_h_firstPitch h_desks h_group h_oboe h_slip h_warmth h_unheard y4_5 r959 hr959) (fun _ _ q => q) ⟨hx, hb, hml, hown, hts⟩ (cwV 1 hts gX4_letGroupsTune_X0_desksOfGroup rfl rfl rfl (by decide +kernel) ⟨(Nat.le_of_ble_eq_true rfl), (Nat.le_of_ble_eq_true rfl)⟩) hN hK hP hD hS hA [4, 8] [0, 1, 2, 3, 5, 6, 7, 9, 10, 11] rfl rfl (by decide) (by decide) (by decide) rfl rfl rfl hl.1 rfl (Nat.le_of_ble_eq_true rfl) dX4_letGroupsTune_18 ⟨(Nat.le_of_ble_eq_true rfl), (Nat.le_of_ble_eq_true rfl)⟩ (fun u960 H locs _ hP hD hS => ?_)
        have hP : va_P (dC, dI) vwCl [(a_t, .inr (4, [.ref a_t_ahead, .int t_straightDesk, .int t_draws, .int t_drawSeed, .int t_4v_5])), (a_t_ahead, .inr (2, [.ref a_t_ahead_pitch, .ref a_t_ahead_hears, .int t_ahead_2v_5, .int t_ahead_3v_5])), (a_t_ahead_pitch, .inl (cI, 8, .inl t_ahead_pitchv_5)), (a_t_ahead_hears, .inl (cI, 8, .inl t_ahead_hearsv_5)), (a_h_kind, .inl (cI, 8, .inl h_kind)), (a_h_leanTold, .inl (cI, 8, .inl h_leanTold)), (a_h_needs, .inl (cI, 8, .inl h_needs)), (a_s, .inr (2, [.ref a_s_pitch, .ref a_s_hears, .int s_2v_5, .int s_3v_5])), (a_s_pitch, .inl (cI, 8, .inl s_pitchv_5)), (a_s_hears, .inl (cI, 8, .inl s_hears)), (a_h, .inr (0, [.int h_desks, .ref a_h_kind, .ref a_h_leanTold, .ref a_h_needs, .ref a_h_firstHears, .ref a_h_group, .ref a_h_firstPitch, .int h_oboe, .int h_slip, .int h_warmth, .int h_unheard])), (a_h_group, .inl (cI, 8, .inl h_group))] H := hP
        have hD : va_D A [(a_t, .inr (4, [.ref a_t_ahead, .int t_straightDesk, .int t_draws, .int t_drawSeed, .int t_4v_5])), (a_t_ahead, .inr (2, [.ref a_t_ahead_pitch, .ref a_t_ahead_hears, .int t_ahead_2v_5, .int t_ahead_3v_5])), (a_t_ahead_pitch, .inl (cI, 8, .inl t_ahead_pitchv_5)), (a_t_ahead_hears, .inl (cI, 8, .inl t_ahead_hearsv_5)), (a_h_kind, .inl (cI, 8, .inl h_kind)), (a_h_leanTold, .inl (cI, 8, .inl h_leanTold)), (a_h_needs, .inl (cI, 8, .inl h_needs)), (a_s, .inr (2, [.ref a_s_pitch, .ref a_s_hears, .int s_2v_5, .int s_3v_5])), (a_s_pitch, .inl (cI, 8, .inl s_pitchv_5)), (a_s_hears, .inl (cI, 8, .inl s_hears)), (a_h, .inr (0, [.int h_desks, .ref a_h_kind, .ref a_h_leanTold, .ref a_h_needs, .ref a_h_firstHears, .ref a_h_group, .ref a_h_firstPitch, .int h_oboe, .int h_slip, .int h_warmth, .int h_unheard])), (a_h_group, .inl (cI, 8, .inl h_group))] := hD
        obtain ⟨r961, hr961, h⟩ := ob h
        refine k_Vi (As := [.ref a_h, .ref a_s, .int r959]) (rest := [.int y3_5]) (wr := [(a_h_group, .inl (cI, 8, .inl h_group))]) (c_X4_letTune l dC dI cI cS n _ a_t a_t_ahead a_t_ahead_pitch a_t_ahead_hears a_h a_h_kind a_h_leanTold a_h_needs a_h_firstHears a_h_group a_h_firstPitch a_s a_s_pitch a_s_hears t_ahead_pitchv_5 t_ahead_hearsv_5 t_ahead_2v_5 t_ahead_3v_5 t_straightDesk t_draws t_drawSeed t_4v_5 h_desks h_kind h_leanTold h_needs h_oboe h_slip h_warmth h_unheard s_pitchv_5 s_hears s_2v_5 s_3v_5 r959 r961 hr961) (fun _ _ q => q) ⟨hx, hb, hml, hown, hts⟩ (cwV 3 hts gX4_letGroupsTune_X4_letTune rfl rfl rfl (by decide +kernel) ⟨(Nat.le_of_ble_eq_true rfl), (Nat.le_of_ble_eq_true rfl)⟩) hN hK hP hD hS hA [0, 1, 2, 3, 10, 4, 5, 6, 7, 8, 9] [11] rfl rfl (by decide) (by decide) (by decide) rfl rfl rfl hl.1 rfl (Nat.le_of_ble_eq_true rfl) dX4_letGroupsTune_21 ⟨(Nat.le_of_ble_eq_true rfl), (Nat.le_of_ble_eq_true rfl)⟩ (fun u962 H locs _ hP hD hS => ?_)
        have hP : va_P (dC, dI) vwCl [(a_h_group, .inl (cI, 8, .inl h_group)), (a_t, .inr (4, [.ref a_t_ahead, .int t_straightDesk, .int t_draws, .int t_drawSeed, .int r961.2.1])), (a_t_ahead, .inr (2, [.ref a_t_ahead_pitch, .ref a_t_ahead_hears, .int r961.2.2.1, .int r961.2.2.2.1])), (a_t_ahead_pitch, .inl (cI, 8, .inl r961.2.2.2.2.1)), (a_t_ahead_hears, .inl (cI, 8, .inl r961.2.2.2.2.2.1)), (a_h, .inr (0, [.int h_desks, .ref a_h_kind, .ref a_h_leanTold, .ref a_h_needs, .ref a_h_firstHears, .ref a_h_group, .ref a_h_firstPitch, .int h_oboe, .int h_slip, .int h_warmth, .int h_unheard])), (a_h_kind, .inl (cI, 8, .inl h_kind)), (a_h_leanTold, .inl (cI, 8, .inl h_leanTold)), (a_h_needs, .inl (cI, 8, .inl h_needs)), (a_s, .inr (2, [.ref a_s_pitch, .ref a_s_hears, .int r961.2.2.2.2.2.2.1, .int r961.2.2.2.2.2.2.2.1])), (a_s_pitch, .inl (cI, 8, .inl r961.2.2.2.2.2.2.2.2)), (a_s_hears, .inl (cI, 8, .inl s_hears))] H := hP
        have hD : va_D A [(a_h_group, .inl (cI, 8, .inl h_group)), (a_t, .inr (4, [.ref a_t_ahead, .int t_straightDesk, .int t_draws, .int t_drawSeed, .int r961.2.1])), (a_t_ahead, .inr (2, [.ref a_t_ahead_pitch, .ref a_t_ahead_hears, .int r961.2.2.1, .int r961.2.2.2.1])), (a_t_ahead_pitch, .inl (cI, 8, .inl r961.2.2.2.2.1)), (a_t_ahead_hears, .inl (cI, 8, .inl r961.2.2.2.2.2.1)), (a_h, .inr (0, [.int h_desks, .ref a_h_kind, .ref a_h_leanTold, .ref a_h_needs, .ref a_h_firstHears, .ref a_h_group, .ref a_h_firstPitch, .int h_oboe, .int h_slip, .int h_warmth, .int h_unheard])), (a_h_kind, .inl (cI, 8, .inl h_kind)), (a_h_leanTold, .inl (cI, 8, .inl h_leanTold)), (a_h_needs, .inl (cI, 8, .inl h_needs)), (a_s, .inr (2, [.ref a_s_pitch, .ref a_s_hears, .int r961.2.2.2.2.2.2.1, .int r961.2.2.2.2.2.2.2.1])), (a_s_pitch, .inl (cI, 8, .inl r961.2.2.2.2.2.2.2.2)), (a_s_hears, .inl (cI, 8, .inl s_hears))] := hD
        refine lv_iadd hx hb dX4_letGroupsTune_24 ?_
        refine lv_istore_n (lv' := [(3, .int (y3_5 + r961.1)), (0, .ref a_t), (1, .ref a_h), (2, .ref a_s), (4, .int y4_5)]) hx hb dX4_letGroupsTune_25 rfl hl (by decide) rfl (fun ls hl => ?_)
        refine lv_iinc (v := (y4_5 + (1 : Int32))) (lv' := [(4, .int (y4_5 + (1 : Int32))), (3, .int (y3_5 + r961.1)), (0, .ref a_t), (1, .ref a_h), (2, .ref a_s)]) hx hb dX4_letGroupsTune_26 hl (k := 4) rfl rfl (by decide) rfl (fun ls hl => ?_)
        refine lv_goto (tgt := 5) hx hb dX4_letGroupsTune_29 (by decide) ?_
        exact ih _ _ _ _ _ _ _ _ _ _ h _ _ (hP.sub [1, 2, 3, 4, 5, 6, 7, 8, 0, 9, 10, 11] rfl) (hD.sub [1, 2, 3, 4, 5, 6, 7, 8, 0, 9, 10, 11] (by decide +kernel) rfl) hS _ (lv_sub hl [2, 3, 4, 1, 0] rfl)
  exact K5 n (0 : Int32) (0 : Int32) t_drawn t_ahead_oboe t_ahead_seconds t_ahead_pitch t_ahead_hears s_oboe s_seconds s_pitch hjj958 _ _ hP hD hS _ (lv_sub hl [2, 3, 4, 1, 0] rfl)
