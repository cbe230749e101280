def rm_J6_bitCount_0f7a4 : Room := { frames := 0, cells := 0, slots := 0, locals := 0 }
set_option maxRecDepth 100000 in
set_option maxHeartbeats 8000000 in
theorem c_J6_bitCount_0f7a4 (l : Launch) (dC : Nat → ClassId) (dI : Nat → Nat → Nat) (cI cS : ClassId) (n sz : Nat) (x0 : Int32) (res : Int32)  (h : F_J6_bitCount_0f7a4 n x0 = some res) : Met l yJ6_bitCount_0f7a4 wsJ6_bitCount_0f7a4 rm_J6_bitCount_0f7a4 (va_Pc [.int x0] (PRE (dC, dI) vwCl [(cI, .int), (cS, .object "RoundOfTheA$State")] sz [])) (va_Qi (fun (r : Int32) (_ : Unit) => r = res) (fun u t => POST (dC, dI) vwCl [] (va_A [] sz) t) (va_A [] sz)) 0 0 (va_A [] sz) := by
  refine Met.ofW (cc := cJ6_bitCount_0f7a4) (maxL := 1) (ret := (some .int)) (by decide) rfl ?_
  intro p e s m args below meth c s₁ B hml hv
  obtain ⟨rfl, hsz, hN, hP, hK, hD0⟩ := hv
  have hx := B.exec
  have hb := B.bytes
  have hr := B.returns
  have hts := atoms_spec (ws := wsJ6_bitCount_0f7a4) B.pre
  have hown : s.vm.findClass RJ6 = some m.cls := findClass_of_methodNamed B.named
  have hlocks := B.notSynchronized
  subst hsz
  have hD := hD0.self (sz := s.heap.size)
  generalize hAe : va_A [] s.heap.size = A at hD ⊢
  have hA : ∀ q : Nat, s.heap.size ≤ q → A q := fun q h => by rw [← hAe]; exact Or.inr h
  have hS : va_S A s.heap s.heap [] := va_S.rf
  generalize hQe : MQ below _ _ s _ _ A = QQ
  have hl := lv_entry ([.int x0]) (n := 1) (Nat.le_of_ble_eq_true rfl)
  rw [lg_entry_eq]
  generalize (lg_sl ([.int x0]) ++ List.replicate (1 - (lg_sl ([.int x0])).length) Slot.unset).toArray = ls at hl ⊢
  have hl : lv_has ls 1 [(0, .int x0)] := hl
  have k_265 := hts (.constant RJ6 265 (1431655765)) (by decide +kernel)
  have k_266 := hts (.constant RJ6 266 (858993459)) (by decide +kernel)
  have k_267 := hts (.constant RJ6 267 (252645135)) (by decide +kernel)
  rw [F_J6_bitCount_0f7a4] at h
  refine lv_iload_n hx hb dJ6_bitCount_0f7a4_0 rfl (lv_at hl 0 rfl) ?_
  refine lv_iload_n hx hb dJ6_bitCount_0f7a4_1 rfl (lv_at hl 0 rfl) ?_
  refine lv_iconst (v := (1 : Int32)) hx hb dJ6_bitCount_0f7a4_2 (by decide) ?_
  refine lv_iushr (v := (UInt32.toInt32 (Int32.toUInt32 x0 >>> (Int32.toUInt32 (1 : Int32) &&& Int32.toUInt32 31)))) hx hb dJ6_bitCount_0f7a4_3 rfl ?_
  refine lv_ldcw (v := (1431655765 : Int32)) hx hb hown k_265 dJ6_bitCount_0f7a4_4 ?_
  refine lv_iand hx hb dJ6_bitCount_0f7a4_7 ?_
  refine lv_isub hx hb dJ6_bitCount_0f7a4_8 ?_
  refine lv_istore_n (lv' := [(0, .int (x0 - ((UInt32.toInt32 (Int32.toUInt32 x0 >>> (Int32.toUInt32 (1 : Int32) &&& Int32.toUInt32 31))) &&& (1431655765 : Int32))))]) hx hb dJ6_bitCount_0f7a4_9 rfl hl (by decide) rfl (fun ls hl => ?_)
  refine lv_iload_n hx hb dJ6_bitCount_0f7a4_10 rfl (lv_at hl 0 rfl) ?_
  refine lv_ldcw (v := (858993459 : Int32)) hx hb hown k_266 dJ6_bitCount_0f7a4_11 ?_
  refine lv_iand hx hb dJ6_bitCount_0f7a4_14 ?_
  refine lv_iload_n hx hb dJ6_bitCount_0f7a4_15 rfl (lv_at hl 0 rfl) ?_
  refine lv_iconst (v := (2 : Int32)) hx hb dJ6_bitCount_0f7a4_16 (by decide) ?_
  refine lv_iushr (v := (UInt32.toInt32 (Int32.toUInt32 (x0 - ((UInt32.toInt32 (Int32.toUInt32 x0 >>> (Int32.toUInt32 (1 : Int32) &&& Int32.toUInt32 31))) &&& (1431655765 : Int32))) >>> (Int32.toUInt32 (2 : Int32) &&& Int32.toUInt32 31)))) hx hb dJ6_bitCount_0f7a4_17 rfl ?_
  refine lv_ldcw (v := (858993459 : Int32)) hx hb hown k_266 dJ6_bitCount_0f7a4_18 ?_
  refine lv_iand hx hb dJ6_bitCount_0f7a4_21 ?_
  refine lv_iadd hx hb dJ6_bitCount_0f7a4_22 ?_
  refine lv_istore_n (lv' := [(0, .int (((x0 - ((UInt32.toInt32 (Int32.toUInt32 x0 >>> (Int32.toUInt32 (1 : Int32) &&& Int32.toUInt32 31))) &&& (1431655765 : Int32))) &&& (858993459 : Int32)) + ((UInt32.toInt32 (Int32.toUInt32 (x0 - ((UInt32.toInt32 (Int32.toUInt32 x0 >>> (Int32.toUInt32 (1 : Int32) &&& Int32.toUInt32 31))) &&& (1431655765 : Int32))) >>> (Int32.toUInt32 (2 : Int32) &&& Int32.toUInt32 31))) &&& (858993459 : Int32))))]) hx hb dJ6_bitCount_0f7a4_23 rfl hl (by decide) rfl (fun ls hl => ?_)
  refine lv_iload_n hx hb dJ6_bitCount_0f7a4_24 rfl (lv_at hl 0 rfl) ?_
  refine lv_iload_n hx hb dJ6_bitCount_0f7a4_25 rfl (lv_at hl 0 rfl) ?_
  refine lv_iconst (v := (4 : Int32)) hx hb dJ6_bitCount_0f7a4_26 (by decide) ?_
  refine lv_iushr (v := (UInt32.toInt32 (Int32.toUInt32 (((x0 - ((UInt32.toInt32 (Int32.toUInt32 x0 >>> (Int32.toUInt32 (1 : Int32) &&& Int32.toUInt32 31))) &&& (1431655765 : Int32))) &&& (858993459 : Int32)) + ((UInt32.toInt32 (Int32.toUInt32 (x0 - ((UInt32.toInt32 (Int32.toUInt32 x0 >>> (Int32.toUInt32 (1 : Int32) &&& Int32.toUInt32 31))) &&& (1431655765 : Int32))) >>> (Int32.toUInt32 (2 : Int32) &&& Int32.toUInt32 31))) &&& (858993459 : Int32))) >>> (Int32.toUInt32 (4 : Int32) &&& Int32.toUInt32 31)))) hx hb dJ6_bitCount_0f7a4_27 rfl ?_
  refine lv_iadd hx hb dJ6_bitCount_0f7a4_28 ?_
  refine lv_ldcw (v := (252645135 : Int32)) hx hb hown k_267 dJ6_bitCount_0f7a4_29 ?_
  refine lv_iand hx hb dJ6_bitCount_0f7a4_32 ?_
  refine lv_istore_n (lv' := [(0, .int (((((x0 - ((UInt32.toInt32 (Int32.toUInt32 x0 >>> (Int32.toUInt32 (1 : Int32) &&& Int32.toUInt32 31))) &&& (1431655765 : Int32))) &&& (858993459 : Int32)) + ((UInt32.toInt32 (Int32.toUInt32 (x0 - ((UInt32.toInt32 (Int32.toUInt32 x0 >>> (Int32.toUInt32 (1 : Int32) &&& Int32.toUInt32 31))) &&& (1431655765 : Int32))) >>> (Int32.toUInt32 (2 : Int32) &&& Int32.toUInt32 31))) &&& (858993459 : Int32))) + (UInt32.toInt32 (Int32.toUInt32 (((x0 - ((UInt32.toInt32 (Int32.toUInt32 x0 >>> (Int32.toUInt32 (1 : Int32) &&& Int32.toUInt32 31))) &&& (1431655765 : Int32))) &&& (858993459 : Int32)) + ((UInt32.toInt32 (Int32.toUInt32 (x0 - ((UInt32.toInt32 (Int32.toUInt32 x0 >>> (Int32.toUInt32 (1 : Int32) &&& Int32.toUInt32 31))) &&& (1431655765 : Int32))) >>> (Int32.toUInt32 (2 : Int32) &&& Int32.toUInt32 31))) &&& (858993459 : Int32))) >>> (Int32.toUInt32 (4 : Int32) &&& Int32.toUInt32 31)))) &&& (252645135 : Int32)))]) hx hb dJ6_bitCount_0f7a4_33 rfl hl (by decide) rfl (fun ls hl => ?_)
  refine lv_iload_n hx hb dJ6_bitCount_0f7a4_34 rfl (lv_at hl 0 rfl) ?_
  refine lv_iload_n hx hb dJ6_bitCount_0f7a4_35 rfl (lv_at hl 0 rfl) ?_
  refine lv_bipush (v := (8 : Int32)) hx hb dJ6_bitCount_0f7a4_36 (by decide) ?_
  refine lv_iushr (v := (UInt32.toInt32 (Int32.toUInt32 (((((x0 - ((UInt32.toInt32 (Int32.toUInt32 x0 >>> (Int32.toUInt32 (1 : Int32) &&& Int32.toUInt32 31))) &&& (1431655765 : Int32))) &&& (858993459 : Int32)) + ((UInt32.toInt32 (Int32.toUInt32 (x0 - ((UInt32.toInt32 (Int32.toUInt32 x0 >>> (Int32.toUInt32 (1 : Int32) &&& Int32.toUInt32 31))) &&& (1431655765 : Int32))) >>> (Int32.toUInt32 (2 : Int32) &&& Int32.toUInt32 31))) &&& (858993459 : Int32))) + (UInt32.toInt32 (Int32.toUInt32 (((x0 - ((UInt32.toInt32 (Int32.toUInt32 x0 >>> (Int32.toUInt32 (1 : Int32) &&& Int32.toUInt32 31))) &&& (1431655765 : Int32))) &&& (858993459 : Int32)) + ((UInt32.toInt32 (Int32.toUInt32 (x0 - ((UInt32.toInt32 (Int32.toUInt32 x0 >>> (Int32.toUInt32 (1 : Int32) &&& Int32.toUInt32 31))) &&& (1431655765 : Int32))) >>> (Int32.toUInt32 (2 : Int32) &&& Int32.toUInt32 31))) &&& (858993459 : Int32))) >>> (Int32.toUInt32 (4 : Int32) &&& Int32.toUInt32 31)))) &&& (252645135 : Int32)) >>> (Int32.toUInt32 (8 : Int32) &&& Int32.toUInt32 31)))) hx hb dJ6_bitCount_0f7a4_38 rfl ?_
  refine lv_iadd hx hb dJ6_bitCount_0f7a4_39 ?_
  refine lv_istore_n (lv' := [(0, .int ((((((x0 - ((UInt32.toInt32 (Int32.toUInt32 x0 >>> (Int32.toUInt32 (1 : Int32) &&& Int32.toUInt32 31))) &&& (1431655765 : Int32))) &&& (858993459 : Int32)) + ((UInt32.toInt32 (Int32.toUInt32 (x0 - ((UInt32.toInt32 (Int32.toUInt32 x0 >>> (Int32.toUInt32 (1 : Int32) &&& Int32.toUInt32 31))) &&& (1431655765 : Int32))) >>> (Int32.toUInt32 (2 : Int32) &&& Int32.toUInt32 31))) &&& (858993459 : Int32))) + (UInt32.toInt32 (Int32.toUInt32 (((x0 - ((UInt32.toInt32 (Int32.toUInt32 x0 >>> (Int32.toUInt32 (1 : Int32) &&& Int32.toUInt32 31))) &&& (1431655765 : Int32))) &&& (858993459 : Int32)) + ((UInt32.toInt32 (Int32.toUInt32 (x0 - ((UInt32.toInt32 (Int32.toUInt32 x0 >>> (Int32.toUInt32 (1 : Int32) &&& Int32.toUInt32 31))) &&& (1431655765 : Int32))) >>> (Int32.toUInt32 (2 : Int32) &&& Int32.toUInt32 31))) &&& (858993459 : Int32))) >>> (Int32.toUInt32 (4 : Int32) &&& Int32.toUInt32 31)))) &&& (252645135 : Int32)) + (UInt32.toInt32 (Int32.toUInt32 (((((x0 - ((UInt32.toInt32 (Int32.toUInt32 x0 >>> (Int32.toUInt32 (1 : Int32) &&& Int32.toUInt32 31))) &&& (1431655765 : Int32))) &&& (858993459 : Int32)) + ((UInt32.toInt32 (Int32.toUInt32 (x0 - ((UInt32.toInt32 (Int32.toUInt32 x0 >>> (Int32.toUInt32 (1 : Int32) &&& Int32.toUInt32 31))) &&& (1431655765 : Int32))) >>> (Int32.toUInt32 (2 : Int32) &&& Int32.toUInt32 31))) &&& (858993459 : Int32))) + (UInt32.toInt32 (Int32.toUInt32 (((x0 - ((UInt32.toInt32 (Int32.toUInt32 x0 >>> (Int32.toUInt32 (1 : Int32) &&& Int32.toUInt32 31))) &&& (1431655765 : Int32))) &&& (858993459 : Int32)) + ((UInt32.toInt32 (Int32.toUInt32 (x0 - ((UInt32.toInt32 (Int32.toUInt32 x0 >>> (Int32.toUInt32 (1 : Int32) &&& Int32.toUInt32 31))) &&& (1431655765 : Int32))) >>> (Int32.toUInt32 (2 : Int32) &&& Int32.toUInt32 31))) &&& (858993459 : Int32))) >>> (Int32.toUInt32 (4 : Int32) &&& Int32.toUInt32 31)))) &&& (252645135 : Int32)) >>> (Int32.toUInt32 (8 : Int32) &&& Int32.toUInt32 31)))))]) hx hb dJ6_bitCount_0f7a4_40 rfl hl (by decide) rfl (fun ls hl => ?_)
  refine lv_iload_n hx hb dJ6_bitCount_0f7a4_41 rfl (lv_at hl 0 rfl) ?_
  refine lv_iload_n hx hb dJ6_bitCount_0f7a4_42 rfl (lv_at hl 0 rfl) ?_
  refine lv_bipush (v := (16 : Int32)) hx hb dJ6_bitCount_0f7a4_43 (by decide) ?_
  refine lv_iushr (v := (UInt32.toInt32 (Int32.toUInt32 ((((((x0 - ((UInt32.toInt32 (Int32.toUInt32 x0 >>> (Int32.toUInt32 (1 : Int32) &&& Int32.toUInt32 31))) &&& (1431655765 : Int32))) &&& (858993459 : Int32)) + ((UInt32.toInt32 (Int32.toUInt32 (x0 - ((UInt32.toInt32 (Int32.toUInt32 x0 >>> (Int32.toUInt32 (1 : Int32) &&& Int32.toUInt32 31))) &&& (1431655765 : Int32))) >>> (Int32.toUInt32 (2 : Int32) &&& Int32.toUInt32 31))) &&& (858993459 : Int32))) + (UInt32.toInt32 (Int32.toUInt32 (((x0 - ((UInt32.toInt32 (Int32.toUInt32 x0 >>> (Int32.toUInt32 (1 : Int32) &&& Int32.toUInt32 31))) &&& (1431655765 : Int32))) &&& (858993459 : Int32)) + ((UInt32.toInt32 (Int32.toUInt32 (x0 - ((UInt32.toInt32 (Int32.toUInt32 x0 >>> (Int32.toUInt32 (1 : Int32) &&& Int32.toUInt32 31))) &&& (1431655765 : Int32))) >>> (Int32.toUInt32 (2 : Int32) &&& Int32.toUInt32 31))) &&& (858993459 : Int32))) >>> (Int32.toUInt32 (4 : Int32) &&& Int32.toUInt32 31)))) &&& (252645135 : Int32)) + (UInt32.toInt32 (Int32.toUInt32 (((((x0 - ((UInt32.toInt32 (Int32.toUInt32 x0 >>> (Int32.toUInt32 (1 : Int32) &&& Int32.toUInt32 31))) &&& (1431655765 : Int32))) &&& (858993459 : Int32)) + ((UInt32.toInt32 (Int32.toUInt32 (x0 - ((UInt32.toInt32 (Int32.toUInt32 x0 >>> (Int32.toUInt32 (1 : Int32) &&& Int32.toUInt32 31))) &&& (1431655765 : Int32))) >>> (Int32.toUInt32 (2 : Int32) &&& Int32.toUInt32 31))) &&& (858993459 : Int32))) + (UInt32.toInt32 (Int32.toUInt32 (((x0 - ((UInt32.toInt32 (Int32.toUInt32 x0 >>> (Int32.toUInt32 (1 : Int32) &&& Int32.toUInt32 31))) &&& (1431655765 : Int32))) &&& (858993459 : Int32)) + ((UInt32.toInt32 (Int32.toUInt32 (x0 - ((UInt32.toInt32 (Int32.toUInt32 x0 >>> (Int32.toUInt32 (1 : Int32) &&& Int32.toUInt32 31))) &&& (1431655765 : Int32))) >>> (Int32.toUInt32 (2 : Int32) &&& Int32.toUInt32 31))) &&& (858993459 : Int32))) >>> (Int32.toUInt32 (4 : Int32) &&& Int32.toUInt32 31)))) &&& (252645135 : Int32)) >>> (Int32.toUInt32 (8 : Int32) &&& Int32.toUInt32 31)))) >>> (Int32.toUInt32 (16 : Int32) &&& Int32.toUInt32 31)))) hx hb dJ6_bitCount_0f7a4_45 rfl ?_
  refine lv_iadd hx hb dJ6_bitCount_0f7a4_46 ?_
  refine lv_istore_n (lv' := [(0, .int (((((((x0 - ((UInt32.toInt32 (Int32.toUInt32 x0 >>> (Int32.toUInt32 (1 : Int32) &&& Int32.toUInt32 31))) &&& (1431655765 : Int32))) &&& (858993459 : Int32)) + ((UInt32.toInt32 (Int32.toUInt32 (x0 - ((UInt32.toInt32 (Int32.toUInt32 x0 >>> (Int32.toUInt32 (1 : Int32) &&& Int32.toUInt32 31))) &&& (1431655765 : Int32))) >>> (Int32.toUInt32 (2 : Int32) &&& Int32.toUInt32 31))) &&& (858993459 : Int32))) + (UInt32.toInt32 (Int32.toUInt32 (((x0 - ((UInt32.toInt32 (Int32.toUInt32 x0 >>> (Int32.toUInt32 (1 : Int32) &&& Int32.toUInt32 31))) &&& (1431655765 : Int32))) &&& (858993459 : Int32)) + ((UInt32.toInt32 (Int32.toUInt32 (x0 - ((UInt32.toInt32 (Int32.toUInt32 x0 >>> (Int32.toUInt32 (1 : Int32) &&& Int32.toUInt32 31))) &&& (1431655765 : Int32))) >>> (Int32.toUInt32 (2 : Int32) &&& Int32.toUInt32 31))) &&& (858993459 : Int32))) >>> (Int32.toUInt32 (4 : Int32) &&& Int32.toUInt32 31)))) &&& (252645135 : Int32)) + (UInt32.toInt32 (Int32.toUInt32 (((((x0 - ((UInt32.toInt32 (Int32.toUInt32 x0 >>> (Int32.toUInt32 (1 : Int32) &&& Int32.toUInt32 31))) &&& (1431655765 : Int32))) &&& (858993459 : Int32)) + ((UInt32.toInt32 (Int32.toUInt32 (x0 - ((UInt32.toInt32 (Int32.toUInt32 x0 >>> (Int32.toUInt32 (1 : Int32) &&& Int32.toUInt32 31))) &&& (1431655765 : Int32))) >>> (Int32.toUInt32 (2 : Int32) &&& Int32.toUInt32 31))) &&& (858993459 : Int32))) + (UInt32.toInt32 (Int32.toUInt32 (((x0 - ((UInt32.toInt32 (Int32.toUInt32 x0 >>> (Int32.toUInt32 (1 : Int32) &&& Int32.toUInt32 31))) &&& (1431655765 : Int32))) &&& (858993459 : Int32)) + ((UInt32.toInt32 (Int32.toUInt32 (x0 - ((UInt32.toInt32 (Int32.toUInt32 x0 >>> (Int32.toUInt32 (1 : Int32) &&& Int32.toUInt32 31))) &&& (1431655765 : Int32))) >>> (Int32.toUInt32 (2 : Int32) &&& Int32.toUInt32 31))) &&& (858993459 : Int32))) >>> (Int32.toUInt32 (4 : Int32) &&& Int32.toUInt32 31)))) &&& (252645135 : Int32)) >>> (Int32.toUInt32 (8 : Int32) &&& Int32.toUInt32 31)))) + (UInt32.toInt32 (Int32.toUInt32 ((((((x0 - ((UInt32.toInt32 (Int32.toUInt32 x0 >>> (Int32.toUInt32 (1 : Int32) &&& Int32.toUInt32 31))) &&& (1431655765 : Int32))) &&& (858993459 : Int32)) + ((UInt32.toInt32 (Int32.toUInt32 (x0 - ((UInt32.toInt32 (Int32.toUInt32 x0 >>> (Int32.toUInt32 (1 : Int32) &&& Int32.toUInt32 31))) &&& (1431655765 : Int32))) >>> (Int32.toUInt32 (2 : Int32) &&& Int32.toUInt32 31))) &&& (858993459 : Int32))) + (UInt32.toInt32 (Int32.toUInt32 (((x0 - ((UInt32.toInt32 (Int32.toUInt32 x0 >>> (Int32.toUInt32 (1 : Int32) &&& Int32.toUInt32 31))) &&& (1431655765 : Int32))) &&& (858993459 : Int32)) + ((UInt32.toInt32 (Int32.toUInt32 (x0 - ((UInt32.toInt32 (Int32.toUInt32 x0 >>> (Int32.toUInt32 (1 : Int32) &&& Int32.toUInt32 31))) &&& (1431655765 : Int32))) >>> (Int32.toUInt32 (2 : Int32) &&& Int32.toUInt32 31))) &&& (858993459 : Int32))) >>> (Int32.toUInt32 (4 : Int32) &&& Int32.toUInt32 31)))) &&& (252645135 : Int32)) + (UInt32.toInt32 (Int32.toUInt32 (((((x0 - ((UInt32.toInt32 (Int32.toUInt32 x0 >>> (Int32.toUInt32 (1 : Int32) &&& Int32.toUInt32 31))) &&& (1431655765 : Int32))) &&& (858993459 : Int32)) + ((UInt32.toInt32 (Int32.toUInt32 (x0 - ((UInt32.toInt32 (Int32.toUInt32 x0 >>> (Int32.toUInt32 (1 : Int32) &&& Int32.toUInt32 31))) &&& (1431655765 : Int32))) >>> (Int32.toUInt32 (2 : Int32) &&& Int32.toUInt32 31))) &&& (858993459 : Int32))) + (UInt32.toInt32 (Int32.toUInt32 (((x0 - ((UInt32.toInt32 (Int32.toUInt32 x0 >>> (Int32.toUInt32 (1 : Int32) &&& Int32.toUInt32 31))) &&& (1431655765 : Int32))) &&& (858993459 : Int32)) + ((UInt32.toInt32 (Int32.toUInt32 (x0 - ((UInt32.toInt32 (Int32.toUInt32 x0 >>> (Int32.toUInt32 (1 : Int32) &&& Int32.toUInt32 31))) &&& (1431655765 : Int32))) >>> (Int32.toUInt32 (2 : Int32) &&& Int32.toUInt32 31))) &&& (858993459 : Int32))) >>> (Int32.toUInt32 (4 : Int32) &&& Int32.toUInt32 31)))) &&& (252645135 : Int32)) >>> (Int32.toUInt32 (8 : Int32) &&& Int32.toUInt32 31)))) >>> (Int32.toUInt32 (16 : Int32) &&& Int32.toUInt32 31)))))]) hx hb dJ6_bitCount_0f7a4_47 rfl hl (by decide) rfl (fun ls hl => ?_)
  refine lv_iload_n hx hb dJ6_bitCount_0f7a4_48 rfl (lv_at hl 0 rfl) ?_
  refine lv_bipush (v := (63 : Int32)) hx hb dJ6_bitCount_0f7a4_49 (by decide) ?_
  refine lv_iand hx hb dJ6_bitCount_0f7a4_51 ?_
  obtain rfl := Option.some.inj h
  subst hQe
  exact W.iret (v := ((((((((x0 - ((UInt32.toInt32 (Int32.toUInt32 x0 >>> (Int32.toUInt32 (1 : Int32) &&& Int32.toUInt32 31))) &&& (1431655765 : Int32))) &&& (858993459 : Int32)) + ((UInt32.toInt32 (Int32.toUInt32 (x0 - ((UInt32.toInt32 (Int32.toUInt32 x0 >>> (Int32.toUInt32 (1 : Int32) &&& Int32.toUInt32 31))) &&& (1431655765 : Int32))) >>> (Int32.toUInt32 (2 : Int32) &&& Int32.toUInt32 31))) &&& (858993459 : Int32))) + (UInt32.toInt32 (Int32.toUInt32 (((x0 - ((UInt32.toInt32 (Int32.toUInt32 x0 >>> (Int32.toUInt32 (1 : Int32) &&& Int32.toUInt32 31))) &&& (1431655765 : Int32))) &&& (858993459 : Int32)) + ((UInt32.toInt32 (Int32.toUInt32 (x0 - ((UInt32.toInt32 (Int32.toUInt32 x0 >>> (Int32.toUInt32 (1 : Int32) &&& Int32.toUInt32 31))) &&& (1431655765 : Int32))) >>> (Int32.toUInt32 (2 : Int32) &&& Int32.toUInt32 31))) &&& (858993459 : Int32))) >>> (Int32.toUInt32 (4 : Int32) &&& Int32.toUInt32 31)))) &&& (252645135 : Int32)) + (UInt32.toInt32 (Int32.toUInt32 (((((x0 - ((UInt32.toInt32 (Int32.toUInt32 x0 >>> (Int32.toUInt32 (1 : Int32) &&& Int32.toUInt32 31))) &&& (1431655765 : Int32))) &&& (858993459 : Int32)) + ((UInt32.toInt32 (Int32.toUInt32 (x0 - ((UInt32.toInt32 (Int32.toUInt32 x0 >>> (Int32.toUInt32 (1 : Int32) &&& Int32.toUInt32 31))) &&& (1431655765 : Int32))) >>> (Int32.toUInt32 (2 : Int32) &&& Int32.toUInt32 31))) &&& (858993459 : Int32))) + (UInt32.toInt32 (Int32.toUInt32 (((x0 - ((UInt32.toInt32 (Int32.toUInt32 x0 >>> (Int32.toUInt32 (1 : Int32) &&& Int32.toUInt32 31))) &&& (1431655765 : Int32))) &&& (858993459 : Int32)) + ((UInt32.toInt32 (Int32.toUInt32 (x0 - ((UInt32.toInt32 (Int32.toUInt32 x0 >>> (Int32.toUInt32 (1 : Int32) &&& Int32.toUInt32 31))) &&& (1431655765 : Int32))) >>> (Int32.toUInt32 (2 : Int32) &&& Int32.toUInt32 31))) &&& (858993459 : Int32))) >>> (Int32.toUInt32 (4 : Int32) &&& Int32.toUInt32 31)))) &&& (252645135 : Int32)) >>> (Int32.toUInt32 (8 : Int32) &&& Int32.toUInt32 31)))) + (UInt32.toInt32 (Int32.toUInt32 ((((((x0 - ((UInt32.toInt32 (Int32.toUInt32 x0 >>> (Int32.toUInt32 (1 : Int32) &&& Int32.toUInt32 31))) &&& (1431655765 : Int32))) &&& (858993459 : Int32)) + ((UInt32.toInt32 (Int32.toUInt32 (x0 - ((UInt32.toInt32 (Int32.toUInt32 x0 >>> (Int32.toUInt32 (1 : Int32) &&& Int32.toUInt32 31))) &&& (1431655765 : Int32))) >>> (Int32.toUInt32 (2 : Int32) &&& Int32.toUInt32 31))) &&& (858993459 : Int32))) + (UInt32.toInt32 (Int32.toUInt32 (((x0 - ((UInt32.toInt32 (Int32.toUInt32 x0 >>> (Int32.toUInt32 (1 : Int32) &&& Int32.toUInt32 31))) &&& (1431655765 : Int32))) &&& (858993459 : Int32)) + ((UInt32.toInt32 (Int32.toUInt32 (x0 - ((UInt32.toInt32 (Int32.toUInt32 x0 >>> (Int32.toUInt32 (1 : Int32) &&& Int32.toUInt32 31))) &&& (1431655765 : Int32))) >>> (Int32.toUInt32 (2 : Int32) &&& Int32.toUInt32 31))) &&& (858993459 : Int32))) >>> (Int32.toUInt32 (4 : Int32) &&& Int32.toUInt32 31)))) &&& (252645135 : Int32)) + (UInt32.toInt32 (Int32.toUInt32 (((((x0 - ((UInt32.toInt32 (Int32.toUInt32 x0 >>> (Int32.toUInt32 (1 : Int32) &&& Int32.toUInt32 31))) &&& (1431655765 : Int32))) &&& (858993459 : Int32)) + ((UInt32.toInt32 (Int32.toUInt32 (x0 - ((UInt32.toInt32 (Int32.toUInt32 x0 >>> (Int32.toUInt32 (1 : Int32) &&& Int32.toUInt32 31))) &&& (1431655765 : Int32))) >>> (Int32.toUInt32 (2 : Int32) &&& Int32.toUInt32 31))) &&& (858993459 : Int32))) + (UInt32.toInt32 (Int32.toUInt32 (((x0 - ((UInt32.toInt32 (Int32.toUInt32 x0 >>> (Int32.toUInt32 (1 : Int32) &&& Int32.toUInt32 31))) &&& (1431655765 : Int32))) &&& (858993459 : Int32)) + ((UInt32.toInt32 (Int32.toUInt32 (x0 - ((UInt32.toInt32 (Int32.toUInt32 x0 >>> (Int32.toUInt32 (1 : Int32) &&& Int32.toUInt32 31))) &&& (1431655765 : Int32))) >>> (Int32.toUInt32 (2 : Int32) &&& Int32.toUInt32 31))) &&& (858993459 : Int32))) >>> (Int32.toUInt32 (4 : Int32) &&& Int32.toUInt32 31)))) &&& (252645135 : Int32)) >>> (Int32.toUInt32 (8 : Int32) &&& Int32.toUInt32 31)))) >>> (Int32.toUInt32 (16 : Int32) &&& Int32.toUInt32 31)))) &&& (63 : Int32))) hx hb hr (fun t ht hW => ⟨⟨((((((((x0 - ((UInt32.toInt32 (Int32.toUInt32 x0 >>> (Int32.toUInt32 (1 : Int32) &&& Int32.toUInt32 31))) &&& (1431655765 : Int32))) &&& (858993459 : Int32)) + ((UInt32.toInt32 (Int32.toUInt32 (x0 - ((UInt32.toInt32 (Int32.toUInt32 x0 >>> (Int32.toUInt32 (1 : Int32) &&& Int32.toUInt32 31))) &&& (1431655765 : Int32))) >>> (Int32.toUInt32 (2 : Int32) &&& Int32.toUInt32 31))) &&& (858993459 : Int32))) + (UInt32.toInt32 (Int32.toUInt32 (((x0 - ((UInt32.toInt32 (Int32.toUInt32 x0 >>> (Int32.toUInt32 (1 : Int32) &&& Int32.toUInt32 31))) &&& (1431655765 : Int32))) &&& (858993459 : Int32)) + ((UInt32.toInt32 (Int32.toUInt32 (x0 - ((UInt32.toInt32 (Int32.toUInt32 x0 >>> (Int32.toUInt32 (1 : Int32) &&& Int32.toUInt32 31))) &&& (1431655765 : Int32))) >>> (Int32.toUInt32 (2 : Int32) &&& Int32.toUInt32 31))) &&& (858993459 : Int32))) >>> (Int32.toUInt32 (4 : Int32) &&& Int32.toUInt32 31)))) &&& (252645135 : Int32)) + (UInt32.toInt32 (Int32.toUInt32 (((((x0 - ((UInt32.toInt32 (Int32.toUInt32 x0 >>> (Int32.toUInt32 (1 : Int32) &&& Int32.toUInt32 31))) &&& (1431655765 : Int32))) &&& (858993459 : Int32)) + ((UInt32.toInt32 (Int32.toUInt32 (x0 - ((UInt32.toInt32 (Int32.toUInt32 x0 >>> (Int32.toUInt32 (1 : Int32) &&& Int32.toUInt32 31))) &&& (1431655765 : Int32))) >>> (Int32.toUInt32 (2 : Int32) &&& Int32.toUInt32 31))) &&& (858993459 : Int32))) + (UInt32.toInt32 (Int32.toUInt32 (((x0 - ((UInt32.toInt32 (Int32.toUInt32 x0 >>> (Int32.toUInt32 (1 : Int32) &&& Int32.toUInt32 31))) &&& (1431655765 : Int32))) &&& (858993459 : Int32)) + ((UInt32.toInt32 (Int32.toUInt32 (x0 - ((UInt32.toInt32 (Int32.toUInt32 x0 >>> (Int32.toUInt32 (1 : Int32) &&& Int32.toUInt32 31))) &&& (1431655765 : Int32))) >>> (Int32.toUInt32 (2 : Int32) &&& Int32.toUInt32 31))) &&& (858993459 : Int32))) >>> (Int32.toUInt32 (4 : Int32) &&& Int32.toUInt32 31)))) &&& (252645135 : Int32)) >>> (Int32.toUInt32 (8 : Int32) &&& Int32.toUInt32 31)))) + (UInt32.toInt32 (Int32.toUInt32 ((((((x0 - ((UInt32.toInt32 (Int32.toUInt32 x0 >>> (Int32.toUInt32 (1 : Int32) &&& Int32.toUInt32 31))) &&& (1431655765 : Int32))) &&& (858993459 : Int32)) + ((UInt32.toInt32 (Int32.toUInt32 (x0 - ((UInt32.toInt32 (Int32.toUInt32 x0 >>> (Int32.toUInt32 (1 : Int32) &&& Int32.toUInt32 31))) &&& (1431655765 : Int32))) >>> (Int32.toUInt32 (2 : Int32) &&& Int32.toUInt32 31))) &&& (858993459 : Int32))) + (UInt32.toInt32 (Int32.toUInt32 (((x0 - ((UInt32.toInt32 (Int32.toUInt32 x0 >>> (Int32.toUInt32 (1 : Int32) &&& Int32.toUInt32 31))) &&& (1431655765 : Int32))) &&& (858993459 : Int32)) + ((UInt32.toInt32 (Int32.toUInt32 (x0 - ((UInt32.toInt32 (Int32.toUInt32 x0 >>> (Int32.toUInt32 (1 : Int32) &&& Int32.toUInt32 31))) &&& (1431655765 : Int32))) >>> (Int32.toUInt32 (2 : Int32) &&& Int32.toUInt32 31))) &&& (858993459 : Int32))) >>> (Int32.toUInt32 (4 : Int32) &&& Int32.toUInt32 31)))) &&& (252645135 : Int32)) + (UInt32.toInt32 (Int32.toUInt32 (((((x0 - ((UInt32.toInt32 (Int32.toUInt32 x0 >>> (Int32.toUInt32 (1 : Int32) &&& Int32.toUInt32 31))) &&& (1431655765 : Int32))) &&& (858993459 : Int32)) + ((UInt32.toInt32 (Int32.toUInt32 (x0 - ((UInt32.toInt32 (Int32.toUInt32 x0 >>> (Int32.toUInt32 (1 : Int32) &&& Int32.toUInt32 31))) &&& (1431655765 : Int32))) >>> (Int32.toUInt32 (2 : Int32) &&& Int32.toUInt32 31))) &&& (858993459 : Int32))) + (UInt32.toInt32 (Int32.toUInt32 (((x0 - ((UInt32.toInt32 (Int32.toUInt32 x0 >>> (Int32.toUInt32 (1 : Int32) &&& Int32.toUInt32 31))) &&& (1431655765 : Int32))) &&& (858993459 : Int32)) + ((UInt32.toInt32 (Int32.toUInt32 (x0 - ((UInt32.toInt32 (Int32.toUInt32 x0 >>> (Int32.toUInt32 (1 : Int32) &&& Int32.toUInt32 31))) &&& (1431655765 : Int32))) >>> (Int32.toUInt32 (2 : Int32) &&& Int32.toUInt32 31))) &&& (858993459 : Int32))) >>> (Int32.toUInt32 (4 : Int32) &&& Int32.toUInt32 31)))) &&& (252645135 : Int32)) >>> (Int32.toUInt32 (8 : Int32) &&& Int32.toUInt32 31)))) >>> (Int32.toUInt32 (16 : Int32) &&& Int32.toUInt32 31)))) &&& (63 : Int32)), (), rfl, rfl, ⟨by rw [ht]; exact hP, hD⟩⟩, hS.F ht⟩) hS.2.2 dJ6_bitCount_0f7a4_52
def rm_X5_sorest : Room := { frames := 1, cells := 0, slots := 0, locals := 21 }
set_option maxRecDepth 100000 in
set_option maxHeartbeats 8000000 in
theorem c_X5_sorest (l : Launch) (dC : Nat → ClassId) (dI : Nat → Nat → Nat) (cI cS : ClassId) (n sz : Nat) (x0 : Int32) (x1 : Int32) (x2 : Int32) (res : Int32)  (h : F_X5_sorest n x0 x1 x2 = some res) : Met l yX5_sorest wsX5_sorest rm_X5_sorest (va_Pc [.int x0, .int x1, .int x2] (PRE (dC, dI) vwCl [(cI, .int), (cS, .object "RoundOfTheA$State")] sz [])) (va_Qi (fun (r : Int32) (_ : Unit) => r = res) (fun u t => POST (dC, dI) vwCl [] (va_A [] sz) t) (va_A [] sz)) 0 0 (va_A [] sz) := by
  refine Met.ofW (cc := cX5_sorest) (maxL := 5) (ret := (some .int)) (by decide) rfl ?_
  intro p e s m args below meth c s₁ B hml hv
  obtain ⟨rfl, hsz, hN, hP, hK, hD0⟩ := hv
  have hx := B.exec
  have hb := B.bytes
  have hr := B.returns
  have hts := atoms_spec (ws := wsX5_sorest) B.pre
  have hown : s.vm.findClass RX5 = some m.cls := findClass_of_methodNamed B.named
  have hlocks := B.notSynchronized
  subst hsz
  have hD := hD0.self (sz := s.heap.size)
  generalize hAe : va_A [] s.heap.size = A at hD ⊢
  have hA : ∀ q : Nat, s.heap.size ≤ q → A q := fun q h => by rw [← hAe]; exact Or.inr h
  have hS : va_S A s.heap s.heap [] := va_S.rf
  generalize hQe : MQ below _ _ s _ _ A = QQ
  have hl := lv_entry ([.int x0, .int x1, .int x2]) (n := 5) (Nat.le_of_ble_eq_true rfl)
  rw [lg_entry_eq]
  generalize (lg_sl ([.int x0, .int x1, .int x2]) ++ List.replicate (5 - (lg_sl ([.int x0, .int x1, .int x2])).length) Slot.unset).toArray = ls at hl ⊢
  have hl : lv_has ls 5 [(0, .int x0), (1, .int x1), (2, .int x2)] := hl
  have m_191 := hts (.methodLink RX5 191 Lib.Math.abs.name) (by decide +kernel)
  have ms_abs := hts (.static Lib.Math.abs.name) (by decide +kernel)
  have m_mi := hts (.initialized "java/lang/Math") (by decide +kernel)
  have mc_abs := hts (.code Lib.Math.abs.name Lib.Math.abs.code 1 (some .int)) (by decide +kernel)
  have m_253 := hts (.methodLink RX5 253 Lib.Math.max.name) (by decide +kernel)
  have ms_max := hts (.static Lib.Math.max.name) (by decide +kernel)
  have mc_max := hts (.code Lib.Math.max.name Lib.Math.max.code 2 (some .int)) (by decide +kernel)
  rw [F_X5_sorest] at h
  refine lv_iconst (v := (0 : Int32)) hx hb dX5_sorest_0 (by decide) ?_
  refine lv_istore_n (lv' := [(3, .int (0 : Int32)), (0, .int x0), (1, .int x1), (2, .int x2)]) hx hb dX5_sorest_1 rfl hl (by decide) rfl (fun ls hl => ?_)
  refine lv_iload_n hx hb dX5_sorest_2 rfl (lv_at hl 1 rfl) ?_
  refine lv_ineg hx hb dX5_sorest_3 ?_
  refine lv_istore (lv' := [(4, .int (-x0)), (3, .int (0 : Int32)), (0, .int x0), (1, .int x1), (2, .int x2)]) hx hb dX5_sorest_4 hl (by decide) rfl (fun ls hl => ?_)
  obtain ⟨j6, hjj6, h⟩ := ob h
  have Jj6 : ∀ (H : Heap) (locs : List Loc), va_P (dC, dI) vwCl [] H → va_D A [] → va_S A s.heap H locs → ∀ ls : Array Slot, lv_has ls 5 [(0, .int x0), (1, .int x1), (2, .int x2), (3, .int j6.1), (4, .int j6.2)] → W p l e (headSpec wsX5_sorest rm_X5_sorest).room s m ([.int x0, .int x1, .int x2] : List Value).toArray below meth c H locs 0 0 QQ (F0 m 32 ls []) := by
    intro H locs hP hD hS ls hl
    refine lv_iload_n hx hb dX5_sorest_32 rfl (lv_at hl 3 rfl) ?_
    obtain rfl := Option.some.inj h
    subst hQe
    exact W.iret (v := j6.1) hx hb hr (fun t ht hW => ⟨⟨j6.1, (), rfl, rfl, ⟨by rw [ht]; exact hP, hD⟩⟩, hS.F ht⟩) hS.2.2 dX5_sorest_33
  have K6 : ∀ (k : Nat) (y3_6 : Int32) (y4_6 : Int32), L_X5_sorest_6 x1 x2 k y3_6 y4_6 = some j6 → ∀ (H : Heap) (locs : List Loc), va_P (dC, dI) vwCl [] H → va_D A [] → va_S A s.heap H locs → ∀ ls : Array Slot, lv_has ls 5 [(0, .int x0), (1, .int x1), (2, .int x2), (3, .int y3_6), (4, .int y4_6)] → W p l e (headSpec wsX5_sorest rm_X5_sorest).room s m ([.int x0, .int x1, .int x2] : List Value).toArray below meth c H locs 0 0 QQ (F0 m 6 ls []) := by
    intro k
    induction k with
    | zero =>
      intro y3_6 y4_6 h
      rw [L_X5_sorest_6] at h
      cases h
    | succ k ih =>
      intro y3_6 y4_6 h H locs hP hD hS ls hl
      rw [L_X5_sorest_6] at h
      refine lv_iload hx hb dX5_sorest_6 (lv_at hl 4 rfl) ?_
      refine lv_iload_n hx hb dX5_sorest_8 rfl (lv_at hl 1 rfl) ?_
      refine lv_icmp_gt (tgt := 32) hx hb dX5_sorest_9 (by decide) (fun c_9 => ?_) (fun c_9 => ?_)
      · have h := (if_pos c_9).symm.trans h
        obtain rfl := Option.some.inj h
        exact Jj6 _ _ hP hD hS _ hl
      · have h := (if_neg c_9).symm.trans h
        refine lv_iload_n hx hb dX5_sorest_12 rfl (lv_at hl 3 rfl) ?_
        refine lv_iconst (v := (2 : Int32)) hx hb dX5_sorest_13 (by decide) ?_
        refine lv_iload hx hb dX5_sorest_14 (lv_at hl 4 rfl) ?_
        refine lv_imul hx hb dX5_sorest_16 ?_
        refine lv_iload_n hx hb dX5_sorest_17 rfl (lv_at hl 2 rfl) ?_
        refine lv_iadd hx hb dX5_sorest_18 ?_
        refine va_mabs hx hb (hml.trans hl.1.symm) hown m_191 ms_abs m_mi mc_abs (Nat.le_of_ble_eq_true rfl) (Nat.le_of_ble_eq_true rfl) (Nat.le_of_ble_eq_true rfl) (Nat.le_of_ble_eq_true rfl) dX5_sorest_19 ?_
        refine va_mmax hx hb (hml.trans hl.1.symm) hown m_253 ms_max m_mi mc_max (Nat.le_of_ble_eq_true rfl) (Nat.le_of_ble_eq_true rfl) (Nat.le_of_ble_eq_true rfl) (Nat.le_of_ble_eq_true rfl) dX5_sorest_22 ?_
        refine lv_istore_n (lv' := [(3, .int (if y3_6 < (if 0 ≤ (((2 : Int32) * y4_6) + x2) then (((2 : Int32) * y4_6) + x2) else 0 - (((2 : Int32) * y4_6) + x2)) then (if 0 ≤ (((2 : Int32) * y4_6) + x2) then (((2 : Int32) * y4_6) + x2) else 0 - (((2 : Int32) * y4_6) + x2)) else y3_6)), (0, .int x0), (1, .int x1), (2, .int x2), (4, .int y4_6)]) hx hb dX5_sorest_25 rfl hl (by decide) rfl (fun ls hl => ?_)
        refine lv_iinc (v := (y4_6 + (1 : Int32))) (lv' := [(4, .int (y4_6 + (1 : Int32))), (3, .int (if y3_6 < (if 0 ≤ (((2 : Int32) * y4_6) + x2) then (((2 : Int32) * y4_6) + x2) else 0 - (((2 : Int32) * y4_6) + x2)) then (if 0 ≤ (((2 : Int32) * y4_6) + x2) then (((2 : Int32) * y4_6) + x2) else 0 - (((2 : Int32) * y4_6) + x2)) else y3_6)), (0, .int x0), (1, .int x1), (2, .int x2)]) hx hb dX5_sorest_26 hl (k := 4) rfl rfl (by decide) rfl (fun ls hl => ?_)
        refine lv_goto (tgt := 6) hx hb dX5_sorest_29 (by decide) ?_
        exact ih _ _ h _ _ hP hD hS _ (lv_sub hl [2, 3, 4, 1, 0] rfl)
  exact K6 n (0 : Int32) (-x0) hjj6 _ _ hP hD hS _ (lv_sub hl [2, 3, 4, 1, 0] rfl)
def rm_X5_commonDivisor : Room := { frames := 0, cells := 0, slots := 0, locals := 0 }
set_option maxRecDepth 100000 in
set_option maxHeartbeats 8000000 in
theorem c_X5_commonDivisor (l : Launch) (dC : Nat → ClassId) (dI : Nat → Nat → Nat) (cI cS : ClassId) (n sz : Nat) (x0 : Int32) (x1 : Int32) (res : Int32)  (h : F_X5_commonDivisor n x0 x1 = some res) : Met l yX5_commonDivisor wsX5_commonDivisor rm_X5_commonDivisor (va_Pc [.int x0, .int x1] (PRE (dC, dI) vwCl [(cI, .int), (cS, .object "RoundOfTheA$State")] sz [])) (va_Qi (fun (r : Int32) (_ : Unit) => r = res) (fun u t => POST (dC, dI) vwCl [] (va_A [] sz) t) (va_A [] sz)) 0 0 (va_A [] sz) := by
  refine Met.ofW (cc := cX5_commonDivisor) (maxL := 6) (ret := (some .int)) (by decide) rfl ?_
  intro p e s m args below meth c s₁ B hml hv
  obtain ⟨rfl, hsz, hN, hP, hK, hD0⟩ := hv
  have hx := B.exec
  have hb := B.bytes
  have hr := B.returns
  have hts := atoms_spec (ws := wsX5_commonDivisor) B.pre
  have hown : s.vm.findClass RX5 = some m.cls := findClass_of_methodNamed B.named
  have hlocks := B.notSynchronized
  subst hsz
  have hD := hD0.self (sz := s.heap.size)
  generalize hAe : va_A [] s.heap.size = A at hD ⊢
  have hA : ∀ q : Nat, s.heap.size ≤ q → A q := fun q h => by rw [← hAe]; exact Or.inr h
  have hS : va_S A s.heap s.heap [] := va_S.rf
  generalize hQe : MQ below _ _ s _ _ A = QQ
  have hl := lv_entry ([.int x0, .int x1]) (n := 6) (Nat.le_of_ble_eq_true rfl)
  rw [lg_entry_eq]
  generalize (lg_sl ([.int x0, .int x1]) ++ List.replicate (6 - (lg_sl ([.int x0, .int x1])).length) Slot.unset).toArray = ls at hl ⊢
  have hl : lv_has ls 6 [(0, .int x0), (1, .int x1)] := hl
  rw [F_X5_commonDivisor] at h
  refine lv_iload_n hx hb dX5_commonDivisor_0 rfl (lv_at hl 0 rfl) ?_
  refine lv_istore_n (lv' := [(2, .int x0), (0, .int x0), (1, .int x1)]) hx hb dX5_commonDivisor_1 rfl hl (by decide) rfl (fun ls hl => ?_)
  refine lv_iload_n hx hb dX5_commonDivisor_2 rfl (lv_at hl 2 rfl) ?_
  refine lv_istore_n (lv' := [(3, .int x1), (2, .int x0), (0, .int x0), (1, .int x1)]) hx hb dX5_commonDivisor_3 rfl hl (by decide) rfl (fun ls hl => ?_)
  refine lv_iconst (v := (0 : Int32)) hx hb dX5_commonDivisor_4 (by decide) ?_
  refine lv_istore (lv' := [(4, .int (0 : Int32)), (3, .int x1), (2, .int x0), (0, .int x0), (1, .int x1)]) hx hb dX5_commonDivisor_5 hl (by decide) rfl (fun ls hl => ?_)
  obtain ⟨j19, hjj19, h⟩ := ob h
  have Jj19 : ∀ (H : Heap) (locs : List Loc), va_P (dC, dI) vwCl [] H → va_D A [] → va_S A s.heap H locs → ∀ ls : Array Slot, lv_has ls 6 [(0, .int x0), (1, .int x1), (2, .int j19.1), (3, .int j19.2.1), (4, .int j19.2.2)] → W p l e (headSpec wsX5_commonDivisor rm_X5_commonDivisor).room s m ([.int x0, .int x1] : List Value).toArray below meth c H locs 0 0 QQ (F0 m 34 ls []) := by
    intro H locs hP hD hS ls hl
    refine lv_iload_n hx hb dX5_commonDivisor_34 rfl (lv_at hl 2 rfl) ?_
    obtain rfl := Option.some.inj h
    subst hQe
    exact W.iret (v := j19.1) hx hb hr (fun t ht hW => ⟨⟨j19.1, (), rfl, rfl, ⟨by rw [ht]; exact hP, hD⟩⟩, hS.F ht⟩) hS.2.2 dX5_commonDivisor_35
  have K7 : ∀ (k : Nat) (y2_7 : Int32) (y3_7 : Int32) (y4_7 : Int32), L_X5_commonDivisor_7 k y2_7 y3_7 y4_7 = some j19 → ∀ (H : Heap) (locs : List Loc), va_P (dC, dI) vwCl [] H → va_D A [] → va_S A s.heap H locs → ∀ ls : Array Slot, lv_has ls 6 [(0, .int x0), (1, .int x1), (2, .int y2_7), (3, .int y3_7), (4, .int y4_7)] → W p l e (headSpec wsX5_commonDivisor rm_X5_commonDivisor).room s m ([.int x0, .int x1] : List Value).toArray below meth c H locs 0 0 QQ (F0 m 7 ls []) := by
    intro k
    induction k with
    | zero =>
      intro y2_7 y3_7 y4_7 h
      rw [L_X5_commonDivisor_7] at h
      cases h
    | succ k ih =>
      intro y2_7 y3_7 y4_7 h H locs hP hD hS ls hl
      rw [L_X5_commonDivisor_7] at h
      refine lv_iload hx hb dX5_commonDivisor_7 (lv_at hl 4 rfl) ?_
      refine lv_bipush (v := (100 : Int32)) hx hb dX5_commonDivisor_9 (by decide) ?_
      refine lv_icmp_ge (tgt := 34) hx hb dX5_commonDivisor_11 (by decide) (fun c_11 => ?_) (fun c_11 => ?_)
      · have h := (if_pos c_11).symm.trans h
        obtain rfl := Option.some.inj h
        exact Jj19 _ _ hP hD hS _ hl
      · have h := (if_neg c_11).symm.trans h
        refine lv_iload_n hx hb dX5_commonDivisor_14 rfl (lv_at hl 3 rfl) ?_
        refine lv_if_eq (tgt := 34) hx hb dX5_commonDivisor_15 (by decide) (fun c_15 => ?_) (fun c_15 => ?_)
        · have h := (if_pos c_15).symm.trans h
          obtain rfl := Option.some.inj h
          exact Jj19 _ _ hP hD hS _ hl
        · have h := (if_neg c_15).symm.trans h
          refine lv_iload_n hx hb dX5_commonDivisor_18 rfl (lv_at hl 2 rfl) ?_
          refine lv_iload_n hx hb dX5_commonDivisor_19 rfl (lv_at hl 3 rfl) ?_
          obtain ⟨u20, hu20, h⟩ := ob h
          refine lv_irem hx hb dX5_commonDivisor_20 (nz_some hu20) ?_
          refine lv_istore (lv' := [(5, .int (y2_7 - y2_7 / y3_7 * y3_7)), (0, .int x0), (1, .int x1), (2, .int y2_7), (3, .int y3_7), (4, .int y4_7)]) hx hb dX5_commonDivisor_21 hl (by decide) rfl (fun ls hl => ?_)
          refine lv_iload_n hx hb dX5_commonDivisor_23 rfl (lv_at hl 4 rfl) ?_
          refine lv_istore_n (lv' := [(2, .int y3_7), (5, .int (y2_7 - y2_7 / y3_7 * y3_7)), (0, .int x0), (1, .int x1), (3, .int y3_7), (4, .int y4_7)]) hx hb dX5_commonDivisor_24 rfl hl (by decide) rfl (fun ls hl => ?_)
          refine lv_iload hx hb dX5_commonDivisor_25 (lv_at hl 1 rfl) ?_
          refine lv_istore_n (lv' := [(3, .int (y2_7 - y2_7 / y3_7 * y3_7)), (2, .int y3_7), (5, .int (y2_7 - y2_7 / y3_7 * y3_7)), (0, .int x0), (1, .int x1), (4, .int y4_7)]) hx hb dX5_commonDivisor_27 rfl hl (by decide) rfl (fun ls hl => ?_)
          refine lv_iinc (v := (y4_7 + (1 : Int32))) (lv' := [(4, .int (y4_7 + (1 : Int32))), (3, .int (y2_7 - y2_7 / y3_7 * y3_7)), (2, .int y3_7), (5, .int (y2_7 - y2_7 / y3_7 * y3_7)), (0, .int x0), (1, .int x1)]) hx hb dX5_commonDivisor_28 hl (k := 5) rfl rfl (by decide) rfl (fun ls hl => ?_)
          refine lv_goto (tgt := 7) hx hb dX5_commonDivisor_31 (by decide) ?_
          exact ih _ _ _ h _ _ hP hD hS _ (lv_sub hl [4, 5, 2, 1, 0] rfl)
  exact K7 n x0 x1 (0 : Int32) hjj19 _ _ hP hD hS _ (lv_sub hl [3, 4, 2, 1, 0] rfl)
def rm_X5_partOfFraction : Room := { frames := 1, cells := 0, slots := 0, locals := 25 }
set_option maxRecDepth 100000 in
set_option maxHeartbeats 8000000 in
theorem c_X5_partOfFraction (l : Launch) (dC : Nat → ClassId) (dI : Nat → Nat → Nat) (cI cS : ClassId) (n sz : Nat) (x0 : Int32) (x1 : Int32) (x2 : Int32) (res : Int32)  (h : F_X5_partOfFraction n x0 x1 x2 = some res) : Met l yX5_partOfFraction wsX5_partOfFraction rm_X5_partOfFraction (va_Pc [.int x0, .int x1, .int x2] (PRE (dC, dI) vwCl [(cI, .int), (cS, .object "RoundOfTheA$State")] sz [])) (va_Qi (fun (r : Int32) (_ : Unit) => r = res) (fun u t => POST (dC, dI) vwCl [] (va_A [] sz) t) (va_A [] sz)) 0 0 (va_A [] sz) := by
  refine Met.ofW (cc := cX5_partOfFraction) (maxL := 4) (ret := (some .int)) (by decide) rfl ?_
  intro p e s m args below meth c s₁ B hml hv
  obtain ⟨rfl, hsz, hN, hP, hK, hD0⟩ := hv
  have hx := B.exec
  have hb := B.bytes
  have hr := B.returns
  have hts := atoms_spec (ws := wsX5_partOfFraction) B.pre
  have hown : s.vm.findClass RX5 = some m.cls := findClass_of_methodNamed B.named
  have hlocks := B.notSynchronized
  subst hsz
  have hD := hD0.self (sz := s.heap.size)
  generalize hAe : va_A [] s.heap.size = A at hD ⊢
  have hA : ∀ q : Nat, s.heap.size ≤ q → A q := fun q h => by rw [← hAe]; exact Or.inr h
  have hS : va_S A s.heap s.heap [] := va_S.rf
  generalize hQe : MQ below _ _ s _ _ A = QQ
  have hl := lv_entry ([.int x0, .int x1, .int x2]) (n := 4) (Nat.le_of_ble_eq_true rfl)
  rw [lg_entry_eq]
  generalize (lg_sl ([.int x0, .int x1, .int x2]) ++ List.replicate (4 - (lg_sl ([.int x0, .int x1, .int x2])).length) Slot.unset).toArray = ls at hl ⊢
  have hl : lv_has ls 4 [(0, .int x0), (1, .int x1), (2, .int x2)] := hl
  have m_253 := hts (.methodLink RX5 253 Lib.Math.max.name) (by decide +kernel)
  have ms_max := hts (.static Lib.Math.max.name) (by decide +kernel)
  have m_mi := hts (.initialized "java/lang/Math") (by decide +kernel)
  have mc_max := hts (.code Lib.Math.max.name Lib.Math.max.code 2 (some .int)) (by decide +kernel)
  rw [F_X5_partOfFraction] at h
  refine lv_iconst (v := (1 : Int32)) hx hb dX5_partOfFraction_0 (by decide) ?_
  refine lv_iload_n hx hb dX5_partOfFraction_1 rfl (lv_at hl 0 rfl) ?_
  refine lv_iload_n hx hb dX5_partOfFraction_2 rfl (lv_at hl 1 rfl) ?_
  obtain ⟨r25, hr25, h⟩ := ob h
  refine k_Si (As := [.int x0, .int x1]) (rest := [.int (1 : Int32)]) (c_X5_commonDivisor l dC dI cI cS n _ x0 x1 r25 hr25) (fun _ _ q => q) ⟨hx, hb, hml, hown, hts⟩ (va_cwS 2 hts gX5_partOfFraction_X5_commonDivisor rfl rfl rfl (by decide +kernel) ⟨(Nat.le_of_ble_eq_true rfl), (Nat.le_of_ble_eq_true rfl)⟩) hN hK hP hD hS hA rfl hl.1 rfl (Nat.le_of_ble_eq_true rfl) dX5_partOfFraction_3 ⟨(Nat.le_of_ble_eq_true rfl), (Nat.le_of_ble_eq_true rfl)⟩ (fun H locs hP hD hS => ?_)
  refine va_mmax hx hb (hml.trans hl.1.symm) hown m_253 ms_max m_mi mc_max (Nat.le_of_ble_eq_true rfl) (Nat.le_of_ble_eq_true rfl) (Nat.le_of_ble_eq_true rfl) (Nat.le_of_ble_eq_true rfl) dX5_partOfFraction_6 ?_
  refine lv_istore_n (lv' := [(3, .int (if (1 : Int32) < r25 then r25 else (1 : Int32))), (0, .int x0), (1, .int x1), (2, .int x2)]) hx hb dX5_partOfFraction_9 rfl hl (by decide) rfl (fun ls hl => ?_)
  refine lv_iload_n hx hb dX5_partOfFraction_10 rfl (lv_at hl 3 rfl) ?_
  refine lv_if_ne (tgt := 20) hx hb dX5_partOfFraction_11 (by decide) (fun c_11 => ?_) (fun c_11 => ?_)
  · have h := (if_neg c_11).symm.trans h
    refine lv_iload_n hx hb dX5_partOfFraction_20 rfl (lv_at hl 2 rfl) ?_
    refine lv_iload_n hx hb dX5_partOfFraction_21 rfl (lv_at hl 0 rfl) ?_
    obtain ⟨u27, hu27, h⟩ := ob h
    refine lv_idiv hx hb dX5_partOfFraction_22 (nz_some hu27) ?_
    obtain rfl := Option.some.inj h
    subst hQe
    exact W.iret (v := (x1 / (if (1 : Int32) < r25 then r25 else (1 : Int32)))) hx hb hr (fun t ht hW => ⟨⟨(x1 / (if (1 : Int32) < r25 then r25 else (1 : Int32))), (), rfl, rfl, ⟨by rw [ht]; exact hP, hD⟩⟩, hS.F ht⟩) hS.2.2 dX5_partOfFraction_23
  · have h := (if_pos c_11).symm.trans h
    refine lv_iload_n hx hb dX5_partOfFraction_14 rfl (lv_at hl 1 rfl) ?_
    refine lv_iload_n hx hb dX5_partOfFraction_15 rfl (lv_at hl 0 rfl) ?_
    obtain ⟨u28, hu28, h⟩ := ob h
    refine lv_idiv hx hb dX5_partOfFraction_16 (nz_some hu28) ?_
    refine lv_goto (tgt := 23) hx hb dX5_partOfFraction_17 (by decide) ?_
    obtain rfl := Option.some.inj h
    subst hQe
    exact W.iret (v := (x0 / (if (1 : Int32) < r25 then r25 else (1 : Int32)))) hx hb hr (fun t ht hW => ⟨⟨(x0 / (if (1 : Int32) < r25 then r25 else (1 : Int32))), (), rfl, rfl, ⟨by rw [ht]; exact hP, hD⟩⟩, hS.F ht⟩) hS.2.2 dX5_partOfFraction_23
def rm_X5_power : Room := { frames := 0, cells := 0, slots := 0, locals := 0 }
set_option maxRecDepth 100000 in
set_option maxHeartbeats 8000000 in
theorem c_X5_power (l : Launch) (dC : Nat → ClassId) (dI : Nat → Nat → Nat) (cI cS : ClassId) (n sz : Nat) (x0 : Int32) (x1 : Int32) (res : Int32)  (h : F_X5_power n x0 x1 = some res) : Met l yX5_power wsX5_power rm_X5_power (va_Pc [.int x0, .int x1] (PRE (dC, dI) vwCl [(cI, .int), (cS, .object "RoundOfTheA$State")] sz [])) (va_Qi (fun (r : Int32) (_ : Unit) => r = res) (fun u t => POST (dC, dI) vwCl [] (va_A [] sz) t) (va_A [] sz)) 0 0 (va_A [] sz) := by
  refine Met.ofW (cc := cX5_power) (maxL := 4) (ret := (some .int)) (by decide) rfl ?_
  intro p e s m args below meth c s₁ B hml hv
  obtain ⟨rfl, hsz, hN, hP, hK, hD0⟩ := hv
  have hx := B.exec
  have hb := B.bytes
  have hr := B.returns
  have hts := atoms_spec (ws := wsX5_power) B.pre
  have hown : s.vm.findClass RX5 = some m.cls := findClass_of_methodNamed B.named
  have hlocks := B.notSynchronized
  subst hsz
  have hD := hD0.self (sz := s.heap.size)
  generalize hAe : va_A [] s.heap.size = A at hD ⊢
  have hA : ∀ q : Nat, s.heap.size ≤ q → A q := fun q h => by rw [← hAe]; exact Or.inr h
  have hS : va_S A s.heap s.heap [] := va_S.rf
  generalize hQe : MQ below _ _ s _ _ A = QQ
  have hl := lv_entry ([.int x0, .int x1]) (n := 4) (Nat.le_of_ble_eq_true rfl)
  rw [lg_entry_eq]
  generalize (lg_sl ([.int x0, .int x1]) ++ List.replicate (4 - (lg_sl ([.int x0, .int x1])).length) Slot.unset).toArray = ls at hl ⊢
  have hl : lv_has ls 4 [(0, .int x0), (1, .int x1)] := hl
  rw [F_X5_power] at h
  refine lv_iconst (v := (1 : Int32)) hx hb dX5_power_0 (by decide) ?_
  refine lv_istore_n (lv' := [(2, .int (1 : Int32)), (0, .int x0), (1, .int x1)]) hx hb dX5_power_1 rfl hl (by decide) rfl (fun ls hl => ?_)
  refine lv_iconst (v := (0 : Int32)) hx hb dX5_power_2 (by decide) ?_
  refine lv_istore_n (lv' := [(3, .int (0 : Int32)), (2, .int (1 : Int32)), (0, .int x0), (1, .int x1)]) hx hb dX5_power_3 rfl hl (by decide) rfl (fun ls hl => ?_)
  obtain ⟨j34, hjj34, h⟩ := ob h
  have Jj34 : ∀ (H : Heap) (locs : List Loc), va_P (dC, dI) vwCl [] H → va_D A [] → va_S A s.heap H locs → ∀ ls : Array Slot, lv_has ls 4 [(0, .int x0), (1, .int x1), (2, .int j34.1), (3, .int j34.2)] → W p l e (headSpec wsX5_power rm_X5_power).room s m ([.int x0, .int x1] : List Value).toArray below meth c H locs 0 0 QQ (F0 m 19 ls []) := by
    intro H locs hP hD hS ls hl
    refine lv_iload_n hx hb dX5_power_19 rfl (lv_at hl 2 rfl) ?_
    obtain rfl := Option.some.inj h
    subst hQe
    exact W.iret (v := j34.1) hx hb hr (fun t ht hW => ⟨⟨j34.1, (), rfl, rfl, ⟨by rw [ht]; exact hP, hD⟩⟩, hS.F ht⟩) hS.2.2 dX5_power_20
  have K4 : ∀ (k : Nat) (y2_4 : Int32) (y3_4 : Int32), L_X5_power_4 x0 x1 k y2_4 y3_4 = some j34 → ∀ (H : Heap) (locs : List Loc), va_P (dC, dI) vwCl [] H → va_D A [] → va_S A s.heap H locs → ∀ ls : Array Slot, lv_has ls 4 [(0, .int x0), (1, .int x1), (2, .int y2_4), (3, .int y3_4)] → W p l e (headSpec wsX5_power rm_X5_power).room s m ([.int x0, .int x1] : List Value).toArray below meth c H locs 0 0 QQ (F0 m 4 ls []) := by
    intro k
    induction k with
    | zero =>
      intro y2_4 y3_4 h
      rw [L_X5_power_4] at h
      cases h
    | succ k ih =>
      intro y2_4 y3_4 h H locs hP hD hS ls hl
      rw [L_X5_power_4] at h
      refine lv_iload_n hx hb dX5_power_4 rfl (lv_at hl 3 rfl) ?_
      refine lv_iload_n hx hb dX5_power_5 rfl (lv_at hl 1 rfl) ?_
      refine lv_icmp_ge (tgt := 19) hx hb dX5_power_6 (by decide) (fun c_6 => ?_) (fun c_6 => ?_)
      · have h := (if_pos c_6).symm.trans h
        obtain rfl := Option.some.inj h
        exact Jj34 _ _ hP hD hS _ hl
      · have h := (if_neg c_6).symm.trans h
        refine lv_iload_n hx hb dX5_power_9 rfl (lv_at hl 2 rfl) ?_
        refine lv_iload_n hx hb dX5_power_10 rfl (lv_at hl 0 rfl) ?_
        refine lv_imul hx hb dX5_power_11 ?_
        refine lv_istore_n (lv' := [(2, .int (y2_4 * x0)), (0, .int x0), (1, .int x1), (3, .int y3_4)]) hx hb dX5_power_12 rfl hl (by decide) rfl (fun ls hl => ?_)
        refine lv_iinc (v := (y3_4 + (1 : Int32))) (lv' := [(3, .int (y3_4 + (1 : Int32))), (2, .int (y2_4 * x0)), (0, .int x0), (1, .int x1)]) hx hb dX5_power_13 hl (k := 3) rfl rfl (by decide) rfl (fun ls hl => ?_)
        refine lv_goto (tgt := 4) hx hb dX5_power_16 (by decide) ?_
        exact ih _ _ h _ _ hP hD hS _ (lv_sub hl [2, 3, 1, 0] rfl)
  exact K4 n (1 : Int32) (0 : Int32) hjj34 _ _ hP hD hS _ (lv_sub hl [2, 3, 1, 0] rfl)
def rm_X5_isFrom : Room := { frames := 0, cells := 0, slots := 0, locals := 0 }
set_option maxRecDepth 100000 in
set_option maxHeartbeats 8000000 in
theorem c_X5_isFrom (l : Launch) (dC : Nat → ClassId) (dI : Nat → Nat → Nat) (cI cS : ClassId) (n sz : Nat) (x0 : Int32) (x1 : Int32) (x2 : Int32) (res : Int32)  (h : F_X5_isFrom n x0 x1 x2 = some res) : Met l yX5_isFrom wsX5_isFrom rm_X5_isFrom (va_Pc [.int x0, .int x1, .int x2] (PRE (dC, dI) vwCl [(cI, .int), (cS, .object "RoundOfTheA$State")] sz [])) (va_Qi (fun (r : Int32) (_ : Unit) => r = res) (fun u t => POST (dC, dI) vwCl [] (va_A [] sz) t) (va_A [] sz)) 0 0 (va_A [] sz) := by
  refine Met.ofW (cc := cX5_isFrom) (maxL := 3) (ret := (some .boolean)) (by decide) rfl ?_
  intro p e s m args below meth c s₁ B hml hv
  obtain ⟨rfl, hsz, hN, hP, hK, hD0⟩ := hv
  have hx := B.exec
  have hb := B.bytes
  have hr := B.returns
  have hts := atoms_spec (ws := wsX5_isFrom) B.pre
  have hown : s.vm.findClass RX5 = some m.cls := findClass_of_methodNamed B.named
  have hlocks := B.notSynchronized
  subst hsz
  have hD := hD0.self (sz := s.heap.size)
  generalize hAe : va_A [] s.heap.size = A at hD ⊢
  have hA : ∀ q : Nat, s.heap.size ≤ q → A q := fun q h => by rw [← hAe]; exact Or.inr h
  have hS : va_S A s.heap s.heap [] := va_S.rf
  generalize hQe : MQ below _ _ s _ _ A = QQ
  have hl := lv_entry ([.int x0, .int x1, .int x2]) (n := 3) (Nat.le_of_ble_eq_true rfl)
  rw [lg_entry_eq]
  generalize (lg_sl ([.int x0, .int x1, .int x2]) ++ List.replicate (3 - (lg_sl ([.int x0, .int x1, .int x2])).length) Slot.unset).toArray = ls at hl ⊢
  have hl : lv_has ls 3 [(0, .int x0), (1, .int x1), (2, .int x2)] := hl
  rw [F_X5_isFrom] at h
  refine lv_iload_n hx hb dX5_isFrom_0 rfl (lv_at hl 0 rfl) ?_
  refine lv_iload_n hx hb dX5_isFrom_1 rfl (lv_at hl 1 rfl) ?_
  refine lv_icmp_lt (tgt := 14) hx hb dX5_isFrom_2 (by decide) (fun c_2 => ?_) (fun c_2 => ?_)
  · have h := (if_pos c_2).symm.trans h
    refine lv_iconst (v := (0 : Int32)) hx hb dX5_isFrom_14 (by decide) ?_
    obtain rfl := Option.some.inj h
    subst hQe
    exact W.zret (v := (0 : Int32)) (ty := .boolean) hx hb hr rfl (fun t ht hW => ⟨⟨(0 : Int32), (), rfl, rfl, ⟨by rw [ht]; exact hP, hD⟩⟩, hS.F ht⟩) hS.2.2 dX5_isFrom_15
  · have h := (if_neg c_2).symm.trans h
    refine lv_iload_n hx hb dX5_isFrom_5 rfl (lv_at hl 0 rfl) ?_
    refine lv_iload_n hx hb dX5_isFrom_6 rfl (lv_at hl 2 rfl) ?_
    refine lv_icmp_gt (tgt := 14) hx hb dX5_isFrom_7 (by decide) (fun c_7 => ?_) (fun c_7 => ?_)
    · have h := (if_pos c_7).symm.trans h
      refine lv_iconst (v := (0 : Int32)) hx hb dX5_isFrom_14 (by decide) ?_
      obtain rfl := Option.some.inj h
      subst hQe
      exact W.zret (v := (0 : Int32)) (ty := .boolean) hx hb hr rfl (fun t ht hW => ⟨⟨(0 : Int32), (), rfl, rfl, ⟨by rw [ht]; exact hP, hD⟩⟩, hS.F ht⟩) hS.2.2 dX5_isFrom_15
    · have h := (if_neg c_7).symm.trans h
      refine lv_iconst (v := (1 : Int32)) hx hb dX5_isFrom_10 (by decide) ?_
      refine lv_goto (tgt := 15) hx hb dX5_isFrom_11 (by decide) ?_
      obtain rfl := Option.some.inj h
      subst hQe
      exact W.zret (v := (1 : Int32)) (ty := .boolean) hx hb hr rfl (fun t ht hW => ⟨⟨(1 : Int32), (), rfl, rfl, ⟨by rw [ht]; exact hP, hD⟩⟩, hS.F ht⟩) hS.2.2 dX5_isFrom_15
def rm_X5_isIn : Room := { frames := 0, cells := 0, slots := 0, locals := 0 }
set_option maxRecDepth 100000 in
set_option maxHeartbeats 8000000 in
theorem c_X5_isIn (l : Launch) (dC : Nat → ClassId) (dI : Nat → Nat → Nat) (cI cS : ClassId) (n sz : Nat) (x0 : Int32) (x1 : Int32) (res : Int32)  (h : F_X5_isIn n x0 x1 = some res) : Met l yX5_isIn wsX5_isIn rm_X5_isIn (va_Pc [.int x0, .int x1] (PRE (dC, dI) vwCl [(cI, .int), (cS, .object "RoundOfTheA$State")] sz [])) (va_Qi (fun (r : Int32) (_ : Unit) => r = res) (fun u t => POST (dC, dI) vwCl [] (va_A [] sz) t) (va_A [] sz)) 0 0 (va_A [] sz) := by
  refine Met.ofW (cc := cX5_isIn) (maxL := 2) (ret := (some .boolean)) (by decide) rfl ?_
  intro p e s m args below meth c s₁ B hml hv
  obtain ⟨rfl, hsz, hN, hP, hK, hD0⟩ := hv
  have hx := B.exec
  have hb := B.bytes
  have hr := B.returns
  have hts := atoms_spec (ws := wsX5_isIn) B.pre
  have hown : s.vm.findClass RX5 = some m.cls := findClass_of_methodNamed B.named
  have hlocks := B.notSynchronized
  subst hsz
  have hD := hD0.self (sz := s.heap.size)
  generalize hAe : va_A [] s.heap.size = A at hD ⊢
  have hA : ∀ q : Nat, s.heap.size ≤ q → A q := fun q h => by rw [← hAe]; exact Or.inr h
  have hS : va_S A s.heap s.heap [] := va_S.rf
  generalize hQe : MQ below _ _ s _ _ A = QQ
  have hl := lv_entry ([.int x0, .int x1]) (n := 2) (Nat.le_of_ble_eq_true rfl)
  rw [lg_entry_eq]
  generalize (lg_sl ([.int x0, .int x1]) ++ List.replicate (2 - (lg_sl ([.int x0, .int x1])).length) Slot.unset).toArray = ls at hl ⊢
  have hl : lv_has ls 2 [(0, .int x0), (1, .int x1)] := hl
  rw [F_X5_isIn] at h
  refine lv_iload_n hx hb dX5_isIn_0 rfl (lv_at hl 0 rfl) ?_
  refine lv_iload_n hx hb dX5_isIn_1 rfl (lv_at hl 1 rfl) ?_
  refine lv_ishr hx hb dX5_isIn_2 ?_
  refine lv_iconst (v := (1 : Int32)) hx hb dX5_isIn_3 (by decide) ?_
  refine lv_iand hx hb dX5_isIn_4 ?_
  refine lv_iconst (v := (1 : Int32)) hx hb dX5_isIn_5 (by decide) ?_
  refine lv_icmp_ne (tgt := 13) hx hb dX5_isIn_6 (by decide) (fun c_6 => ?_) (fun c_6 => ?_)
  · have h := (if_neg c_6).symm.trans h
    refine lv_iconst (v := (0 : Int32)) hx hb dX5_isIn_13 (by decide) ?_
    obtain rfl := Option.some.inj h
    subst hQe
    exact W.zret (v := (0 : Int32)) (ty := .boolean) hx hb hr rfl (fun t ht hW => ⟨⟨(0 : Int32), (), rfl, rfl, ⟨by rw [ht]; exact hP, hD⟩⟩, hS.F ht⟩) hS.2.2 dX5_isIn_14
  · have h := (if_pos c_6).symm.trans h
    refine lv_iconst (v := (1 : Int32)) hx hb dX5_isIn_9 (by decide) ?_
    refine lv_goto (tgt := 14) hx hb dX5_isIn_10 (by decide) ?_
    obtain rfl := Option.some.inj h
    subst hQe
    exact W.zret (v := (1 : Int32)) (ty := .boolean) hx hb hr rfl (fun t ht hW => ⟨⟨(1 : Int32), (), rfl, rfl, ⟨by rw [ht]; exact hP, hD⟩⟩, hS.F ht⟩) hS.2.2 dX5_isIn_14
def rm_X5_within : Room := { frames := 1, cells := 0, slots := 0, locals := 21 }
set_option maxRecDepth 100000 in
set_option maxHeartbeats 8000000 in
theorem c_X5_within (l : Launch) (dC : Nat → ClassId) (dI : Nat → Nat → Nat) (cI cS : ClassId) (n sz : Nat) (x0 : Int32) (res : Int32)  (h : F_X5_within n x0 = some res) : Met l yX5_within wsX5_within rm_X5_within (va_Pc [.int x0] (PRE (dC, dI) vwCl [(cI, .int), (cS, .object "RoundOfTheA$State")] sz [])) (va_Qi (fun (r : Int32) (_ : Unit) => r = res) (fun u t => POST (dC, dI) vwCl [] (va_A [] sz) t) (va_A [] sz)) 0 0 (va_A [] sz) := by
  refine Met.ofW (cc := cX5_within) (maxL := 1) (ret := (some .int)) (by decide) rfl ?_
  intro p e s m args below meth c s₁ B hml hv
  obtain ⟨rfl, hsz, hN, hP, hK, hD0⟩ := hv
  have hx := B.exec
  have hb := B.bytes
  have hr := B.returns
  have hts := atoms_spec (ws := wsX5_within) B.pre
  have hown : s.vm.findClass RX5 = some m.cls := findClass_of_methodNamed B.named
  have hlocks := B.notSynchronized
  subst hsz
  have hD := hD0.self (sz := s.heap.size)
  generalize hAe : va_A [] s.heap.size = A at hD ⊢
  have hA : ∀ q : Nat, s.heap.size ≤ q → A q := fun q h => by rw [← hAe]; exact Or.inr h
  have hS : va_S A s.heap s.heap [] := va_S.rf
  generalize hQe : MQ below _ _ s _ _ A = QQ
  have hl := lv_entry ([.int x0]) (n := 1) (Nat.le_of_ble_eq_true rfl)
  rw [lg_entry_eq]
  generalize (lg_sl ([.int x0]) ++ List.replicate (1 - (lg_sl ([.int x0])).length) Slot.unset).toArray = ls at hl ⊢
  have hl : lv_has ls 1 [(0, .int x0)] := hl
  have m_87 := hts (.methodLink RX5 87 Lib.Math.min.name) (by decide +kernel)
  have ms_min := hts (.static Lib.Math.min.name) (by decide +kernel)
  have m_mi := hts (.initialized "java/lang/Math") (by decide +kernel)
  have mc_min := hts (.code Lib.Math.min.name Lib.Math.min.code 2 (some .int)) (by decide +kernel)
  have m_253 := hts (.methodLink RX5 253 Lib.Math.max.name) (by decide +kernel)
  have ms_max := hts (.static Lib.Math.max.name) (by decide +kernel)
  have mc_max := hts (.code Lib.Math.max.name Lib.Math.max.code 2 (some .int)) (by decide +kernel)
  rw [F_X5_within] at h
  refine lv_sipush (v := (-999 : Int32)) hx hb dX5_within_0 (by decide) ?_
  refine lv_sipush (v := (999 : Int32)) hx hb dX5_within_3 (by decide) ?_
  refine lv_iload_n hx hb dX5_within_6 rfl (lv_at hl 0 rfl) ?_
  refine va_mmin hx hb (hml.trans hl.1.symm) hown m_87 ms_min m_mi mc_min (Nat.le_of_ble_eq_true rfl) (Nat.le_of_ble_eq_true rfl) (Nat.le_of_ble_eq_true rfl) (Nat.le_of_ble_eq_true rfl) dX5_within_7 ?_
  refine va_mmax hx hb (hml.trans hl.1.symm) hown m_253 ms_max m_mi mc_max (Nat.le_of_ble_eq_true rfl) (Nat.le_of_ble_eq_true rfl) (Nat.le_of_ble_eq_true rfl) (Nat.le_of_ble_eq_true rfl) dX5_within_10 ?_
  obtain rfl := Option.some.inj h
  subst hQe
  exact W.iret (v := (if (-999 : Int32) < (if x0 < (999 : Int32) then x0 else (999 : Int32)) then (if x0 < (999 : Int32) then x0 else (999 : Int32)) else (-999 : Int32))) hx hb hr (fun t ht hW => ⟨⟨(if (-999 : Int32) < (if x0 < (999 : Int32) then x0 else (999 : Int32)) then (if x0 < (999 : Int32) then x0 else (999 : Int32)) else (-999 : Int32)), (), rfl, rfl, ⟨by rw [ht]; exact hP, hD⟩⟩, hS.F ht⟩) hS.2.2 dX5_within_13
def rm_X0_init : Room := { frames := 1, cells := 6, slots := 48, locals := 20 }
set_option maxRecDepth 100000 in
set_option maxHeartbeats 8000000 in
theorem c_X0_init (l : Launch) (dC : Nat → ClassId) (dI : Nat → Nat → Nat) (cI cS : ClassId) (n sz : Nat) (a_t : Nat) (res : Unit)  (h : F_X0_init n = some res) : Met l yX0_init wsX0_init rm_X0_init (va_Pc [.ref a_t] (PRE (dC, dI) vwCl [(cI, .int), (cS, .object "RoundOfTheA$State")] sz [(a_t, .inr (0, [.int (0 : Int32), .null, .null, .null, .null, .null, .null, .int (0 : Int32), .int (0 : Int32), .int (0 : Int32), .int (0 : Int32)]))])) (va_Qv (fun _ : Nat × Nat × Nat × Nat × Nat × Nat => True) (fun u t => POST (dC, dI) vwCl [(a_t, .inr (0, [.int (0 : Int32), .ref u.1, .ref u.2.1, .ref u.2.2.1, .ref u.2.2.2.1, .ref u.2.2.2.2.1, .ref u.2.2.2.2.2, .int (0 : Int32), .int (0 : Int32), .int (0 : Int32), .int (0 : Int32)])), (u.1, .inl (cI, 8, .inl (fun _ => 0))), (u.2.1, .inl (cI, 8, .inl (fun _ => 0))), (u.2.2.1, .inl (cI, 8, .inl (fun _ => 0))), (u.2.2.2.1, .inl (cI, 8, .inl (fun _ => 0))), (u.2.2.2.2.1, .inl (cI, 8, .inl (fun _ => 0))), (u.2.2.2.2.2, .inl (cI, 8, .inl (fun _ => 0)))] (va_A [(a_t, .inr (0, [.int (0 : Int32), .null, .null, .null, .null, .null, .null, .int (0 : Int32), .int (0 : Int32), .int (0 : Int32), .int (0 : Int32)]))] sz) t) (va_A [(a_t, .inr (0, [.int (0 : Int32), .null, .null, .null, .null, .null, .null, .int (0 : Int32), .int (0 : Int32), .int (0 : Int32), .int (0 : Int32)]))] sz)) 6 48 (va_A [(a_t, .inr (0, [.int (0 : Int32), .null, .null, .null, .null, .null, .null, .int (0 : Int32), .int (0 : Int32), .int (0 : Int32), .int (0 : Int32)]))] sz) := by
  refine Met.ofW (cc := cX0_init) (maxL := 1) (ret := none) (by decide) rfl ?_
  intro p e s m args below meth c s₁ B hml hv
  obtain ⟨rfl, hsz, hN, hP, hK, hD0⟩ := hv
  have hx := B.exec
  have hb := B.bytes
  have hr := B.returns
  have hts := atoms_spec (ws := wsX0_init) B.pre
  have hown : s.vm.findClass RX0 = some m.cls := findClass_of_methodNamed B.named
  have hlocks := B.notSynchronized
  have hin : meth.name = "<init>" := (name_of_methodNamed B.named B.method).1
  subst hsz
  have hD := hD0.self (sz := s.heap.size)
  generalize hAe : va_A [(a_t, .inr (0, [.int (0 : Int32), .null, .null, .null, .null, .null, .null, .int (0 : Int32), .int (0 : Int32), .int (0 : Int32), .int (0 : Int32)]))] s.heap.size = A at hD ⊢
  have hA : ∀ q : Nat, s.heap.size ≤ q → A q := fun q h => by rw [← hAe]; exact Or.inr h
  have hS : va_S A s.heap s.heap [] := va_S.rf
  generalize hQe : MQ below _ _ s _ _ A = QQ
  have hl := lv_entry ([.ref a_t]) (n := 1) (Nat.le_of_ble_eq_true rfl)
  rw [lg_entry_eq]
  generalize (lg_sl ([.ref a_t]) ++ List.replicate (1 - (lg_sl ([.ref a_t])).length) Slot.unset).toArray = ls at hl ⊢
  have hl : lv_has ls 1 [(0, .ref a_t)] := hl
  have m_3 := hts (.methodLink RX0 3 objectInit) (by decide +kernel)
  have m_oi := hts (.instanceMethod objectInit) (by decide +kernel)
  have m_oc := hts (.code objectInit ⟨#[0xb1]⟩ 1 none) (by decide +kernel)
  have k_ai := hts (.arrayClass .int) (by decide +kernel)
  have f_9 := hts (.fieldLink RX0 9 "RoundOfTheA$Hall" "kind" "[I") (by decide +kernel)
  have in_X0 := (by decide +kernel : ∀ w ∈ wsX00, w ∈ wsX0_init)
  have f_15 := hts (.fieldLink RX0 15 "RoundOfTheA$Hall" "leanTold" "[I") (by decide +kernel)
  have f_18 := hts (.fieldLink RX0 18 "RoundOfTheA$Hall" "needs" "[I") (by decide +kernel)
  have f_21 := hts (.fieldLink RX0 21 "RoundOfTheA$Hall" "firstHears" "[I") (by decide +kernel)
  have f_24 := hts (.fieldLink RX0 24 "RoundOfTheA$Hall" "group" "[I") (by decide +kernel)
  have f_27 := hts (.fieldLink RX0 27 "RoundOfTheA$Hall" "firstPitch" "[I") (by decide +kernel)
  rw [F_X0_init] at h
  refine lv_aload_n hx hb dX0_init_0 rfl (lv_at hl 0 rfl) ?_
  refine W.objInit hx hb hown m_3 m_oi m_oc rfl (by rw [hml]; exact hl.1) rfl dX0_init_1 (Nat.le_of_ble_eq_true rfl) (Nat.le_of_ble_eq_true rfl) ?_
  refine W.eq (g2 := F0 m 4 ls []) rfl ?_
  refine lv_aload_n hx hb dX0_init_4 rfl (lv_at hl 0 rfl) ?_
  refine lv_bipush (v := (8 : Int32)) hx hb dX0_init_5 (by decide) ?_
  refine k_newa hx hb k_ai hK hP hD hS hA 0 rfl (N' := 8) (by decide) (by decide) (Nat.le_of_ble_eq_true rfl) (Nat.le_of_ble_eq_true rfl) (Nat.le_of_ble_eq_true rfl) dX0_init_7 (fun q47 H hP hD hS => ?_)
  refine W.widen (k := 1) (n := 8) (Nat.le_of_ble_eq_true rfl) (Nat.le_of_ble_eq_true rfl) ?_
  have hP : va_P (dC, dI) vwCl [(a_t, .inr (0, [.int (0 : Int32), .null, .null, .null, .null, .null, .null, .int (0 : Int32), .int (0 : Int32), .int (0 : Int32), .int (0 : Int32)])), (q47, .inl (cI, 8, .inl (fun _ => 0)))] H := hP
  have hD : va_D A [(a_t, .inr (0, [.int (0 : Int32), .null, .null, .null, .null, .null, .null, .int (0 : Int32), .int (0 : Int32), .int (0 : Int32), .int (0 : Int32)])), (q47, .inl (cI, 8, .inl (fun _ => 0)))] := hD
  refine va_putF (D := (dC, dI)) (ci := 0) (v := .ref q47) (ty := (tyX0 1)) (C := RX0) (T := TX0) (N := 11) hx hb hts in_X0 tyX0 tyX0_ok nmX0 hown hK hP hD hS 0 rfl rfl 1 (by decide) f_9 (fun _ h9 => h9) rfl hin rfl (by decide +kernel) rfl rfl (Nat.le_of_ble_eq_true rfl) dX0_init_9 (fun H locs hP hD hS => ?_)
  have hP : va_P (dC, dI) vwCl [(a_t, .inr (0, [.int (0 : Int32), .ref q47, .null, .null, .null, .null, .null, .int (0 : Int32), .int (0 : Int32), .int (0 : Int32), .int (0 : Int32)])), (q47, .inl (cI, 8, .inl (fun _ => 0)))] H := hP
  have hD : va_D A [(a_t, .inr (0, [.int (0 : Int32), .ref q47, .null, .null, .null, .null, .null, .int (0 : Int32), .int (0 : Int32), .int (0 : Int32), .int (0 : Int32)])), (q47, .inl (cI, 8, .inl (fun _ => 0)))] := hD
  refine lv_aload_n hx hb dX0_init_12 rfl (lv_at hl 0 rfl) ?_
  refine lv_bipush (v := (8 : Int32)) hx hb dX0_init_13 (by decide) ?_
  refine k_newa hx hb k_ai hK hP hD hS hA 0 rfl (N' := 8) (by decide) (by decide) (Nat.le_of_ble_eq_true rfl) (Nat.le_of_ble_eq_true rfl) (Nat.le_of_ble_eq_true rfl) dX0_init_15 (fun q48 H hP hD hS => ?_)
  refine W.widen (k := 2) (n := 16) (Nat.le_of_ble_eq_true rfl) (Nat.le_of_ble_eq_true rfl) ?_
  have hP : va_P (dC, dI) vwCl [(a_t, .inr (0, [.int (0 : Int32), .ref q47, .null, .null, .null, .null, .null, .int (0 : Int32), .int (0 : Int32), .int (0 : Int32), .int (0 : Int32)])), (q47, .inl (cI, 8, .inl (fun _ => 0))), (q48, .inl (cI, 8, .inl (fun _ => 0)))] H := hP
  have hD : va_D A [(a_t, .inr (0, [.int (0 : Int32), .ref q47, .null, .null, .null, .null, .null, .int (0 : Int32), .int (0 : Int32), .int (0 : Int32), .int (0 : Int32)])), (q47, .inl (cI, 8, .inl (fun _ => 0))), (q48, .inl (cI, 8, .inl (fun _ => 0)))] := hD
  refine va_putF (D := (dC, dI)) (ci := 0) (v := .ref q48) (ty := (tyX0 2)) (C := RX0) (T := TX0) (N := 11) hx hb hts in_X0 tyX0 tyX0_ok nmX0 hown hK hP hD hS 0 rfl rfl 2 (by decide) f_15 (fun _ h9 => h9) rfl hin rfl (by decide +kernel) rfl rfl (Nat.le_of_ble_eq_true rfl) dX0_init_17 (fun H locs hP hD hS => ?_)
  have hP : va_P (dC, dI) vwCl [(a_t, .inr (0, [.int (0 : Int32), .ref q47, .ref q48, .null, .null, .null, .null, .int (0 : Int32), .int (0 : Int32), .int (0 : Int32), .int (0 : Int32)])), (q47, .inl (cI, 8, .inl (fun _ => 0))), (q48, .inl (cI, 8, .inl (fun _ => 0)))] H := hP
  have hD : va_D A [(a_t, .inr (0, [.int (0 : Int32), .ref q47, .ref q48, .null, .null, .null, .null, .int (0 : Int32), .int (0 : Int32), .int (0 : Int32), .int (0 : Int32)])), (q47, .inl (cI, 8, .inl (fun _ => 0))), (q48, .inl (cI, 8, .inl (fun _ => 0)))] := hD
  refine lv_aload_n hx hb dX0_init_20 rfl (lv_at hl 0 rfl) ?_
  refine lv_bipush (v := (8 : Int32)) hx hb dX0_init_21 (by decide) ?_
  refine k_newa hx hb k_ai hK hP hD hS hA 0 rfl (N' := 8) (by decide) (by decide) (Nat.le_of_ble_eq_true rfl) (Nat.le_of_ble_eq_true rfl) (Nat.le_of_ble_eq_true rfl) dX0_init_23 (fun q49 H hP hD hS => ?_)
  refine W.widen (k := 3) (n := 24) (Nat.le_of_ble_eq_true rfl) (Nat.le_of_ble_eq_true rfl) ?_
  have hP : va_P (dC, dI) vwCl [(a_t, .inr (0, [.int (0 : Int32), .ref q47, .ref q48, .null, .null, .null, .null, .int (0 : Int32), .int (0 : Int32), .int (0 : Int32), .int (0 : Int32)])), (q47, .inl (cI, 8, .inl (fun _ => 0))), (q48, .inl (cI, 8, .inl (fun _ => 0))), (q49, .inl (cI, 8, .inl (fun _ => 0)))] H := hP
  have hD : va_D A [(a_t, .inr (0, [.int (0 : Int32), .ref q47, .ref q48, .null, .null, .null, .null, .int (0 : Int32), .int (0 : Int32), .int (0 : Int32), .int (0 : Int32)])), (q47, .inl (cI, 8, .inl (fun _ => 0))), (q48, .inl (cI, 8, .inl (fun _ => 0))), (q49, .inl (cI, 8, .inl (fun _ => 0)))] := hD
  refine va_putF (D := (dC, dI)) (ci := 0) (v := .ref q49) (ty := (tyX0 3)) (C := RX0) (T := TX0) (N := 11) hx hb hts in_X0 tyX0 tyX0_ok nmX0 hown hK hP hD hS 0 rfl rfl 3 (by decide) f_18 (fun _ h9 => h9) rfl hin rfl (by decide +kernel) rfl rfl (Nat.le_of_ble_eq_true rfl) dX0_init_25 (fun H locs hP hD hS => ?_)
  have hP : va_P (dC, dI) vwCl [(a_t, .inr (0, [.int (0 : Int32), .ref q47, .ref q48, .ref q49, .null, .null, .null, .int (0 : Int32), .int (0 : Int32), .int (0 : Int32), .int (0 : Int32)])), (q47, .inl (cI, 8, .inl (fun _ => 0))), (q48, .inl (cI, 8, .inl (fun _ => 0))), (q49, .inl (cI, 8, .inl (fun _ => 0)))] H := hP
  have hD : va_D A [(a_t, .inr (0, [.int (0 : Int32), .ref q47, .ref q48, .ref q49, .null, .null, .null, .int (0 : Int32), .int (0 : Int32), .int (0 : Int32), .int (0 : Int32)])), (q47, .inl (cI, 8, .inl (fun _ => 0))), (q48, .inl (cI, 8, .inl (fun _ => 0))), (q49, .inl (cI, 8, .inl (fun _ => 0)))] := hD
  refine lv_aload_n hx hb dX0_init_28 rfl (lv_at hl 0 rfl) ?_
  refine lv_bipush (v := (8 : Int32)) hx hb dX0_init_29 (by decide) ?_
  refine k_newa hx hb k_ai hK hP hD hS hA 0 rfl (N' := 8) (by decide) (by decide) (Nat.le_of_ble_eq_true rfl) (Nat.le_of_ble_eq_true rfl) (Nat.le_of_ble_eq_true rfl) dX0_init_31 (fun q50 H hP hD hS => ?_)
  refine W.widen (k := 4) (n := 32) (Nat.le_of_ble_eq_true rfl) (Nat.le_of_ble_eq_true rfl) ?_
  have hP : va_P (dC, dI) vwCl [(a_t, .inr (0, [.int (0 : Int32), .ref q47, .ref q48, .ref q49, .null, .null, .null, .int (0 : Int32), .int (0 : Int32), .int (0 : Int32), .int (0 : Int32)])), (q47, .inl (cI, 8, .inl (fun _ => 0))), (q48, .inl (cI, 8, .inl (fun _ => 0))), (q49, .inl (cI, 8, .inl (fun _ => 0))), (q50, .inl (cI, 8, .inl (fun _ => 0)))] H := hP
  have hD : va_D A [(a_t, .inr (0, [.int (0 : Int32), .ref q47, .ref q48, .ref q49, .null, .null, .null, .int (0 : Int32), .int (0 : Int32), .int (0 : Int32), .int (0 : Int32)])), (q47, .inl (cI, 8, .inl (fun _ => 0))), (q48, .inl (cI, 8, .inl (fun _ => 0))), (q49, .inl (cI, 8, .inl (fun _ => 0))), (q50, .inl (cI, 8, .inl (fun _ => 0)))] := hD
  refine va_putF (D := (dC, dI)) (ci := 0) (v := .ref q50) (ty := (tyX0 4)) (C := RX0) (T := TX0) (N := 11) hx hb hts in_X0 tyX0 tyX0_ok nmX0 hown hK hP hD hS 0 rfl rfl 4 (by decide) f_21 (fun _ h9 => h9) rfl hin rfl (by decide +kernel) rfl rfl (Nat.le_of_ble_eq_true rfl) dX0_init_33 (fun H locs hP hD hS => ?_)
  have hP : va_P (dC, dI) vwCl [(a_t, .inr (0, [.int (0 : Int32), .ref q47, .ref q48, .ref q49, .ref q50, .null, .null, .int (0 : Int32), .int (0 : Int32), .int (0 : Int32), .int (0 : Int32)])), (q47, .inl (cI, 8, .inl (fun _ => 0))), (q48, .inl (cI, 8, .inl (fun _ => 0))), (q49, .inl (cI, 8, .inl (fun _ => 0))), (q50, .inl (cI, 8, .inl (fun _ => 0)))] H := hP
  have hD : va_D A [(a_t, .inr (0, [.int (0 : Int32), .ref q47, .ref q48, .ref q49, .ref q50, .null, .null, .int (0 : Int32), .int (0 : Int32), .int (0 : Int32), .int (0 : Int32)])), (q47, .inl (cI, 8, .inl (fun _ => 0))), (q48, .inl (cI, 8, .inl (fun _ => 0))), (q49, .inl (cI, 8, .inl (fun _ => 0))), (q50, .inl (cI, 8, .inl (fun _ => 0)))] := hD
  refine lv_aload_n hx hb dX0_init_36 rfl (lv_at hl 0 rfl) ?_
  refine lv_bipush (v := (8 : Int32)) hx hb dX0_init_37 (by decide) ?_
  refine k_newa hx hb k_ai hK hP hD hS hA 0 rfl (N' := 8) (by decide) (by decide) (Nat.le_of_ble_eq_true rfl) (Nat.le_of_ble_eq_true rfl) (Nat.le_of_ble_eq_true rfl) dX0_init_39 (fun q51 H hP hD hS => ?_)
  refine W.widen (k := 5) (n := 40) (Nat.le_of_ble_eq_true rfl) (Nat.le_of_ble_eq_true rfl) ?_
  have hP : va_P (dC, dI) vwCl [(a_t, .inr (0, [.int (0 : Int32), .ref q47, .ref q48, .ref q49, .ref q50, .null, .null, .int (0 : Int32), .int (0 : Int32), .int (0 : Int32), .int (0 : Int32)])), (q47, .inl (cI, 8, .inl (fun _ => 0))), (q48, .inl (cI, 8, .inl (fun _ => 0))), (q49, .inl (cI, 8, .inl (fun _ => 0))), (q50, .inl (cI, 8, .inl (fun _ => 0))), (q51, .inl (cI, 8, .inl (fun _ => 0)))] H := hP
  have hD : va_D A [(a_t, .inr (0, [.int (0 : Int32), .ref q47, .ref q48, .ref q49, .ref q50, .null, .null, .int (0 : Int32), .int (0 : Int32), .int (0 : Int32), .int (0 : Int32)])), (q47, .inl (cI, 8, .inl (fun _ => 0))), (q48, .inl (cI, 8, .inl (fun _ => 0))), (q49, .inl (cI, 8, .inl (fun _ => 0))), (q50, .inl (cI, 8, .inl (fun _ => 0))), (q51, .inl (cI, 8, .inl (fun _ => 0)))] := hD
  refine va_putF (D := (dC, dI)) (ci := 0) (v := .ref q51) (ty := (tyX0 5)) (C := RX0) (T := TX0) (N := 11) hx hb hts in_X0 tyX0 tyX0_ok nmX0 hown hK hP hD hS 0 rfl rfl 5 (by decide) f_24 (fun _ h9 => h9) rfl hin rfl (by decide +kernel) rfl rfl (Nat.le_of_ble_eq_true rfl) dX0_init_41 (fun H locs hP hD hS => ?_)
  have hP : va_P (dC, dI) vwCl [(a_t, .inr (0, [.int (0 : Int32), .ref q47, .ref q48, .ref q49, .ref q50, .ref q51, .null, .int (0 : Int32), .int (0 : Int32), .int (0 : Int32), .int (0 : Int32)])), (q47, .inl (cI, 8, .inl (fun _ => 0))), (q48, .inl (cI, 8, .inl (fun _ => 0))), (q49, .inl (cI, 8, .inl (fun _ => 0))), (q50, .inl (cI, 8, .inl (fun _ => 0))), (q51, .inl (cI, 8, .inl (fun _ => 0)))] H := hP
  have hD : va_D A [(a_t, .inr (0, [.int (0 : Int32), .ref q47, .ref q48, .ref q49, .ref q50, .ref q51, .null, .int (0 : Int32), .int (0 : Int32), .int (0 : Int32), .int (0 : Int32)])), (q47, .inl (cI, 8, .inl (fun _ => 0))), (q48, .inl (cI, 8, .inl (fun _ => 0))), (q49, .inl (cI, 8, .inl (fun _ => 0))), (q50, .inl (cI, 8, .inl (fun _ => 0))), (q51, .inl (cI, 8, .inl (fun _ => 0)))] := hD
  refine lv_aload_n hx hb dX0_init_44 rfl (lv_at hl 0 rfl) ?_
  refine lv_bipush (v := (8 : Int32)) hx hb dX0_init_45 (by decide) ?_
  refine k_newa hx hb k_ai hK hP hD hS hA 0 rfl (N' := 8) (by decide) (by decide) (Nat.le_of_ble_eq_true rfl) (Nat.le_of_ble_eq_true rfl) (Nat.le_of_ble_eq_true rfl) dX0_init_47 (fun q52 H hP hD hS => ?_)
  refine W.widen (k := 6) (n := 48) (Nat.le_of_ble_eq_true rfl) (Nat.le_of_ble_eq_true rfl) ?_
  have hP : va_P (dC, dI) vwCl [(a_t, .inr (0, [.int (0 : Int32), .ref q47, .ref q48, .ref q49, .ref q50, .ref q51, .null, .int (0 : Int32), .int (0 : Int32), .int (0 : Int32), .int (0 : Int32)])), (q47, .inl (cI, 8, .inl (fun _ => 0))), (q48, .inl (cI, 8, .inl (fun _ => 0))), (q49, .inl (cI, 8, .inl (fun _ => 0))), (q50, .inl (cI, 8, .inl (fun _ => 0))), (q51, .inl (cI, 8, .inl (fun _ => 0))), (q52, .inl (cI, 8, .inl (fun _ => 0)))] H := hP
  have hD : va_D A [(a_t, .inr (0, [.int (0 : Int32), .ref q47, .ref q48, .ref q49, .ref q50, .ref q51, .null, .int (0 : Int32), .int (0 : Int32), .int (0 : Int32), .int (0 : Int32)])), (q47, .inl (cI, 8, .inl (fun _ => 0))), (q48, .inl (cI, 8, .inl (fun _ => 0))), (q49, .inl (cI, 8, .inl (fun _ => 0))), (q50, .inl (cI, 8, .inl (fun _ => 0))), (q51, .inl (cI, 8, .inl (fun _ => 0))), (q52, .inl (cI, 8, .inl (fun _ => 0)))] := hD
  refine va_putF (D := (dC, dI)) (ci := 0) (v := .ref q52) (ty := (tyX0 6)) (C := RX0) (T := TX0) (N := 11) hx hb hts in_X0 tyX0 tyX0_ok nmX0 hown hK hP hD hS 0 rfl rfl 6 (by decide) f_27 (fun _ h9 => h9) rfl hin rfl (by decide +kernel) rfl rfl (Nat.le_of_ble_eq_true rfl) dX0_init_49 (fun H locs hP hD hS => ?_)
  have hP : va_P (dC, dI) vwCl [(a_t, .inr (0, [.int (0 : Int32), .ref q47, .ref q48, .ref q49, .ref q50, .ref q51, .ref q52, .int (0 : Int32), .int (0 : Int32), .int (0 : Int32), .int (0 : Int32)])), (q47, .inl (cI, 8, .inl (fun _ => 0))), (q48, .inl (cI, 8, .inl (fun _ => 0))), (q49, .inl (cI, 8, .inl (fun _ => 0))), (q50, .inl (cI, 8, .inl (fun _ => 0))), (q51, .inl (cI, 8, .inl (fun _ => 0))), (q52, .inl (cI, 8, .inl (fun _ => 0)))] H := hP
  have hD : va_D A [(a_t, .inr (0, [.int (0 : Int32), .ref q47, .ref q48, .ref q49, .ref q50, .ref q51, .ref q52, .int (0 : Int32), .int (0 : Int32), .int (0 : Int32), .int (0 : Int32)])), (q47, .inl (cI, 8, .inl (fun _ => 0))), (q48, .inl (cI, 8, .inl (fun _ => 0))), (q49, .inl (cI, 8, .inl (fun _ => 0))), (q50, .inl (cI, 8, .inl (fun _ => 0))), (q51, .inl (cI, 8, .inl (fun _ => 0))), (q52, .inl (cI, 8, .inl (fun _ => 0)))] := hD
  obtain rfl := Option.some.inj h
  subst hQe
  refine W.widen (k := 6) (n := 48) (Nat.le_of_ble_eq_true rfl) (Nat.le_of_ble_eq_true rfl) ?_
  exact W.vret hx hb hr (fun t ht hW => ⟨⟨(q47, q48, q49, q50, q51, q52), rfl, trivial, ⟨by rw [ht]; exact hP, hD⟩⟩, hS.F ht⟩) hS.2.2 dX0_init_52
def rm_X0_clear : Room := { frames := 0, cells := 0, slots := 0, locals := 0 }
set_option maxRecDepth 100000 in
set_option maxHeartbeats 8000000 in
theorem c_X0_clear (l : Launch) (dC : Nat → ClassId) (dI : Nat → Nat → Nat) (cI cS : ClassId) (n sz : Nat) (a_t : Nat) (a_t_kind : Nat) (a_t_leanTold : Nat) (a_t_needs : Nat) (a_t_firstHears : Nat) (a_t_group : Nat) (a_t_firstPitch : Nat) (t_desks : Int32) (t_oboe : Int32) (t_slip : Int32) (t_warmth : Int32) (t_unheard : Int32) (res : Int32 × Int32 × Int32 × Int32 × Int32)  (h : F_X0_clear n = some res) : Met l yX0_clear wsX0_clear rm_X0_clear (va_Pc [.ref a_t] (PRE (dC, dI) vwCl [(cI, .int), (cS, .object "RoundOfTheA$State")] sz [(a_t, .inr (0, [.int t_desks, .ref a_t_kind, .ref a_t_leanTold, .ref a_t_needs, .ref a_t_firstHears, .ref a_t_group, .ref a_t_firstPitch, .int t_oboe, .int t_slip, .int t_warmth, .int t_unheard]))])) (va_Qv (fun _ : Unit => True) (fun u t => POST (dC, dI) vwCl [(a_t, .inr (0, [.int res.1, .ref a_t_kind, .ref a_t_leanTold, .ref a_t_needs, .ref a_t_firstHears, .ref a_t_group, .ref a_t_firstPitch, .int res.2.1, .int res.2.2.1, .int res.2.2.2.1, .int res.2.2.2.2]))] (va_A [(a_t, .inr (0, [.int t_desks, .ref a_t_kind, .ref a_t_leanTold, .ref a_t_needs, .ref a_t_firstHears, .ref a_t_group, .ref a_t_firstPitch, .int t_oboe, .int t_slip, .int t_warmth, .int t_unheard]))] sz) t) (va_A [(a_t, .inr (0, [.int t_desks, .ref a_t_kind, .ref a_t_leanTold, .ref a_t_needs, .ref a_t_firstHears, .ref a_t_group, .ref a_t_firstPitch, .int t_oboe, .int t_slip, .int t_warmth, .int t_unheard]))] sz)) 0 0 (va_A [(a_t, .inr (0, [.int t_desks, .ref a_t_kind, .ref a_t_leanTold, .ref a_t_needs, .ref a_t_firstHears, .ref a_t_group, .ref a_t_firstPitch, .int t_oboe, .int t_slip, .int t_warmth, .int t_unheard]))] sz) := by
  refine Met.ofW (cc := cX0_clear) (maxL := 1) (ret := none) (by decide) rfl ?_
  intro p e s m args below meth c s₁ B hml hv
  obtain ⟨rfl, hsz, hN, hP, hK, hD0⟩ := hv
  have hx := B.exec
  have hb := B.bytes
  have hr := B.returns
  have hts := atoms_spec (ws := wsX0_clear) B.pre
  have hown : s.vm.findClass RX0 = some m.cls := findClass_of_methodNamed B.named
  have hlocks := B.notSynchronized
  subst hsz
  have hD := hD0.self (sz := s.heap.size)
  generalize hAe : va_A [(a_t, .inr (0, [.int t_desks, .ref a_t_kind, .ref a_t_leanTold, .ref a_t_needs, .ref a_t_firstHears, .ref a_t_group, .ref a_t_firstPitch, .int t_oboe, .int t_slip, .int t_warmth, .int t_unheard]))] s.heap.size = A at hD ⊢
  have hA : ∀ q : Nat, s.heap.size ≤ q → A q := fun q h => by rw [← hAe]; exact Or.inr h
  have hS : va_S A s.heap s.heap [] := va_S.rf
  generalize hQe : MQ below _ _ s _ _ A = QQ
  have hl := lv_entry ([.ref a_t]) (n := 1) (Nat.le_of_ble_eq_true rfl)
  rw [lg_entry_eq]
  generalize (lg_sl ([.ref a_t]) ++ List.replicate (1 - (lg_sl ([.ref a_t])).length) Slot.unset).toArray = ls at hl ⊢
  have hl : lv_has ls 1 [(0, .ref a_t)] := hl
  have f_30 := hts (.fieldLink RX0 30 "RoundOfTheA$Hall" "desks" "I") (by decide +kernel)
  have in_X0 := (by decide +kernel : ∀ w ∈ wsX00, w ∈ wsX0_clear)
  have f_34 := hts (.fieldLink RX0 34 "RoundOfTheA$Hall" "oboe" "I") (by decide +kernel)
  have f_37 := hts (.fieldLink RX0 37 "RoundOfTheA$Hall" "slip" "I") (by decide +kernel)
  have f_40 := hts (.fieldLink RX0 40 "RoundOfTheA$Hall" "warmth" "I") (by decide +kernel)
  have f_43 := hts (.fieldLink RX0 43 "RoundOfTheA$Hall" "unheard" "I") (by decide +kernel)
  rw [F_X0_clear] at h
  refine lv_aload_n hx hb dX0_clear_0 rfl (lv_at hl 0 rfl) ?_
  refine lv_iconst (v := (0 : Int32)) hx hb dX0_clear_1 (by decide) ?_
  refine va_put (D := (dC, dI)) (ci := 0) (v := .int (0 : Int32)) (ty := .int) (C := RX0) (T := TX0) (N := 11) hx hb hts in_X0 tyX0 tyX0_ok nmX0 hown hK hP hD hS 0 rfl rfl 0 (by decide) f_30 (fun _ h9 => h9) rfl (by decide +kernel) rfl rfl (Nat.le_of_ble_eq_true rfl) dX0_clear_2 (fun H locs hP hD hS => ?_)
  have hP : va_P (dC, dI) vwCl [(a_t, .inr (0, [.int (0 : Int32), .ref a_t_kind, .ref a_t_leanTold, .ref a_t_needs, .ref a_t_firstHears, .ref a_t_group, .ref a_t_firstPitch, .int t_oboe, .int t_slip, .int t_warmth, .int t_unheard]))] H := hP
  have hD : va_D A [(a_t, .inr (0, [.int (0 : Int32), .ref a_t_kind, .ref a_t_leanTold, .ref a_t_needs, .ref a_t_firstHears, .ref a_t_group, .ref a_t_firstPitch, .int t_oboe, .int t_slip, .int t_warmth, .int t_unheard]))] := hD
  refine lv_aload_n hx hb dX0_clear_5 rfl (lv_at hl 0 rfl) ?_
  refine lv_iconst (v := (0 : Int32)) hx hb dX0_clear_6 (by decide) ?_
  refine va_put (D := (dC, dI)) (ci := 0) (v := .int (0 : Int32)) (ty := .int) (C := RX0) (T := TX0) (N := 11) hx hb hts in_X0 tyX0 tyX0_ok nmX0 hown hK hP hD hS 0 rfl rfl 7 (by decide) f_34 (fun _ h9 => h9) rfl (by decide +kernel) rfl rfl (Nat.le_of_ble_eq_true rfl) dX0_clear_7 (fun H locs hP hD hS => ?_)
  have hP : va_P (dC, dI) vwCl [(a_t, .inr (0, [.int (0 : Int32), .ref a_t_kind, .ref a_t_leanTold, .ref a_t_needs, .ref a_t_firstHears, .ref a_t_group, .ref a_t_firstPitch, .int (0 : Int32), .int t_slip, .int t_warmth, .int t_unheard]))] H := hP
  have hD : va_D A [(a_t, .inr (0, [.int (0 : Int32), .ref a_t_kind, .ref a_t_leanTold, .ref a_t_needs, .ref a_t_firstHears, .ref a_t_group, .ref a_t_firstPitch, .int (0 : Int32), .int t_slip, .int t_warmth, .int t_unheard]))] := hD
  refine lv_aload_n hx hb dX0_clear_10 rfl (lv_at hl 0 rfl) ?_
  refine lv_iconst (v := (0 : Int32)) hx hb dX0_clear_11 (by decide) ?_
  refine va_put (D := (dC, dI)) (ci := 0) (v := .int (0 : Int32)) (ty := .int) (C := RX0) (T := TX0) (N := 11) hx hb hts in_X0 tyX0 tyX0_ok nmX0 hown hK hP hD hS 0 rfl rfl 8 (by decide) f_37 (fun _ h9 => h9) rfl (by decide +kernel) rfl rfl (Nat.le_of_ble_eq_true rfl) dX0_clear_12 (fun H locs hP hD hS => ?_)
  have hP : va_P (dC, dI) vwCl [(a_t, .inr (0, [.int (0 : Int32), .ref a_t_kind, .ref a_t_leanTold, .ref a_t_needs, .ref a_t_firstHears, .ref a_t_group, .ref a_t_firstPitch, .int (0 : Int32), .int (0 : Int32), .int t_warmth, .int t_unheard]))] H := hP
  have hD : va_D A [(a_t, .inr (0, [.int (0 : Int32), .ref a_t_kind, .ref a_t_leanTold, .ref a_t_needs, .ref a_t_firstHears, .ref a_t_group, .ref a_t_firstPitch, .int (0 : Int32), .int (0 : Int32), .int t_warmth, .int t_unheard]))] := hD
  refine lv_aload_n hx hb dX0_clear_15 rfl (lv_at hl 0 rfl) ?_
  refine lv_iconst (v := (1 : Int32)) hx hb dX0_clear_16 (by decide) ?_
  refine va_put (D := (dC, dI)) (ci := 0) (v := .int (1 : Int32)) (ty := .int) (C := RX0) (T := TX0) (N := 11) hx hb hts in_X0 tyX0 tyX0_ok nmX0 hown hK hP hD hS 0 rfl rfl 9 (by decide) f_40 (fun _ h9 => h9) rfl (by decide +kernel) rfl rfl (Nat.le_of_ble_eq_true rfl) dX0_clear_17 (fun H locs hP hD hS => ?_)
  have hP : va_P (dC, dI) vwCl [(a_t, .inr (0, [.int (0 : Int32), .ref a_t_kind, .ref a_t_leanTold, .ref a_t_needs, .ref a_t_firstHears, .ref a_t_group, .ref a_t_firstPitch, .int (0 : Int32), .int (0 : Int32), .int (1 : Int32), .int t_unheard]))] H := hP
  have hD : va_D A [(a_t, .inr (0, [.int (0 : Int32), .ref a_t_kind, .ref a_t_leanTold, .ref a_t_needs, .ref a_t_firstHears, .ref a_t_group, .ref a_t_firstPitch, .int (0 : Int32), .int (0 : Int32), .int (1 : Int32), .int t_unheard]))] := hD
  refine lv_aload_n hx hb dX0_clear_20 rfl (lv_at hl 0 rfl) ?_
  refine lv_iconst (v := (3 : Int32)) hx hb dX0_clear_21 (by decide) ?_
  refine va_put (D := (dC, dI)) (ci := 0) (v := .int (3 : Int32)) (ty := .int) (C := RX0) (T := TX0) (N := 11) hx hb hts in_X0 tyX0 tyX0_ok nmX0 hown hK hP hD hS 0 rfl rfl 10 (by decide) f_43 (fun _ h9 => h9) rfl (by decide +kernel) rfl rfl (Nat.le_of_ble_eq_true rfl) dX0_clear_22 (fun H locs hP hD hS => ?_)
  have hP : va_P (dC, dI) vwCl [(a_t, .inr (0, [.int (0 : Int32), .ref a_t_kind, .ref a_t_leanTold, .ref a_t_needs, .ref a_t_firstHears, .ref a_t_group, .ref a_t_firstPitch, .int (0 : Int32), .int (0 : Int32), .int (1 : Int32), .int (3 : Int32)]))] H := hP
  have hD : va_D A [(a_t, .inr (0, [.int (0 : Int32), .ref a_t_kind, .ref a_t_leanTold, .ref a_t_needs, .ref a_t_firstHears, .ref a_t_group, .ref a_t_firstPitch, .int (0 : Int32), .int (0 : Int32), .int (1 : Int32), .int (3 : Int32)]))] := hD
  obtain rfl := Option.some.inj h
  subst hQe
  exact W.vret hx hb hr (fun t ht hW => ⟨⟨(), rfl, trivial, ⟨by rw [ht]; exact hP, hD⟩⟩, hS.F ht⟩) hS.2.2 dX0_clear_25
def rm_X0_addDesk : Room := { frames := 0, cells := 0, slots := 0, locals := 0 }
set_option maxRecDepth 100000 in
set_option maxHeartbeats 8000000 in
theorem c_X0_addDesk (l : Launch) (dC : Nat → ClassId) (dI : Nat → Nat → Nat) (cI cS : ClassId) (n sz : Nat) (a_t : Nat) (a_t_kind : Nat) (a_t_leanTold : Nat) (a_t_needs : Nat) (a_t_firstHears : Nat) (a_t_group : Nat) (a_t_firstPitch : Nat) (t_desks : Int32) (t_kind : Nat → Int32) (t_leanTold : Nat → Int32) (t_needs : Nat → Int32) (t_firstHears : Nat → Int32) (t_group : Nat → Int32) (t_firstPitch : Nat → Int32) (t_oboe : Int32) (t_slip : Int32) (t_warmth : Int32) (t_unheard : Int32) (x1 : Int32) (x2 : Int32) (x3 : Int32) (x4 : Int32) (res : Int32 × Int32 × (Nat → Int32) × (Nat → Int32) × (Nat → Int32) × (Nat → Int32) × (Nat → Int32) × (Nat → Int32))  (h : F_X0_addDesk n t_desks t_kind t_leanTold t_needs t_firstHears t_group t_firstPitch x1 x2 x3 x4 = some res) : Met l yX0_addDesk wsX0_addDesk rm_X0_addDesk (va_Pc [.ref a_t, .int x1, .int x2, .int x3, .int x4] (PRE (dC, dI) vwCl [(cI, .int), (cS, .object "RoundOfTheA$State")] sz [(a_t, .inr (0, [.int t_desks, .ref a_t_kind, .ref a_t_leanTold, .ref a_t_needs, .ref a_t_firstHears, .ref a_t_group, .ref a_t_firstPitch, .int t_oboe, .int t_slip, .int t_warmth, .int t_unheard])), (a_t_kind, .inl (cI, 8, .inl t_kind)), (a_t_leanTold, .inl (cI, 8, .inl t_leanTold)), (a_t_needs, .inl (cI, 8, .inl t_needs)), (a_t_firstHears, .inl (cI, 8, .inl t_firstHears)), (a_t_group, .inl (cI, 8, .inl t_group)), (a_t_firstPitch, .inl (cI, 8, .inl t_firstPitch))])) (va_Qi (fun (r : Int32) (_ : Unit) => r = res.1) (fun u t => POST (dC, dI) vwCl [(a_t, .inr (0, [.int res.2.1, .ref a_t_kind, .ref a_t_leanTold, .ref a_t_needs, .ref a_t_firstHears, .ref a_t_group, .ref a_t_firstPitch, .int t_oboe, .int t_slip, .int t_warmth, .int t_unheard])), (a_t_kind, .inl (cI, 8, .inl res.2.2.1)), (a_t_leanTold, .inl (cI, 8, .inl res.2.2.2.1)), (a_t_needs, .inl (cI, 8, .inl res.2.2.2.2.1)), (a_t_firstHears, .inl (cI, 8, .inl res.2.2.2.2.2.1)), (a_t_group, .inl (cI, 8, .inl res.2.2.2.2.2.2.1)), (a_t_firstPitch, .inl (cI, 8, .inl res.2.2.2.2.2.2.2))] (va_A [(a_t, .inr (0, [.int t_desks, .ref a_t_kind, .ref a_t_leanTold, .ref a_t_needs, .ref a_t_firstHears, .ref a_t_group, .ref a_t_firstPitch, .int t_oboe, .int t_slip, .int t_warmth, .int t_unheard])), (a_t_kind, .inl (cI, 8, .inl t_kind)), (a_t_leanTold, .inl (cI, 8, .inl t_leanTold)), (a_t_needs, .inl (cI, 8, .inl t_needs)), (a_t_firstHears, .inl (cI, 8, .inl t_firstHears)), (a_t_group, .inl (cI, 8, .inl t_group)), (a_t_firstPitch, .inl (cI, 8, .inl t_firstPitch))] sz) t) (va_A [(a_t, .inr (0, [.int t_desks, .ref a_t_kind, .ref a_t_leanTold, .ref a_t_needs, .ref a_t_firstHears, .ref a_t_group, .ref a_t_firstPitch, .int t_oboe, .int t_slip, .int t_warmth, .int t_unheard])), (a_t_kind, .inl (cI, 8, .inl t_kind)), (a_t_leanTold, .inl (cI, 8, .inl t_leanTold)), (a_t_needs, .inl (cI, 8, .inl t_needs)), (a_t_firstHears, .inl (cI, 8, .inl t_firstHears)), (a_t_group, .inl (cI, 8, .inl t_group)), (a_t_firstPitch, .inl (cI, 8, .inl t_firstPitch))] sz)) 0 0 (va_A [(a_t, .inr (0, [.int t_desks, .ref a_t_kind, .ref a_t_leanTold, .ref a_t_needs, .ref a_t_firstHears, .ref a_t_group, .ref a_t_firstPitch, .int t_oboe, .int t_slip, .int t_warmth, .int t_unheard])), (a_t_kind, .inl (cI, 8, .inl t_kind)), (a_t_leanTold, .inl (cI, 8, .inl t_leanTold)), (a_t_needs, .inl (cI, 8, .inl t_needs)), (a_t_firstHears, .inl (cI, 8, .inl t_firstHears)), (a_t_group, .inl (cI, 8, .inl t_group)), (a_t_firstPitch, .inl (cI, 8, .inl t_firstPitch))] sz) := by
  refine Met.ofW (cc := cX0_addDesk) (maxL := 5) (ret := (some .boolean)) (by decide) rfl ?_
  intro p e s m args below meth c s₁ B hml hv
  obtain ⟨rfl, hsz, hN, hP, hK, hD0⟩ := hv
  have hx := B.exec
  have hb := B.bytes
  have hr := B.returns
  have hts := atoms_spec (ws := wsX0_addDesk) B.pre
  have hown : s.vm.findClass RX0 = some m.cls := findClass_of_methodNamed B.named
  have hlocks := B.notSynchronized
  subst hsz
  have hD := hD0.self (sz := s.heap.size)
  generalize hAe : va_A [(a_t, .inr (0, [.int t_desks, .ref a_t_kind, .ref a_t_leanTold, .ref a_t_needs, .ref a_t_firstHears, .ref a_t_group, .ref a_t_firstPitch, .int t_oboe, .int t_slip, .int t_warmth, .int t_unheard])), (a_t_kind, .inl (cI, 8, .inl t_kind)), (a_t_leanTold, .inl (cI, 8, .inl t_leanTold)), (a_t_needs, .inl (cI, 8, .inl t_needs)), (a_t_firstHears, .inl (cI, 8, .inl t_firstHears)), (a_t_group, .inl (cI, 8, .inl t_group)), (a_t_firstPitch, .inl (cI, 8, .inl t_firstPitch))] s.heap.size = A at hD ⊢
  have hA : ∀ q : Nat, s.heap.size ≤ q → A q := fun q h => by rw [← hAe]; exact Or.inr h
  have hS : va_S A s.heap s.heap [] := va_S.rf
  generalize hQe : MQ below _ _ s _ _ A = QQ
  have hl := lv_entry ([.ref a_t, .int x1, .int x2, .int x3, .int x4]) (n := 5) (Nat.le_of_ble_eq_true rfl)
  rw [lg_entry_eq]
  generalize (lg_sl ([.ref a_t, .int x1, .int x2, .int x3, .int x4]) ++ List.replicate (5 - (lg_sl ([.ref a_t, .int x1, .int x2, .int x3, .int x4])).length) Slot.unset).toArray = ls at hl ⊢
  have hl : lv_has ls 5 [(0, .ref a_t), (1, .int x1), (2, .int x2), (3, .int x3), (4, .int x4)] := hl
  have f_30 := hts (.fieldLink RX0 30 "RoundOfTheA$Hall" "desks" "I") (by decide +kernel)
  have in_X0 := (by decide +kernel : ∀ w ∈ wsX00, w ∈ wsX0_addDesk)
  have f_9 := hts (.fieldLink RX0 9 "RoundOfTheA$Hall" "kind" "[I") (by decide +kernel)
  have f_15 := hts (.fieldLink RX0 15 "RoundOfTheA$Hall" "leanTold" "[I") (by decide +kernel)
  have f_18 := hts (.fieldLink RX0 18 "RoundOfTheA$Hall" "needs" "[I") (by decide +kernel)
  have f_21 := hts (.fieldLink RX0 21 "RoundOfTheA$Hall" "firstHears" "[I") (by decide +kernel)
  have f_24 := hts (.fieldLink RX0 24 "RoundOfTheA$Hall" "group" "[I") (by decide +kernel)
  have f_27 := hts (.fieldLink RX0 27 "RoundOfTheA$Hall" "firstPitch" "[I") (by decide +kernel)
  rw [F_X0_addDesk] at h
  refine lv_aload_n hx hb dX0_addDesk_0 rfl (lv_at hl 0 rfl) ?_
  refine va_get (D := (dC, dI)) (ci := 0) (v := .int t_desks) (C := RX0) (T := TX0) (N := 11) hx hb hts in_X0 hown hK hP 0 rfl rfl 0 (by decide) f_30 (fun _ h9 => h9) rfl dX0_addDesk_1 ?_
  refine lv_bipush (v := (8 : Int32)) hx hb dX0_addDesk_4 (by decide) ?_
  refine lv_icmp_lt (tgt := 11) hx hb dX0_addDesk_6 (by decide) (fun c_6 => ?_) (fun c_6 => ?_)
  · have h := (if_pos c_6).symm.trans h
    refine lv_aload_n hx hb dX0_addDesk_11 rfl (lv_at hl 0 rfl) ?_
    refine va_get (D := (dC, dI)) (ci := 0) (v := .ref a_t_kind) (C := RX0) (T := TX0) (N := 11) hx hb hts in_X0 hown hK hP 0 rfl rfl 1 (by decide) f_9 (fun _ h9 => h9) rfl dX0_addDesk_12 ?_
    refine lv_aload_n hx hb dX0_addDesk_15 rfl (lv_at hl 0 rfl) ?_
    refine va_get (D := (dC, dI)) (ci := 0) (v := .int t_desks) (C := RX0) (T := TX0) (N := 11) hx hb hts in_X0 hown hK hP 0 rfl rfl 0 (by decide) f_30 (fun _ h9 => h9) rfl dX0_addDesk_16 ?_
    refine lv_iload_n hx hb dX0_addDesk_19 rfl (lv_at hl 1 rfl) ?_
    obtain ⟨g59, hg59, h⟩ := ob h
    refine k_st hx hb hK hP hD hS 1 0 rfl rfl hg59 dX0_addDesk_20 (ws' := [(a_t, .inr (0, [.int t_desks, .ref a_t_kind, .ref a_t_leanTold, .ref a_t_needs, .ref a_t_firstHears, .ref a_t_group, .ref a_t_firstPitch, .int t_oboe, .int t_slip, .int t_warmth, .int t_unheard])), (a_t_kind, .inl (cI, 8, .inl g59)), (a_t_leanTold, .inl (cI, 8, .inl t_leanTold)), (a_t_needs, .inl (cI, 8, .inl t_needs)), (a_t_firstHears, .inl (cI, 8, .inl t_firstHears)), (a_t_group, .inl (cI, 8, .inl t_group)), (a_t_firstPitch, .inl (cI, 8, .inl t_firstPitch))]) rfl (fun H locs hP hD hS => ?_)
    refine lv_aload_n hx hb dX0_addDesk_21 rfl (lv_at hl 0 rfl) ?_
    refine va_get (D := (dC, dI)) (ci := 0) (v := .ref a_t_leanTold) (C := RX0) (T := TX0) (N := 11) hx hb hts in_X0 hown hK hP 0 rfl rfl 2 (by decide) f_15 (fun _ h9 => h9) rfl dX0_addDesk_22 ?_
    refine lv_aload_n hx hb dX0_addDesk_25 rfl (lv_at hl 0 rfl) ?_
    refine va_get (D := (dC, dI)) (ci := 0) (v := .int t_desks) (C := RX0) (T := TX0) (N := 11) hx hb hts in_X0 hown hK hP 0 rfl rfl 0 (by decide) f_30 (fun _ h9 => h9) rfl dX0_addDesk_26 ?_
    refine lv_iload_n hx hb dX0_addDesk_29 rfl (lv_at hl 2 rfl) ?_
    obtain ⟨g60, hg60, h⟩ := ob h
    refine k_st hx hb hK hP hD hS 2 0 rfl rfl hg60 dX0_addDesk_30 (ws' := [(a_t, .inr (0, [.int t_desks, .ref a_t_kind, .ref a_t_leanTold, .ref a_t_needs, .ref a_t_firstHears, .ref a_t_group, .ref a_t_firstPitch, .int t_oboe, .int t_slip, .int t_warmth, .int t_unheard])), (a_t_kind, .inl (cI, 8, .inl g59)), (a_t_leanTold, .inl (cI, 8, .inl g60)), (a_t_needs, .inl (cI, 8, .inl t_needs)), (a_t_firstHears, .inl (cI, 8, .inl t_firstHears)), (a_t_group, .inl (cI, 8, .inl t_group)), (a_t_firstPitch, .inl (cI, 8, .inl t_firstPitch))]) rfl (fun H locs hP hD hS => ?_)
    refine lv_aload_n hx hb dX0_addDesk_31 rfl (lv_at hl 0 rfl) ?_
    refine va_get (D := (dC, dI)) (ci := 0) (v := .ref a_t_needs) (C := RX0) (T := TX0) (N := 11) hx hb hts in_X0 hown hK hP 0 rfl rfl 3 (by decide) f_18 (fun _ h9 => h9) rfl dX0_addDesk_32 ?_
    refine lv_aload_n hx hb dX0_addDesk_35 rfl (lv_at hl 0 rfl) ?_
    refine va_get (D := (dC, dI)) (ci := 0) (v := .int t_desks) (C := RX0) (T := TX0) (N := 11) hx hb hts in_X0 hown hK hP 0 rfl rfl 0 (by decide) f_30 (fun _ h9 => h9) rfl dX0_addDesk_36 ?_
    refine lv_iload_n hx hb dX0_addDesk_39 rfl (lv_at hl 3 rfl) ?_
    obtain ⟨g61, hg61, h⟩ := ob h
    refine k_st hx hb hK hP hD hS 3 0 rfl rfl hg61 dX0_addDesk_40 (ws' := [(a_t, .inr (0, [.int t_desks, .ref a_t_kind, .ref a_t_leanTold, .ref a_t_needs, .ref a_t_firstHears, .ref a_t_group, .ref a_t_firstPitch, .int t_oboe, .int t_slip, .int t_warmth, .int t_unheard])), (a_t_kind, .inl (cI, 8, .inl g59)), (a_t_leanTold, .inl (cI, 8, .inl g60)), (a_t_needs, .inl (cI, 8, .inl g61)), (a_t_firstHears, .inl (cI, 8, .inl t_firstHears)), (a_t_group, .inl (cI, 8, .inl t_group)), (a_t_firstPitch, .inl (cI, 8, .inl t_firstPitch))]) rfl (fun H locs hP hD hS => ?_)
    refine lv_aload_n hx hb dX0_addDesk_41 rfl (lv_at hl 0 rfl) ?_
    refine va_get (D := (dC, dI)) (ci := 0) (v := .ref a_t_firstHears) (C := RX0) (T := TX0) (N := 11) hx hb hts in_X0 hown hK hP 0 rfl rfl 4 (by decide) f_21 (fun _ h9 => h9) rfl dX0_addDesk_42 ?_
    refine lv_aload_n hx hb dX0_addDesk_45 rfl (lv_at hl 0 rfl) ?_
    refine va_get (D := (dC, dI)) (ci := 0) (v := .int t_desks) (C := RX0) (T := TX0) (N := 11) hx hb hts in_X0 hown hK hP 0 rfl rfl 0 (by decide) f_30 (fun _ h9 => h9) rfl dX0_addDesk_46 ?_
    refine lv_iload hx hb dX0_addDesk_49 (lv_at hl 4 rfl) ?_
    obtain ⟨g62, hg62, h⟩ := ob h
    refine k_st hx hb hK hP hD hS 4 0 rfl rfl hg62 dX0_addDesk_51 (ws' := [(a_t, .inr (0, [.int t_desks, .ref a_t_kind, .ref a_t_leanTold, .ref a_t_needs, .ref a_t_firstHears, .ref a_t_group, .ref a_t_firstPitch, .int t_oboe, .int t_slip, .int t_warmth, .int t_unheard])), (a_t_kind, .inl (cI, 8, .inl g59)), (a_t_leanTold, .inl (cI, 8, .inl g60)), (a_t_needs, .inl (cI, 8, .inl g61)), (a_t_firstHears, .inl (cI, 8, .inl g62)), (a_t_group, .inl (cI, 8, .inl t_group)), (a_t_firstPitch, .inl (cI, 8, .inl t_firstPitch))]) rfl (fun H locs hP hD hS => ?_)
    refine lv_aload_n hx hb dX0_addDesk_52 rfl (lv_at hl 0 rfl) ?_
    refine va_get (D := (dC, dI)) (ci := 0) (v := .ref a_t_group) (C := RX0) (T := TX0) (N := 11) hx hb hts in_X0 hown hK hP 0 rfl rfl 5 (by decide) f_24 (fun _ h9 => h9) rfl dX0_addDesk_53 ?_
    refine lv_aload_n hx hb dX0_addDesk_56 rfl (lv_at hl 0 rfl) ?_
    refine va_get (D := (dC, dI)) (ci := 0) (v := .int t_desks) (C := RX0) (T := TX0) (N := 11) hx hb hts in_X0 hown hK hP 0 rfl rfl 0 (by decide) f_30 (fun _ h9 => h9) rfl dX0_addDesk_57 ?_
    refine lv_iconst (v := (0 : Int32)) hx hb dX0_addDesk_60 (by decide) ?_
    obtain ⟨g63, hg63, h⟩ := ob h
    refine k_st hx hb hK hP hD hS 5 0 rfl rfl hg63 dX0_addDesk_61 (ws' := [(a_t, .inr (0, [.int t_desks, .ref a_t_kind, .ref a_t_leanTold, .ref a_t_needs, .ref a_t_firstHears, .ref a_t_group, .ref a_t_firstPitch, .int t_oboe, .int t_slip, .int t_warmth, .int t_unheard])), (a_t_kind, .inl (cI, 8, .inl g59)), (a_t_leanTold, .inl (cI, 8, .inl g60)), (a_t_needs, .inl (cI, 8, .inl g61)), (a_t_firstHears, .inl (cI, 8, .inl g62)), (a_t_group, .inl (cI, 8, .inl g63)), (a_t_firstPitch, .inl (cI, 8, .inl t_firstPitch))]) rfl (fun H locs hP hD hS => ?_)
    refine lv_aload_n hx hb dX0_addDesk_62 rfl (lv_at hl 0 rfl) ?_
    refine va_get (D := (dC, dI)) (ci := 0) (v := .ref a_t_firstPitch) (C := RX0) (T := TX0) (N := 11) hx hb hts in_X0 hown hK hP 0 rfl rfl 6 (by decide) f_27 (fun _ h9 => h9) rfl dX0_addDesk_63 ?_
    refine lv_aload_n hx hb dX0_addDesk_66 rfl (lv_at hl 0 rfl) ?_
    refine va_get (D := (dC, dI)) (ci := 0) (v := .int t_desks) (C := RX0) (T := TX0) (N := 11) hx hb hts in_X0 hown hK hP 0 rfl rfl 0 (by decide) f_30 (fun _ h9 => h9) rfl dX0_addDesk_67 ?_
    refine lv_iconst (v := (0 : Int32)) hx hb dX0_addDesk_70 (by decide) ?_
    obtain ⟨g64, hg64, h⟩ := ob h
    refine k_st hx hb hK hP hD hS 6 0 rfl rfl hg64 dX0_addDesk_71 (ws' := [(a_t, .inr (0, [.int t_desks, .ref a_t_kind, .ref a_t_leanTold, .ref a_t_needs, .ref a_t_firstHears, .ref a_t_group, .ref a_t_firstPitch, .int t_oboe, .int t_slip, .int t_warmth, .int t_unheard])), (a_t_kind, .inl (cI, 8, .inl g59)), (a_t_leanTold, .inl (cI, 8, .inl g60)), (a_t_needs, .inl (cI, 8, .inl g61)), (a_t_firstHears, .inl (cI, 8, .inl g62)), (a_t_group, .inl (cI, 8, .inl g63)), (a_t_firstPitch, .inl (cI, 8, .inl g64))]) rfl (fun H locs hP hD hS => ?_)
    refine lv_aload_n hx hb dX0_addDesk_72 rfl (lv_at hl 0 rfl) ?_
    refine lv_dup hx hb dX0_addDesk_73 rfl ?_
    refine va_get (D := (dC, dI)) (ci := 0) (v := .int t_desks) (C := RX0) (T := TX0) (N := 11) hx hb hts in_X0 hown hK hP 0 rfl rfl 0 (by decide) f_30 (fun _ h9 => h9) rfl dX0_addDesk_74 ?_
    refine lv_iconst (v := (1 : Int32)) hx hb dX0_addDesk_77 (by decide) ?_
    refine lv_iadd hx hb dX0_addDesk_78 ?_
    refine va_put (D := (dC, dI)) (ci := 0) (v := .int (t_desks + (1 : Int32))) (ty := .int) (C := RX0) (T := TX0) (N := 11) hx hb hts in_X0 tyX0 tyX0_ok nmX0 hown hK hP hD hS 0 rfl rfl 0 (by decide) f_30 (fun _ h9 => h9) rfl (by decide +kernel) rfl rfl (Nat.le_of_ble_eq_true rfl) dX0_addDesk_79 (fun H locs hP hD hS => ?_)
    have hP : va_P (dC, dI) vwCl [(a_t, .inr (0, [.int (t_desks + (1 : Int32)), .ref a_t_kind, .ref a_t_leanTold, .ref a_t_needs, .ref a_t_firstHears, .ref a_t_group, .ref a_t_firstPitch, .int t_oboe, .int t_slip, .int t_warmth, .int t_unheard])), (a_t_kind, .inl (cI, 8, .inl g59)), (a_t_leanTold, .inl (cI, 8, .inl g60)), (a_t_needs, .inl (cI, 8, .inl g61)), (a_t_firstHears, .inl (cI, 8, .inl g62)), (a_t_group, .inl (cI, 8, .inl g63)), (a_t_firstPitch, .inl (cI, 8, .inl g64))] H := hP
    have hD : va_D A [(a_t, .inr (0, [.int (t_desks + (1 : Int32)), .ref a_t_kind, .ref a_t_leanTold, .ref a_t_needs, .ref a_t_firstHears, .ref a_t_group, .ref a_t_firstPitch, .int t_oboe, .int t_slip, .int t_warmth, .int t_unheard])), (a_t_kind, .inl (cI, 8, .inl g59)), (a_t_leanTold, .inl (cI, 8, .inl g60)), (a_t_needs, .inl (cI, 8, .inl g61)), (a_t_firstHears, .inl (cI, 8, .inl g62)), (a_t_group, .inl (cI, 8, .inl g63)), (a_t_firstPitch, .inl (cI, 8, .inl g64))] := hD
    refine lv_iconst (v := (1 : Int32)) hx hb dX0_addDesk_82 (by decide) ?_
    obtain rfl := Option.some.inj h
    subst hQe
    exact W.zret (v := (1 : Int32)) (ty := .boolean) hx hb hr rfl (fun t ht hW => ⟨⟨(1 : Int32), (), rfl, rfl, ⟨by rw [ht]; exact hP, hD⟩⟩, hS.F ht⟩) hS.2.2 dX0_addDesk_83
  · have h := (if_neg c_6).symm.trans h
    refine lv_iconst (v := (0 : Int32)) hx hb dX0_addDesk_9 (by decide) ?_
    obtain rfl := Option.some.inj h
    subst hQe
    exact W.zret (v := (0 : Int32)) (ty := .boolean) hx hb hr rfl (fun t ht hW => ⟨⟨(0 : Int32), (), rfl, rfl, ⟨by rw [ht]; exact hP, hD⟩⟩, hS.F ht⟩) hS.2.2 dX0_addDesk_10
def rm_X0_hasDesk : Room := { frames := 0, cells := 0, slots := 0, locals := 0 }
set_option maxRecDepth 100000 in
set_option maxHeartbeats 8000000 in
theorem c_X0_hasDesk (l : Launch) (dC : Nat → ClassId) (dI : Nat → Nat → Nat) (cI cS : ClassId) (n sz : Nat) (a_t : Nat) (a_t_kind : Nat) (a_t_leanTold : Nat) (a_t_needs : Nat) (a_t_firstHears : Nat) (a_t_group : Nat) (a_t_firstPitch : Nat) (t_desks : Int32) (t_oboe : Int32) (t_slip : Int32) (t_warmth : Int32) (t_unheard : Int32) (x1 : Int32) (res : Int32)  (h : F_X0_hasDesk n t_desks x1 = some res) : Met l yX0_hasDesk wsX0_hasDesk rm_X0_hasDesk (va_Pc [.ref a_t, .int x1] (PRE (dC, dI) vwCl [(cI, .int), (cS, .object "RoundOfTheA$State")] sz [(a_t, .inr (0, [.int t_desks, .ref a_t_kind, .ref a_t_leanTold, .ref a_t_needs, .ref a_t_firstHears, .ref a_t_group, .ref a_t_firstPitch, .int t_oboe, .int t_slip, .int t_warmth, .int t_unheard]))])) (va_Qi (fun (r : Int32) (_ : Unit) => r = res) (fun u t => POST (dC, dI) vwCl [(a_t, .inr (0, [.int t_desks, .ref a_t_kind, .ref a_t_leanTold, .ref a_t_needs, .ref a_t_firstHears, .ref a_t_group, .ref a_t_firstPitch, .int t_oboe, .int t_slip, .int t_warmth, .int t_unheard]))] (va_A [(a_t, .inr (0, [.int t_desks, .ref a_t_kind, .ref a_t_leanTold, .ref a_t_needs, .ref a_t_firstHears, .ref a_t_group, .ref a_t_firstPitch, .int t_oboe, .int t_slip, .int t_warmth, .int t_unheard]))] sz) t) (va_A [(a_t, .inr (0, [.int t_desks, .ref a_t_kind, .ref a_t_leanTold, .ref a_t_needs, .ref a_t_firstHears, .ref a_t_group, .ref a_t_firstPitch, .int t_oboe, .int t_slip, .int t_warmth, .int t_unheard]))] sz)) 0 0 (va_A [(a_t, .inr (0, [.int t_desks, .ref a_t_kind, .ref a_t_leanTold, .ref a_t_needs, .ref a_t_firstHears, .ref a_t_group, .ref a_t_firstPitch, .int t_oboe, .int t_slip, .int t_warmth, .int t_unheard]))] sz) := by
  refine Met.ofW (cc := cX0_hasDesk) (maxL := 2) (ret := (some .boolean)) (by decide) rfl ?_
  intro p e s m args below meth c s₁ B hml hv
  obtain ⟨rfl, hsz, hN, hP, hK, hD0⟩ := hv
  have hx := B.exec
  have hb := B.bytes
  have hr := B.returns
  have hts := atoms_spec (ws := wsX0_hasDesk) B.pre
  have hown : s.vm.findClass RX0 = some m.cls := findClass_of_methodNamed B.named
  have hlocks := B.notSynchronized
  subst hsz
  have hD := hD0.self (sz := s.heap.size)
  generalize hAe : va_A [(a_t, .inr (0, [.int t_desks, .ref a_t_kind, .ref a_t_leanTold, .ref a_t_needs, .ref a_t_firstHears, .ref a_t_group, .ref a_t_firstPitch, .int t_oboe, .int t_slip, .int t_warmth, .int t_unheard]))] s.heap.size = A at hD ⊢
  have hA : ∀ q : Nat, s.heap.size ≤ q → A q := fun q h => by rw [← hAe]; exact Or.inr h
  have hS : va_S A s.heap s.heap [] := va_S.rf
  generalize hQe : MQ below _ _ s _ _ A = QQ
  have hl := lv_entry ([.ref a_t, .int x1]) (n := 2) (Nat.le_of_ble_eq_true rfl)
  rw [lg_entry_eq]
  generalize (lg_sl ([.ref a_t, .int x1]) ++ List.replicate (2 - (lg_sl ([.ref a_t, .int x1])).length) Slot.unset).toArray = ls at hl ⊢
  have hl : lv_has ls 2 [(0, .ref a_t), (1, .int x1)] := hl
  have f_30 := hts (.fieldLink RX0 30 "RoundOfTheA$Hall" "desks" "I") (by decide +kernel)
  have in_X0 := (by decide +kernel : ∀ w ∈ wsX00, w ∈ wsX0_hasDesk)
  rw [F_X0_hasDesk] at h
  refine lv_iload_n hx hb dX0_hasDesk_0 rfl (lv_at hl 1 rfl) ?_
  refine lv_if_lt (tgt := 16) hx hb dX0_hasDesk_1 (by decide) (fun c_1 => ?_) (fun c_1 => ?_)
  · have h := (if_pos c_1).symm.trans h
    refine lv_iconst (v := (0 : Int32)) hx hb dX0_hasDesk_16 (by decide) ?_
    obtain rfl := Option.some.inj h
    subst hQe
    exact W.zret (v := (0 : Int32)) (ty := .boolean) hx hb hr rfl (fun t ht hW => ⟨⟨(0 : Int32), (), rfl, rfl, ⟨by rw [ht]; exact hP, hD⟩⟩, hS.F ht⟩) hS.2.2 dX0_hasDesk_17
  · have h := (if_neg c_1).symm.trans h
    refine lv_iload_n hx hb dX0_hasDesk_4 rfl (lv_at hl 1 rfl) ?_
    refine lv_aload_n hx hb dX0_hasDesk_5 rfl (lv_at hl 0 rfl) ?_
    refine va_get (D := (dC, dI)) (ci := 0) (v := .int t_desks) (C := RX0) (T := TX0) (N := 11) hx hb hts in_X0 hown hK hP 0 rfl rfl 0 (by decide) f_30 (fun _ h9 => h9) rfl dX0_hasDesk_6 ?_
    refine lv_icmp_ge (tgt := 16) hx hb dX0_hasDesk_9 (by decide) (fun c_9 => ?_) (fun c_9 => ?_)
    · have h := (if_pos c_9).symm.trans h
      refine lv_iconst (v := (0 : Int32)) hx hb dX0_hasDesk_16 (by decide) ?_
      obtain rfl := Option.some.inj h
      subst hQe
      exact W.zret (v := (0 : Int32)) (ty := .boolean) hx hb hr rfl (fun t ht hW => ⟨⟨(0 : Int32), (), rfl, rfl, ⟨by rw [ht]; exact hP, hD⟩⟩, hS.F ht⟩) hS.2.2 dX0_hasDesk_17
    · have h := (if_neg c_9).symm.trans h
      refine lv_iconst (v := (1 : Int32)) hx hb dX0_hasDesk_12 (by decide) ?_
      refine lv_goto (tgt := 17) hx hb dX0_hasDesk_13 (by decide) ?_
      obtain rfl := Option.some.inj h
      subst hQe
      exact W.zret (v := (1 : Int32)) (ty := .boolean) hx hb hr rfl (fun t ht hW => ⟨⟨(1 : Int32), (), rfl, rfl, ⟨by rw [ht]; exact hP, hD⟩⟩, hS.F ht⟩) hS.2.2 dX0_hasDesk_17
def rm_X0_canHear : Room := { frames := 1, cells := 0, slots := 0, locals := 21 }
set_option maxRecDepth 100000 in
set_option maxHeartbeats 8000000 in
theorem c_X0_canHear (l : Launch) (dC : Nat → ClassId) (dI : Nat → Nat → Nat) (cI cS : ClassId) (n sz : Nat) (a_t : Nat) (a_t_kind : Nat) (a_t_leanTold : Nat) (a_t_needs : Nat) (a_t_firstHears : Nat) (a_t_group : Nat) (a_t_firstPitch : Nat) (t_desks : Int32) (t_oboe : Int32) (t_slip : Int32) (t_warmth : Int32) (t_unheard : Int32) (x1 : Int32) (x2 : Int32) (res : Int32)  (h : F_X0_canHear n t_desks x1 x2 = some res) : Met l yX0_canHear wsX0_canHear rm_X0_canHear (va_Pc [.ref a_t, .int x1, .int x2] (PRE (dC, dI) vwCl [(cI, .int), (cS, .object "RoundOfTheA$State")] sz [(a_t, .inr (0, [.int t_desks, .ref a_t_kind, .ref a_t_leanTold, .ref a_t_needs, .ref a_t_firstHears, .ref a_t_group, .ref a_t_firstPitch, .int t_oboe, .int t_slip, .int t_warmth, .int t_unheard]))])) (va_Qi (fun (r : Int32) (_ : Unit) => r = res) (fun u t => POST (dC, dI) vwCl [(a_t, .inr (0, [.int t_desks, .ref a_t_kind, .ref a_t_leanTold, .ref a_t_needs, .ref a_t_firstHears, .ref a_t_group, .ref a_t_firstPitch, .int t_oboe, .int t_slip, .int t_warmth, .int t_unheard]))] (va_A [(a_t, .inr (0, [.int t_desks, .ref a_t_kind, .ref a_t_leanTold, .ref a_t_needs, .ref a_t_firstHears, .ref a_t_group, .ref a_t_firstPitch, .int t_oboe, .int t_slip, .int t_warmth, .int t_unheard]))] sz) t) (va_A [(a_t, .inr (0, [.int t_desks, .ref a_t_kind, .ref a_t_leanTold, .ref a_t_needs, .ref a_t_firstHears, .ref a_t_group, .ref a_t_firstPitch, .int t_oboe, .int t_slip, .int t_warmth, .int t_unheard]))] sz)) 0 0 (va_A [(a_t, .inr (0, [.int t_desks, .ref a_t_kind, .ref a_t_leanTold, .ref a_t_needs, .ref a_t_firstHears, .ref a_t_group, .ref a_t_firstPitch, .int t_oboe, .int t_slip, .int t_warmth, .int t_unheard]))] sz) := by
  refine Met.ofW (cc := cX0_canHear) (maxL := 3) (ret := (some .boolean)) (by decide) rfl ?_
  intro p e s m args below meth c s₁ B hml hv
  obtain ⟨rfl, hsz, hN, hP, hK, hD0⟩ := hv
  have hx := B.exec
  have hb := B.bytes
  have hr := B.returns
  have hts := atoms_spec (ws := wsX0_canHear) B.pre
  have hown : s.vm.findClass RX0 = some m.cls := findClass_of_methodNamed B.named
  have hlocks := B.notSynchronized
  subst hsz
  have hD := hD0.self (sz := s.heap.size)
  generalize hAe : va_A [(a_t, .inr (0, [.int t_desks, .ref a_t_kind, .ref a_t_leanTold, .ref a_t_needs, .ref a_t_firstHears, .ref a_t_group, .ref a_t_firstPitch, .int t_oboe, .int t_slip, .int t_warmth, .int t_unheard]))] s.heap.size = A at hD ⊢
  have hA : ∀ q : Nat, s.heap.size ≤ q → A q := fun q h => by rw [← hAe]; exact Or.inr h
  have hS : va_S A s.heap s.heap [] := va_S.rf
  generalize hQe : MQ below _ _ s _ _ A = QQ
  have hl := lv_entry ([.ref a_t, .int x1, .int x2]) (n := 3) (Nat.le_of_ble_eq_true rfl)
  rw [lg_entry_eq]
  generalize (lg_sl ([.ref a_t, .int x1, .int x2]) ++ List.replicate (3 - (lg_sl ([.ref a_t, .int x1, .int x2])).length) Slot.unset).toArray = ls at hl ⊢
  have hl : lv_has ls 3 [(0, .ref a_t), (1, .int x1), (2, .int x2)] := hl
  rw [F_X0_canHear] at h
  refine lv_iload_n hx hb dX0_canHear_0 rfl (lv_at hl 2 rfl) ?_
  refine lv_bipush (v := (8 : Int32)) hx hb dX0_canHear_1 (by decide) ?_
  refine lv_icmp_eq (tgt := 25) hx hb dX0_canHear_3 (by decide) (fun c_3 => ?_) (fun c_3 => ?_)
  · have h := (if_pos c_3).symm.trans h
    refine lv_iconst (v := (1 : Int32)) hx hb dX0_canHear_25 (by decide) ?_
    refine lv_goto (tgt := 30) hx hb dX0_canHear_26 (by decide) ?_
    obtain rfl := Option.some.inj h
    subst hQe
    exact W.zret (v := (1 : Int32)) (ty := .boolean) hx hb hr rfl (fun t ht hW => ⟨⟨(1 : Int32), (), rfl, rfl, ⟨by rw [ht]; exact hP, hD⟩⟩, hS.F ht⟩) hS.2.2 dX0_canHear_30
  · have h := (if_neg c_3).symm.trans h
    refine lv_iload_n hx hb dX0_canHear_6 rfl (lv_at hl 2 rfl) ?_
    refine lv_bipush (v := (9 : Int32)) hx hb dX0_canHear_7 (by decide) ?_
    refine lv_icmp_eq (tgt := 25) hx hb dX0_canHear_9 (by decide) (fun c_9 => ?_) (fun c_9 => ?_)
    · have h := (if_pos c_9).symm.trans h
      refine lv_iconst (v := (1 : Int32)) hx hb dX0_canHear_25 (by decide) ?_
      refine lv_goto (tgt := 30) hx hb dX0_canHear_26 (by decide) ?_
      obtain rfl := Option.some.inj h
      subst hQe
      exact W.zret (v := (1 : Int32)) (ty := .boolean) hx hb hr rfl (fun t ht hW => ⟨⟨(1 : Int32), (), rfl, rfl, ⟨by rw [ht]; exact hP, hD⟩⟩, hS.F ht⟩) hS.2.2 dX0_canHear_30
    · have h := (if_neg c_9).symm.trans h
      refine lv_aload_n hx hb dX0_canHear_12 rfl (lv_at hl 0 rfl) ?_
      refine lv_iload_n hx hb dX0_canHear_13 rfl (lv_at hl 2 rfl) ?_
      obtain ⟨r67, hr67, h⟩ := ob h
      refine k_Vi (As := [.int x2]) (rest := []) (wr := []) (c_X0_hasDesk l dC dI cI cS n _ a_t a_t_kind a_t_leanTold a_t_needs a_t_firstHears a_t_group a_t_firstPitch t_desks t_oboe t_slip t_warmth t_unheard x2 r67 hr67) (fun _ _ q => q) ⟨hx, hb, hml, hown, hts⟩ (cwV 1 hts gX0_canHear_X0_hasDesk rfl rfl rfl (by decide +kernel) ⟨(Nat.le_of_ble_eq_true rfl), (Nat.le_of_ble_eq_true rfl)⟩) hN hK hP hD hS hA [0] [] rfl rfl (by decide) (by decide) (by decide) rfl rfl rfl hl.1 rfl (Nat.le_of_ble_eq_true rfl) dX0_canHear_14 ⟨(Nat.le_of_ble_eq_true rfl), (Nat.le_of_ble_eq_true rfl)⟩ (fun u68 H locs _ hP hD hS => ?_)
      have hP : va_P (dC, dI) vwCl [(a_t, .inr (0, [.int t_desks, .ref a_t_kind, .ref a_t_leanTold, .ref a_t_needs, .ref a_t_firstHears, .ref a_t_group, .ref a_t_firstPitch, .int t_oboe, .int t_slip, .int t_warmth, .int t_unheard]))] H := hP
      have hD : va_D A [(a_t, .inr (0, [.int t_desks, .ref a_t_kind, .ref a_t_leanTold, .ref a_t_needs, .ref a_t_firstHears, .ref a_t_group, .ref a_t_firstPitch, .int t_oboe, .int t_slip, .int t_warmth, .int t_unheard]))] := hD
      refine lv_if_eq (tgt := 29) hx hb dX0_canHear_17 (by decide) (fun c_17 => ?_) (fun c_17 => ?_)
      · have h := (if_pos c_17).symm.trans h
        refine lv_iconst (v := (0 : Int32)) hx hb dX0_canHear_29 (by decide) ?_
        obtain rfl := Option.some.inj h
        subst hQe
        exact W.zret (v := (0 : Int32)) (ty := .boolean) hx hb hr rfl (fun t ht hW => ⟨⟨(0 : Int32), (), rfl, rfl, ⟨by rw [ht]; exact hP, hD⟩⟩, hS.F ht⟩) hS.2.2 dX0_canHear_30
      · have h := (if_neg c_17).symm.trans h
        refine lv_iload_n hx hb dX0_canHear_20 rfl (lv_at hl 2 rfl) ?_
        refine lv_iload_n hx hb dX0_canHear_21 rfl (lv_at hl 1 rfl) ?_
        refine lv_icmp_eq (tgt := 29) hx hb dX0_canHear_22 (by decide) (fun c_22 => ?_) (fun c_22 => ?_)
        · have h := (if_pos c_22).symm.trans h
          refine lv_iconst (v := (0 : Int32)) hx hb dX0_canHear_29 (by decide) ?_
          obtain rfl := Option.some.inj h
          subst hQe
          exact W.zret (v := (0 : Int32)) (ty := .boolean) hx hb hr rfl (fun t ht hW => ⟨⟨(0 : Int32), (), rfl, rfl, ⟨by rw [ht]; exact hP, hD⟩⟩, hS.F ht⟩) hS.2.2 dX0_canHear_30
        · have h := (if_neg c_22).symm.trans h
          refine lv_iconst (v := (1 : Int32)) hx hb dX0_canHear_25 (by decide) ?_
          refine lv_goto (tgt := 30) hx hb dX0_canHear_26 (by decide) ?_
          obtain rfl := Option.some.inj h
          subst hQe
          exact W.zret (v := (1 : Int32)) (ty := .boolean) hx hb hr rfl (fun t ht hW => ⟨⟨(1 : Int32), (), rfl, rfl, ⟨by rw [ht]; exact hP, hD⟩⟩, hS.F ht⟩) hS.2.2 dX0_canHear_30
def rm_X0_canBeLaid : Room := { frames := 2, cells := 0, slots := 0, locals := 43 }
set_option maxRecDepth 100000 in
set_option maxHeartbeats 8000000 in
theorem c_X0_canBeLaid (l : Launch) (dC : Nat → ClassId) (dI : Nat → Nat → Nat) (cI cS : ClassId) (n sz : Nat) (a_t : Nat) (a_t_kind : Nat) (a_t_leanTold : Nat) (a_t_needs : Nat) (a_t_firstHears : Nat) (a_t_group : Nat) (a_t_firstPitch : Nat) (t_desks : Int32) (t_firstHears : Nat → Int32) (t_oboe : Int32) (t_slip : Int32) (t_warmth : Int32) (t_unheard : Int32) (res : Int32)  (h : F_X0_canBeLaid n t_desks t_firstHears = some res) : Met l yX0_canBeLaid wsX0_canBeLaid rm_X0_canBeLaid (va_Pc [.ref a_t] (PRE (dC, dI) vwCl [(cI, .int), (cS, .object "RoundOfTheA$State")] sz [(a_t, .inr (0, [.int t_desks, .ref a_t_kind, .ref a_t_leanTold, .ref a_t_needs, .ref a_t_firstHears, .ref a_t_group, .ref a_t_firstPitch, .int t_oboe, .int t_slip, .int t_warmth, .int t_unheard])), (a_t_firstHears, .inl (cI, 8, .inl t_firstHears))])) (va_Qi (fun (r : Int32) (_ : Unit) => r = res) (fun u t => POST (dC, dI) vwCl [(a_t, .inr (0, [.int t_desks, .ref a_t_kind, .ref a_t_leanTold, .ref a_t_needs, .ref a_t_firstHears, .ref a_t_group, .ref a_t_firstPitch, .int t_oboe, .int t_slip, .int t_warmth, .int t_unheard])), (a_t_firstHears, .inl (cI, 8, .inl t_firstHears))] (va_A [(a_t, .inr (0, [.int t_desks, .ref a_t_kind, .ref a_t_leanTold, .ref a_t_needs, .ref a_t_firstHears, .ref a_t_group, .ref a_t_firstPitch, .int t_oboe, .int t_slip, .int t_warmth, .int t_unheard])), (a_t_firstHears, .inl (cI, 8, .inl t_firstHears))] sz) t) (va_A [(a_t, .inr (0, [.int t_desks, .ref a_t_kind, .ref a_t_leanTold, .ref a_t_needs, .ref a_t_firstHears, .ref a_t_group, .ref a_t_firstPitch, .int t_oboe, .int t_slip, .int t_warmth, .int t_unheard])), (a_t_firstHears, .inl (cI, 8, .inl t_firstHears))] sz)) 0 0 (va_A [(a_t, .inr (0, [.int t_desks, .ref a_t_kind, .ref a_t_leanTold, .ref a_t_needs, .ref a_t_firstHears, .ref a_t_group, .ref a_t_firstPitch, .int t_oboe, .int t_slip, .int t_warmth, .int t_unheard])), (a_t_firstHears, .inl (cI, 8, .inl t_firstHears))] sz) := by
  refine Met.ofW (cc := cX0_canBeLaid) (maxL := 2) (ret := (some .boolean)) (by decide) rfl ?_
  intro p e s m args below meth c s₁ B hml hv
  obtain ⟨rfl, hsz, hN, hP, hK, hD0⟩ := hv
  have hx := B.exec
  have hb := B.bytes
  have hr := B.returns
  have hts := atoms_spec (ws := wsX0_canBeLaid) B.pre
  have hown : s.vm.findClass RX0 = some m.cls := findClass_of_methodNamed B.named
  have hlocks := B.notSynchronized
  subst hsz
  have hD := hD0.self (sz := s.heap.size)
  generalize hAe : va_A [(a_t, .inr (0, [.int t_desks, .ref a_t_kind, .ref a_t_leanTold, .ref a_t_needs, .ref a_t_firstHears, .ref a_t_group, .ref a_t_firstPitch, .int t_oboe, .int t_slip, .int t_warmth, .int t_unheard])), (a_t_firstHears, .inl (cI, 8, .inl t_firstHears))] s.heap.size = A at hD ⊢
  have hA : ∀ q : Nat, s.heap.size ≤ q → A q := fun q h => by rw [← hAe]; exact Or.inr h
  have hS : va_S A s.heap s.heap [] := va_S.rf
  generalize hQe : MQ below _ _ s _ _ A = QQ
  have hl := lv_entry ([.ref a_t]) (n := 2) (Nat.le_of_ble_eq_true rfl)
  rw [lg_entry_eq]
  generalize (lg_sl ([.ref a_t]) ++ List.replicate (2 - (lg_sl ([.ref a_t])).length) Slot.unset).toArray = ls at hl ⊢
  have hl : lv_has ls 2 [(0, .ref a_t)] := hl
  have f_30 := hts (.fieldLink RX0 30 "RoundOfTheA$Hall" "desks" "I") (by decide +kernel)
  have in_X0 := (by decide +kernel : ∀ w ∈ wsX00, w ∈ wsX0_canBeLaid)
  have f_21 := hts (.fieldLink RX0 21 "RoundOfTheA$Hall" "firstHears" "[I") (by decide +kernel)
  rw [F_X0_canBeLaid] at h
  refine lv_iconst (v := (0 : Int32)) hx hb dX0_canBeLaid_0 (by decide) ?_
  refine lv_istore_n (lv' := [(1, .int (0 : Int32)), (0, .ref a_t)]) hx hb dX0_canBeLaid_1 rfl hl (by decide) rfl (fun ls hl => ?_)
  have K2 : ∀ (k : Nat) (y1_2 : Int32), L_X0_canBeLaid_2 n t_desks t_firstHears k y1_2 = some res → ∀ (H : Heap) (locs : List Loc), va_P (dC, dI) vwCl [(a_t, .inr (0, [.int t_desks, .ref a_t_kind, .ref a_t_leanTold, .ref a_t_needs, .ref a_t_firstHears, .ref a_t_group, .ref a_t_firstPitch, .int t_oboe, .int t_slip, .int t_warmth, .int t_unheard])), (a_t_firstHears, .inl (cI, 8, .inl t_firstHears))] H → va_D A [(a_t, .inr (0, [.int t_desks, .ref a_t_kind, .ref a_t_leanTold, .ref a_t_needs, .ref a_t_firstHears, .ref a_t_group, .ref a_t_firstPitch, .int t_oboe, .int t_slip, .int t_warmth, .int t_unheard])), (a_t_firstHears, .inl (cI, 8, .inl t_firstHears))] → va_S A s.heap H locs → ∀ ls : Array Slot, lv_has ls 2 [(0, .ref a_t), (1, .int y1_2)] → W p l e (headSpec wsX0_canBeLaid rm_X0_canBeLaid).room s m ([.ref a_t] : List Value).toArray below meth c H locs 0 0 QQ (F0 m 2 ls []) := by
    intro k
    induction k with
    | zero =>
      intro y1_2 h
      rw [L_X0_canBeLaid_2] at h
      cases h
    | succ k ih =>
      intro y1_2 h H locs hP hD hS ls hl
      rw [L_X0_canBeLaid_2] at h
      refine lv_iload_n hx hb dX0_canBeLaid_2 rfl (lv_at hl 1 rfl) ?_
      refine lv_aload_n hx hb dX0_canBeLaid_3 rfl (lv_at hl 0 rfl) ?_
      refine va_get (D := (dC, dI)) (ci := 0) (v := .int t_desks) (C := RX0) (T := TX0) (N := 11) hx hb hts in_X0 hown hK hP 0 rfl rfl 0 (by decide) f_30 (fun _ h9 => h9) rfl dX0_canBeLaid_4 ?_
      refine lv_icmp_ge (tgt := 32) hx hb dX0_canBeLaid_7 (by decide) (fun c_7 => ?_) (fun c_7 => ?_)
      · have h := (if_pos c_7).symm.trans h
        refine lv_aload_n hx hb dX0_canBeLaid_32 rfl (lv_at hl 0 rfl) ?_
        refine va_get (D := (dC, dI)) (ci := 0) (v := .int t_desks) (C := RX0) (T := TX0) (N := 11) hx hb hts in_X0 hown hK hP 0 rfl rfl 0 (by decide) f_30 (fun _ h9 => h9) rfl dX0_canBeLaid_33 ?_
        refine lv_if_le (tgt := 43) hx hb dX0_canBeLaid_36 (by decide) (fun c_36 => ?_) (fun c_36 => ?_)
        · have h := (if_pos c_36).symm.trans h
          refine lv_iconst (v := (0 : Int32)) hx hb dX0_canBeLaid_43 (by decide) ?_
          obtain rfl := Option.some.inj h
          subst hQe
          exact W.zret (v := (0 : Int32)) (ty := .boolean) hx hb hr rfl (fun t ht hW => ⟨⟨(0 : Int32), (), rfl, rfl, ⟨by rw [ht]; exact hP, hD⟩⟩, hS.F ht⟩) hS.2.2 dX0_canBeLaid_44
        · have h := (if_neg c_36).symm.trans h
          refine lv_iconst (v := (1 : Int32)) hx hb dX0_canBeLaid_39 (by decide) ?_
          refine lv_goto (tgt := 44) hx hb dX0_canBeLaid_40 (by decide) ?_
          obtain rfl := Option.some.inj h
          subst hQe
          exact W.zret (v := (1 : Int32)) (ty := .boolean) hx hb hr rfl (fun t ht hW => ⟨⟨(1 : Int32), (), rfl, rfl, ⟨by rw [ht]; exact hP, hD⟩⟩, hS.F ht⟩) hS.2.2 dX0_canBeLaid_44
      · have h := (if_neg c_7).symm.trans h
        refine lv_aload_n hx hb dX0_canBeLaid_10 rfl (lv_at hl 0 rfl) ?_
        refine lv_iload_n hx hb dX0_canBeLaid_11 rfl (lv_at hl 1 rfl) ?_
        refine lv_aload_n hx hb dX0_canBeLaid_12 rfl (lv_at hl 0 rfl) ?_
        refine va_get (D := (dC, dI)) (ci := 0) (v := .ref a_t_firstHears) (C := RX0) (T := TX0) (N := 11) hx hb hts in_X0 hown hK hP 0 rfl rfl 4 (by decide) f_21 (fun _ h9 => h9) rfl dX0_canBeLaid_13 ?_
        refine lv_iload_n hx hb dX0_canBeLaid_16 rfl (lv_at hl 1 rfl) ?_
        obtain ⟨v86, hv86, h⟩ := ob h
        refine k_ld hx hb hK hP 1 0 rfl rfl hv86 dX0_canBeLaid_17 ?_
        obtain ⟨r87, hr87, h⟩ := ob h
        refine k_Vi (As := [.int y1_2, .int v86]) (rest := []) (wr := [(a_t_firstHears, .inl (cI, 8, .inl t_firstHears))]) (c_X0_canHear l dC dI cI cS n _ a_t a_t_kind a_t_leanTold a_t_needs a_t_firstHears a_t_group a_t_firstPitch t_desks t_oboe t_slip t_warmth t_unheard y1_2 v86 r87 hr87) (fun _ _ q => q) ⟨hx, hb, hml, hown, hts⟩ (cwV 2 hts gX0_canBeLaid_X0_canHear rfl rfl rfl (by decide +kernel) ⟨(Nat.le_of_ble_eq_true rfl), (Nat.le_of_ble_eq_true rfl)⟩) hN hK hP hD hS hA [0] [1] rfl rfl (by decide) (by decide) (by decide) rfl rfl rfl hl.1 rfl (Nat.le_of_ble_eq_true rfl) dX0_canBeLaid_18 ⟨(Nat.le_of_ble_eq_true rfl), (Nat.le_of_ble_eq_true rfl)⟩ (fun u88 H locs _ hP hD hS => ?_)
        have hP : va_P (dC, dI) vwCl [(a_t_firstHears, .inl (cI, 8, .inl t_firstHears)), (a_t, .inr (0, [.int t_desks, .ref a_t_kind, .ref a_t_leanTold, .ref a_t_needs, .ref a_t_firstHears, .ref a_t_group, .ref a_t_firstPitch, .int t_oboe, .int t_slip, .int t_warmth, .int t_unheard]))] H := hP
        have hD : va_D A [(a_t_firstHears, .inl (cI, 8, .inl t_firstHears)), (a_t, .inr (0, [.int t_desks, .ref a_t_kind, .ref a_t_leanTold, .ref a_t_needs, .ref a_t_firstHears, .ref a_t_group, .ref a_t_firstPitch, .int t_oboe, .int t_slip, .int t_warmth, .int t_unheard]))] := hD
        refine lv_if_ne (tgt := 26) hx hb dX0_canBeLaid_21 (by decide) (fun c_21 => ?_) (fun c_21 => ?_)
        · have h := (if_neg c_21).symm.trans h
          refine lv_iinc (v := (y1_2 + (1 : Int32))) (lv' := [(1, .int (y1_2 + (1 : Int32))), (0, .ref a_t)]) hx hb dX0_canBeLaid_26 hl (k := 1) rfl rfl (by decide) rfl (fun ls hl => ?_)
          refine lv_goto (tgt := 2) hx hb dX0_canBeLaid_29 (by decide) ?_
          exact ih _ h _ _ (hP.sub [1, 0] rfl) (hD.sub [1, 0] (by decide +kernel) rfl) hS _ (lv_sub hl [1, 0] rfl)
        · have h := (if_pos c_21).symm.trans h
          refine lv_iconst (v := (0 : Int32)) hx hb dX0_canBeLaid_24 (by decide) ?_
          obtain rfl := Option.some.inj h
          subst hQe
          exact W.zret (v := (0 : Int32)) (ty := .boolean) hx hb hr rfl (fun t ht hW => ⟨⟨(0 : Int32), (), rfl, rfl, ⟨by rw [ht]; exact hP.sub [1, 0] rfl, hD.sub [1, 0] (by decide +kernel) rfl⟩⟩, hS.F ht⟩) hS.2.2 dX0_canBeLaid_25
  exact K2 n (0 : Int32) h _ _ hP hD hS _ (lv_sub hl [1, 0] rfl)
def rm_X0_leanOf : Room := { frames := 1, cells := 0, slots := 0, locals := 21 }
set_option maxRecDepth 100000 in
set_option maxHeartbeats 8000000 in
theorem c_X0_leanOf (l : Launch) (dC : Nat → ClassId) (dI : Nat → Nat → Nat) (cI cS : ClassId) (n sz : Nat) (a_t : Nat) (a_t_kind : Nat) (a_t_leanTold : Nat) (a_t_needs : Nat) (a_t_firstHears : Nat) (a_t_group : Nat) (a_t_firstPitch : Nat) (t_desks : Int32) (t_leanTold : Nat → Int32) (t_oboe : Int32) (t_slip : Int32) (t_warmth : Int32) (t_unheard : Int32) (x1 : Int32) (res : Int32)  (h : F_X0_leanOf n t_desks t_leanTold x1 = some res) : Met l yX0_leanOf wsX0_leanOf rm_X0_leanOf (va_Pc [.ref a_t, .int x1] (PRE (dC, dI) vwCl [(cI, .int), (cS, .object "RoundOfTheA$State")] sz [(a_t, .inr (0, [.int t_desks, .ref a_t_kind, .ref a_t_leanTold, .ref a_t_needs, .ref a_t_firstHears, .ref a_t_group, .ref a_t_firstPitch, .int t_oboe, .int t_slip, .int t_warmth, .int t_unheard])), (a_t_leanTold, .inl (cI, 8, .inl t_leanTold))])) (va_Qi (fun (r : Int32) (_ : Unit) => r = res) (fun u t => POST (dC, dI) vwCl [(a_t, .inr (0, [.int t_desks, .ref a_t_kind, .ref a_t_leanTold, .ref a_t_needs, .ref a_t_firstHears, .ref a_t_group, .ref a_t_firstPitch, .int t_oboe, .int t_slip, .int t_warmth, .int t_unheard])), (a_t_leanTold, .inl (cI, 8, .inl t_leanTold))] (va_A [(a_t, .inr (0, [.int t_desks, .ref a_t_kind, .ref a_t_leanTold, .ref a_t_needs, .ref a_t_firstHears, .ref a_t_group, .ref a_t_firstPitch, .int t_oboe, .int t_slip, .int t_warmth, .int t_unheard])), (a_t_leanTold, .inl (cI, 8, .inl t_leanTold))] sz) t) (va_A [(a_t, .inr (0, [.int t_desks, .ref a_t_kind, .ref a_t_leanTold, .ref a_t_needs, .ref a_t_firstHears, .ref a_t_group, .ref a_t_firstPitch, .int t_oboe, .int t_slip, .int t_warmth, .int t_unheard])), (a_t_leanTold, .inl (cI, 8, .inl t_leanTold))] sz)) 0 0 (va_A [(a_t, .inr (0, [.int t_desks, .ref a_t_kind, .ref a_t_leanTold, .ref a_t_needs, .ref a_t_firstHears, .ref a_t_group, .ref a_t_firstPitch, .int t_oboe, .int t_slip, .int t_warmth, .int t_unheard])), (a_t_leanTold, .inl (cI, 8, .inl t_leanTold))] sz) := by
  refine Met.ofW (cc := cX0_leanOf) (maxL := 2) (ret := (some .int)) (by decide) rfl ?_
  intro p e s m args below meth c s₁ B hml hv
  obtain ⟨rfl, hsz, hN, hP, hK, hD0⟩ := hv
  have hx := B.exec
  have hb := B.bytes
  have hr := B.returns
  have hts := atoms_spec (ws := wsX0_leanOf) B.pre
  have hown : s.vm.findClass RX0 = some m.cls := findClass_of_methodNamed B.named
  have hlocks := B.notSynchronized
  subst hsz
  have hD := hD0.self (sz := s.heap.size)
  generalize hAe : va_A [(a_t, .inr (0, [.int t_desks, .ref a_t_kind, .ref a_t_leanTold, .ref a_t_needs, .ref a_t_firstHears, .ref a_t_group, .ref a_t_firstPitch, .int t_oboe, .int t_slip, .int t_warmth, .int t_unheard])), (a_t_leanTold, .inl (cI, 8, .inl t_leanTold))] s.heap.size = A at hD ⊢
  have hA : ∀ q : Nat, s.heap.size ≤ q → A q := fun q h => by rw [← hAe]; exact Or.inr h
  have hS : va_S A s.heap s.heap [] := va_S.rf
  generalize hQe : MQ below _ _ s _ _ A = QQ
  have hl := lv_entry ([.ref a_t, .int x1]) (n := 2) (Nat.le_of_ble_eq_true rfl)
  rw [lg_entry_eq]
  generalize (lg_sl ([.ref a_t, .int x1]) ++ List.replicate (2 - (lg_sl ([.ref a_t, .int x1])).length) Slot.unset).toArray = ls at hl ⊢
  have hl : lv_has ls 2 [(0, .ref a_t), (1, .int x1)] := hl
  have f_15 := hts (.fieldLink RX0 15 "RoundOfTheA$Hall" "leanTold" "[I") (by decide +kernel)
  have in_X0 := (by decide +kernel : ∀ w ∈ wsX00, w ∈ wsX0_leanOf)
  rw [F_X0_leanOf] at h
  refine lv_aload_n hx hb dX0_leanOf_0 rfl (lv_at hl 0 rfl) ?_
  refine lv_iload_n hx hb dX0_leanOf_1 rfl (lv_at hl 1 rfl) ?_
  obtain ⟨r92, hr92, h⟩ := ob h
  refine k_Vi (As := [.int x1]) (rest := []) (wr := [(a_t_leanTold, .inl (cI, 8, .inl t_leanTold))]) (c_X0_hasDesk l dC dI cI cS n _ a_t a_t_kind a_t_leanTold a_t_needs a_t_firstHears a_t_group a_t_firstPitch t_desks t_oboe t_slip t_warmth t_unheard x1 r92 hr92) (fun _ _ q => q) ⟨hx, hb, hml, hown, hts⟩ (cwV 1 hts gX0_leanOf_X0_hasDesk rfl rfl rfl (by decide +kernel) ⟨(Nat.le_of_ble_eq_true rfl), (Nat.le_of_ble_eq_true rfl)⟩) hN hK hP hD hS hA [0] [1] rfl rfl (by decide) (by decide) (by decide) rfl rfl rfl hl.1 rfl (Nat.le_of_ble_eq_true rfl) dX0_leanOf_2 ⟨(Nat.le_of_ble_eq_true rfl), (Nat.le_of_ble_eq_true rfl)⟩ (fun u93 H locs _ hP hD hS => ?_)
  have hP : va_P (dC, dI) vwCl [(a_t_leanTold, .inl (cI, 8, .inl t_leanTold)), (a_t, .inr (0, [.int t_desks, .ref a_t_kind, .ref a_t_leanTold, .ref a_t_needs, .ref a_t_firstHears, .ref a_t_group, .ref a_t_firstPitch, .int t_oboe, .int t_slip, .int t_warmth, .int t_unheard]))] H := hP
  have hD : va_D A [(a_t_leanTold, .inl (cI, 8, .inl t_leanTold)), (a_t, .inr (0, [.int t_desks, .ref a_t_kind, .ref a_t_leanTold, .ref a_t_needs, .ref a_t_firstHears, .ref a_t_group, .ref a_t_firstPitch, .int t_oboe, .int t_slip, .int t_warmth, .int t_unheard]))] := hD
  refine lv_if_eq (tgt := 19) hx hb dX0_leanOf_5 (by decide) (fun c_5 => ?_) (fun c_5 => ?_)
  · have h := (if_pos c_5).symm.trans h
    refine lv_iconst (v := (0 : Int32)) hx hb dX0_leanOf_19 (by decide) ?_
    obtain rfl := Option.some.inj h
    subst hQe
    exact W.iret (v := (0 : Int32)) hx hb hr (fun t ht hW => ⟨⟨(0 : Int32), (), rfl, rfl, ⟨by rw [ht]; exact hP.sub [1, 0] rfl, hD.sub [1, 0] (by decide +kernel) rfl⟩⟩, hS.F ht⟩) hS.2.2 dX0_leanOf_20
  · have h := (if_neg c_5).symm.trans h
    refine lv_aload_n hx hb dX0_leanOf_8 rfl (lv_at hl 0 rfl) ?_
    refine va_get (D := (dC, dI)) (ci := 0) (v := .ref a_t_leanTold) (C := RX0) (T := TX0) (N := 11) hx hb hts in_X0 hown hK hP 1 rfl rfl 2 (by decide) f_15 (fun _ h9 => h9) rfl dX0_leanOf_9 ?_
    refine lv_iload_n hx hb dX0_leanOf_12 rfl (lv_at hl 1 rfl) ?_
    obtain ⟨v94, hv94, h⟩ := ob h
    refine k_ld hx hb hK hP 0 0 rfl rfl hv94 dX0_leanOf_13 ?_
    refine lv_iconst (v := (3 : Int32)) hx hb dX0_leanOf_14 (by decide) ?_
    refine lv_isub hx hb dX0_leanOf_15 ?_
    refine lv_goto (tgt := 20) hx hb dX0_leanOf_16 (by decide) ?_
    obtain rfl := Option.some.inj h
    subst hQe
    exact W.iret (v := (v94 - (3 : Int32))) hx hb hr (fun t ht hW => ⟨⟨(v94 - (3 : Int32)), (), rfl, rfl, ⟨by rw [ht]; exact hP.sub [1, 0] rfl, hD.sub [1, 0] (by decide +kernel) rfl⟩⟩, hS.F ht⟩) hS.2.2 dX0_leanOf_20
def rm_X0_hairsADegree : Room := { frames := 1, cells := 0, slots := 0, locals := 21 }
set_option maxRecDepth 100000 in
set_option maxHeartbeats 8000000 in
theorem c_X0_hairsADegree (l : Launch) (dC : Nat → ClassId) (dI : Nat → Nat → Nat) (cI cS : ClassId) (n sz : Nat) (a_t : Nat) (a_t_kind : Nat) (a_t_leanTold : Nat) (a_t_needs : Nat) (a_t_firstHears : Nat) (a_t_group : Nat) (a_t_firstPitch : Nat) (t_desks : Int32) (t_kind : Nat → Int32) (t_oboe : Int32) (t_slip : Int32) (t_warmth : Int32) (t_unheard : Int32) (x1 : Int32) (res : Int32)  (h : F_X0_hairsADegree n t_desks t_kind x1 = some res) : Met l yX0_hairsADegree wsX0_hairsADegree rm_X0_hairsADegree (va_Pc [.ref a_t, .int x1] (PRE (dC, dI) vwCl [(cI, .int), (cS, .object "RoundOfTheA$State")] sz [(a_t, .inr (0, [.int t_desks, .ref a_t_kind, .ref a_t_leanTold, .ref a_t_needs, .ref a_t_firstHears, .ref a_t_group, .ref a_t_firstPitch, .int t_oboe, .int t_slip, .int t_warmth, .int t_unheard])), (a_t_kind, .inl (cI, 8, .inl t_kind))])) (va_Qi (fun (r : Int32) (_ : Unit) => r = res) (fun u t => POST (dC, dI) vwCl [(a_t, .inr (0, [.int t_desks, .ref a_t_kind, .ref a_t_leanTold, .ref a_t_needs, .ref a_t_firstHears, .ref a_t_group, .ref a_t_firstPitch, .int t_oboe, .int t_slip, .int t_warmth, .int t_unheard])), (a_t_kind, .inl (cI, 8, .inl t_kind))] (va_A [(a_t, .inr (0, [.int t_desks, .ref a_t_kind, .ref a_t_leanTold, .ref a_t_needs, .ref a_t_firstHears, .ref a_t_group, .ref a_t_firstPitch, .int t_oboe, .int t_slip, .int t_warmth, .int t_unheard])), (a_t_kind, .inl (cI, 8, .inl t_kind))] sz) t) (va_A [(a_t, .inr (0, [.int t_desks, .ref a_t_kind, .ref a_t_leanTold, .ref a_t_needs, .ref a_t_firstHears, .ref a_t_group, .ref a_t_firstPitch, .int t_oboe, .int t_slip, .int t_warmth, .int t_unheard])), (a_t_kind, .inl (cI, 8, .inl t_kind))] sz)) 0 0 (va_A [(a_t, .inr (0, [.int t_desks, .ref a_t_kind, .ref a_t_leanTold, .ref a_t_needs, .ref a_t_firstHears, .ref a_t_group, .ref a_t_firstPitch, .int t_oboe, .int t_slip, .int t_warmth, .int t_unheard])), (a_t_kind, .inl (cI, 8, .inl t_kind))] sz) := by
  refine Met.ofW (cc := cX0_hairsADegree) (maxL := 2) (ret := (some .int)) (by decide) rfl ?_
  intro p e s m args below meth c s₁ B hml hv
  obtain ⟨rfl, hsz, hN, hP, hK, hD0⟩ := hv
  have hx := B.exec
  have hb := B.bytes
  have hr := B.returns
  have hts := atoms_spec (ws := wsX0_hairsADegree) B.pre
  have hown : s.vm.findClass RX0 = some m.cls := findClass_of_methodNamed B.named
  have hlocks := B.notSynchronized
  subst hsz
  have hD := hD0.self (sz := s.heap.size)
  generalize hAe : va_A [(a_t, .inr (0, [.int t_desks, .ref a_t_kind, .ref a_t_leanTold, .ref a_t_needs, .ref a_t_firstHears, .ref a_t_group, .ref a_t_firstPitch, .int t_oboe, .int t_slip, .int t_warmth, .int t_unheard])), (a_t_kind, .inl (cI, 8, .inl t_kind))] s.heap.size = A at hD ⊢
  have hA : ∀ q : Nat, s.heap.size ≤ q → A q := fun q h => by rw [← hAe]; exact Or.inr h
  have hS : va_S A s.heap s.heap [] := va_S.rf
  generalize hQe : MQ below _ _ s _ _ A = QQ
  have hl := lv_entry ([.ref a_t, .int x1]) (n := 2) (Nat.le_of_ble_eq_true rfl)
  rw [lg_entry_eq]
  generalize (lg_sl ([.ref a_t, .int x1]) ++ List.replicate (2 - (lg_sl ([.ref a_t, .int x1])).length) Slot.unset).toArray = ls at hl ⊢
  have hl : lv_has ls 2 [(0, .ref a_t), (1, .int x1)] := hl
  have f_9 := hts (.fieldLink RX0 9 "RoundOfTheA$Hall" "kind" "[I") (by decide +kernel)
  have in_X0 := (by decide +kernel : ∀ w ∈ wsX00, w ∈ wsX0_hairsADegree)
  rw [F_X0_hairsADegree] at h
  refine lv_aload_n hx hb dX0_hairsADegree_0 rfl (lv_at hl 0 rfl) ?_
  refine lv_iload_n hx hb dX0_hairsADegree_1 rfl (lv_at hl 1 rfl) ?_
  obtain ⟨r98, hr98, h⟩ := ob h
  refine k_Vi (As := [.int x1]) (rest := []) (wr := [(a_t_kind, .inl (cI, 8, .inl t_kind))]) (c_X0_hasDesk l dC dI cI cS n _ a_t a_t_kind a_t_leanTold a_t_needs a_t_firstHears a_t_group a_t_firstPitch t_desks t_oboe t_slip t_warmth t_unheard x1 r98 hr98) (fun _ _ q => q) ⟨hx, hb, hml, hown, hts⟩ (cwV 1 hts gX0_hairsADegree_X0_hasDesk rfl rfl rfl (by decide +kernel) ⟨(Nat.le_of_ble_eq_true rfl), (Nat.le_of_ble_eq_true rfl)⟩) hN hK hP hD hS hA [0] [1] rfl rfl (by decide) (by decide) (by decide) rfl rfl rfl hl.1 rfl (Nat.le_of_ble_eq_true rfl) dX0_hairsADegree_2 ⟨(Nat.le_of_ble_eq_true rfl), (Nat.le_of_ble_eq_true rfl)⟩ (fun u99 H locs _ hP hD hS => ?_)
  have hP : va_P (dC, dI) vwCl [(a_t_kind, .inl (cI, 8, .inl t_kind)), (a_t, .inr (0, [.int t_desks, .ref a_t_kind, .ref a_t_leanTold, .ref a_t_needs, .ref a_t_firstHears, .ref a_t_group, .ref a_t_firstPitch, .int t_oboe, .int t_slip, .int t_warmth, .int t_unheard]))] H := hP
  have hD : va_D A [(a_t_kind, .inl (cI, 8, .inl t_kind)), (a_t, .inr (0, [.int t_desks, .ref a_t_kind, .ref a_t_leanTold, .ref a_t_needs, .ref a_t_firstHears, .ref a_t_group, .ref a_t_firstPitch, .int t_oboe, .int t_slip, .int t_warmth, .int t_unheard]))] := hD
  refine lv_if_ne (tgt := 10) hx hb dX0_hairsADegree_5 (by decide) (fun c_5 => ?_) (fun c_5 => ?_)
  · have h := (if_neg c_5).symm.trans h
    refine lv_aload_n hx hb dX0_hairsADegree_10 rfl (lv_at hl 0 rfl) ?_
    refine va_get (D := (dC, dI)) (ci := 0) (v := .ref a_t_kind) (C := RX0) (T := TX0) (N := 11) hx hb hts in_X0 hown hK hP 1 rfl rfl 1 (by decide) f_9 (fun _ h9 => h9) rfl dX0_hairsADegree_11 ?_
    refine lv_iload_n hx hb dX0_hairsADegree_14 rfl (lv_at hl 1 rfl) ?_
    obtain ⟨v100, hv100, h⟩ := ob h
    refine k_ld hx hb hK hP 0 0 rfl rfl hv100 dX0_hairsADegree_15 ?_
    by_cases e_16_0 : v100 = (0 : Int32)
    · have h := (if_pos e_16_0).symm.trans h
      refine lv_tableIn (off := 32) (tgt := 48) hx hb dX0_hairsADegree_16 (by rw [e_16_0]; decide) (by rw [e_16_0]; decide) (by rw [e_16_0]; rfl) (by decide) ?_
      refine lv_iconst (v := (-1 : Int32)) hx hb dX0_hairsADegree_48 (by decide) ?_
      obtain rfl := Option.some.inj h
      subst hQe
      exact W.iret (v := (-1 : Int32)) hx hb hr (fun t ht hW => ⟨⟨(-1 : Int32), (), rfl, rfl, ⟨by rw [ht]; exact hP.sub [1, 0] rfl, hD.sub [1, 0] (by decide +kernel) rfl⟩⟩, hS.F ht⟩) hS.2.2 dX0_hairsADegree_49
    have h := (if_neg e_16_0).symm.trans h
    by_cases e_16_1 : v100 = (1 : Int32)
    · have h := (if_pos e_16_1).symm.trans h
      refine lv_tableIn (off := 34) (tgt := 50) hx hb dX0_hairsADegree_16 (by rw [e_16_1]; decide) (by rw [e_16_1]; decide) (by rw [e_16_1]; rfl) (by decide) ?_
      refine lv_iconst (v := (1 : Int32)) hx hb dX0_hairsADegree_50 (by decide) ?_
      obtain rfl := Option.some.inj h
      subst hQe
      exact W.iret (v := (1 : Int32)) hx hb hr (fun t ht hW => ⟨⟨(1 : Int32), (), rfl, rfl, ⟨by rw [ht]; exact hP.sub [1, 0] rfl, hD.sub [1, 0] (by decide +kernel) rfl⟩⟩, hS.F ht⟩) hS.2.2 dX0_hairsADegree_51
    have h := (if_neg e_16_1).symm.trans h
    by_cases e_16_3 : v100 = (3 : Int32)
    · have h := (if_pos e_16_3).symm.trans h
      refine lv_tableIn (off := 36) (tgt := 52) hx hb dX0_hairsADegree_16 (by rw [e_16_3]; decide) (by rw [e_16_3]; decide) (by rw [e_16_3]; rfl) (by decide) ?_
      refine lv_bipush (v := (-2 : Int32)) hx hb dX0_hairsADegree_52 (by decide) ?_
      obtain rfl := Option.some.inj h
      subst hQe
      exact W.iret (v := (-2 : Int32)) hx hb hr (fun t ht hW => ⟨⟨(-2 : Int32), (), rfl, rfl, ⟨by rw [ht]; exact hP.sub [1, 0] rfl, hD.sub [1, 0] (by decide +kernel) rfl⟩⟩, hS.F ht⟩) hS.2.2 dX0_hairsADegree_54
    have h := (if_neg e_16_3).symm.trans h
    refine k_tableD (tgt := 55) hx hb dX0_hairsADegree_16 [0, 1, 3] (by decide +kernel) (by decide +kernel) (by simp only [List.mem_cons, List.not_mem_nil, or_false, not_or]; exact ⟨lv_neT e_16_0 (by decide), lv_neT e_16_1 (by decide), lv_neT e_16_3 (by decide)⟩) (by decide) ?_
    refine lv_iconst (v := (0 : Int32)) hx hb dX0_hairsADegree_55 (by decide) ?_
    obtain rfl := Option.some.inj h
    subst hQe
    exact W.iret (v := (0 : Int32)) hx hb hr (fun t ht hW => ⟨⟨(0 : Int32), (), rfl, rfl, ⟨by rw [ht]; exact hP.sub [1, 0] rfl, hD.sub [1, 0] (by decide +kernel) rfl⟩⟩, hS.F ht⟩) hS.2.2 dX0_hairsADegree_56
  · have h := (if_pos c_5).symm.trans h
    refine lv_iconst (v := (0 : Int32)) hx hb dX0_hairsADegree_8 (by decide) ?_
    obtain rfl := Option.some.inj h
    subst hQe
    exact W.iret (v := (0 : Int32)) hx hb hr (fun t ht hW => ⟨⟨(0 : Int32), (), rfl, rfl, ⟨by rw [ht]; exact hP.sub [1, 0] rfl, hD.sub [1, 0] (by decide +kernel) rfl⟩⟩, hS.F ht⟩) hS.2.2 dX0_hairsADegree_9
def rm_X0_allDesks : Room := { frames := 0, cells := 0, slots := 0, locals := 0 }
set_option maxRecDepth 100000 in
set_option maxHeartbeats 8000000 in
theorem c_X0_allDesks (l : Launch) (dC : Nat → ClassId) (dI : Nat → Nat → Nat) (cI cS : ClassId) (n sz : Nat) (a_t : Nat) (a_t_kind : Nat) (a_t_leanTold : Nat) (a_t_needs : Nat) (a_t_firstHears : Nat) (a_t_group : Nat) (a_t_firstPitch : Nat) (t_desks : Int32) (t_oboe : Int32) (t_slip : Int32) (t_warmth : Int32) (t_unheard : Int32) (res : Int32)  (h : F_X0_allDesks n t_desks = some res) : Met l yX0_allDesks wsX0_allDesks rm_X0_allDesks (va_Pc [.ref a_t] (PRE (dC, dI) vwCl [(cI, .int), (cS, .object "RoundOfTheA$State")] sz [(a_t, .inr (0, [.int t_desks, .ref a_t_kind, .ref a_t_leanTold, .ref a_t_needs, .ref a_t_firstHears, .ref a_t_group, .ref a_t_firstPitch, .int t_oboe, .int t_slip, .int t_warmth, .int t_unheard]))])) (va_Qi (fun (r : Int32) (_ : Unit) => r = res) (fun u t => POST (dC, dI) vwCl [(a_t, .inr (0, [.int t_desks, .ref a_t_kind, .ref a_t_leanTold, .ref a_t_needs, .ref a_t_firstHears, .ref a_t_group, .ref a_t_firstPitch, .int t_oboe, .int t_slip, .int t_warmth, .int t_unheard]))] (va_A [(a_t, .inr (0, [.int t_desks, .ref a_t_kind, .ref a_t_leanTold, .ref a_t_needs, .ref a_t_firstHears, .ref a_t_group, .ref a_t_firstPitch, .int t_oboe, .int t_slip, .int t_warmth, .int t_unheard]))] sz) t) (va_A [(a_t, .inr (0, [.int t_desks, .ref a_t_kind, .ref a_t_leanTold, .ref a_t_needs, .ref a_t_firstHears, .ref a_t_group, .ref a_t_firstPitch, .int t_oboe, .int t_slip, .int t_warmth, .int t_unheard]))] sz)) 0 0 (va_A [(a_t, .inr (0, [.int t_desks, .ref a_t_kind, .ref a_t_leanTold, .ref a_t_needs, .ref a_t_firstHears, .ref a_t_group, .ref a_t_firstPitch, .int t_oboe, .int t_slip, .int t_warmth, .int t_unheard]))] sz) := by
  refine Met.ofW (cc := cX0_allDesks) (maxL := 1) (ret := (some .int)) (by decide) rfl ?_
  intro p e s m args below meth c s₁ B hml hv
  obtain ⟨rfl, hsz, hN, hP, hK, hD0⟩ := hv
  have hx := B.exec
  have hb := B.bytes
  have hr := B.returns
  have hts := atoms_spec (ws := wsX0_allDesks) B.pre
  have hown : s.vm.findClass RX0 = some m.cls := findClass_of_methodNamed B.named
  have hlocks := B.notSynchronized
  subst hsz
  have hD := hD0.self (sz := s.heap.size)
  generalize hAe : va_A [(a_t, .inr (0, [.int t_desks, .ref a_t_kind, .ref a_t_leanTold, .ref a_t_needs, .ref a_t_firstHears, .ref a_t_group, .ref a_t_firstPitch, .int t_oboe, .int t_slip, .int t_warmth, .int t_unheard]))] s.heap.size = A at hD ⊢
  have hA : ∀ q : Nat, s.heap.size ≤ q → A q := fun q h => by rw [← hAe]; exact Or.inr h
  have hS : va_S A s.heap s.heap [] := va_S.rf
  generalize hQe : MQ below _ _ s _ _ A = QQ
  have hl := lv_entry ([.ref a_t]) (n := 1) (Nat.le_of_ble_eq_true rfl)
  rw [lg_entry_eq]
  generalize (lg_sl ([.ref a_t]) ++ List.replicate (1 - (lg_sl ([.ref a_t])).length) Slot.unset).toArray = ls at hl ⊢
  have hl : lv_has ls 1 [(0, .ref a_t)] := hl
  have f_30 := hts (.fieldLink RX0 30 "RoundOfTheA$Hall" "desks" "I") (by decide +kernel)
  have in_X0 := (by decide +kernel : ∀ w ∈ wsX00, w ∈ wsX0_allDesks)
  rw [F_X0_allDesks] at h
  refine lv_iconst (v := (1 : Int32)) hx hb dX0_allDesks_0 (by decide) ?_
  refine lv_aload_n hx hb dX0_allDesks_1 rfl (lv_at hl 0 rfl) ?_
  refine va_get (D := (dC, dI)) (ci := 0) (v := .int t_desks) (C := RX0) (T := TX0) (N := 11) hx hb hts in_X0 hown hK hP 0 rfl rfl 0 (by decide) f_30 (fun _ h9 => h9) rfl dX0_allDesks_2 ?_
  refine lv_ishl hx hb dX0_allDesks_5 ?_
  refine lv_iconst (v := (1 : Int32)) hx hb dX0_allDesks_6 (by decide) ?_
  refine lv_isub hx hb dX0_allDesks_7 ?_
  obtain rfl := Option.some.inj h
  subst hQe
  exact W.iret (v := (((1 : Int32) <<< (t_desks &&& 31)) - (1 : Int32))) hx hb hr (fun t ht hW => ⟨⟨(((1 : Int32) <<< (t_desks &&& 31)) - (1 : Int32)), (), rfl, rfl, ⟨by rw [ht]; exact hP, hD⟩⟩, hS.F ht⟩) hS.2.2 dX0_allDesks_8
def rm_X0_tunableOf : Room := { frames := 1, cells := 0, slots := 0, locals := 21 }
set_option maxRecDepth 100000 in
set_option maxHeartbeats 8000000 in
theorem c_X0_tunableOf (l : Launch) (dC : Nat → ClassId) (dI : Nat → Nat → Nat) (cI cS : ClassId) (n sz : Nat) (a_t : Nat) (a_t_kind : Nat) (a_t_leanTold : Nat) (a_t_needs : Nat) (a_t_firstHears : Nat) (a_t_group : Nat) (a_t_firstPitch : Nat) (t_desks : Int32) (t_kind : Nat → Int32) (t_oboe : Int32) (t_slip : Int32) (t_warmth : Int32) (t_unheard : Int32) (x1 : Int32) (res : Int32)  (h : F_X0_tunableOf n t_desks t_kind x1 = some res) : Met l yX0_tunableOf wsX0_tunableOf rm_X0_tunableOf (va_Pc [.ref a_t, .int x1] (PRE (dC, dI) vwCl [(cI, .int), (cS, .object "RoundOfTheA$State")] sz [(a_t, .inr (0, [.int t_desks, .ref a_t_kind, .ref a_t_leanTold, .ref a_t_needs, .ref a_t_firstHears, .ref a_t_group, .ref a_t_firstPitch, .int t_oboe, .int t_slip, .int t_warmth, .int t_unheard])), (a_t_kind, .inl (cI, 8, .inl t_kind))])) (va_Qi (fun (r : Int32) (_ : Unit) => r = res) (fun u t => POST (dC, dI) vwCl [(a_t, .inr (0, [.int t_desks, .ref a_t_kind, .ref a_t_leanTold, .ref a_t_needs, .ref a_t_firstHears, .ref a_t_group, .ref a_t_firstPitch, .int t_oboe, .int t_slip, .int t_warmth, .int t_unheard])), (a_t_kind, .inl (cI, 8, .inl t_kind))] (va_A [(a_t, .inr (0, [.int t_desks, .ref a_t_kind, .ref a_t_leanTold, .ref a_t_needs, .ref a_t_firstHears, .ref a_t_group, .ref a_t_firstPitch, .int t_oboe, .int t_slip, .int t_warmth, .int t_unheard])), (a_t_kind, .inl (cI, 8, .inl t_kind))] sz) t) (va_A [(a_t, .inr (0, [.int t_desks, .ref a_t_kind, .ref a_t_leanTold, .ref a_t_needs, .ref a_t_firstHears, .ref a_t_group, .ref a_t_firstPitch, .int t_oboe, .int t_slip, .int t_warmth, .int t_unheard])), (a_t_kind, .inl (cI, 8, .inl t_kind))] sz)) 0 0 (va_A [(a_t, .inr (0, [.int t_desks, .ref a_t_kind, .ref a_t_leanTold, .ref a_t_needs, .ref a_t_firstHears, .ref a_t_group, .ref a_t_firstPitch, .int t_oboe, .int t_slip, .int t_warmth, .int t_unheard])), (a_t_kind, .inl (cI, 8, .inl t_kind))] sz) := by
  refine Met.ofW (cc := cX0_tunableOf) (maxL := 4) (ret := (some .int)) (by decide) rfl ?_
  intro p e s m args below meth c s₁ B hml hv
  obtain ⟨rfl, hsz, hN, hP, hK, hD0⟩ := hv
  have hx := B.exec
  have hb := B.bytes
  have hr := B.returns
  have hts := atoms_spec (ws := wsX0_tunableOf) B.pre
  have hown : s.vm.findClass RX0 = some m.cls := findClass_of_methodNamed B.named
  have hlocks := B.notSynchronized
  subst hsz
  have hD := hD0.self (sz := s.heap.size)
  generalize hAe : va_A [(a_t, .inr (0, [.int t_desks, .ref a_t_kind, .ref a_t_leanTold, .ref a_t_needs, .ref a_t_firstHears, .ref a_t_group, .ref a_t_firstPitch, .int t_oboe, .int t_slip, .int t_warmth, .int t_unheard])), (a_t_kind, .inl (cI, 8, .inl t_kind))] s.heap.size = A at hD ⊢
  have hA : ∀ q : Nat, s.heap.size ≤ q → A q := fun q h => by rw [← hAe]; exact Or.inr h
  have hS : va_S A s.heap s.heap [] := va_S.rf
  generalize hQe : MQ below _ _ s _ _ A = QQ
  have hl := lv_entry ([.ref a_t, .int x1]) (n := 4) (Nat.le_of_ble_eq_true rfl)
  rw [lg_entry_eq]
  generalize (lg_sl ([.ref a_t, .int x1]) ++ List.replicate (4 - (lg_sl ([.ref a_t, .int x1])).length) Slot.unset).toArray = ls at hl ⊢
  have hl : lv_has ls 4 [(0, .ref a_t), (1, .int x1)] := hl
  have f_30 := hts (.fieldLink RX0 30 "RoundOfTheA$Hall" "desks" "I") (by decide +kernel)
  have in_X0 := (by decide +kernel : ∀ w ∈ wsX00, w ∈ wsX0_tunableOf)
  have k_iniX5 := hts (.initialized RX5) (by decide +kernel)
  have m_st_X5_isIn := hts (.static yX5_isIn) (by decide +kernel)
  have f_9 := hts (.fieldLink RX0 9 "RoundOfTheA$Hall" "kind" "[I") (by decide +kernel)
  rw [F_X0_tunableOf] at h
  refine lv_iconst (v := (0 : Int32)) hx hb dX0_tunableOf_0 (by decide) ?_
  refine lv_istore_n (lv' := [(2, .int (0 : Int32)), (0, .ref a_t), (1, .int x1)]) hx hb dX0_tunableOf_1 rfl hl (by decide) rfl (fun ls hl => ?_)
  refine lv_iconst (v := (0 : Int32)) hx hb dX0_tunableOf_2 (by decide) ?_
  refine lv_istore_n (lv' := [(3, .int (0 : Int32)), (2, .int (0 : Int32)), (0, .ref a_t), (1, .int x1)]) hx hb dX0_tunableOf_3 rfl hl (by decide) rfl (fun ls hl => ?_)
  obtain ⟨j131, hjj131, h⟩ := ob h
  have Jj131 : ∀ (H : Heap) (locs : List Loc), va_P (dC, dI) vwCl [(a_t, .inr (0, [.int t_desks, .ref a_t_kind, .ref a_t_leanTold, .ref a_t_needs, .ref a_t_firstHears, .ref a_t_group, .ref a_t_firstPitch, .int t_oboe, .int t_slip, .int t_warmth, .int t_unheard])), (a_t_kind, .inl (cI, 8, .inl t_kind))] H → va_D A [(a_t, .inr (0, [.int t_desks, .ref a_t_kind, .ref a_t_leanTold, .ref a_t_needs, .ref a_t_firstHears, .ref a_t_group, .ref a_t_firstPitch, .int t_oboe, .int t_slip, .int t_warmth, .int t_unheard])), (a_t_kind, .inl (cI, 8, .inl t_kind))] → va_S A s.heap H locs → ∀ ls : Array Slot, lv_has ls 4 [(0, .ref a_t), (1, .int x1), (2, .int j131.1), (3, .int j131.2)] → W p l e (headSpec wsX0_tunableOf rm_X0_tunableOf).room s m ([.ref a_t, .int x1] : List Value).toArray below meth c H locs 0 0 QQ (F0 m 42 ls []) := by
    intro H locs hP hD hS ls hl
    refine lv_iload_n hx hb dX0_tunableOf_42 rfl (lv_at hl 2 rfl) ?_
    obtain rfl := Option.some.inj h
    subst hQe
    exact W.iret (v := j131.1) hx hb hr (fun t ht hW => ⟨⟨j131.1, (), rfl, rfl, ⟨by rw [ht]; exact hP, hD⟩⟩, hS.F ht⟩) hS.2.2 dX0_tunableOf_43
  have K4 : ∀ (k : Nat) (y2_4 : Int32) (y3_4 : Int32), L_X0_tunableOf_4 n t_desks t_kind x1 k y2_4 y3_4 = some j131 → ∀ (H : Heap) (locs : List Loc), va_P (dC, dI) vwCl [(a_t, .inr (0, [.int t_desks, .ref a_t_kind, .ref a_t_leanTold, .ref a_t_needs, .ref a_t_firstHears, .ref a_t_group, .ref a_t_firstPitch, .int t_oboe, .int t_slip, .int t_warmth, .int t_unheard])), (a_t_kind, .inl (cI, 8, .inl t_kind))] H → va_D A [(a_t, .inr (0, [.int t_desks, .ref a_t_kind, .ref a_t_leanTold, .ref a_t_needs, .ref a_t_firstHears, .ref a_t_group, .ref a_t_firstPitch, .int t_oboe, .int t_slip, .int t_warmth, .int t_unheard])), (a_t_kind, .inl (cI, 8, .inl t_kind))] → va_S A s.heap H locs → ∀ ls : Array Slot, lv_has ls 4 [(0, .ref a_t), (1, .int x1), (2, .int y2_4), (3, .int y3_4)] → W p l e (headSpec wsX0_tunableOf rm_X0_tunableOf).room s m ([.ref a_t, .int x1] : List Value).toArray below meth c H locs 0 0 QQ (F0 m 4 ls []) := by
    intro k
    induction k with
    | zero =>
      intro y2_4 y3_4 h
      rw [L_X0_tunableOf_4] at h
      cases h
    | succ k ih =>
      intro y2_4 y3_4 h H locs hP hD hS ls hl
      rw [L_X0_tunableOf_4] at h
      refine lv_iload_n hx hb dX0_tunableOf_4 rfl (lv_at hl 3 rfl) ?_
      refine lv_aload_n hx hb dX0_tunableOf_5 rfl (lv_at hl 0 rfl) ?_
      refine va_get (D := (dC, dI)) (ci := 0) (v := .int t_desks) (C := RX0) (T := TX0) (N := 11) hx hb hts in_X0 hown hK hP 0 rfl rfl 0 (by decide) f_30 (fun _ h9 => h9) rfl dX0_tunableOf_6 ?_
      refine lv_icmp_ge (tgt := 42) hx hb dX0_tunableOf_9 (by decide) (fun c_9 => ?_) (fun c_9 => ?_)
      · have h := (if_pos c_9).symm.trans h
        obtain rfl := Option.some.inj h
        exact Jj131 _ _ hP hD hS _ hl
      · have h := (if_neg c_9).symm.trans h
        refine lv_iload_n hx hb dX0_tunableOf_12 rfl (lv_at hl 1 rfl) ?_
        refine lv_iload_n hx hb dX0_tunableOf_13 rfl (lv_at hl 3 rfl) ?_
        obtain ⟨r132, hr132, h⟩ := ob h
        refine k_Ni (As := [.int x1, .int y3_4]) (rest := []) (c_X5_isIn l dC dI cI cS n _ x1 y3_4 r132 hr132) (fun _ _ q => q) ⟨hx, hb, hml, hown, hts⟩ (va_cnB 2 hts gX0_tunableOf_X5_isIn_n54 rfl rfl rfl (hN.1 _ (List.mem_of_getElem? (i := 7) rfl)) k_iniX5 (by decide +kernel) ⟨(Nat.le_of_ble_eq_true rfl), (Nat.le_of_ble_eq_true rfl)⟩) m_st_X5_isIn hN hK hP hD hS hA rfl hl.1 rfl (Nat.le_of_ble_eq_true rfl) dX0_tunableOf_14 ⟨(Nat.le_of_ble_eq_true rfl), (Nat.le_of_ble_eq_true rfl)⟩ (fun H locs hP hD hS => ?_)
        obtain ⟨j135, hjj135, h⟩ := ob h
        have Jj135 : ∀ (H : Heap) (locs : List Loc), va_P (dC, dI) vwCl [(a_t, .inr (0, [.int t_desks, .ref a_t_kind, .ref a_t_leanTold, .ref a_t_needs, .ref a_t_firstHears, .ref a_t_group, .ref a_t_firstPitch, .int t_oboe, .int t_slip, .int t_warmth, .int t_unheard])), (a_t_kind, .inl (cI, 8, .inl t_kind))] H → va_D A [(a_t, .inr (0, [.int t_desks, .ref a_t_kind, .ref a_t_leanTold, .ref a_t_needs, .ref a_t_firstHears, .ref a_t_group, .ref a_t_firstPitch, .int t_oboe, .int t_slip, .int t_warmth, .int t_unheard])), (a_t_kind, .inl (cI, 8, .inl t_kind))] → va_S A s.heap H locs → ∀ ls : Array Slot, lv_has ls 4 [(0, .ref a_t), (1, .int x1), (2, .int j135), (3, .int y3_4)] → W p l e (headSpec wsX0_tunableOf rm_X0_tunableOf).room s m ([.ref a_t, .int x1] : List Value).toArray below meth c H locs 0 0 QQ (F0 m 36 ls []) := by
          intro H locs hP hD hS ls hl
          refine lv_iinc (v := (y3_4 + (1 : Int32))) (lv' := [(3, .int (y3_4 + (1 : Int32))), (0, .ref a_t), (1, .int x1), (2, .int j135)]) hx hb dX0_tunableOf_36 hl (k := 3) rfl rfl (by decide) rfl (fun ls hl => ?_)
          refine lv_goto (tgt := 4) hx hb dX0_tunableOf_39 (by decide) ?_
          exact ih _ _ h _ _ hP hD hS _ (lv_sub hl [1, 2, 3, 0] rfl)
        refine lv_if_eq (tgt := 36) hx hb dX0_tunableOf_17 (by decide) (fun c_17 => ?_) (fun c_17 => ?_)
        · have h := (if_pos c_17).symm.trans hjj135
          obtain rfl := Option.some.inj h
          exact Jj135 _ _ hP hD hS _ hl
        · have h := (if_neg c_17).symm.trans hjj135
          refine lv_aload_n hx hb dX0_tunableOf_20 rfl (lv_at hl 0 rfl) ?_
          refine va_get (D := (dC, dI)) (ci := 0) (v := .ref a_t_kind) (C := RX0) (T := TX0) (N := 11) hx hb hts in_X0 hown hK hP 0 rfl rfl 1 (by decide) f_9 (fun _ h9 => h9) rfl dX0_tunableOf_21 ?_
          refine lv_iload_n hx hb dX0_tunableOf_24 rfl (lv_at hl 3 rfl) ?_
          obtain ⟨v136, hv136, h⟩ := ob h
          refine k_ld hx hb hK hP 1 0 rfl rfl hv136 dX0_tunableOf_25 ?_
          refine lv_iconst (v := (2 : Int32)) hx hb dX0_tunableOf_26 (by decide) ?_
          refine lv_icmp_eq (tgt := 36) hx hb dX0_tunableOf_27 (by decide) (fun c_27 => ?_) (fun c_27 => ?_)
          · have h := (if_pos c_27).symm.trans h
            obtain rfl := Option.some.inj h
            exact Jj135 _ _ hP hD hS _ hl
          · have h := (if_neg c_27).symm.trans h
            refine lv_iload_n hx hb dX0_tunableOf_30 rfl (lv_at hl 2 rfl) ?_
            refine lv_iconst (v := (1 : Int32)) hx hb dX0_tunableOf_31 (by decide) ?_
            refine lv_iload_n hx hb dX0_tunableOf_32 rfl (lv_at hl 3 rfl) ?_
            refine lv_ishl hx hb dX0_tunableOf_33 ?_
            refine lv_ior hx hb dX0_tunableOf_34 ?_
            refine lv_istore_n (lv' := [(2, .int (y2_4 ||| ((1 : Int32) <<< (y3_4 &&& 31)))), (0, .ref a_t), (1, .int x1), (3, .int y3_4)]) hx hb dX0_tunableOf_35 rfl hl (by decide) rfl (fun ls hl => ?_)
            obtain rfl := Option.some.inj h
            exact Jj135 _ _ hP hD hS _ (lv_sub hl [1, 2, 0, 3] rfl)
  exact K4 n (0 : Int32) (0 : Int32) hjj131 _ _ hP hD hS _ (lv_sub hl [2, 3, 1, 0] rfl)
def rm_X0_peggedDesks : Room := { frames := 0, cells := 0, slots := 0, locals := 0 }
set_option maxRecDepth 100000 in
set_option maxHeartbeats 8000000 in
theorem c_X0_peggedDesks (l : Launch) (dC : Nat → ClassId) (dI : Nat → Nat → Nat) (cI cS : ClassId) (n sz : Nat) (a_t : Nat) (a_t_kind : Nat) (a_t_leanTold : Nat) (a_t_needs : Nat) (a_t_firstHears : Nat) (a_t_group : Nat) (a_t_firstPitch : Nat) (t_desks : Int32) (t_kind : Nat → Int32) (t_oboe : Int32) (t_slip : Int32) (t_warmth : Int32) (t_unheard : Int32) (res : Int32)  (h : F_X0_peggedDesks n t_desks t_kind = some res) : Met l yX0_peggedDesks wsX0_peggedDesks rm_X0_peggedDesks (va_Pc [.ref a_t] (PRE (dC, dI) vwCl [(cI, .int), (cS, .object "RoundOfTheA$State")] sz [(a_t, .inr (0, [.int t_desks, .ref a_t_kind, .ref a_t_leanTold, .ref a_t_needs, .ref a_t_firstHears, .ref a_t_group, .ref a_t_firstPitch, .int t_oboe, .int t_slip, .int t_warmth, .int t_unheard])), (a_t_kind, .inl (cI, 8, .inl t_kind))])) (va_Qi (fun (r : Int32) (_ : Unit) => r = res) (fun u t => POST (dC, dI) vwCl [(a_t, .inr (0, [.int t_desks, .ref a_t_kind, .ref a_t_leanTold, .ref a_t_needs, .ref a_t_firstHears, .ref a_t_group, .ref a_t_firstPitch, .int t_oboe, .int t_slip, .int t_warmth, .int t_unheard])), (a_t_kind, .inl (cI, 8, .inl t_kind))] (va_A [(a_t, .inr (0, [.int t_desks, .ref a_t_kind, .ref a_t_leanTold, .ref a_t_needs, .ref a_t_firstHears, .ref a_t_group, .ref a_t_firstPitch, .int t_oboe, .int t_slip, .int t_warmth, .int t_unheard])), (a_t_kind, .inl (cI, 8, .inl t_kind))] sz) t) (va_A [(a_t, .inr (0, [.int t_desks, .ref a_t_kind, .ref a_t_leanTold, .ref a_t_needs, .ref a_t_firstHears, .ref a_t_group, .ref a_t_firstPitch, .int t_oboe, .int t_slip, .int t_warmth, .int t_unheard])), (a_t_kind, .inl (cI, 8, .inl t_kind))] sz)) 0 0 (va_A [(a_t, .inr (0, [.int t_desks, .ref a_t_kind, .ref a_t_leanTold, .ref a_t_needs, .ref a_t_firstHears, .ref a_t_group, .ref a_t_firstPitch, .int t_oboe, .int t_slip, .int t_warmth, .int t_unheard])), (a_t_kind, .inl (cI, 8, .inl t_kind))] sz) := by
  refine Met.ofW (cc := cX0_peggedDesks) (maxL := 3) (ret := (some .int)) (by decide) rfl ?_
  intro p e s m args below meth c s₁ B hml hv
  obtain ⟨rfl, hsz, hN, hP, hK, hD0⟩ := hv
  have hx := B.exec
  have hb := B.bytes
  have hr := B.returns
  have hts := atoms_spec (ws := wsX0_peggedDesks) B.pre
  have hown : s.vm.findClass RX0 = some m.cls := findClass_of_methodNamed B.named
  have hlocks := B.notSynchronized
  subst hsz
  have hD := hD0.self (sz := s.heap.size)
  generalize hAe : va_A [(a_t, .inr (0, [.int t_desks, .ref a_t_kind, .ref a_t_leanTold, .ref a_t_needs, .ref a_t_firstHears, .ref a_t_group, .ref a_t_firstPitch, .int t_oboe, .int t_slip, .int t_warmth, .int t_unheard])), (a_t_kind, .inl (cI, 8, .inl t_kind))] s.heap.size = A at hD ⊢
  have hA : ∀ q : Nat, s.heap.size ≤ q → A q := fun q h => by rw [← hAe]; exact Or.inr h
  have hS : va_S A s.heap s.heap [] := va_S.rf
  generalize hQe : MQ below _ _ s _ _ A = QQ
  have hl := lv_entry ([.ref a_t]) (n := 3) (Nat.le_of_ble_eq_true rfl)
  rw [lg_entry_eq]
  generalize (lg_sl ([.ref a_t]) ++ List.replicate (3 - (lg_sl ([.ref a_t])).length) Slot.unset).toArray = ls at hl ⊢
  have hl : lv_has ls 3 [(0, .ref a_t)] := hl
  have f_30 := hts (.fieldLink RX0 30 "RoundOfTheA$Hall" "desks" "I") (by decide +kernel)
  have in_X0 := (by decide +kernel : ∀ w ∈ wsX00, w ∈ wsX0_peggedDesks)
  have f_9 := hts (.fieldLink RX0 9 "RoundOfTheA$Hall" "kind" "[I") (by decide +kernel)
  rw [F_X0_peggedDesks] at h
  refine lv_iconst (v := (0 : Int32)) hx hb dX0_peggedDesks_0 (by decide) ?_
  refine lv_istore_n (lv' := [(1, .int (0 : Int32)), (0, .ref a_t)]) hx hb dX0_peggedDesks_1 rfl hl (by decide) rfl (fun ls hl => ?_)
  refine lv_iconst (v := (0 : Int32)) hx hb dX0_peggedDesks_2 (by decide) ?_
  refine lv_istore_n (lv' := [(2, .int (0 : Int32)), (1, .int (0 : Int32)), (0, .ref a_t)]) hx hb dX0_peggedDesks_3 rfl hl (by decide) rfl (fun ls hl => ?_)
  obtain ⟨j162, hjj162, h⟩ := ob h
  have Jj162 : ∀ (H : Heap) (locs : List Loc), va_P (dC, dI) vwCl [(a_t, .inr (0, [.int t_desks, .ref a_t_kind, .ref a_t_leanTold, .ref a_t_needs, .ref a_t_firstHears, .ref a_t_group, .ref a_t_firstPitch, .int t_oboe, .int t_slip, .int t_warmth, .int t_unheard])), (a_t_kind, .inl (cI, 8, .inl t_kind))] H → va_D A [(a_t, .inr (0, [.int t_desks, .ref a_t_kind, .ref a_t_leanTold, .ref a_t_needs, .ref a_t_firstHears, .ref a_t_group, .ref a_t_firstPitch, .int t_oboe, .int t_slip, .int t_warmth, .int t_unheard])), (a_t_kind, .inl (cI, 8, .inl t_kind))] → va_S A s.heap H locs → ∀ ls : Array Slot, lv_has ls 3 [(0, .ref a_t), (1, .int j162.1), (2, .int j162.2)] → W p l e (headSpec wsX0_peggedDesks rm_X0_peggedDesks).room s m ([.ref a_t] : List Value).toArray below meth c H locs 0 0 QQ (F0 m 43 ls []) := by
    intro H locs hP hD hS ls hl
    refine lv_iload_n hx hb dX0_peggedDesks_43 rfl (lv_at hl 1 rfl) ?_
    obtain rfl := Option.some.inj h
    subst hQe
    exact W.iret (v := j162.1) hx hb hr (fun t ht hW => ⟨⟨j162.1, (), rfl, rfl, ⟨by rw [ht]; exact hP, hD⟩⟩, hS.F ht⟩) hS.2.2 dX0_peggedDesks_44
  have K4 : ∀ (k : Nat) (y1_4 : Int32) (y2_4 : Int32), L_X0_peggedDesks_4 t_desks t_kind k y1_4 y2_4 = some j162 → ∀ (H : Heap) (locs : List Loc), va_P (dC, dI) vwCl [(a_t, .inr (0, [.int t_desks, .ref a_t_kind, .ref a_t_leanTold, .ref a_t_needs, .ref a_t_firstHears, .ref a_t_group, .ref a_t_firstPitch, .int t_oboe, .int t_slip, .int t_warmth, .int t_unheard])), (a_t_kind, .inl (cI, 8, .inl t_kind))] H → va_D A [(a_t, .inr (0, [.int t_desks, .ref a_t_kind, .ref a_t_leanTold, .ref a_t_needs, .ref a_t_firstHears, .ref a_t_group, .ref a_t_firstPitch, .int t_oboe, .int t_slip, .int t_warmth, .int t_unheard])), (a_t_kind, .inl (cI, 8, .inl t_kind))] → va_S A s.heap H locs → ∀ ls : Array Slot, lv_has ls 3 [(0, .ref a_t), (1, .int y1_4), (2, .int y2_4)] → W p l e (headSpec wsX0_peggedDesks rm_X0_peggedDesks).room s m ([.ref a_t] : List Value).toArray below meth c H locs 0 0 QQ (F0 m 4 ls []) := by
    intro k
    induction k with
    | zero =>
      intro y1_4 y2_4 h
      rw [L_X0_peggedDesks_4] at h
      cases h
    | succ k ih =>
      intro y1_4 y2_4 h H locs hP hD hS ls hl
      rw [L_X0_peggedDesks_4] at h
      refine lv_iload_n hx hb dX0_peggedDesks_4 rfl (lv_at hl 2 rfl) ?_
      refine lv_aload_n hx hb dX0_peggedDesks_5 rfl (lv_at hl 0 rfl) ?_
      refine va_get (D := (dC, dI)) (ci := 0) (v := .int t_desks) (C := RX0) (T := TX0) (N := 11) hx hb hts in_X0 hown hK hP 0 rfl rfl 0 (by decide) f_30 (fun _ h9 => h9) rfl dX0_peggedDesks_6 ?_
      refine lv_icmp_ge (tgt := 43) hx hb dX0_peggedDesks_9 (by decide) (fun c_9 => ?_) (fun c_9 => ?_)
      · have h := (if_pos c_9).symm.trans h
        obtain rfl := Option.some.inj h
        exact Jj162 _ _ hP hD hS _ hl
      · have h := (if_neg c_9).symm.trans h
        refine lv_aload_n hx hb dX0_peggedDesks_12 rfl (lv_at hl 0 rfl) ?_
        refine va_get (D := (dC, dI)) (ci := 0) (v := .ref a_t_kind) (C := RX0) (T := TX0) (N := 11) hx hb hts in_X0 hown hK hP 0 rfl rfl 1 (by decide) f_9 (fun _ h9 => h9) rfl dX0_peggedDesks_13 ?_
        refine lv_iload_n hx hb dX0_peggedDesks_16 rfl (lv_at hl 2 rfl) ?_
        obtain ⟨v163, hv163, h⟩ := ob h
        refine k_ld hx hb hK hP 1 0 rfl rfl hv163 dX0_peggedDesks_17 ?_
        obtain ⟨j165, hjj165, h⟩ := ob h
        have Jj165 : ∀ (H : Heap) (locs : List Loc), va_P (dC, dI) vwCl [(a_t, .inr (0, [.int t_desks, .ref a_t_kind, .ref a_t_leanTold, .ref a_t_needs, .ref a_t_firstHears, .ref a_t_group, .ref a_t_firstPitch, .int t_oboe, .int t_slip, .int t_warmth, .int t_unheard])), (a_t_kind, .inl (cI, 8, .inl t_kind))] H → va_D A [(a_t, .inr (0, [.int t_desks, .ref a_t_kind, .ref a_t_leanTold, .ref a_t_needs, .ref a_t_firstHears, .ref a_t_group, .ref a_t_firstPitch, .int t_oboe, .int t_slip, .int t_warmth, .int t_unheard])), (a_t_kind, .inl (cI, 8, .inl t_kind))] → va_S A s.heap H locs → ∀ ls : Array Slot, lv_has ls 3 [(0, .ref a_t), (1, .int j165), (2, .int y2_4)] → W p l e (headSpec wsX0_peggedDesks rm_X0_peggedDesks).room s m ([.ref a_t] : List Value).toArray below meth c H locs 0 0 QQ (F0 m 37 ls []) := by
          intro H locs hP hD hS ls hl
          refine lv_iinc (v := (y2_4 + (1 : Int32))) (lv' := [(2, .int (y2_4 + (1 : Int32))), (0, .ref a_t), (1, .int j165)]) hx hb dX0_peggedDesks_37 hl (k := 2) rfl rfl (by decide) rfl (fun ls hl => ?_)
          refine lv_goto (tgt := 4) hx hb dX0_peggedDesks_40 (by decide) ?_
          exact ih _ _ h _ _ hP hD hS _ (lv_sub hl [1, 2, 0] rfl)
        refine lv_if_eq (tgt := 31) hx hb dX0_peggedDesks_18 (by decide) (fun c_18 => ?_) (fun c_18 => ?_)
        · have h := (if_pos c_18).symm.trans hjj165
          refine lv_iload_n hx hb dX0_peggedDesks_31 rfl (lv_at hl 1 rfl) ?_
          refine lv_iconst (v := (1 : Int32)) hx hb dX0_peggedDesks_32 (by decide) ?_
          refine lv_iload_n hx hb dX0_peggedDesks_33 rfl (lv_at hl 2 rfl) ?_
          refine lv_ishl hx hb dX0_peggedDesks_34 ?_
          refine lv_ior hx hb dX0_peggedDesks_35 ?_
          refine lv_istore_n (lv' := [(1, .int (y1_4 ||| ((1 : Int32) <<< (y2_4 &&& 31)))), (0, .ref a_t), (2, .int y2_4)]) hx hb dX0_peggedDesks_36 rfl hl (by decide) rfl (fun ls hl => ?_)
          obtain rfl := Option.some.inj h
          exact Jj165 _ _ hP hD hS _ (lv_sub hl [1, 0, 2] rfl)
        · have h := (if_neg c_18).symm.trans hjj165
          refine lv_aload_n hx hb dX0_peggedDesks_21 rfl (lv_at hl 0 rfl) ?_
          refine va_get (D := (dC, dI)) (ci := 0) (v := .ref a_t_kind) (C := RX0) (T := TX0) (N := 11) hx hb hts in_X0 hown hK hP 0 rfl rfl 1 (by decide) f_9 (fun _ h9 => h9) rfl dX0_peggedDesks_22 ?_
          refine lv_iload_n hx hb dX0_peggedDesks_25 rfl (lv_at hl 2 rfl) ?_
          obtain ⟨v166, hv166, h⟩ := ob h
          refine k_ld hx hb hK hP 1 0 rfl rfl hv166 dX0_peggedDesks_26 ?_
          refine lv_iconst (v := (3 : Int32)) hx hb dX0_peggedDesks_27 (by decide) ?_
          refine lv_icmp_ne (tgt := 37) hx hb dX0_peggedDesks_28 (by decide) (fun c_28 => ?_) (fun c_28 => ?_)
          · have h := (if_neg c_28).symm.trans h
            obtain rfl := Option.some.inj h
            exact Jj165 _ _ hP hD hS _ hl
          · have h := (if_pos c_28).symm.trans h
            refine lv_iload_n hx hb dX0_peggedDesks_31 rfl (lv_at hl 1 rfl) ?_
            refine lv_iconst (v := (1 : Int32)) hx hb dX0_peggedDesks_32 (by decide) ?_
            refine lv_iload_n hx hb dX0_peggedDesks_33 rfl (lv_at hl 2 rfl) ?_
            refine lv_ishl hx hb dX0_peggedDesks_34 ?_
            refine lv_ior hx hb dX0_peggedDesks_35 ?_
            refine lv_istore_n (lv' := [(1, .int (y1_4 ||| ((1 : Int32) <<< (y2_4 &&& 31)))), (0, .ref a_t), (2, .int y2_4)]) hx hb dX0_peggedDesks_36 rfl hl (by decide) rfl (fun ls hl => ?_)
            obtain rfl := Option.some.inj h
            exact Jj165 _ _ hP hD hS _ (lv_sub hl [1, 0, 2] rfl)
  exact K4 n (0 : Int32) (0 : Int32) hjj162 _ _ hP hD hS _ (lv_sub hl [2, 1, 0] rfl)
def rm_X0_desksOfGroup : Room := { frames := 0, cells := 0, slots := 0, locals := 0 }
set_option maxRecDepth 100000 in
set_option maxHeartbeats 8000000 in
theorem c_X0_desksOfGroup (l : Launch) (dC : Nat → ClassId) (dI : Nat → Nat → Nat) (cI cS : ClassId) (n sz : Nat) (a_t : Nat) (a_t_kind : Nat) (a_t_leanTold : Nat) (a_t_needs : Nat) (a_t_firstHears : Nat) (a_t_group : Nat) (a_t_firstPitch : Nat) (t_desks : Int32) (t_group : Nat → Int32) (t_oboe : Int32) (t_slip : Int32) (t_warmth : Int32) (t_unheard : Int32) (x1 : Int32) (res : Int32)  (h : F_X0_desksOfGroup n t_desks t_group x1 = some res) : Met l yX0_desksOfGroup wsX0_desksOfGroup rm_X0_desksOfGroup (va_Pc [.ref a_t, .int x1] (PRE (dC, dI) vwCl [(cI, .int), (cS, .object "RoundOfTheA$State")] sz [(a_t, .inr (0, [.int t_desks, .ref a_t_kind, .ref a_t_leanTold, .ref a_t_needs, .ref a_t_firstHears, .ref a_t_group, .ref a_t_firstPitch, .int t_oboe, .int t_slip, .int t_warmth, .int t_unheard])), (a_t_group, .inl (cI, 8, .inl t_group))])) (va_Qi (fun (r : Int32) (_ : Unit) => r = res) (fun u t => POST (dC, dI) vwCl [(a_t, .inr (0, [.int t_desks, .ref a_t_kind, .ref a_t_leanTold, .ref a_t_needs, .ref a_t_firstHears, .ref a_t_group, .ref a_t_firstPitch, .int t_oboe, .int t_slip, .int t_warmth, .int t_unheard])), (a_t_group, .inl (cI, 8, .inl t_group))] (va_A [(a_t, .inr (0, [.int t_desks, .ref a_t_kind, .ref a_t_leanTold, .ref a_t_needs, .ref a_t_firstHears, .ref a_t_group, .ref a_t_firstPitch, .int t_oboe, .int t_slip, .int t_warmth, .int t_unheard])), (a_t_group, .inl (cI, 8, .inl t_group))] sz) t) (va_A [(a_t, .inr (0, [.int t_desks, .ref a_t_kind, .ref a_t_leanTold, .ref a_t_needs, .ref a_t_firstHears, .ref a_t_group, .ref a_t_firstPitch, .int t_oboe, .int t_slip, .int t_warmth, .int t_unheard])), (a_t_group, .inl (cI, 8, .inl t_group))] sz)) 0 0 (va_A [(a_t, .inr (0, [.int t_desks, .ref a_t_kind, .ref a_t_leanTold, .ref a_t_needs, .ref a_t_firstHears, .ref a_t_group, .ref a_t_firstPitch, .int t_oboe, .int t_slip, .int t_warmth, .int t_unheard])), (a_t_group, .inl (cI, 8, .inl t_group))] sz) := by
  refine Met.ofW (cc := cX0_desksOfGroup) (maxL := 4) (ret := (some .int)) (by decide) rfl ?_
  intro p e s m args below meth c s₁ B hml hv
  obtain ⟨rfl, hsz, hN, hP, hK, hD0⟩ := hv
  have hx := B.exec
  have hb := B.bytes
  have hr := B.returns
  have hts := atoms_spec (ws := wsX0_desksOfGroup) B.pre
  have hown : s.vm.findClass RX0 = some m.cls := findClass_of_methodNamed B.named
  have hlocks := B.notSynchronized
  subst hsz
  have hD := hD0.self (sz := s.heap.size)
  generalize hAe : va_A [(a_t, .inr (0, [.int t_desks, .ref a_t_kind, .ref a_t_leanTold, .ref a_t_needs, .ref a_t_firstHears, .ref a_t_group, .ref a_t_firstPitch, .int t_oboe, .int t_slip, .int t_warmth, .int t_unheard])), (a_t_group, .inl (cI, 8, .inl t_group))] s.heap.size = A at hD ⊢
  have hA : ∀ q : Nat, s.heap.size ≤ q → A q := fun q h => by rw [← hAe]; exact Or.inr h
  have hS : va_S A s.heap s.heap [] := va_S.rf
  generalize hQe : MQ below _ _ s _ _ A = QQ
  have hl := lv_entry ([.ref a_t, .int x1]) (n := 4) (Nat.le_of_ble_eq_true rfl)
  rw [lg_entry_eq]
  generalize (lg_sl ([.ref a_t, .int x1]) ++ List.replicate (4 - (lg_sl ([.ref a_t, .int x1])).length) Slot.unset).toArray = ls at hl ⊢
  have hl : lv_has ls 4 [(0, .ref a_t), (1, .int x1)] := hl
  have f_30 := hts (.fieldLink RX0 30 "RoundOfTheA$Hall" "desks" "I") (by decide +kernel)
  have in_X0 := (by decide +kernel : ∀ w ∈ wsX00, w ∈ wsX0_desksOfGroup)
  have f_24 := hts (.fieldLink RX0 24 "RoundOfTheA$Hall" "group" "[I") (by decide +kernel)
  rw [F_X0_desksOfGroup] at h
  refine lv_iconst (v := (0 : Int32)) hx hb dX0_desksOfGroup_0 (by decide) ?_
  refine lv_istore_n (lv' := [(2, .int (0 : Int32)), (0, .ref a_t), (1, .int x1)]) hx hb dX0_desksOfGroup_1 rfl hl (by decide) rfl (fun ls hl => ?_)
  refine lv_iconst (v := (0 : Int32)) hx hb dX0_desksOfGroup_2 (by decide) ?_
  refine lv_istore_n (lv' := [(3, .int (0 : Int32)), (2, .int (0 : Int32)), (0, .ref a_t), (1, .int x1)]) hx hb dX0_desksOfGroup_3 rfl hl (by decide) rfl (fun ls hl => ?_)
  obtain ⟨j182, hjj182, h⟩ := ob h
  have Jj182 : ∀ (H : Heap) (locs : List Loc), va_P (dC, dI) vwCl [(a_t, .inr (0, [.int t_desks, .ref a_t_kind, .ref a_t_leanTold, .ref a_t_needs, .ref a_t_firstHears, .ref a_t_group, .ref a_t_firstPitch, .int t_oboe, .int t_slip, .int t_warmth, .int t_unheard])), (a_t_group, .inl (cI, 8, .inl t_group))] H → va_D A [(a_t, .inr (0, [.int t_desks, .ref a_t_kind, .ref a_t_leanTold, .ref a_t_needs, .ref a_t_firstHears, .ref a_t_group, .ref a_t_firstPitch, .int t_oboe, .int t_slip, .int t_warmth, .int t_unheard])), (a_t_group, .inl (cI, 8, .inl t_group))] → va_S A s.heap H locs → ∀ ls : Array Slot, lv_has ls 4 [(0, .ref a_t), (1, .int x1), (2, .int j182.1), (3, .int j182.2)] → W p l e (headSpec wsX0_desksOfGroup rm_X0_desksOfGroup).room s m ([.ref a_t, .int x1] : List Value).toArray below meth c H locs 0 0 QQ (F0 m 34 ls []) := by
    intro H locs hP hD hS ls hl
    refine lv_iload_n hx hb dX0_desksOfGroup_34 rfl (lv_at hl 2 rfl) ?_
    obtain rfl := Option.some.inj h
    subst hQe
    exact W.iret (v := j182.1) hx hb hr (fun t ht hW => ⟨⟨j182.1, (), rfl, rfl, ⟨by rw [ht]; exact hP, hD⟩⟩, hS.F ht⟩) hS.2.2 dX0_desksOfGroup_35
  have K4 : ∀ (k : Nat) (y2_4 : Int32) (y3_4 : Int32), L_X0_desksOfGroup_4 t_desks t_group x1 k y2_4 y3_4 = some j182 → ∀ (H : Heap) (locs : List Loc), va_P (dC, dI) vwCl [(a_t, .inr (0, [.int t_desks, .ref a_t_kind, .ref a_t_leanTold, .ref a_t_needs, .ref a_t_firstHears, .ref a_t_group, .ref a_t_firstPitch, .int t_oboe, .int t_slip, .int t_warmth, .int t_unheard])), (a_t_group, .inl (cI, 8, .inl t_group))] H → va_D A [(a_t, .inr (0, [.int t_desks, .ref a_t_kind, .ref a_t_leanTold, .ref a_t_needs, .ref a_t_firstHears, .ref a_t_group, .ref a_t_firstPitch, .int t_oboe, .int t_slip, .int t_warmth, .int t_unheard])), (a_t_group, .inl (cI, 8, .inl t_group))] → va_S A s.heap H locs → ∀ ls : Array Slot, lv_has ls 4 [(0, .ref a_t), (1, .int x1), (2, .int y2_4), (3, .int y3_4)] → W p l e (headSpec wsX0_desksOfGroup rm_X0_desksOfGroup).room s m ([.ref a_t, .int x1] : List Value).toArray below meth c H locs 0 0 QQ (F0 m 4 ls []) := by
    intro k
    induction k with
    | zero =>
      intro y2_4 y3_4 h
      rw [L_X0_desksOfGroup_4] at h
      cases h
    | succ k ih =>
      intro y2_4 y3_4 h H locs hP hD hS ls hl
      rw [L_X0_desksOfGroup_4] at h
      refine lv_iload_n hx hb dX0_desksOfGroup_4 rfl (lv_at hl 3 rfl) ?_
      refine lv_aload_n hx hb dX0_desksOfGroup_5 rfl (lv_at hl 0 rfl) ?_
      refine va_get (D := (dC, dI)) (ci := 0) (v := .int t_desks) (C := RX0) (T := TX0) (N := 11) hx hb hts in_X0 hown hK hP 0 rfl rfl 0 (by decide) f_30 (fun _ h9 => h9) rfl dX0_desksOfGroup_6 ?_
      refine lv_icmp_ge (tgt := 34) hx hb dX0_desksOfGroup_9 (by decide) (fun c_9 => ?_) (fun c_9 => ?_)
      · have h := (if_pos c_9).symm.trans h
        obtain rfl := Option.some.inj h
        exact Jj182 _ _ hP hD hS _ hl
      · have h := (if_neg c_9).symm.trans h
        refine lv_aload_n hx hb dX0_desksOfGroup_12 rfl (lv_at hl 0 rfl) ?_
        refine va_get (D := (dC, dI)) (ci := 0) (v := .ref a_t_group) (C := RX0) (T := TX0) (N := 11) hx hb hts in_X0 hown hK hP 0 rfl rfl 5 (by decide) f_24 (fun _ h9 => h9) rfl dX0_desksOfGroup_13 ?_
        refine lv_iload_n hx hb dX0_desksOfGroup_16 rfl (lv_at hl 3 rfl) ?_
        obtain ⟨v183, hv183, h⟩ := ob h
        refine k_ld hx hb hK hP 1 0 rfl rfl hv183 dX0_desksOfGroup_17 ?_
        refine lv_iload_n hx hb dX0_desksOfGroup_18 rfl (lv_at hl 1 rfl) ?_
        obtain ⟨j184, hjj184, h⟩ := ob h
        have Jj184 : ∀ (H : Heap) (locs : List Loc), va_P (dC, dI) vwCl [(a_t, .inr (0, [.int t_desks, .ref a_t_kind, .ref a_t_leanTold, .ref a_t_needs, .ref a_t_firstHears, .ref a_t_group, .ref a_t_firstPitch, .int t_oboe, .int t_slip, .int t_warmth, .int t_unheard])), (a_t_group, .inl (cI, 8, .inl t_group))] H → va_D A [(a_t, .inr (0, [.int t_desks, .ref a_t_kind, .ref a_t_leanTold, .ref a_t_needs, .ref a_t_firstHears, .ref a_t_group, .ref a_t_firstPitch, .int t_oboe, .int t_slip, .int t_warmth, .int t_unheard])), (a_t_group, .inl (cI, 8, .inl t_group))] → va_S A s.heap H locs → ∀ ls : Array Slot, lv_has ls 4 [(0, .ref a_t), (1, .int x1), (2, .int j184), (3, .int y3_4)] → W p l e (headSpec wsX0_desksOfGroup rm_X0_desksOfGroup).room s m ([.ref a_t, .int x1] : List Value).toArray below meth c H locs 0 0 QQ (F0 m 28 ls []) := by
          intro H locs hP hD hS ls hl
          refine lv_iinc (v := (y3_4 + (1 : Int32))) (lv' := [(3, .int (y3_4 + (1 : Int32))), (0, .ref a_t), (1, .int x1), (2, .int j184)]) hx hb dX0_desksOfGroup_28 hl (k := 3) rfl rfl (by decide) rfl (fun ls hl => ?_)
          refine lv_goto (tgt := 4) hx hb dX0_desksOfGroup_31 (by decide) ?_
          exact ih _ _ h _ _ hP hD hS _ (lv_sub hl [1, 2, 3, 0] rfl)
        refine lv_icmp_ne (tgt := 28) hx hb dX0_desksOfGroup_19 (by decide) (fun c_19 => ?_) (fun c_19 => ?_)
        · have h := (if_neg c_19).symm.trans hjj184
          obtain rfl := Option.some.inj h
          exact Jj184 _ _ hP hD hS _ hl
        · have h := (if_pos c_19).symm.trans hjj184
          refine lv_iload_n hx hb dX0_desksOfGroup_22 rfl (lv_at hl 2 rfl) ?_
          refine lv_iconst (v := (1 : Int32)) hx hb dX0_desksOfGroup_23 (by decide) ?_
          refine lv_iload_n hx hb dX0_desksOfGroup_24 rfl (lv_at hl 3 rfl) ?_
          refine lv_ishl hx hb dX0_desksOfGroup_25 ?_
          refine lv_ior hx hb dX0_desksOfGroup_26 ?_
          refine lv_istore_n (lv' := [(2, .int (y2_4 ||| ((1 : Int32) <<< (y3_4 &&& 31)))), (0, .ref a_t), (1, .int x1), (3, .int y3_4)]) hx hb dX0_desksOfGroup_27 rfl hl (by decide) rfl (fun ls hl => ?_)
          obtain rfl := Option.some.inj h
          exact Jj184 _ _ hP hD hS _ (lv_sub hl [1, 2, 0, 3] rfl)
  exact K4 n (0 : Int32) (0 : Int32) hjj182 _ _ hP hD hS _ (lv_sub hl [2, 3, 1, 0] rfl)
def rm_X2_init : Room := { frames := 1, cells := 2, slots := 16, locals := 20 }
set_option maxRecDepth 100000 in
set_option maxHeartbeats 8000000 in
theorem c_X2_init (l : Launch) (dC : Nat → ClassId) (dI : Nat → Nat → Nat) (cI cS : ClassId) (n sz : Nat) (a_t : Nat) (res : Unit)  (h : F_X2_init n = some res) : Met l yX2_init wsX2_init rm_X2_init (va_Pc [.ref a_t] (PRE (dC, dI) vwCl [(cI, .int), (cS, .object "RoundOfTheA$State")] sz [(a_t, .inr (2, [.null, .null, .int (0 : Int32), .int (0 : Int32)]))])) (va_Qv (fun _ : Nat × Nat => True) (fun u t => POST (dC, dI) vwCl [(a_t, .inr (2, [.ref u.1, .ref u.2, .int (0 : Int32), .int (0 : Int32)])), (u.1, .inl (cI, 8, .inl (fun _ => 0))), (u.2, .inl (cI, 8, .inl (fun _ => 0)))] (va_A [(a_t, .inr (2, [.null, .null, .int (0 : Int32), .int (0 : Int32)]))] sz) t) (va_A [(a_t, .inr (2, [.null, .null, .int (0 : Int32), .int (0 : Int32)]))] sz)) 2 16 (va_A [(a_t, .inr (2, [.null, .null, .int (0 : Int32), .int (0 : Int32)]))] sz) := by
  refine Met.ofW (cc := cX2_init) (maxL := 1) (ret := none) (by decide) rfl ?_
  intro p e s m args below meth c s₁ B hml hv
  obtain ⟨rfl, hsz, hN, hP, hK, hD0⟩ := hv
  have hx := B.exec
  have hb := B.bytes
  have hr := B.returns
  have hts := atoms_spec (ws := wsX2_init) B.pre
  have hown : s.vm.findClass RX2 = some m.cls := findClass_of_methodNamed B.named
  have hlocks := B.notSynchronized
  have hin : meth.name = "<init>" := (name_of_methodNamed B.named B.method).1
  subst hsz
  have hD := hD0.self (sz := s.heap.size)
  generalize hAe : va_A [(a_t, .inr (2, [.null, .null, .int (0 : Int32), .int (0 : Int32)]))] s.heap.size = A at hD ⊢
  have hA : ∀ q : Nat, s.heap.size ≤ q → A q := fun q h => by rw [← hAe]; exact Or.inr h
  have hS : va_S A s.heap s.heap [] := va_S.rf
  generalize hQe : MQ below _ _ s _ _ A = QQ
  have hl := lv_entry ([.ref a_t]) (n := 1) (Nat.le_of_ble_eq_true rfl)
  rw [lg_entry_eq]
  generalize (lg_sl ([.ref a_t]) ++ List.replicate (1 - (lg_sl ([.ref a_t])).length) Slot.unset).toArray = ls at hl ⊢
  have hl : lv_has ls 1 [(0, .ref a_t)] := hl
  have m_3 := hts (.methodLink RX2 3 objectInit) (by decide +kernel)
  have m_oi := hts (.instanceMethod objectInit) (by decide +kernel)
  have m_oc := hts (.code objectInit ⟨#[0xb1]⟩ 1 none) (by decide +kernel)
  have k_ai := hts (.arrayClass .int) (by decide +kernel)
  have f_9 := hts (.fieldLink RX2 9 "RoundOfTheA$State" "pitch" "[I") (by decide +kernel)
  have in_X2 := (by decide +kernel : ∀ w ∈ wsX20, w ∈ wsX2_init)
  have f_15 := hts (.fieldLink RX2 15 "RoundOfTheA$State" "hears" "[I") (by decide +kernel)
  rw [F_X2_init] at h
  refine lv_aload_n hx hb dX2_init_0 rfl (lv_at hl 0 rfl) ?_
  refine W.objInit hx hb hown m_3 m_oi m_oc rfl (by rw [hml]; exact hl.1) rfl dX2_init_1 (Nat.le_of_ble_eq_true rfl) (Nat.le_of_ble_eq_true rfl) ?_
  refine W.eq (g2 := F0 m 4 ls []) rfl ?_
  refine lv_aload_n hx hb dX2_init_4 rfl (lv_at hl 0 rfl) ?_
  refine lv_bipush (v := (8 : Int32)) hx hb dX2_init_5 (by decide) ?_
  refine k_newa hx hb k_ai hK hP hD hS hA 0 rfl (N' := 8) (by decide) (by decide) (Nat.le_of_ble_eq_true rfl) (Nat.le_of_ble_eq_true rfl) (Nat.le_of_ble_eq_true rfl) dX2_init_7 (fun q189 H hP hD hS => ?_)
  refine W.widen (k := 1) (n := 8) (Nat.le_of_ble_eq_true rfl) (Nat.le_of_ble_eq_true rfl) ?_
  have hP : va_P (dC, dI) vwCl [(a_t, .inr (2, [.null, .null, .int (0 : Int32), .int (0 : Int32)])), (q189, .inl (cI, 8, .inl (fun _ => 0)))] H := hP
  have hD : va_D A [(a_t, .inr (2, [.null, .null, .int (0 : Int32), .int (0 : Int32)])), (q189, .inl (cI, 8, .inl (fun _ => 0)))] := hD
  refine va_putF (D := (dC, dI)) (ci := 2) (v := .ref q189) (ty := (tyX2 0)) (C := RX2) (T := TX2) (N := 4) hx hb hts in_X2 tyX2 tyX2_ok nmX2 hown hK hP hD hS 0 rfl rfl 0 (by decide) f_9 (fun _ h9 => h9) rfl hin rfl (by decide +kernel) rfl rfl (Nat.le_of_ble_eq_true rfl) dX2_init_9 (fun H locs hP hD hS => ?_)
  have hP : va_P (dC, dI) vwCl [(a_t, .inr (2, [.ref q189, .null, .int (0 : Int32), .int (0 : Int32)])), (q189, .inl (cI, 8, .inl (fun _ => 0)))] H := hP
  have hD : va_D A [(a_t, .inr (2, [.ref q189, .null, .int (0 : Int32), .int (0 : Int32)])), (q189, .inl (cI, 8, .inl (fun _ => 0)))] := hD
  refine lv_aload_n hx hb dX2_init_12 rfl (lv_at hl 0 rfl) ?_
  refine lv_bipush (v := (8 : Int32)) hx hb dX2_init_13 (by decide) ?_
  refine k_newa hx hb k_ai hK hP hD hS hA 0 rfl (N' := 8) (by decide) (by decide) (Nat.le_of_ble_eq_true rfl) (Nat.le_of_ble_eq_true rfl) (Nat.le_of_ble_eq_true rfl) dX2_init_15 (fun q190 H hP hD hS => ?_)
  refine W.widen (k := 2) (n := 16) (Nat.le_of_ble_eq_true rfl) (Nat.le_of_ble_eq_true rfl) ?_
  have hP : va_P (dC, dI) vwCl [(a_t, .inr (2, [.ref q189, .null, .int (0 : Int32), .int (0 : Int32)])), (q189, .inl (cI, 8, .inl (fun _ => 0))), (q190, .inl (cI, 8, .inl (fun _ => 0)))] H := hP
  have hD : va_D A [(a_t, .inr (2, [.ref q189, .null, .int (0 : Int32), .int (0 : Int32)])), (q189, .inl (cI, 8, .inl (fun _ => 0))), (q190, .inl (cI, 8, .inl (fun _ => 0)))] := hD
  refine va_putF (D := (dC, dI)) (ci := 2) (v := .ref q190) (ty := (tyX2 1)) (C := RX2) (T := TX2) (N := 4) hx hb hts in_X2 tyX2 tyX2_ok nmX2 hown hK hP hD hS 0 rfl rfl 1 (by decide) f_15 (fun _ h9 => h9) rfl hin rfl (by decide +kernel) rfl rfl (Nat.le_of_ble_eq_true rfl) dX2_init_17 (fun H locs hP hD hS => ?_)
  have hP : va_P (dC, dI) vwCl [(a_t, .inr (2, [.ref q189, .ref q190, .int (0 : Int32), .int (0 : Int32)])), (q189, .inl (cI, 8, .inl (fun _ => 0))), (q190, .inl (cI, 8, .inl (fun _ => 0)))] H := hP
  have hD : va_D A [(a_t, .inr (2, [.ref q189, .ref q190, .int (0 : Int32), .int (0 : Int32)])), (q189, .inl (cI, 8, .inl (fun _ => 0))), (q190, .inl (cI, 8, .inl (fun _ => 0)))] := hD
  obtain rfl := Option.some.inj h
  subst hQe
  refine W.widen (k := 2) (n := 16) (Nat.le_of_ble_eq_true rfl) (Nat.le_of_ble_eq_true rfl) ?_
  exact W.vret hx hb hr (fun t ht hW => ⟨⟨(q189, q190), rfl, trivial, ⟨by rw [ht]; exact hP, hD⟩⟩, hS.F ht⟩) hS.2.2 dX2_init_20
def rm_X2_begin : Room := { frames := 0, cells := 0, slots := 0, locals := 0 }
set_option maxRecDepth 100000 in
set_option maxHeartbeats 8000000 in
theorem c_X2_begin (l : Launch) (dC : Nat → ClassId) (dI : Nat → Nat → Nat) (cI cS : ClassId) (n sz : Nat) (a_t : Nat) (a_t_pitch : Nat) (a_t_hears : Nat) (a_h : Nat) (a_h_kind : Nat) (a_h_leanTold : Nat) (a_h_needs : Nat) (a_h_firstHears : Nat) (a_h_group : Nat) (a_h_firstPitch : Nat) (t_pitch : Nat → Int32) (t_hears : Nat → Int32) (t_oboe : Int32) (t_seconds : Int32) (h_desks : Int32) (h_firstHears : Nat → Int32) (h_firstPitch : Nat → Int32) (h_oboe : Int32) (h_slip : Int32) (h_warmth : Int32) (h_unheard : Int32) (res : Int32 × Int32 × (Nat → Int32) × (Nat → Int32))  (h : F_X2_begin n t_pitch t_hears h_desks h_firstHears h_firstPitch h_oboe = some res) : Met l yX2_begin wsX2_begin rm_X2_begin (va_Pc [.ref a_t, .ref a_h] (PRE (dC, dI) vwCl [(cI, .int), (cS, .object "RoundOfTheA$State")] sz [(a_t, .inr (2, [.ref a_t_pitch, .ref a_t_hears, .int t_oboe, .int t_seconds])), (a_t_pitch, .inl (cI, 8, .inl t_pitch)), (a_t_hears, .inl (cI, 8, .inl t_hears)), (a_h, .inr (0, [.int h_desks, .ref a_h_kind, .ref a_h_leanTold, .ref a_h_needs, .ref a_h_firstHears, .ref a_h_group, .ref a_h_firstPitch, .int h_oboe, .int h_slip, .int h_warmth, .int h_unheard])), (a_h_firstHears, .inl (cI, 8, .inl h_firstHears)), (a_h_firstPitch, .inl (cI, 8, .inl h_firstPitch))])) (va_Qv (fun _ : Unit => True) (fun u t => POST (dC, dI) vwCl [(a_t, .inr (2, [.ref a_t_pitch, .ref a_t_hears, .int res.1, .int res.2.1])), (a_t_pitch, .inl (cI, 8, .inl res.2.2.1)), (a_t_hears, .inl (cI, 8, .inl res.2.2.2)), (a_h, .inr (0, [.int h_desks, .ref a_h_kind, .ref a_h_leanTold, .ref a_h_needs, .ref a_h_firstHears, .ref a_h_group, .ref a_h_firstPitch, .int h_oboe, .int h_slip, .int h_warmth, .int h_unheard])), (a_h_firstHears, .inl (cI, 8, .inl h_firstHears)), (a_h_firstPitch, .inl (cI, 8, .inl h_firstPitch))] (va_A [(a_t, .inr (2, [.ref a_t_pitch, .ref a_t_hears, .int t_oboe, .int t_seconds])), (a_t_pitch, .inl (cI, 8, .inl t_pitch)), (a_t_hears, .inl (cI, 8, .inl t_hears)), (a_h, .inr (0, [.int h_desks, .ref a_h_kind, .ref a_h_leanTold, .ref a_h_needs, .ref a_h_firstHears, .ref a_h_group, .ref a_h_firstPitch, .int h_oboe, .int h_slip, .int h_warmth, .int h_unheard])), (a_h_firstHears, .inl (cI, 8, .inl h_firstHears)), (a_h_firstPitch, .inl (cI, 8, .inl h_firstPitch))] sz) t) (va_A [(a_t, .inr (2, [.ref a_t_pitch, .ref a_t_hears, .int t_oboe, .int t_seconds])), (a_t_pitch, .inl (cI, 8, .inl t_pitch)), (a_t_hears, .inl (cI, 8, .inl t_hears)), (a_h, .inr (0, [.int h_desks, .ref a_h_kind, .ref a_h_leanTold, .ref a_h_needs, .ref a_h_firstHears, .ref a_h_group, .ref a_h_firstPitch, .int h_oboe, .int h_slip, .int h_warmth, .int h_unheard])), (a_h_firstHears, .inl (cI, 8, .inl h_firstHears)), (a_h_firstPitch, .inl (cI, 8, .inl h_firstPitch))] sz)) 0 0 (va_A [(a_t, .inr (2, [.ref a_t_pitch, .ref a_t_hears, .int t_oboe, .int t_seconds])), (a_t_pitch, .inl (cI, 8, .inl t_pitch)), (a_t_hears, .inl (cI, 8, .inl t_hears)), (a_h, .inr (0, [.int h_desks, .ref a_h_kind, .ref a_h_leanTold, .ref a_h_needs, .ref a_h_firstHears, .ref a_h_group, .ref a_h_firstPitch, .int h_oboe, .int h_slip, .int h_warmth, .int h_unheard])), (a_h_firstHears, .inl (cI, 8, .inl h_firstHears)), (a_h_firstPitch, .inl (cI, 8, .inl h_firstPitch))] sz) := by
  refine Met.ofW (cc := cX2_begin) (maxL := 3) (ret := none) (by decide) rfl ?_
  intro p e s m args below meth c s₁ B hml hv
  obtain ⟨rfl, hsz, hN, hP, hK, hD0⟩ := hv
  have hx := B.exec
  have hb := B.bytes
  have hr := B.returns
  have hts := atoms_spec (ws := wsX2_begin) B.pre
  have hown : s.vm.findClass RX2 = some m.cls := findClass_of_methodNamed B.named
  have hlocks := B.notSynchronized
  subst hsz
  have hD := hD0.self (sz := s.heap.size)
  generalize hAe : va_A [(a_t, .inr (2, [.ref a_t_pitch, .ref a_t_hears, .int t_oboe, .int t_seconds])), (a_t_pitch, .inl (cI, 8, .inl t_pitch)), (a_t_hears, .inl (cI, 8, .inl t_hears)), (a_h, .inr (0, [.int h_desks, .ref a_h_kind, .ref a_h_leanTold, .ref a_h_needs, .ref a_h_firstHears, .ref a_h_group, .ref a_h_firstPitch, .int h_oboe, .int h_slip, .int h_warmth, .int h_unheard])), (a_h_firstHears, .inl (cI, 8, .inl h_firstHears)), (a_h_firstPitch, .inl (cI, 8, .inl h_firstPitch))] s.heap.size = A at hD ⊢
  have hA : ∀ q : Nat, s.heap.size ≤ q → A q := fun q h => by rw [← hAe]; exact Or.inr h
  have hS : va_S A s.heap s.heap [] := va_S.rf
  generalize hQe : MQ below _ _ s _ _ A = QQ
  have hl := lv_entry ([.ref a_t, .ref a_h]) (n := 3) (Nat.le_of_ble_eq_true rfl)
  rw [lg_entry_eq]
  generalize (lg_sl ([.ref a_t, .ref a_h]) ++ List.replicate (3 - (lg_sl ([.ref a_t, .ref a_h])).length) Slot.unset).toArray = ls at hl ⊢
  have hl : lv_has ls 3 [(0, .ref a_t), (1, .ref a_h)] := hl
  have f_18 := hts (.fieldLink RX2 18 "RoundOfTheA$Hall" "desks" "I") (by decide +kernel)
  have in_X0 := (by decide +kernel : ∀ w ∈ wsX00, w ∈ wsX2_begin)
  have f_9 := hts (.fieldLink RX2 9 "RoundOfTheA$State" "pitch" "[I") (by decide +kernel)
  have in_X2 := (by decide +kernel : ∀ w ∈ wsX20, w ∈ wsX2_begin)
  have f_24 := hts (.fieldLink RX2 24 "RoundOfTheA$Hall" "firstPitch" "[I") (by decide +kernel)
  have f_15 := hts (.fieldLink RX2 15 "RoundOfTheA$State" "hears" "[I") (by decide +kernel)
  have f_27 := hts (.fieldLink RX2 27 "RoundOfTheA$Hall" "firstHears" "[I") (by decide +kernel)
  have f_30 := hts (.fieldLink RX2 30 "RoundOfTheA$Hall" "oboe" "I") (by decide +kernel)
  have f_33 := hts (.fieldLink RX2 33 "RoundOfTheA$State" "oboe" "I") (by decide +kernel)
  have f_34 := hts (.fieldLink RX2 34 "RoundOfTheA$State" "seconds" "I") (by decide +kernel)
  rw [F_X2_begin] at h
  refine lv_iconst (v := (0 : Int32)) hx hb dX2_begin_0 (by decide) ?_
  refine lv_istore_n (lv' := [(2, .int (0 : Int32)), (0, .ref a_t), (1, .ref a_h)]) hx hb dX2_begin_1 rfl hl (by decide) rfl (fun ls hl => ?_)
  obtain ⟨j218, hjj218, h⟩ := ob h
  have Jj218 : ∀ (H : Heap) (locs : List Loc), va_P (dC, dI) vwCl [(a_t, .inr (2, [.ref a_t_pitch, .ref a_t_hears, .int t_oboe, .int t_seconds])), (a_t_pitch, .inl (cI, 8, .inl j218.2.1)), (a_t_hears, .inl (cI, 8, .inl j218.2.2)), (a_h, .inr (0, [.int h_desks, .ref a_h_kind, .ref a_h_leanTold, .ref a_h_needs, .ref a_h_firstHears, .ref a_h_group, .ref a_h_firstPitch, .int h_oboe, .int h_slip, .int h_warmth, .int h_unheard])), (a_h_firstHears, .inl (cI, 8, .inl h_firstHears)), (a_h_firstPitch, .inl (cI, 8, .inl h_firstPitch))] H → va_D A [(a_t, .inr (2, [.ref a_t_pitch, .ref a_t_hears, .int t_oboe, .int t_seconds])), (a_t_pitch, .inl (cI, 8, .inl j218.2.1)), (a_t_hears, .inl (cI, 8, .inl j218.2.2)), (a_h, .inr (0, [.int h_desks, .ref a_h_kind, .ref a_h_leanTold, .ref a_h_needs, .ref a_h_firstHears, .ref a_h_group, .ref a_h_firstPitch, .int h_oboe, .int h_slip, .int h_warmth, .int h_unheard])), (a_h_firstHears, .inl (cI, 8, .inl h_firstHears)), (a_h_firstPitch, .inl (cI, 8, .inl h_firstPitch))] → va_S A s.heap H locs → ∀ ls : Array Slot, lv_has ls 3 [(0, .ref a_t), (1, .ref a_h), (2, .int j218.1)] → W p l e (headSpec wsX2_begin rm_X2_begin).room s m ([.ref a_t, .ref a_h] : List Value).toArray below meth c H locs 0 0 QQ (F0 m 40 ls []) := by
    intro H locs hP hD hS ls hl
    refine lv_aload_n hx hb dX2_begin_40 rfl (lv_at hl 0 rfl) ?_
    refine lv_aload_n hx hb dX2_begin_41 rfl (lv_at hl 1 rfl) ?_
    refine va_get (D := (dC, dI)) (ci := 0) (v := .int h_oboe) (C := RX0) (T := TX0) (N := 11) hx hb hts in_X0 hown hK hP 3 rfl rfl 7 (by decide) f_30 (fun _ h9 => h9) rfl dX2_begin_42 ?_
    refine va_put (D := (dC, dI)) (ci := 2) (v := .int h_oboe) (ty := .int) (C := RX2) (T := TX2) (N := 4) hx hb hts in_X2 tyX2 tyX2_ok nmX2 hown hK hP hD hS 0 rfl rfl 2 (by decide) f_33 (fun _ h9 => h9) rfl (by decide +kernel) rfl rfl (Nat.le_of_ble_eq_true rfl) dX2_begin_45 (fun H locs hP hD hS => ?_)
    have hP : va_P (dC, dI) vwCl [(a_t, .inr (2, [.ref a_t_pitch, .ref a_t_hears, .int h_oboe, .int t_seconds])), (a_t_pitch, .inl (cI, 8, .inl j218.2.1)), (a_t_hears, .inl (cI, 8, .inl j218.2.2)), (a_h, .inr (0, [.int h_desks, .ref a_h_kind, .ref a_h_leanTold, .ref a_h_needs, .ref a_h_firstHears, .ref a_h_group, .ref a_h_firstPitch, .int h_oboe, .int h_slip, .int h_warmth, .int h_unheard])), (a_h_firstHears, .inl (cI, 8, .inl h_firstHears)), (a_h_firstPitch, .inl (cI, 8, .inl h_firstPitch))] H := hP
    have hD : va_D A [(a_t, .inr (2, [.ref a_t_pitch, .ref a_t_hears, .int h_oboe, .int t_seconds])), (a_t_pitch, .inl (cI, 8, .inl j218.2.1)), (a_t_hears, .inl (cI, 8, .inl j218.2.2)), (a_h, .inr (0, [.int h_desks, .ref a_h_kind, .ref a_h_leanTold, .ref a_h_needs, .ref a_h_firstHears, .ref a_h_group, .ref a_h_firstPitch, .int h_oboe, .int h_slip, .int h_warmth, .int h_unheard])), (a_h_firstHears, .inl (cI, 8, .inl h_firstHears)), (a_h_firstPitch, .inl (cI, 8, .inl h_firstPitch))] := hD
    refine lv_aload_n hx hb dX2_begin_48 rfl (lv_at hl 0 rfl) ?_
    refine lv_iconst (v := (0 : Int32)) hx hb dX2_begin_49 (by decide) ?_
    refine va_put (D := (dC, dI)) (ci := 2) (v := .int (0 : Int32)) (ty := .int) (C := RX2) (T := TX2) (N := 4) hx hb hts in_X2 tyX2 tyX2_ok nmX2 hown hK hP hD hS 0 rfl rfl 3 (by decide) f_34 (fun _ h9 => h9) rfl (by decide +kernel) rfl rfl (Nat.le_of_ble_eq_true rfl) dX2_begin_50 (fun H locs hP hD hS => ?_)
    have hP : va_P (dC, dI) vwCl [(a_t, .inr (2, [.ref a_t_pitch, .ref a_t_hears, .int h_oboe, .int (0 : Int32)])), (a_t_pitch, .inl (cI, 8, .inl j218.2.1)), (a_t_hears, .inl (cI, 8, .inl j218.2.2)), (a_h, .inr (0, [.int h_desks, .ref a_h_kind, .ref a_h_leanTold, .ref a_h_needs, .ref a_h_firstHears, .ref a_h_group, .ref a_h_firstPitch, .int h_oboe, .int h_slip, .int h_warmth, .int h_unheard])), (a_h_firstHears, .inl (cI, 8, .inl h_firstHears)), (a_h_firstPitch, .inl (cI, 8, .inl h_firstPitch))] H := hP
    have hD : va_D A [(a_t, .inr (2, [.ref a_t_pitch, .ref a_t_hears, .int h_oboe, .int (0 : Int32)])), (a_t_pitch, .inl (cI, 8, .inl j218.2.1)), (a_t_hears, .inl (cI, 8, .inl j218.2.2)), (a_h, .inr (0, [.int h_desks, .ref a_h_kind, .ref a_h_leanTold, .ref a_h_needs, .ref a_h_firstHears, .ref a_h_group, .ref a_h_firstPitch, .int h_oboe, .int h_slip, .int h_warmth, .int h_unheard])), (a_h_firstHears, .inl (cI, 8, .inl h_firstHears)), (a_h_firstPitch, .inl (cI, 8, .inl h_firstPitch))] := hD
    obtain rfl := Option.some.inj h
    subst hQe
    exact W.vret hx hb hr (fun t ht hW => ⟨⟨(), rfl, trivial, ⟨by rw [ht]; exact hP, hD⟩⟩, hS.F ht⟩) hS.2.2 dX2_begin_53
  have K2 : ∀ (k : Nat) (y2_2 : Int32) (t_pitchv_2 : Nat → Int32) (t_hearsv_2 : Nat → Int32), L_X2_begin_2 h_desks h_firstHears h_firstPitch k y2_2 t_pitchv_2 t_hearsv_2 = some j218 → ∀ (H : Heap) (locs : List Loc), va_P (dC, dI) vwCl [(a_t, .inr (2, [.ref a_t_pitch, .ref a_t_hears, .int t_oboe, .int t_seconds])), (a_t_pitch, .inl (cI, 8, .inl t_pitchv_2)), (a_t_hears, .inl (cI, 8, .inl t_hearsv_2)), (a_h, .inr (0, [.int h_desks, .ref a_h_kind, .ref a_h_leanTold, .ref a_h_needs, .ref a_h_firstHears, .ref a_h_group, .ref a_h_firstPitch, .int h_oboe, .int h_slip, .int h_warmth, .int h_unheard])), (a_h_firstHears, .inl (cI, 8, .inl h_firstHears)), (a_h_firstPitch, .inl (cI, 8, .inl h_firstPitch))] H → va_D A [(a_t, .inr (2, [.ref a_t_pitch, .ref a_t_hears, .int t_oboe, .int t_seconds])), (a_t_pitch, .inl (cI, 8, .inl t_pitchv_2)), (a_t_hears, .inl (cI, 8, .inl t_hearsv_2)), (a_h, .inr (0, [.int h_desks, .ref a_h_kind, .ref a_h_leanTold, .ref a_h_needs, .ref a_h_firstHears, .ref a_h_group, .ref a_h_firstPitch, .int h_oboe, .int h_slip, .int h_warmth, .int h_unheard])), (a_h_firstHears, .inl (cI, 8, .inl h_firstHears)), (a_h_firstPitch, .inl (cI, 8, .inl h_firstPitch))] → va_S A s.heap H locs → ∀ ls : Array Slot, lv_has ls 3 [(0, .ref a_t), (1, .ref a_h), (2, .int y2_2)] → W p l e (headSpec wsX2_begin rm_X2_begin).room s m ([.ref a_t, .ref a_h] : List Value).toArray below meth c H locs 0 0 QQ (F0 m 2 ls []) := by
    intro k
    induction k with
    | zero =>
      intro y2_2 t_pitchv_2 t_hearsv_2 h
      rw [L_X2_begin_2] at h
      cases h
    | succ k ih =>
      intro y2_2 t_pitchv_2 t_hearsv_2 h H locs hP hD hS ls hl
      rw [L_X2_begin_2] at h
      refine lv_iload_n hx hb dX2_begin_2 rfl (lv_at hl 2 rfl) ?_
      refine lv_aload_n hx hb dX2_begin_3 rfl (lv_at hl 1 rfl) ?_
      refine va_get (D := (dC, dI)) (ci := 0) (v := .int h_desks) (C := RX0) (T := TX0) (N := 11) hx hb hts in_X0 hown hK hP 3 rfl rfl 0 (by decide) f_18 (fun _ h9 => h9) rfl dX2_begin_4 ?_
      refine lv_icmp_ge (tgt := 40) hx hb dX2_begin_7 (by decide) (fun c_7 => ?_) (fun c_7 => ?_)
      · have h := (if_pos c_7).symm.trans h
        obtain rfl := Option.some.inj h
        exact Jj218 _ _ hP hD hS _ hl
      · have h := (if_neg c_7).symm.trans h
        refine lv_aload_n hx hb dX2_begin_10 rfl (lv_at hl 0 rfl) ?_
        refine va_get (D := (dC, dI)) (ci := 2) (v := .ref a_t_pitch) (C := RX2) (T := TX2) (N := 4) hx hb hts in_X2 hown hK hP 0 rfl rfl 0 (by decide) f_9 (fun _ h9 => h9) rfl dX2_begin_11 ?_
        refine lv_iload_n hx hb dX2_begin_14 rfl (lv_at hl 2 rfl) ?_
        refine lv_aload_n hx hb dX2_begin_15 rfl (lv_at hl 1 rfl) ?_
        refine va_get (D := (dC, dI)) (ci := 0) (v := .ref a_h_firstPitch) (C := RX0) (T := TX0) (N := 11) hx hb hts in_X0 hown hK hP 3 rfl rfl 6 (by decide) f_24 (fun _ h9 => h9) rfl dX2_begin_16 ?_
        refine lv_iload_n hx hb dX2_begin_19 rfl (lv_at hl 2 rfl) ?_
        obtain ⟨v219, hv219, h⟩ := ob h
        refine k_ld hx hb hK hP 5 0 rfl rfl hv219 dX2_begin_20 ?_
        obtain ⟨g220, hg220, h⟩ := ob h
        refine k_st hx hb hK hP hD hS 1 0 rfl rfl hg220 dX2_begin_21 (ws' := [(a_t, .inr (2, [.ref a_t_pitch, .ref a_t_hears, .int t_oboe, .int t_seconds])), (a_t_pitch, .inl (cI, 8, .inl g220)), (a_t_hears, .inl (cI, 8, .inl t_hearsv_2)), (a_h, .inr (0, [.int h_desks, .ref a_h_kind, .ref a_h_leanTold, .ref a_h_needs, .ref a_h_firstHears, .ref a_h_group, .ref a_h_firstPitch, .int h_oboe, .int h_slip, .int h_warmth, .int h_unheard])), (a_h_firstHears, .inl (cI, 8, .inl h_firstHears)), (a_h_firstPitch, .inl (cI, 8, .inl h_firstPitch))]) rfl (fun H locs hP hD hS => ?_)
        refine lv_aload_n hx hb dX2_begin_22 rfl (lv_at hl 0 rfl) ?_
        refine va_get (D := (dC, dI)) (ci := 2) (v := .ref a_t_hears) (C := RX2) (T := TX2) (N := 4) hx hb hts in_X2 hown hK hP 0 rfl rfl 1 (by decide) f_15 (fun _ h9 => h9) rfl dX2_begin_23 ?_
        refine lv_iload_n hx hb dX2_begin_26 rfl (lv_at hl 2 rfl) ?_
        refine lv_aload_n hx hb dX2_begin_27 rfl (lv_at hl 1 rfl) ?_
        refine va_get (D := (dC, dI)) (ci := 0) (v := .ref a_h_firstHears) (C := RX0) (T := TX0) (N := 11) hx hb hts in_X0 hown hK hP 3 rfl rfl 4 (by decide) f_27 (fun _ h9 => h9) rfl dX2_begin_28 ?_
        refine lv_iload_n hx hb dX2_begin_31 rfl (lv_at hl 2 rfl) ?_
        obtain ⟨v221, hv221, h⟩ := ob h
        refine k_ld hx hb hK hP 4 0 rfl rfl hv221 dX2_begin_32 ?_
        obtain ⟨g222, hg222, h⟩ := ob h
        refine k_st hx hb hK hP hD hS 2 0 rfl rfl hg222 dX2_begin_33 (ws' := [(a_t, .inr (2, [.ref a_t_pitch, .ref a_t_hears, .int t_oboe, .int t_seconds])), (a_t_pitch, .inl (cI, 8, .inl g220)), (a_t_hears, .inl (cI, 8, .inl g222)), (a_h, .inr (0, [.int h_desks, .ref a_h_kind, .ref a_h_leanTold, .ref a_h_needs, .ref a_h_firstHears, .ref a_h_group, .ref a_h_firstPitch, .int h_oboe, .int h_slip, .int h_warmth, .int h_unheard])), (a_h_firstHears, .inl (cI, 8, .inl h_firstHears)), (a_h_firstPitch, .inl (cI, 8, .inl h_firstPitch))]) rfl (fun H locs hP hD hS => ?_)
        refine lv_iinc (v := (y2_2 + (1 : Int32))) (lv' := [(2, .int (y2_2 + (1 : Int32))), (0, .ref a_t), (1, .ref a_h)]) hx hb dX2_begin_34 hl (k := 2) rfl rfl (by decide) rfl (fun ls hl => ?_)
        refine lv_goto (tgt := 2) hx hb dX2_begin_37 (by decide) ?_
        exact ih _ _ _ h _ _ hP hD hS _ (lv_sub hl [1, 2, 0] rfl)
  exact K2 n (0 : Int32) t_pitch t_hears hjj218 _ _ hP hD hS _ (lv_sub hl [1, 2, 0] rfl)
def rm_X2_become : Room := { frames := 0, cells := 0, slots := 0, locals := 0 }
set_option maxRecDepth 100000 in
set_option maxHeartbeats 8000000 in
theorem c_X2_become (l : Launch) (dC : Nat → ClassId) (dI : Nat → Nat → Nat) (cI cS : ClassId) (n sz : Nat) (a_t : Nat) (a_t_pitch : Nat) (a_t_hears : Nat) (a_s : Nat) (a_s_pitch : Nat) (a_s_hears : Nat) (t_pitch : Nat → Int32) (t_hears : Nat → Int32) (t_oboe : Int32) (t_seconds : Int32) (s_pitch : Nat → Int32) (s_hears : Nat → Int32) (s_oboe : Int32) (s_seconds : Int32) (res : Int32 × Int32 × (Nat → Int32) × (Nat → Int32))  (h : F_X2_become n t_pitch t_hears s_pitch s_hears s_oboe s_seconds = some res) : Met l yX2_become wsX2_become rm_X2_become (va_Pc [.ref a_t, .ref a_s] (PRE (dC, dI) vwCl [(cI, .int), (cS, .object "RoundOfTheA$State")] sz [(a_t, .inr (2, [.ref a_t_pitch, .ref a_t_hears, .int t_oboe, .int t_seconds])), (a_t_pitch, .inl (cI, 8, .inl t_pitch)), (a_t_hears, .inl (cI, 8, .inl t_hears)), (a_s, .inr (2, [.ref a_s_pitch, .ref a_s_hears, .int s_oboe, .int s_seconds])), (a_s_pitch, .inl (cI, 8, .inl s_pitch)), (a_s_hears, .inl (cI, 8, .inl s_hears))])) (va_Qv (fun _ : Unit => True) (fun u t => POST (dC, dI) vwCl [(a_t, .inr (2, [.ref a_t_pitch, .ref a_t_hears, .int res.1, .int res.2.1])), (a_t_pitch, .inl (cI, 8, .inl res.2.2.1)), (a_t_hears, .inl (cI, 8, .inl res.2.2.2)), (a_s, .inr (2, [.ref a_s_pitch, .ref a_s_hears, .int s_oboe, .int s_seconds])), (a_s_pitch, .inl (cI, 8, .inl s_pitch)), (a_s_hears, .inl (cI, 8, .inl s_hears))] (va_A [(a_t, .inr (2, [.ref a_t_pitch, .ref a_t_hears, .int t_oboe, .int t_seconds])), (a_t_pitch, .inl (cI, 8, .inl t_pitch)), (a_t_hears, .inl (cI, 8, .inl t_hears)), (a_s, .inr (2, [.ref a_s_pitch, .ref a_s_hears, .int s_oboe, .int s_seconds])), (a_s_pitch, .inl (cI, 8, .inl s_pitch)), (a_s_hears, .inl (cI, 8, .inl s_hears))] sz) t) (va_A [(a_t, .inr (2, [.ref a_t_pitch, .ref a_t_hears, .int t_oboe, .int t_seconds])), (a_t_pitch, .inl (cI, 8, .inl t_pitch)), (a_t_hears, .inl (cI, 8, .inl t_hears)), (a_s, .inr (2, [.ref a_s_pitch, .ref a_s_hears, .int s_oboe, .int s_seconds])), (a_s_pitch, .inl (cI, 8, .inl s_pitch)), (a_s_hears, .inl (cI, 8, .inl s_hears))] sz)) 0 0 (va_A [(a_t, .inr (2, [.ref a_t_pitch, .ref a_t_hears, .int t_oboe, .int t_seconds])), (a_t_pitch, .inl (cI, 8, .inl t_pitch)), (a_t_hears, .inl (cI, 8, .inl t_hears)), (a_s, .inr (2, [.ref a_s_pitch, .ref a_s_hears, .int s_oboe, .int s_seconds])), (a_s_pitch, .inl (cI, 8, .inl s_pitch)), (a_s_hears, .inl (cI, 8, .inl s_hears))] sz) := by
  refine Met.ofW (cc := cX2_become) (maxL := 3) (ret := none) (by decide) rfl ?_
  intro p e s m args below meth c s₁ B hml hv
  obtain ⟨rfl, hsz, hN, hP, hK, hD0⟩ := hv
  have hx := B.exec
  have hb := B.bytes
  have hr := B.returns
  have hts := atoms_spec (ws := wsX2_become) B.pre
  have hown : s.vm.findClass RX2 = some m.cls := findClass_of_methodNamed B.named
  have hlocks := B.notSynchronized
  subst hsz
  have hD := hD0.self (sz := s.heap.size)
  generalize hAe : va_A [(a_t, .inr (2, [.ref a_t_pitch, .ref a_t_hears, .int t_oboe, .int t_seconds])), (a_t_pitch, .inl (cI, 8, .inl t_pitch)), (a_t_hears, .inl (cI, 8, .inl t_hears)), (a_s, .inr (2, [.ref a_s_pitch, .ref a_s_hears, .int s_oboe, .int s_seconds])), (a_s_pitch, .inl (cI, 8, .inl s_pitch)), (a_s_hears, .inl (cI, 8, .inl s_hears))] s.heap.size = A at hD ⊢
  have hA : ∀ q : Nat, s.heap.size ≤ q → A q := fun q h => by rw [← hAe]; exact Or.inr h
  have hS : va_S A s.heap s.heap [] := va_S.rf
  generalize hQe : MQ below _ _ s _ _ A = QQ
  have hl := lv_entry ([.ref a_t, .ref a_s]) (n := 3) (Nat.le_of_ble_eq_true rfl)
  rw [lg_entry_eq]
  generalize (lg_sl ([.ref a_t, .ref a_s]) ++ List.replicate (3 - (lg_sl ([.ref a_t, .ref a_s])).length) Slot.unset).toArray = ls at hl ⊢
  have hl : lv_has ls 3 [(0, .ref a_t), (1, .ref a_s)] := hl
  have f_9 := hts (.fieldLink RX2 9 "RoundOfTheA$State" "pitch" "[I") (by decide +kernel)
  have in_X2 := (by decide +kernel : ∀ w ∈ wsX20, w ∈ wsX2_become)
  have f_15 := hts (.fieldLink RX2 15 "RoundOfTheA$State" "hears" "[I") (by decide +kernel)
  have f_33 := hts (.fieldLink RX2 33 "RoundOfTheA$State" "oboe" "I") (by decide +kernel)
  have f_34 := hts (.fieldLink RX2 34 "RoundOfTheA$State" "seconds" "I") (by decide +kernel)
  rw [F_X2_become] at h
  refine lv_iconst (v := (0 : Int32)) hx hb dX2_become_0 (by decide) ?_
  refine lv_istore_n (lv' := [(2, .int (0 : Int32)), (0, .ref a_t), (1, .ref a_s)]) hx hb dX2_become_1 rfl hl (by decide) rfl (fun ls hl => ?_)
  obtain ⟨j250, hjj250, h⟩ := ob h
  have Jj250 : ∀ (H : Heap) (locs : List Loc), va_P (dC, dI) vwCl [(a_t, .inr (2, [.ref a_t_pitch, .ref a_t_hears, .int t_oboe, .int t_seconds])), (a_t_pitch, .inl (cI, 8, .inl j250.2.1)), (a_t_hears, .inl (cI, 8, .inl j250.2.2)), (a_s, .inr (2, [.ref a_s_pitch, .ref a_s_hears, .int s_oboe, .int s_seconds])), (a_s_pitch, .inl (cI, 8, .inl s_pitch)), (a_s_hears, .inl (cI, 8, .inl s_hears))] H → va_D A [(a_t, .inr (2, [.ref a_t_pitch, .ref a_t_hears, .int t_oboe, .int t_seconds])), (a_t_pitch, .inl (cI, 8, .inl j250.2.1)), (a_t_hears, .inl (cI, 8, .inl j250.2.2)), (a_s, .inr (2, [.ref a_s_pitch, .ref a_s_hears, .int s_oboe, .int s_seconds])), (a_s_pitch, .inl (cI, 8, .inl s_pitch)), (a_s_hears, .inl (cI, 8, .inl s_hears))] → va_S A s.heap H locs → ∀ ls : Array Slot, lv_has ls 3 [(0, .ref a_t), (1, .ref a_s), (2, .int j250.1)] → W p l e (headSpec wsX2_become rm_X2_become).room s m ([.ref a_t, .ref a_s] : List Value).toArray below meth c H locs 0 0 QQ (F0 m 38 ls []) := by
    intro H locs hP hD hS ls hl
    refine lv_aload_n hx hb dX2_become_38 rfl (lv_at hl 0 rfl) ?_
    refine lv_aload_n hx hb dX2_become_39 rfl (lv_at hl 1 rfl) ?_
    refine va_get (D := (dC, dI)) (ci := 2) (v := .int s_oboe) (C := RX2) (T := TX2) (N := 4) hx hb hts in_X2 hown hK hP 3 rfl rfl 2 (by decide) f_33 (fun _ h9 => h9) rfl dX2_become_40 ?_
    refine va_put (D := (dC, dI)) (ci := 2) (v := .int s_oboe) (ty := .int) (C := RX2) (T := TX2) (N := 4) hx hb hts in_X2 tyX2 tyX2_ok nmX2 hown hK hP hD hS 0 rfl rfl 2 (by decide) f_33 (fun _ h9 => h9) rfl (by decide +kernel) rfl rfl (Nat.le_of_ble_eq_true rfl) dX2_become_43 (fun H locs hP hD hS => ?_)
    have hP : va_P (dC, dI) vwCl [(a_t, .inr (2, [.ref a_t_pitch, .ref a_t_hears, .int s_oboe, .int t_seconds])), (a_t_pitch, .inl (cI, 8, .inl j250.2.1)), (a_t_hears, .inl (cI, 8, .inl j250.2.2)), (a_s, .inr (2, [.ref a_s_pitch, .ref a_s_hears, .int s_oboe, .int s_seconds])), (a_s_pitch, .inl (cI, 8, .inl s_pitch)), (a_s_hears, .inl (cI, 8, .inl s_hears))] H := hP
    have hD : va_D A [(a_t, .inr (2, [.ref a_t_pitch, .ref a_t_hears, .int s_oboe, .int t_seconds])), (a_t_pitch, .inl (cI, 8, .inl j250.2.1)), (a_t_hears, .inl (cI, 8, .inl j250.2.2)), (a_s, .inr (2, [.ref a_s_pitch, .ref a_s_hears, .int s_oboe, .int s_seconds])), (a_s_pitch, .inl (cI, 8, .inl s_pitch)), (a_s_hears, .inl (cI, 8, .inl s_hears))] := hD
    refine lv_aload_n hx hb dX2_become_46 rfl (lv_at hl 0 rfl) ?_
    refine lv_aload_n hx hb dX2_become_47 rfl (lv_at hl 1 rfl) ?_
    refine va_get (D := (dC, dI)) (ci := 2) (v := .int s_seconds) (C := RX2) (T := TX2) (N := 4) hx hb hts in_X2 hown hK hP 3 rfl rfl 3 (by decide) f_34 (fun _ h9 => h9) rfl dX2_become_48 ?_
    refine va_put (D := (dC, dI)) (ci := 2) (v := .int s_seconds) (ty := .int) (C := RX2) (T := TX2) (N := 4) hx hb hts in_X2 tyX2 tyX2_ok nmX2 hown hK hP hD hS 0 rfl rfl 3 (by decide) f_34 (fun _ h9 => h9) rfl (by decide +kernel) rfl rfl (Nat.le_of_ble_eq_true rfl) dX2_become_51 (fun H locs hP hD hS => ?_)
    have hP : va_P (dC, dI) vwCl [(a_t, .inr (2, [.ref a_t_pitch, .ref a_t_hears, .int s_oboe, .int s_seconds])), (a_t_pitch, .inl (cI, 8, .inl j250.2.1)), (a_t_hears, .inl (cI, 8, .inl j250.2.2)), (a_s, .inr (2, [.ref a_s_pitch, .ref a_s_hears, .int s_oboe, .int s_seconds])), (a_s_pitch, .inl (cI, 8, .inl s_pitch)), (a_s_hears, .inl (cI, 8, .inl s_hears))] H := hP
    have hD : va_D A [(a_t, .inr (2, [.ref a_t_pitch, .ref a_t_hears, .int s_oboe, .int s_seconds])), (a_t_pitch, .inl (cI, 8, .inl j250.2.1)), (a_t_hears, .inl (cI, 8, .inl j250.2.2)), (a_s, .inr (2, [.ref a_s_pitch, .ref a_s_hears, .int s_oboe, .int s_seconds])), (a_s_pitch, .inl (cI, 8, .inl s_pitch)), (a_s_hears, .inl (cI, 8, .inl s_hears))] := hD
    obtain rfl := Option.some.inj h
    subst hQe
    exact W.vret hx hb hr (fun t ht hW => ⟨⟨(), rfl, trivial, ⟨by rw [ht]; exact hP, hD⟩⟩, hS.F ht⟩) hS.2.2 dX2_become_54
  have K2 : ∀ (k : Nat) (y2_2 : Int32) (t_pitchv_2 : Nat → Int32) (t_hearsv_2 : Nat → Int32), L_X2_become_2 s_pitch s_hears k y2_2 t_pitchv_2 t_hearsv_2 = some j250 → ∀ (H : Heap) (locs : List Loc), va_P (dC, dI) vwCl [(a_t, .inr (2, [.ref a_t_pitch, .ref a_t_hears, .int t_oboe, .int t_seconds])), (a_t_pitch, .inl (cI, 8, .inl t_pitchv_2)), (a_t_hears, .inl (cI, 8, .inl t_hearsv_2)), (a_s, .inr (2, [.ref a_s_pitch, .ref a_s_hears, .int s_oboe, .int s_seconds])), (a_s_pitch, .inl (cI, 8, .inl s_pitch)), (a_s_hears, .inl (cI, 8, .inl s_hears))] H → va_D A [(a_t, .inr (2, [.ref a_t_pitch, .ref a_t_hears, .int t_oboe, .int t_seconds])), (a_t_pitch, .inl (cI, 8, .inl t_pitchv_2)), (a_t_hears, .inl (cI, 8, .inl t_hearsv_2)), (a_s, .inr (2, [.ref a_s_pitch, .ref a_s_hears, .int s_oboe, .int s_seconds])), (a_s_pitch, .inl (cI, 8, .inl s_pitch)), (a_s_hears, .inl (cI, 8, .inl s_hears))] → va_S A s.heap H locs → ∀ ls : Array Slot, lv_has ls 3 [(0, .ref a_t), (1, .ref a_s), (2, .int y2_2)] → W p l e (headSpec wsX2_become rm_X2_become).room s m ([.ref a_t, .ref a_s] : List Value).toArray below meth c H locs 0 0 QQ (F0 m 2 ls []) := by
    intro k
    induction k with
    | zero =>
      intro y2_2 t_pitchv_2 t_hearsv_2 h
      rw [L_X2_become_2] at h
      cases h
    | succ k ih =>
      intro y2_2 t_pitchv_2 t_hearsv_2 h H locs hP hD hS ls hl
      rw [L_X2_become_2] at h
      refine lv_iload_n hx hb dX2_become_2 rfl (lv_at hl 2 rfl) ?_
      refine lv_bipush (v := (8 : Int32)) hx hb dX2_become_3 (by decide) ?_
      refine lv_icmp_ge (tgt := 38) hx hb dX2_become_5 (by decide) (fun c_5 => ?_) (fun c_5 => ?_)
      · have h := (if_pos c_5).symm.trans h
        obtain rfl := Option.some.inj h
        exact Jj250 _ _ hP hD hS _ hl
      · have h := (if_neg c_5).symm.trans h
        refine lv_aload_n hx hb dX2_become_8 rfl (lv_at hl 0 rfl) ?_
        refine va_get (D := (dC, dI)) (ci := 2) (v := .ref a_t_pitch) (C := RX2) (T := TX2) (N := 4) hx hb hts in_X2 hown hK hP 0 rfl rfl 0 (by decide) f_9 (fun _ h9 => h9) rfl dX2_become_9 ?_
        refine lv_iload_n hx hb dX2_become_12 rfl (lv_at hl 2 rfl) ?_
        refine lv_aload_n hx hb dX2_become_13 rfl (lv_at hl 1 rfl) ?_
        refine va_get (D := (dC, dI)) (ci := 2) (v := .ref a_s_pitch) (C := RX2) (T := TX2) (N := 4) hx hb hts in_X2 hown hK hP 3 rfl rfl 0 (by decide) f_9 (fun _ h9 => h9) rfl dX2_become_14 ?_
        refine lv_iload_n hx hb dX2_become_17 rfl (lv_at hl 2 rfl) ?_
        obtain ⟨v251, hv251, h⟩ := ob h
        refine k_ld hx hb hK hP 4 0 rfl rfl hv251 dX2_become_18 ?_
        obtain ⟨g252, hg252, h⟩ := ob h
        refine k_st hx hb hK hP hD hS 1 0 rfl rfl hg252 dX2_become_19 (ws' := [(a_t, .inr (2, [.ref a_t_pitch, .ref a_t_hears, .int t_oboe, .int t_seconds])), (a_t_pitch, .inl (cI, 8, .inl g252)), (a_t_hears, .inl (cI, 8, .inl t_hearsv_2)), (a_s, .inr (2, [.ref a_s_pitch, .ref a_s_hears, .int s_oboe, .int s_seconds])), (a_s_pitch, .inl (cI, 8, .inl s_pitch)), (a_s_hears, .inl (cI, 8, .inl s_hears))]) rfl (fun H locs hP hD hS => ?_)
        refine lv_aload_n hx hb dX2_become_20 rfl (lv_at hl 0 rfl) ?_
        refine va_get (D := (dC, dI)) (ci := 2) (v := .ref a_t_hears) (C := RX2) (T := TX2) (N := 4) hx hb hts in_X2 hown hK hP 0 rfl rfl 1 (by decide) f_15 (fun _ h9 => h9) rfl dX2_become_21 ?_
        refine lv_iload_n hx hb dX2_become_24 rfl (lv_at hl 2 rfl) ?_
        refine lv_aload_n hx hb dX2_become_25 rfl (lv_at hl 1 rfl) ?_
        refine va_get (D := (dC, dI)) (ci := 2) (v := .ref a_s_hears) (C := RX2) (T := TX2) (N := 4) hx hb hts in_X2 hown hK hP 3 rfl rfl 1 (by decide) f_15 (fun _ h9 => h9) rfl dX2_become_26 ?_
        refine lv_iload_n hx hb dX2_become_29 rfl (lv_at hl 2 rfl) ?_
        obtain ⟨v253, hv253, h⟩ := ob h
        refine k_ld hx hb hK hP 5 0 rfl rfl hv253 dX2_become_30 ?_
        obtain ⟨g254, hg254, h⟩ := ob h
        refine k_st hx hb hK hP hD hS 2 0 rfl rfl hg254 dX2_become_31 (ws' := [(a_t, .inr (2, [.ref a_t_pitch, .ref a_t_hears, .int t_oboe, .int t_seconds])), (a_t_pitch, .inl (cI, 8, .inl g252)), (a_t_hears, .inl (cI, 8, .inl g254)), (a_s, .inr (2, [.ref a_s_pitch, .ref a_s_hears, .int s_oboe, .int s_seconds])), (a_s_pitch, .inl (cI, 8, .inl s_pitch)), (a_s_hears, .inl (cI, 8, .inl s_hears))]) rfl (fun H locs hP hD hS => ?_)
        refine lv_iinc (v := (y2_2 + (1 : Int32))) (lv' := [(2, .int (y2_2 + (1 : Int32))), (0, .ref a_t), (1, .ref a_s)]) hx hb dX2_become_32 hl (k := 2) rfl rfl (by decide) rfl (fun ls hl => ?_)
        refine lv_goto (tgt := 2) hx hb dX2_become_35 (by decide) ?_
        exact ih _ _ _ h _ _ hP hD hS _ (lv_sub hl [1, 2, 0] rfl)
  exact K2 n (0 : Int32) t_pitch t_hears hjj250 _ _ hP hD hS _ (lv_sub hl [1, 2, 0] rfl)
def rm_X2_pitchOf : Room := { frames := 0, cells := 0, slots := 0, locals := 0 }
set_option maxRecDepth 100000 in
set_option maxHeartbeats 8000000 in
theorem c_X2_pitchOf (l : Launch) (dC : Nat → ClassId) (dI : Nat → Nat → Nat) (cI cS : ClassId) (n sz : Nat) (a_t : Nat) (a_t_pitch : Nat) (a_t_hears : Nat) (t_pitch : Nat → Int32) (t_oboe : Int32) (t_seconds : Int32) (x1 : Int32) (res : Int32)  (h : F_X2_pitchOf n t_pitch t_oboe x1 = some res) : Met l yX2_pitchOf wsX2_pitchOf rm_X2_pitchOf (va_Pc [.ref a_t, .int x1] (PRE (dC, dI) vwCl [(cI, .int), (cS, .object "RoundOfTheA$State")] sz [(a_t, .inr (2, [.ref a_t_pitch, .ref a_t_hears, .int t_oboe, .int t_seconds])), (a_t_pitch, .inl (cI, 8, .inl t_pitch))])) (va_Qi (fun (r : Int32) (_ : Unit) => r = res) (fun u t => POST (dC, dI) vwCl [(a_t, .inr (2, [.ref a_t_pitch, .ref a_t_hears, .int t_oboe, .int t_seconds])), (a_t_pitch, .inl (cI, 8, .inl t_pitch))] (va_A [(a_t, .inr (2, [.ref a_t_pitch, .ref a_t_hears, .int t_oboe, .int t_seconds])), (a_t_pitch, .inl (cI, 8, .inl t_pitch))] sz) t) (va_A [(a_t, .inr (2, [.ref a_t_pitch, .ref a_t_hears, .int t_oboe, .int t_seconds])), (a_t_pitch, .inl (cI, 8, .inl t_pitch))] sz)) 0 0 (va_A [(a_t, .inr (2, [.ref a_t_pitch, .ref a_t_hears, .int t_oboe, .int t_seconds])), (a_t_pitch, .inl (cI, 8, .inl t_pitch))] sz) := by
  refine Met.ofW (cc := cX2_pitchOf) (maxL := 2) (ret := (some .int)) (by decide) rfl ?_
  intro p e s m args below meth c s₁ B hml hv
  obtain ⟨rfl, hsz, hN, hP, hK, hD0⟩ := hv
  have hx := B.exec
  have hb := B.bytes
  have hr := B.returns
  have hts := atoms_spec (ws := wsX2_pitchOf) B.pre
  have hown : s.vm.findClass RX2 = some m.cls := findClass_of_methodNamed B.named
  have hlocks := B.notSynchronized
  subst hsz
  have hD := hD0.self (sz := s.heap.size)
  generalize hAe : va_A [(a_t, .inr (2, [.ref a_t_pitch, .ref a_t_hears, .int t_oboe, .int t_seconds])), (a_t_pitch, .inl (cI, 8, .inl t_pitch))] s.heap.size = A at hD ⊢
  have hA : ∀ q : Nat, s.heap.size ≤ q → A q := fun q h => by rw [← hAe]; exact Or.inr h
  have hS : va_S A s.heap s.heap [] := va_S.rf
  generalize hQe : MQ below _ _ s _ _ A = QQ
  have hl := lv_entry ([.ref a_t, .int x1]) (n := 2) (Nat.le_of_ble_eq_true rfl)
  rw [lg_entry_eq]
  generalize (lg_sl ([.ref a_t, .int x1]) ++ List.replicate (2 - (lg_sl ([.ref a_t, .int x1])).length) Slot.unset).toArray = ls at hl ⊢
  have hl : lv_has ls 2 [(0, .ref a_t), (1, .int x1)] := hl
  have f_9 := hts (.fieldLink RX2 9 "RoundOfTheA$State" "pitch" "[I") (by decide +kernel)
  have in_X2 := (by decide +kernel : ∀ w ∈ wsX20, w ∈ wsX2_pitchOf)
  have f_33 := hts (.fieldLink RX2 33 "RoundOfTheA$State" "oboe" "I") (by decide +kernel)
  rw [F_X2_pitchOf] at h
  refine lv_iload_n hx hb dX2_pitchOf_0 rfl (lv_at hl 1 rfl) ?_
  refine lv_bipush (v := (9 : Int32)) hx hb dX2_pitchOf_1 (by decide) ?_
  refine lv_icmp_ne (tgt := 11) hx hb dX2_pitchOf_3 (by decide) (fun c_3 => ?_) (fun c_3 => ?_)
  · have h := (if_neg c_3).symm.trans h
    refine lv_iload_n hx hb dX2_pitchOf_11 rfl (lv_at hl 1 rfl) ?_
    refine lv_if_lt (tgt := 30) hx hb dX2_pitchOf_12 (by decide) (fun c_12 => ?_) (fun c_12 => ?_)
    · have h := (if_pos c_12).symm.trans h
      refine lv_iconst (v := (0 : Int32)) hx hb dX2_pitchOf_30 (by decide) ?_
      obtain rfl := Option.some.inj h
      subst hQe
      exact W.iret (v := (0 : Int32)) hx hb hr (fun t ht hW => ⟨⟨(0 : Int32), (), rfl, rfl, ⟨by rw [ht]; exact hP, hD⟩⟩, hS.F ht⟩) hS.2.2 dX2_pitchOf_31
    · have h := (if_neg c_12).symm.trans h
      refine lv_iload_n hx hb dX2_pitchOf_15 rfl (lv_at hl 1 rfl) ?_
      refine lv_bipush (v := (8 : Int32)) hx hb dX2_pitchOf_16 (by decide) ?_
      refine lv_icmp_ge (tgt := 30) hx hb dX2_pitchOf_18 (by decide) (fun c_18 => ?_) (fun c_18 => ?_)
      · have h := (if_pos c_18).symm.trans h
        refine lv_iconst (v := (0 : Int32)) hx hb dX2_pitchOf_30 (by decide) ?_
        obtain rfl := Option.some.inj h
        subst hQe
        exact W.iret (v := (0 : Int32)) hx hb hr (fun t ht hW => ⟨⟨(0 : Int32), (), rfl, rfl, ⟨by rw [ht]; exact hP, hD⟩⟩, hS.F ht⟩) hS.2.2 dX2_pitchOf_31
      · have h := (if_neg c_18).symm.trans h
        refine lv_aload_n hx hb dX2_pitchOf_21 rfl (lv_at hl 0 rfl) ?_
        refine va_get (D := (dC, dI)) (ci := 2) (v := .ref a_t_pitch) (C := RX2) (T := TX2) (N := 4) hx hb hts in_X2 hown hK hP 0 rfl rfl 0 (by decide) f_9 (fun _ h9 => h9) rfl dX2_pitchOf_22 ?_
        refine lv_iload_n hx hb dX2_pitchOf_25 rfl (lv_at hl 1 rfl) ?_
        obtain ⟨v256, hv256, h⟩ := ob h
        refine k_ld hx hb hK hP 1 0 rfl rfl hv256 dX2_pitchOf_26 ?_
        refine lv_goto (tgt := 31) hx hb dX2_pitchOf_27 (by decide) ?_
        obtain rfl := Option.some.inj h
        subst hQe
        exact W.iret (v := v256) hx hb hr (fun t ht hW => ⟨⟨v256, (), rfl, rfl, ⟨by rw [ht]; exact hP, hD⟩⟩, hS.F ht⟩) hS.2.2 dX2_pitchOf_31
  · have h := (if_pos c_3).symm.trans h
    refine lv_aload_n hx hb dX2_pitchOf_6 rfl (lv_at hl 0 rfl) ?_
    refine va_get (D := (dC, dI)) (ci := 2) (v := .int t_oboe) (C := RX2) (T := TX2) (N := 4) hx hb hts in_X2 hown hK hP 0 rfl rfl 2 (by decide) f_33 (fun _ h9 => h9) rfl dX2_pitchOf_7 ?_
    obtain rfl := Option.some.inj h
    subst hQe
    exact W.iret (v := t_oboe) hx hb hr (fun t ht hW => ⟨⟨t_oboe, (), rfl, rfl, ⟨by rw [ht]; exact hP, hD⟩⟩, hS.F ht⟩) hS.2.2 dX2_pitchOf_10
def rm_X2_letPass : Room := { frames := 2, cells := 0, slots := 0, locals := 42 }
set_option maxRecDepth 100000 in
set_option maxHeartbeats 8000000 in
theorem c_X2_letPass (l : Launch) (dC : Nat → ClassId) (dI : Nat → Nat → Nat) (cI cS : ClassId) (n sz : Nat) (a_t : Nat) (a_t_pitch : Nat) (a_t_hears : Nat) (a_h : Nat) (a_h_kind : Nat) (a_h_leanTold : Nat) (a_h_needs : Nat) (a_h_firstHears : Nat) (a_h_group : Nat) (a_h_firstPitch : Nat) (t_pitch : Nat → Int32) (t_oboe : Int32) (t_seconds : Int32) (h_desks : Int32) (h_kind : Nat → Int32) (h_oboe : Int32) (h_slip : Int32) (h_warmth : Int32) (h_unheard : Int32) (x2 : Int32) (res : Int32 × (Nat → Int32))  (h : F_X2_letPass n t_pitch t_seconds h_desks h_kind h_warmth x2 = some res) : Met l yX2_letPass wsX2_letPass rm_X2_letPass (va_Pc [.ref a_t, .ref a_h, .int x2] (PRE (dC, dI) vwCl [(cI, .int), (cS, .object "RoundOfTheA$State")] sz [(a_t, .inr (2, [.ref a_t_pitch, .ref a_t_hears, .int t_oboe, .int t_seconds])), (a_t_pitch, .inl (cI, 8, .inl t_pitch)), (a_h, .inr (0, [.int h_desks, .ref a_h_kind, .ref a_h_leanTold, .ref a_h_needs, .ref a_h_firstHears, .ref a_h_group, .ref a_h_firstPitch, .int h_oboe, .int h_slip, .int h_warmth, .int h_unheard])), (a_h_kind, .inl (cI, 8, .inl h_kind))])) (va_Qv (fun _ : Unit => True) (fun u t => POST (dC, dI) vwCl [(a_t, .inr (2, [.ref a_t_pitch, .ref a_t_hears, .int t_oboe, .int res.1])), (a_t_pitch, .inl (cI, 8, .inl res.2)), (a_h, .inr (0, [.int h_desks, .ref a_h_kind, .ref a_h_leanTold, .ref a_h_needs, .ref a_h_firstHears, .ref a_h_group, .ref a_h_firstPitch, .int h_oboe, .int h_slip, .int h_warmth, .int h_unheard])), (a_h_kind, .inl (cI, 8, .inl h_kind))] (va_A [(a_t, .inr (2, [.ref a_t_pitch, .ref a_t_hears, .int t_oboe, .int t_seconds])), (a_t_pitch, .inl (cI, 8, .inl t_pitch)), (a_h, .inr (0, [.int h_desks, .ref a_h_kind, .ref a_h_leanTold, .ref a_h_needs, .ref a_h_firstHears, .ref a_h_group, .ref a_h_firstPitch, .int h_oboe, .int h_slip, .int h_warmth, .int h_unheard])), (a_h_kind, .inl (cI, 8, .inl h_kind))] sz) t) (va_A [(a_t, .inr (2, [.ref a_t_pitch, .ref a_t_hears, .int t_oboe, .int t_seconds])), (a_t_pitch, .inl (cI, 8, .inl t_pitch)), (a_h, .inr (0, [.int h_desks, .ref a_h_kind, .ref a_h_leanTold, .ref a_h_needs, .ref a_h_firstHears, .ref a_h_group, .ref a_h_firstPitch, .int h_oboe, .int h_slip, .int h_warmth, .int h_unheard])), (a_h_kind, .inl (cI, 8, .inl h_kind))] sz)) 0 0 (va_A [(a_t, .inr (2, [.ref a_t_pitch, .ref a_t_hears, .int t_oboe, .int t_seconds])), (a_t_pitch, .inl (cI, 8, .inl t_pitch)), (a_h, .inr (0, [.int h_desks, .ref a_h_kind, .ref a_h_leanTold, .ref a_h_needs, .ref a_h_firstHears, .ref a_h_group, .ref a_h_firstPitch, .int h_oboe, .int h_slip, .int h_warmth, .int h_unheard])), (a_h_kind, .inl (cI, 8, .inl h_kind))] sz) := by
  refine Met.ofW (cc := cX2_letPass) (maxL := 6) (ret := none) (by decide) rfl ?_
  intro p e s m args below meth c s₁ B hml hv
  obtain ⟨rfl, hsz, hN, hP, hK, hD0⟩ := hv
  have hx := B.exec
  have hb := B.bytes
  have hr := B.returns
  have hts := atoms_spec (ws := wsX2_letPass) B.pre
  have hown : s.vm.findClass RX2 = some m.cls := findClass_of_methodNamed B.named
  have hlocks := B.notSynchronized
  subst hsz
  have hD := hD0.self (sz := s.heap.size)
  generalize hAe : va_A [(a_t, .inr (2, [.ref a_t_pitch, .ref a_t_hears, .int t_oboe, .int t_seconds])), (a_t_pitch, .inl (cI, 8, .inl t_pitch)), (a_h, .inr (0, [.int h_desks, .ref a_h_kind, .ref a_h_leanTold, .ref a_h_needs, .ref a_h_firstHears, .ref a_h_group, .ref a_h_firstPitch, .int h_oboe, .int h_slip, .int h_warmth, .int h_unheard])), (a_h_kind, .inl (cI, 8, .inl h_kind))] s.heap.size = A at hD ⊢
  have hA : ∀ q : Nat, s.heap.size ≤ q → A q := fun q h => by rw [← hAe]; exact Or.inr h
  have hS : va_S A s.heap s.heap [] := va_S.rf
  generalize hQe : MQ below _ _ s _ _ A = QQ
  have hl := lv_entry ([.ref a_t, .ref a_h, .int x2]) (n := 6) (Nat.le_of_ble_eq_true rfl)
  rw [lg_entry_eq]
  generalize (lg_sl ([.ref a_t, .ref a_h, .int x2]) ++ List.replicate (6 - (lg_sl ([.ref a_t, .ref a_h, .int x2])).length) Slot.unset).toArray = ls at hl ⊢
  have hl : lv_has ls 6 [(0, .ref a_t), (1, .ref a_h), (2, .int x2)] := hl
  have f_34 := hts (.fieldLink RX2 34 "RoundOfTheA$State" "seconds" "I") (by decide +kernel)
  have in_X2 := (by decide +kernel : ∀ w ∈ wsX20, w ∈ wsX2_letPass)
  have f_37 := hts (.fieldLink RX2 37 "RoundOfTheA$Hall" "warmth" "I") (by decide +kernel)
  have in_X0 := (by decide +kernel : ∀ w ∈ wsX00, w ∈ wsX2_letPass)
  have f_18 := hts (.fieldLink RX2 18 "RoundOfTheA$Hall" "desks" "I") (by decide +kernel)
  have f_9 := hts (.fieldLink RX2 9 "RoundOfTheA$State" "pitch" "[I") (by decide +kernel)
  have k_iniX5 := hts (.initialized RX5) (by decide +kernel)
  have m_st_X5_within := hts (.static yX5_within) (by decide +kernel)
  rw [F_X2_letPass] at h
  refine lv_aload_n hx hb dX2_letPass_0 rfl (lv_at hl 0 rfl) ?_
  refine va_get (D := (dC, dI)) (ci := 2) (v := .int t_seconds) (C := RX2) (T := TX2) (N := 4) hx hb hts in_X2 hown hK hP 0 rfl rfl 3 (by decide) f_34 (fun _ h9 => h9) rfl dX2_letPass_1 ?_
  refine lv_iload_n hx hb dX2_letPass_4 rfl (lv_at hl 2 rfl) ?_
  refine lv_iadd hx hb dX2_letPass_5 ?_
  refine lv_bipush (v := (60 : Int32)) hx hb dX2_letPass_6 (by decide) ?_
  refine lv_idiv hx hb dX2_letPass_8 (by decide) ?_
  refine lv_aload_n hx hb dX2_letPass_9 rfl (lv_at hl 0 rfl) ?_
  refine va_get (D := (dC, dI)) (ci := 2) (v := .int t_seconds) (C := RX2) (T := TX2) (N := 4) hx hb hts in_X2 hown hK hP 0 rfl rfl 3 (by decide) f_34 (fun _ h9 => h9) rfl dX2_letPass_10 ?_
  refine lv_bipush (v := (60 : Int32)) hx hb dX2_letPass_13 (by decide) ?_
  refine lv_idiv hx hb dX2_letPass_15 (by decide) ?_
  refine lv_isub hx hb dX2_letPass_16 ?_
  refine lv_istore_n (lv' := [(3, .int (((t_seconds + x2) / (60 : Int32)) - (t_seconds / (60 : Int32)))), (0, .ref a_t), (1, .ref a_h), (2, .int x2)]) hx hb dX2_letPass_17 rfl hl (by decide) rfl (fun ls hl => ?_)
  refine lv_iload_n hx hb dX2_letPass_18 rfl (lv_at hl 0 rfl) ?_
  refine lv_aload_n hx hb dX2_letPass_19 rfl (lv_at hl 2 rfl) ?_
  refine va_get (D := (dC, dI)) (ci := 0) (v := .int h_warmth) (C := RX0) (T := TX0) (N := 11) hx hb hts in_X0 hown hK hP 2 rfl rfl 9 (by decide) f_37 (fun _ h9 => h9) rfl dX2_letPass_20 ?_
  refine lv_imul hx hb dX2_letPass_23 ?_
  refine lv_istore (lv' := [(4, .int ((((t_seconds + x2) / (60 : Int32)) - (t_seconds / (60 : Int32))) * h_warmth)), (3, .int (((t_seconds + x2) / (60 : Int32)) - (t_seconds / (60 : Int32)))), (0, .ref a_t), (1, .ref a_h), (2, .int x2)]) hx hb dX2_letPass_24 hl (by decide) rfl (fun ls hl => ?_)
  refine lv_iconst (v := (0 : Int32)) hx hb dX2_letPass_26 (by decide) ?_
  refine lv_istore (lv' := [(5, .int (0 : Int32)), (4, .int ((((t_seconds + x2) / (60 : Int32)) - (t_seconds / (60 : Int32))) * h_warmth)), (3, .int (((t_seconds + x2) / (60 : Int32)) - (t_seconds / (60 : Int32)))), (0, .ref a_t), (1, .ref a_h), (2, .int x2)]) hx hb dX2_letPass_27 hl (by decide) rfl (fun ls hl => ?_)
  obtain ⟨j292, hjj292, h⟩ := ob h
  have Jj292 : ∀ (H : Heap) (locs : List Loc), va_P (dC, dI) vwCl [(a_t, .inr (2, [.ref a_t_pitch, .ref a_t_hears, .int t_oboe, .int t_seconds])), (a_t_pitch, .inl (cI, 8, .inl j292.2)), (a_h, .inr (0, [.int h_desks, .ref a_h_kind, .ref a_h_leanTold, .ref a_h_needs, .ref a_h_firstHears, .ref a_h_group, .ref a_h_firstPitch, .int h_oboe, .int h_slip, .int h_warmth, .int h_unheard])), (a_h_kind, .inl (cI, 8, .inl h_kind))] H → va_D A [(a_t, .inr (2, [.ref a_t_pitch, .ref a_t_hears, .int t_oboe, .int t_seconds])), (a_t_pitch, .inl (cI, 8, .inl j292.2)), (a_h, .inr (0, [.int h_desks, .ref a_h_kind, .ref a_h_leanTold, .ref a_h_needs, .ref a_h_firstHears, .ref a_h_group, .ref a_h_firstPitch, .int h_oboe, .int h_slip, .int h_warmth, .int h_unheard])), (a_h_kind, .inl (cI, 8, .inl h_kind))] → va_S A s.heap H locs → ∀ ls : Array Slot, lv_has ls 6 [(0, .ref a_t), (1, .ref a_h), (2, .int x2), (3, .int (((t_seconds + x2) / (60 : Int32)) - (t_seconds / (60 : Int32)))), (4, .int ((((t_seconds + x2) / (60 : Int32)) - (t_seconds / (60 : Int32))) * h_warmth)), (5, .int j292.1)] → W p l e (headSpec wsX2_letPass rm_X2_letPass).room s m ([.ref a_t, .ref a_h, .int x2] : List Value).toArray below meth c H locs 0 0 QQ (F0 m 71 ls []) := by
    intro H locs hP hD hS ls hl
    refine lv_aload_n hx hb dX2_letPass_71 rfl (lv_at hl 0 rfl) ?_
    refine lv_dup hx hb dX2_letPass_72 rfl ?_
    refine va_get (D := (dC, dI)) (ci := 2) (v := .int t_seconds) (C := RX2) (T := TX2) (N := 4) hx hb hts in_X2 hown hK hP 0 rfl rfl 3 (by decide) f_34 (fun _ h9 => h9) rfl dX2_letPass_73 ?_
    refine lv_iload_n hx hb dX2_letPass_76 rfl (lv_at hl 2 rfl) ?_
    refine lv_iadd hx hb dX2_letPass_77 ?_
    refine va_put (D := (dC, dI)) (ci := 2) (v := .int (t_seconds + x2)) (ty := .int) (C := RX2) (T := TX2) (N := 4) hx hb hts in_X2 tyX2 tyX2_ok nmX2 hown hK hP hD hS 0 rfl rfl 3 (by decide) f_34 (fun _ h9 => h9) rfl (by decide +kernel) rfl rfl (Nat.le_of_ble_eq_true rfl) dX2_letPass_78 (fun H locs hP hD hS => ?_)
    have hP : va_P (dC, dI) vwCl [(a_t, .inr (2, [.ref a_t_pitch, .ref a_t_hears, .int t_oboe, .int (t_seconds + x2)])), (a_t_pitch, .inl (cI, 8, .inl j292.2)), (a_h, .inr (0, [.int h_desks, .ref a_h_kind, .ref a_h_leanTold, .ref a_h_needs, .ref a_h_firstHears, .ref a_h_group, .ref a_h_firstPitch, .int h_oboe, .int h_slip, .int h_warmth, .int h_unheard])), (a_h_kind, .inl (cI, 8, .inl h_kind))] H := hP
    have hD : va_D A [(a_t, .inr (2, [.ref a_t_pitch, .ref a_t_hears, .int t_oboe, .int (t_seconds + x2)])), (a_t_pitch, .inl (cI, 8, .inl j292.2)), (a_h, .inr (0, [.int h_desks, .ref a_h_kind, .ref a_h_leanTold, .ref a_h_needs, .ref a_h_firstHears, .ref a_h_group, .ref a_h_firstPitch, .int h_oboe, .int h_slip, .int h_warmth, .int h_unheard])), (a_h_kind, .inl (cI, 8, .inl h_kind))] := hD
    obtain rfl := Option.some.inj h
    subst hQe
    exact W.vret hx hb hr (fun t ht hW => ⟨⟨(), rfl, trivial, ⟨by rw [ht]; exact hP, hD⟩⟩, hS.F ht⟩) hS.2.2 dX2_letPass_81
  have K29 : ∀ (k : Nat) (y5_29 : Int32) (t_pitchv_29 : Nat → Int32), L_X2_letPass_29 n t_seconds h_desks h_kind h_warmth x2 k y5_29 t_pitchv_29 = some j292 → ∀ (H : Heap) (locs : List Loc), va_P (dC, dI) vwCl [(a_t, .inr (2, [.ref a_t_pitch, .ref a_t_hears, .int t_oboe, .int t_seconds])), (a_t_pitch, .inl (cI, 8, .inl t_pitchv_29)), (a_h, .inr (0, [.int h_desks, .ref a_h_kind, .ref a_h_leanTold, .ref a_h_needs, .ref a_h_firstHears, .ref a_h_group, .ref a_h_firstPitch, .int h_oboe, .int h_slip, .int h_warmth, .int h_unheard])), (a_h_kind, .inl (cI, 8, .inl h_kind))] H → va_D A [(a_t, .inr (2, [.ref a_t_pitch, .ref a_t_hears, .int t_oboe, .int t_seconds])), (a_t_pitch, .inl (cI, 8, .inl t_pitchv_29)), (a_h, .inr (0, [.int h_desks, .ref a_h_kind, .ref a_h_leanTold, .ref a_h_needs, .ref a_h_firstHears, .ref a_h_group, .ref a_h_firstPitch, .int h_oboe, .int h_slip, .int h_warmth, .int h_unheard])), (a_h_kind, .inl (cI, 8, .inl h_kind))] → va_S A s.heap H locs → ∀ ls : Array Slot, lv_has ls 6 [(0, .ref a_t), (1, .ref a_h), (2, .int x2), (3, .int (((t_seconds + x2) / (60 : Int32)) - (t_seconds / (60 : Int32)))), (4, .int ((((t_seconds + x2) / (60 : Int32)) - (t_seconds / (60 : Int32))) * h_warmth)), (5, .int y5_29)] → W p l e (headSpec wsX2_letPass rm_X2_letPass).room s m ([.ref a_t, .ref a_h, .int x2] : List Value).toArray below meth c H locs 0 0 QQ (F0 m 29 ls []) := by
    intro k
    induction k with
    | zero =>
      intro y5_29 t_pitchv_29 h
      rw [L_X2_letPass_29] at h
      cases h
    | succ k ih =>
      intro y5_29 t_pitchv_29 h H locs hP hD hS ls hl
      rw [L_X2_letPass_29] at h
      refine lv_iload hx hb dX2_letPass_29 (lv_at hl 5 rfl) ?_
      refine lv_aload_n hx hb dX2_letPass_31 rfl (lv_at hl 1 rfl) ?_
      refine va_get (D := (dC, dI)) (ci := 0) (v := .int h_desks) (C := RX0) (T := TX0) (N := 11) hx hb hts in_X0 hown hK hP 2 rfl rfl 0 (by decide) f_18 (fun _ h9 => h9) rfl dX2_letPass_32 ?_
      refine lv_icmp_ge (tgt := 71) hx hb dX2_letPass_35 (by decide) (fun c_35 => ?_) (fun c_35 => ?_)
      · have h := (if_pos c_35).symm.trans h
        obtain rfl := Option.some.inj h
        exact Jj292 _ _ hP hD hS _ hl
      · have h := (if_neg c_35).symm.trans h
        refine lv_aload_n hx hb dX2_letPass_38 rfl (lv_at hl 0 rfl) ?_
        refine va_get (D := (dC, dI)) (ci := 2) (v := .ref a_t_pitch) (C := RX2) (T := TX2) (N := 4) hx hb hts in_X2 hown hK hP 0 rfl rfl 0 (by decide) f_9 (fun _ h9 => h9) rfl dX2_letPass_39 ?_
        refine lv_iload hx hb dX2_letPass_42 (lv_at hl 5 rfl) ?_
        refine lv_aload_n hx hb dX2_letPass_44 rfl (lv_at hl 0 rfl) ?_
        refine va_get (D := (dC, dI)) (ci := 2) (v := .ref a_t_pitch) (C := RX2) (T := TX2) (N := 4) hx hb hts in_X2 hown hK hP 0 rfl rfl 0 (by decide) f_9 (fun _ h9 => h9) rfl dX2_letPass_45 ?_
        refine lv_iload hx hb dX2_letPass_48 (lv_at hl 5 rfl) ?_
        obtain ⟨v293, hv293, h⟩ := ob h
        refine k_ld hx hb hK hP 1 0 rfl rfl hv293 dX2_letPass_50 ?_
        refine lv_iload hx hb dX2_letPass_51 (lv_at hl 4 rfl) ?_
        refine lv_aload_n hx hb dX2_letPass_53 rfl (lv_at hl 1 rfl) ?_
        refine lv_iload hx hb dX2_letPass_54 (lv_at hl 5 rfl) ?_
        obtain ⟨r294, hr294, h⟩ := ob h
        refine k_Vi (As := [.int y5_29]) (rest := [.int ((((t_seconds + x2) / (60 : Int32)) - (t_seconds / (60 : Int32))) * h_warmth), .int v293, .int y5_29, .ref a_t_pitch]) (wr := [(a_t, .inr (2, [.ref a_t_pitch, .ref a_t_hears, .int t_oboe, .int t_seconds])), (a_t_pitch, .inl (cI, 8, .inl t_pitchv_29))]) (c_X0_hairsADegree l dC dI cI cS n _ a_h a_h_kind a_h_leanTold a_h_needs a_h_firstHears a_h_group a_h_firstPitch h_desks h_kind h_oboe h_slip h_warmth h_unheard y5_29 r294 hr294) (fun _ _ q => q) ⟨hx, hb, hml, hown, hts⟩ (cwV 1 hts gX2_letPass_X0_hairsADegree rfl rfl rfl (by decide +kernel) ⟨(Nat.le_of_ble_eq_true rfl), (Nat.le_of_ble_eq_true rfl)⟩) hN hK hP hD hS hA [2, 3] [0, 1] rfl rfl (by decide) (by decide) (by decide) rfl rfl rfl hl.1 rfl (Nat.le_of_ble_eq_true rfl) dX2_letPass_56 ⟨(Nat.le_of_ble_eq_true rfl), (Nat.le_of_ble_eq_true rfl)⟩ (fun u295 H locs _ hP hD hS => ?_)
        have hP : va_P (dC, dI) vwCl [(a_t, .inr (2, [.ref a_t_pitch, .ref a_t_hears, .int t_oboe, .int t_seconds])), (a_t_pitch, .inl (cI, 8, .inl t_pitchv_29)), (a_h, .inr (0, [.int h_desks, .ref a_h_kind, .ref a_h_leanTold, .ref a_h_needs, .ref a_h_firstHears, .ref a_h_group, .ref a_h_firstPitch, .int h_oboe, .int h_slip, .int h_warmth, .int h_unheard])), (a_h_kind, .inl (cI, 8, .inl h_kind))] H := hP
        have hD : va_D A [(a_t, .inr (2, [.ref a_t_pitch, .ref a_t_hears, .int t_oboe, .int t_seconds])), (a_t_pitch, .inl (cI, 8, .inl t_pitchv_29)), (a_h, .inr (0, [.int h_desks, .ref a_h_kind, .ref a_h_leanTold, .ref a_h_needs, .ref a_h_firstHears, .ref a_h_group, .ref a_h_firstPitch, .int h_oboe, .int h_slip, .int h_warmth, .int h_unheard])), (a_h_kind, .inl (cI, 8, .inl h_kind))] := hD
        refine lv_imul hx hb dX2_letPass_59 ?_
        refine lv_iadd hx hb dX2_letPass_60 ?_
        obtain ⟨r296, hr296, h⟩ := ob h
        refine k_Ni (As := [.int (v293 + (((((t_seconds + x2) / (60 : Int32)) - (t_seconds / (60 : Int32))) * h_warmth) * r294))]) (rest := [.int y5_29, .ref a_t_pitch]) (c_X5_within l dC dI cI cS n _ (v293 + (((((t_seconds + x2) / (60 : Int32)) - (t_seconds / (60 : Int32))) * h_warmth) * r294)) r296 hr296) (fun _ _ q => q) ⟨hx, hb, hml, hown, hts⟩ (va_cnB 1 hts gX2_letPass_X5_within_n44 rfl rfl rfl (hN.1 _ (List.mem_of_getElem? (i := 10) rfl)) k_iniX5 (by decide +kernel) ⟨(Nat.le_of_ble_eq_true rfl), (Nat.le_of_ble_eq_true rfl)⟩) m_st_X5_within hN hK hP hD hS hA rfl hl.1 rfl (Nat.le_of_ble_eq_true rfl) dX2_letPass_61 ⟨(Nat.le_of_ble_eq_true rfl), (Nat.le_of_ble_eq_true rfl)⟩ (fun H locs hP hD hS => ?_)
        obtain ⟨g298, hg298, h⟩ := ob h
        refine k_st hx hb hK hP hD hS 1 0 rfl rfl hg298 dX2_letPass_64 (ws' := [(a_t, .inr (2, [.ref a_t_pitch, .ref a_t_hears, .int t_oboe, .int t_seconds])), (a_t_pitch, .inl (cI, 8, .inl g298)), (a_h, .inr (0, [.int h_desks, .ref a_h_kind, .ref a_h_leanTold, .ref a_h_needs, .ref a_h_firstHears, .ref a_h_group, .ref a_h_firstPitch, .int h_oboe, .int h_slip, .int h_warmth, .int h_unheard])), (a_h_kind, .inl (cI, 8, .inl h_kind))]) rfl (fun H locs hP hD hS => ?_)
        refine lv_iinc (v := (y5_29 + (1 : Int32))) (lv' := [(5, .int (y5_29 + (1 : Int32))), (0, .ref a_t), (1, .ref a_h), (2, .int x2), (3, .int (((t_seconds + x2) / (60 : Int32)) - (t_seconds / (60 : Int32)))), (4, .int ((((t_seconds + x2) / (60 : Int32)) - (t_seconds / (60 : Int32))) * h_warmth))]) hx hb dX2_letPass_65 hl (k := 5) rfl rfl (by decide) rfl (fun ls hl => ?_)
        refine lv_goto (tgt := 29) hx hb dX2_letPass_68 (by decide) ?_
        exact ih _ _ h _ _ hP hD hS _ (lv_sub hl [1, 2, 3, 4, 5, 0] rfl)
  exact K29 n (0 : Int32) t_pitch hjj292 _ _ hP hD hS _ (lv_sub hl [3, 4, 5, 2, 1, 0] rfl)
def rm_X2_giveNeedles : Room := { frames := 1, cells := 0, slots := 0, locals := 21 }
set_option maxRecDepth 100000 in
set_option maxHeartbeats 8000000 in
theorem c_X2_giveNeedles (l : Launch) (dC : Nat → ClassId) (dI : Nat → Nat → Nat) (cI cS : ClassId) (n sz : Nat) (a_t : Nat) (a_t_pitch : Nat) (a_t_hears : Nat) (t_hears : Nat → Int32) (t_oboe : Int32) (t_seconds : Int32) (x1 : Int32) (x2 : Int32) (res : (Nat → Int32))  (h : F_X2_giveNeedles n t_hears x1 x2 = some res) : Met l yX2_giveNeedles wsX2_giveNeedles rm_X2_giveNeedles (va_Pc [.ref a_t, .int x1, .int x2] (PRE (dC, dI) vwCl [(cI, .int), (cS, .object "RoundOfTheA$State")] sz [(a_t, .inr (2, [.ref a_t_pitch, .ref a_t_hears, .int t_oboe, .int t_seconds])), (a_t_hears, .inl (cI, 8, .inl t_hears))])) (va_Qv (fun _ : Unit => True) (fun u t => POST (dC, dI) vwCl [(a_t, .inr (2, [.ref a_t_pitch, .ref a_t_hears, .int t_oboe, .int t_seconds])), (a_t_hears, .inl (cI, 8, .inl res))] (va_A [(a_t, .inr (2, [.ref a_t_pitch, .ref a_t_hears, .int t_oboe, .int t_seconds])), (a_t_hears, .inl (cI, 8, .inl t_hears))] sz) t) (va_A [(a_t, .inr (2, [.ref a_t_pitch, .ref a_t_hears, .int t_oboe, .int t_seconds])), (a_t_hears, .inl (cI, 8, .inl t_hears))] sz)) 0 0 (va_A [(a_t, .inr (2, [.ref a_t_pitch, .ref a_t_hears, .int t_oboe, .int t_seconds])), (a_t_hears, .inl (cI, 8, .inl t_hears))] sz) := by
  refine Met.ofW (cc := cX2_giveNeedles) (maxL := 4) (ret := none) (by decide) rfl ?_
  intro p e s m args below meth c s₁ B hml hv
  obtain ⟨rfl, hsz, hN, hP, hK, hD0⟩ := hv
  have hx := B.exec
  have hb := B.bytes
  have hr := B.returns
  have hts := atoms_spec (ws := wsX2_giveNeedles) B.pre
  have hown : s.vm.findClass RX2 = some m.cls := findClass_of_methodNamed B.named
  have hlocks := B.notSynchronized
  subst hsz
  have hD := hD0.self (sz := s.heap.size)
  generalize hAe : va_A [(a_t, .inr (2, [.ref a_t_pitch, .ref a_t_hears, .int t_oboe, .int t_seconds])), (a_t_hears, .inl (cI, 8, .inl t_hears))] s.heap.size = A at hD ⊢
  have hA : ∀ q : Nat, s.heap.size ≤ q → A q := fun q h => by rw [← hAe]; exact Or.inr h
  have hS : va_S A s.heap s.heap [] := va_S.rf
  generalize hQe : MQ below _ _ s _ _ A = QQ
  have hl := lv_entry ([.ref a_t, .int x1, .int x2]) (n := 4) (Nat.le_of_ble_eq_true rfl)
  rw [lg_entry_eq]
  generalize (lg_sl ([.ref a_t, .int x1, .int x2]) ++ List.replicate (4 - (lg_sl ([.ref a_t, .int x1, .int x2])).length) Slot.unset).toArray = ls at hl ⊢
  have hl : lv_has ls 4 [(0, .ref a_t), (1, .int x1), (2, .int x2)] := hl
  have k_iniX5 := hts (.initialized RX5) (by decide +kernel)
  have m_st_X5_isIn := hts (.static yX5_isIn) (by decide +kernel)
  have f_15 := hts (.fieldLink RX2 15 "RoundOfTheA$State" "hears" "[I") (by decide +kernel)
  have in_X2 := (by decide +kernel : ∀ w ∈ wsX20, w ∈ wsX2_giveNeedles)
  rw [F_X2_giveNeedles] at h
  refine lv_iconst (v := (0 : Int32)) hx hb dX2_giveNeedles_0 (by decide) ?_
  refine lv_istore_n (lv' := [(3, .int (0 : Int32)), (0, .ref a_t), (1, .int x1), (2, .int x2)]) hx hb dX2_giveNeedles_1 rfl hl (by decide) rfl (fun ls hl => ?_)
  obtain ⟨j329, hjj329, h⟩ := ob h
  have Jj329 : ∀ (H : Heap) (locs : List Loc), va_P (dC, dI) vwCl [(a_t, .inr (2, [.ref a_t_pitch, .ref a_t_hears, .int t_oboe, .int t_seconds])), (a_t_hears, .inl (cI, 8, .inl j329.2))] H → va_D A [(a_t, .inr (2, [.ref a_t_pitch, .ref a_t_hears, .int t_oboe, .int t_seconds])), (a_t_hears, .inl (cI, 8, .inl j329.2))] → va_S A s.heap H locs → ∀ ls : Array Slot, lv_has ls 4 [(0, .ref a_t), (1, .int x1), (2, .int x2), (3, .int j329.1)] → W p l e (headSpec wsX2_giveNeedles rm_X2_giveNeedles).room s m ([.ref a_t, .int x1, .int x2] : List Value).toArray below meth c H locs 0 0 QQ (F0 m 29 ls []) := by
    intro H locs hP hD hS ls hl
    obtain rfl := Option.some.inj h
    subst hQe
    exact W.vret hx hb hr (fun t ht hW => ⟨⟨(), rfl, trivial, ⟨by rw [ht]; exact hP, hD⟩⟩, hS.F ht⟩) hS.2.2 dX2_giveNeedles_29
  have K2 : ∀ (k : Nat) (y3_2 : Int32) (t_hearsv_2 : Nat → Int32), L_X2_giveNeedles_2 n x1 x2 k y3_2 t_hearsv_2 = some j329 → ∀ (H : Heap) (locs : List Loc), va_P (dC, dI) vwCl [(a_t, .inr (2, [.ref a_t_pitch, .ref a_t_hears, .int t_oboe, .int t_seconds])), (a_t_hears, .inl (cI, 8, .inl t_hearsv_2))] H → va_D A [(a_t, .inr (2, [.ref a_t_pitch, .ref a_t_hears, .int t_oboe, .int t_seconds])), (a_t_hears, .inl (cI, 8, .inl t_hearsv_2))] → va_S A s.heap H locs → ∀ ls : Array Slot, lv_has ls 4 [(0, .ref a_t), (1, .int x1), (2, .int x2), (3, .int y3_2)] → W p l e (headSpec wsX2_giveNeedles rm_X2_giveNeedles).room s m ([.ref a_t, .int x1, .int x2] : List Value).toArray below meth c H locs 0 0 QQ (F0 m 2 ls []) := by
    intro k
    induction k with
    | zero =>
      intro y3_2 t_hearsv_2 h
      rw [L_X2_giveNeedles_2] at h
      cases h
    | succ k ih =>
      intro y3_2 t_hearsv_2 h H locs hP hD hS ls hl
      rw [L_X2_giveNeedles_2] at h
      refine lv_iload_n hx hb dX2_giveNeedles_2 rfl (lv_at hl 3 rfl) ?_
      refine lv_iload_n hx hb dX2_giveNeedles_3 rfl (lv_at hl 1 rfl) ?_
      refine lv_icmp_ge (tgt := 29) hx hb dX2_giveNeedles_4 (by decide) (fun c_4 => ?_) (fun c_4 => ?_)
      · have h := (if_pos c_4).symm.trans h
        obtain rfl := Option.some.inj h
        exact Jj329 _ _ hP hD hS _ hl
      · have h := (if_neg c_4).symm.trans h
        refine lv_iload_n hx hb dX2_giveNeedles_7 rfl (lv_at hl 2 rfl) ?_
        refine lv_iload_n hx hb dX2_giveNeedles_8 rfl (lv_at hl 3 rfl) ?_
        obtain ⟨r330, hr330, h⟩ := ob h
        refine k_Ni (As := [.int x2, .int y3_2]) (rest := []) (c_X5_isIn l dC dI cI cS n _ x2 y3_2 r330 hr330) (fun _ _ q => q) ⟨hx, hb, hml, hown, hts⟩ (va_cnB 2 hts gX2_giveNeedles_X5_isIn_n47 rfl rfl rfl (hN.1 _ (List.mem_of_getElem? (i := 11) rfl)) k_iniX5 (by decide +kernel) ⟨(Nat.le_of_ble_eq_true rfl), (Nat.le_of_ble_eq_true rfl)⟩) m_st_X5_isIn hN hK hP hD hS hA rfl hl.1 rfl (Nat.le_of_ble_eq_true rfl) dX2_giveNeedles_9 ⟨(Nat.le_of_ble_eq_true rfl), (Nat.le_of_ble_eq_true rfl)⟩ (fun H locs hP hD hS => ?_)
        obtain ⟨j333, hjj333, h⟩ := ob h
        have Jj333 : ∀ (H : Heap) (locs : List Loc), va_P (dC, dI) vwCl [(a_t, .inr (2, [.ref a_t_pitch, .ref a_t_hears, .int t_oboe, .int t_seconds])), (a_t_hears, .inl (cI, 8, .inl j333))] H → va_D A [(a_t, .inr (2, [.ref a_t_pitch, .ref a_t_hears, .int t_oboe, .int t_seconds])), (a_t_hears, .inl (cI, 8, .inl j333))] → va_S A s.heap H locs → ∀ ls : Array Slot, lv_has ls 4 [(0, .ref a_t), (1, .int x1), (2, .int x2), (3, .int y3_2)] → W p l e (headSpec wsX2_giveNeedles rm_X2_giveNeedles).room s m ([.ref a_t, .int x1, .int x2] : List Value).toArray below meth c H locs 0 0 QQ (F0 m 23 ls []) := by
          intro H locs hP hD hS ls hl
          refine lv_iinc (v := (y3_2 + (1 : Int32))) (lv' := [(3, .int (y3_2 + (1 : Int32))), (0, .ref a_t), (1, .int x1), (2, .int x2)]) hx hb dX2_giveNeedles_23 hl (k := 3) rfl rfl (by decide) rfl (fun ls hl => ?_)
          refine lv_goto (tgt := 2) hx hb dX2_giveNeedles_26 (by decide) ?_
          exact ih _ _ h _ _ hP hD hS _ (lv_sub hl [1, 2, 3, 0] rfl)
        refine lv_if_eq (tgt := 23) hx hb dX2_giveNeedles_12 (by decide) (fun c_12 => ?_) (fun c_12 => ?_)
        · have h := (if_pos c_12).symm.trans hjj333
          obtain rfl := Option.some.inj h
          exact Jj333 _ _ hP hD hS _ hl
        · have h := (if_neg c_12).symm.trans hjj333
          refine lv_aload_n hx hb dX2_giveNeedles_15 rfl (lv_at hl 0 rfl) ?_
          refine va_get (D := (dC, dI)) (ci := 2) (v := .ref a_t_hears) (C := RX2) (T := TX2) (N := 4) hx hb hts in_X2 hown hK hP 0 rfl rfl 1 (by decide) f_15 (fun _ h9 => h9) rfl dX2_giveNeedles_16 ?_
          refine lv_iload_n hx hb dX2_giveNeedles_19 rfl (lv_at hl 3 rfl) ?_
          refine lv_bipush (v := (8 : Int32)) hx hb dX2_giveNeedles_20 (by decide) ?_
          obtain ⟨g334, hg334, h⟩ := ob h
          refine k_st hx hb hK hP hD hS 1 0 rfl rfl hg334 dX2_giveNeedles_22 (ws' := [(a_t, .inr (2, [.ref a_t_pitch, .ref a_t_hears, .int t_oboe, .int t_seconds])), (a_t_hears, .inl (cI, 8, .inl g334))]) rfl (fun H locs hP hD hS => ?_)
          obtain rfl := Option.some.inj h
          exact Jj333 _ _ hP hD hS _ hl
  exact K2 n (0 : Int32) t_hears hjj329 _ _ hP hD hS _ (lv_sub hl [1, 2, 3, 0] rfl)
def rm_X2_slipPegs : Room := { frames := 2, cells := 0, slots := 0, locals := 41 }
set_option maxRecDepth 100000 in
set_option maxHeartbeats 8000000 in
theorem c_X2_slipPegs (l : Launch) (dC : Nat → ClassId) (dI : Nat → Nat → Nat) (cI cS : ClassId) (n sz : Nat) (a_t : Nat) (a_t_pitch : Nat) (a_t_hears : Nat) (t_pitch : Nat → Int32) (t_oboe : Int32) (t_seconds : Int32) (x1 : Int32) (x2 : Int32) (res : (Nat → Int32))  (h : F_X2_slipPegs n t_pitch x1 x2 = some res) : Met l yX2_slipPegs wsX2_slipPegs rm_X2_slipPegs (va_Pc [.ref a_t, .int x1, .int x2] (PRE (dC, dI) vwCl [(cI, .int), (cS, .object "RoundOfTheA$State")] sz [(a_t, .inr (2, [.ref a_t_pitch, .ref a_t_hears, .int t_oboe, .int t_seconds])), (a_t_pitch, .inl (cI, 8, .inl t_pitch))])) (va_Qv (fun _ : Unit => True) (fun u t => POST (dC, dI) vwCl [(a_t, .inr (2, [.ref a_t_pitch, .ref a_t_hears, .int t_oboe, .int t_seconds])), (a_t_pitch, .inl (cI, 8, .inl res))] (va_A [(a_t, .inr (2, [.ref a_t_pitch, .ref a_t_hears, .int t_oboe, .int t_seconds])), (a_t_pitch, .inl (cI, 8, .inl t_pitch))] sz) t) (va_A [(a_t, .inr (2, [.ref a_t_pitch, .ref a_t_hears, .int t_oboe, .int t_seconds])), (a_t_pitch, .inl (cI, 8, .inl t_pitch))] sz)) 0 0 (va_A [(a_t, .inr (2, [.ref a_t_pitch, .ref a_t_hears, .int t_oboe, .int t_seconds])), (a_t_pitch, .inl (cI, 8, .inl t_pitch))] sz) := by
  refine Met.ofW (cc := cX2_slipPegs) (maxL := 4) (ret := none) (by decide) rfl ?_
  intro p e s m args below meth c s₁ B hml hv
  obtain ⟨rfl, hsz, hN, hP, hK, hD0⟩ := hv
  have hx := B.exec
  have hb := B.bytes
  have hr := B.returns
  have hts := atoms_spec (ws := wsX2_slipPegs) B.pre
  have hown : s.vm.findClass RX2 = some m.cls := findClass_of_methodNamed B.named
  have hlocks := B.notSynchronized
  subst hsz
  have hD := hD0.self (sz := s.heap.size)
  generalize hAe : va_A [(a_t, .inr (2, [.ref a_t_pitch, .ref a_t_hears, .int t_oboe, .int t_seconds])), (a_t_pitch, .inl (cI, 8, .inl t_pitch))] s.heap.size = A at hD ⊢
  have hA : ∀ q : Nat, s.heap.size ≤ q → A q := fun q h => by rw [← hAe]; exact Or.inr h
  have hS : va_S A s.heap s.heap [] := va_S.rf
  generalize hQe : MQ below _ _ s _ _ A = QQ
  have hl := lv_entry ([.ref a_t, .int x1, .int x2]) (n := 4) (Nat.le_of_ble_eq_true rfl)
  rw [lg_entry_eq]
  generalize (lg_sl ([.ref a_t, .int x1, .int x2]) ++ List.replicate (4 - (lg_sl ([.ref a_t, .int x1, .int x2])).length) Slot.unset).toArray = ls at hl ⊢
  have hl : lv_has ls 4 [(0, .ref a_t), (1, .int x1), (2, .int x2)] := hl
  have k_iniX5 := hts (.initialized RX5) (by decide +kernel)
  have m_st_X5_isIn := hts (.static yX5_isIn) (by decide +kernel)
  have f_9 := hts (.fieldLink RX2 9 "RoundOfTheA$State" "pitch" "[I") (by decide +kernel)
  have in_X2 := (by decide +kernel : ∀ w ∈ wsX20, w ∈ wsX2_slipPegs)
  have m_st_X5_within := hts (.static yX5_within) (by decide +kernel)
  rw [F_X2_slipPegs] at h
  refine lv_iconst (v := (0 : Int32)) hx hb dX2_slipPegs_0 (by decide) ?_
  refine lv_istore_n (lv' := [(3, .int (0 : Int32)), (0, .ref a_t), (1, .int x1), (2, .int x2)]) hx hb dX2_slipPegs_1 rfl hl (by decide) rfl (fun ls hl => ?_)
  obtain ⟨j395, hjj395, h⟩ := ob h
  have Jj395 : ∀ (H : Heap) (locs : List Loc), va_P (dC, dI) vwCl [(a_t, .inr (2, [.ref a_t_pitch, .ref a_t_hears, .int t_oboe, .int t_seconds])), (a_t_pitch, .inl (cI, 8, .inl j395.2))] H → va_D A [(a_t, .inr (2, [.ref a_t_pitch, .ref a_t_hears, .int t_oboe, .int t_seconds])), (a_t_pitch, .inl (cI, 8, .inl j395.2))] → va_S A s.heap H locs → ∀ ls : Array Slot, lv_has ls 4 [(0, .ref a_t), (1, .int x1), (2, .int x2), (3, .int j395.1)] → W p l e (headSpec wsX2_slipPegs rm_X2_slipPegs).room s m ([.ref a_t, .int x1, .int x2] : List Value).toArray below meth c H locs 0 0 QQ (F0 m 38 ls []) := by
    intro H locs hP hD hS ls hl
    obtain rfl := Option.some.inj h
    subst hQe
    exact W.vret hx hb hr (fun t ht hW => ⟨⟨(), rfl, trivial, ⟨by rw [ht]; exact hP, hD⟩⟩, hS.F ht⟩) hS.2.2 dX2_slipPegs_38
  have K2 : ∀ (k : Nat) (y3_2 : Int32) (t_pitchv_2 : Nat → Int32), L_X2_slipPegs_2 n x1 x2 k y3_2 t_pitchv_2 = some j395 → ∀ (H : Heap) (locs : List Loc), va_P (dC, dI) vwCl [(a_t, .inr (2, [.ref a_t_pitch, .ref a_t_hears, .int t_oboe, .int t_seconds])), (a_t_pitch, .inl (cI, 8, .inl t_pitchv_2))] H → va_D A [(a_t, .inr (2, [.ref a_t_pitch, .ref a_t_hears, .int t_oboe, .int t_seconds])), (a_t_pitch, .inl (cI, 8, .inl t_pitchv_2))] → va_S A s.heap H locs → ∀ ls : Array Slot, lv_has ls 4 [(0, .ref a_t), (1, .int x1), (2, .int x2), (3, .int y3_2)] → W p l e (headSpec wsX2_slipPegs rm_X2_slipPegs).room s m ([.ref a_t, .int x1, .int x2] : List Value).toArray below meth c H locs 0 0 QQ (F0 m 2 ls []) := by
    intro k
    induction k with
    | zero =>
      intro y3_2 t_pitchv_2 h
      rw [L_X2_slipPegs_2] at h
      cases h
    | succ k ih =>
      intro y3_2 t_pitchv_2 h H locs hP hD hS ls hl
      rw [L_X2_slipPegs_2] at h
      refine lv_iload_n hx hb dX2_slipPegs_2 rfl (lv_at hl 3 rfl) ?_
      refine lv_iload_n hx hb dX2_slipPegs_3 rfl (lv_at hl 1 rfl) ?_
      refine lv_icmp_ge (tgt := 38) hx hb dX2_slipPegs_4 (by decide) (fun c_4 => ?_) (fun c_4 => ?_)
      · have h := (if_pos c_4).symm.trans h
        obtain rfl := Option.some.inj h
        exact Jj395 _ _ hP hD hS _ hl
      · have h := (if_neg c_4).symm.trans h
        refine lv_iload_n hx hb dX2_slipPegs_7 rfl (lv_at hl 2 rfl) ?_
        refine lv_iload_n hx hb dX2_slipPegs_8 rfl (lv_at hl 3 rfl) ?_
        obtain ⟨r396, hr396, h⟩ := ob h
        refine k_Ni (As := [.int x2, .int y3_2]) (rest := []) (c_X5_isIn l dC dI cI cS n _ x2 y3_2 r396 hr396) (fun _ _ q => q) ⟨hx, hb, hml, hown, hts⟩ (va_cnB 2 hts gX2_slipPegs_X5_isIn_n47 rfl rfl rfl (hN.1 _ (List.mem_of_getElem? (i := 11) rfl)) k_iniX5 (by decide +kernel) ⟨(Nat.le_of_ble_eq_true rfl), (Nat.le_of_ble_eq_true rfl)⟩) m_st_X5_isIn hN hK hP hD hS hA rfl hl.1 rfl (Nat.le_of_ble_eq_true rfl) dX2_slipPegs_9 ⟨(Nat.le_of_ble_eq_true rfl), (Nat.le_of_ble_eq_true rfl)⟩ (fun H locs hP hD hS => ?_)
        obtain ⟨j402, hjj402, h⟩ := ob h
        have Jj402 : ∀ (H : Heap) (locs : List Loc), va_P (dC, dI) vwCl [(a_t, .inr (2, [.ref a_t_pitch, .ref a_t_hears, .int t_oboe, .int t_seconds])), (a_t_pitch, .inl (cI, 8, .inl j402))] H → va_D A [(a_t, .inr (2, [.ref a_t_pitch, .ref a_t_hears, .int t_oboe, .int t_seconds])), (a_t_pitch, .inl (cI, 8, .inl j402))] → va_S A s.heap H locs → ∀ ls : Array Slot, lv_has ls 4 [(0, .ref a_t), (1, .int x1), (2, .int x2), (3, .int y3_2)] → W p l e (headSpec wsX2_slipPegs rm_X2_slipPegs).room s m ([.ref a_t, .int x1, .int x2] : List Value).toArray below meth c H locs 0 0 QQ (F0 m 32 ls []) := by
          intro H locs hP hD hS ls hl
          refine lv_iinc (v := (y3_2 + (1 : Int32))) (lv' := [(3, .int (y3_2 + (1 : Int32))), (0, .ref a_t), (1, .int x1), (2, .int x2)]) hx hb dX2_slipPegs_32 hl (k := 3) rfl rfl (by decide) rfl (fun ls hl => ?_)
          refine lv_goto (tgt := 2) hx hb dX2_slipPegs_35 (by decide) ?_
          exact ih _ _ h _ _ hP hD hS _ (lv_sub hl [1, 2, 3, 0] rfl)
        refine lv_if_eq (tgt := 32) hx hb dX2_slipPegs_12 (by decide) (fun c_12 => ?_) (fun c_12 => ?_)
        · have h := (if_pos c_12).symm.trans hjj402
          obtain rfl := Option.some.inj h
          exact Jj402 _ _ hP hD hS _ hl
        · have h := (if_neg c_12).symm.trans hjj402
          refine lv_aload_n hx hb dX2_slipPegs_15 rfl (lv_at hl 0 rfl) ?_
          refine va_get (D := (dC, dI)) (ci := 2) (v := .ref a_t_pitch) (C := RX2) (T := TX2) (N := 4) hx hb hts in_X2 hown hK hP 0 rfl rfl 0 (by decide) f_9 (fun _ h9 => h9) rfl dX2_slipPegs_16 ?_
          refine lv_iload_n hx hb dX2_slipPegs_19 rfl (lv_at hl 3 rfl) ?_
          refine lv_aload_n hx hb dX2_slipPegs_20 rfl (lv_at hl 0 rfl) ?_
          refine va_get (D := (dC, dI)) (ci := 2) (v := .ref a_t_pitch) (C := RX2) (T := TX2) (N := 4) hx hb hts in_X2 hown hK hP 0 rfl rfl 0 (by decide) f_9 (fun _ h9 => h9) rfl dX2_slipPegs_21 ?_
          refine lv_iload_n hx hb dX2_slipPegs_24 rfl (lv_at hl 3 rfl) ?_
          obtain ⟨v403, hv403, h⟩ := ob h
          refine k_ld hx hb hK hP 1 0 rfl rfl hv403 dX2_slipPegs_25 ?_
          refine lv_iconst (v := (4 : Int32)) hx hb dX2_slipPegs_26 (by decide) ?_
          refine lv_isub hx hb dX2_slipPegs_27 ?_
          obtain ⟨r404, hr404, h⟩ := ob h
          refine k_Ni (As := [.int (v403 - (4 : Int32))]) (rest := [.int y3_2, .ref a_t_pitch]) (c_X5_within l dC dI cI cS n _ (v403 - (4 : Int32)) r404 hr404) (fun _ _ q => q) ⟨hx, hb, hml, hown, hts⟩ (va_cnB 1 hts gX2_slipPegs_X5_within_n44 rfl rfl rfl (hN.1 _ (List.mem_of_getElem? (i := 10) rfl)) k_iniX5 (by decide +kernel) ⟨(Nat.le_of_ble_eq_true rfl), (Nat.le_of_ble_eq_true rfl)⟩) m_st_X5_within hN hK hP hD hS hA rfl hl.1 rfl (Nat.le_of_ble_eq_true rfl) dX2_slipPegs_28 ⟨(Nat.le_of_ble_eq_true rfl), (Nat.le_of_ble_eq_true rfl)⟩ (fun H locs hP hD hS => ?_)
          obtain ⟨g406, hg406, h⟩ := ob h
          refine k_st hx hb hK hP hD hS 1 0 rfl rfl hg406 dX2_slipPegs_31 (ws' := [(a_t, .inr (2, [.ref a_t_pitch, .ref a_t_hears, .int t_oboe, .int t_seconds])), (a_t_pitch, .inl (cI, 8, .inl g406))]) rfl (fun H locs hP hD hS => ?_)
          obtain rfl := Option.some.inj h
          exact Jj402 _ _ hP hD hS _ hl
  exact K2 n (0 : Int32) t_pitch hjj395 _ _ hP hD hS _ (lv_sub hl [1, 2, 3, 0] rfl)
def rm_X2_apart : Room := { frames := 1, cells := 0, slots := 0, locals := 21 }
set_option maxRecDepth 100000 in
set_option maxHeartbeats 8000000 in
theorem c_X2_apart (l : Launch) (dC : Nat → ClassId) (dI : Nat → Nat → Nat) (cI cS : ClassId) (n sz : Nat) (a_t : Nat) (a_t_pitch : Nat) (a_t_hears : Nat) (t_pitch : Nat → Int32) (t_oboe : Int32) (t_seconds : Int32) (x1 : Int32) (res : Int32)  (h : F_X2_apart n t_pitch x1 = some res) : Met l yX2_apart wsX2_apart rm_X2_apart (va_Pc [.ref a_t, .int x1] (PRE (dC, dI) vwCl [(cI, .int), (cS, .object "RoundOfTheA$State")] sz [(a_t, .inr (2, [.ref a_t_pitch, .ref a_t_hears, .int t_oboe, .int t_seconds])), (a_t_pitch, .inl (cI, 8, .inl t_pitch))])) (va_Qi (fun (r : Int32) (_ : Unit) => r = res) (fun u t => POST (dC, dI) vwCl [(a_t, .inr (2, [.ref a_t_pitch, .ref a_t_hears, .int t_oboe, .int t_seconds])), (a_t_pitch, .inl (cI, 8, .inl t_pitch))] (va_A [(a_t, .inr (2, [.ref a_t_pitch, .ref a_t_hears, .int t_oboe, .int t_seconds])), (a_t_pitch, .inl (cI, 8, .inl t_pitch))] sz) t) (va_A [(a_t, .inr (2, [.ref a_t_pitch, .ref a_t_hears, .int t_oboe, .int t_seconds])), (a_t_pitch, .inl (cI, 8, .inl t_pitch))] sz)) 0 0 (va_A [(a_t, .inr (2, [.ref a_t_pitch, .ref a_t_hears, .int t_oboe, .int t_seconds])), (a_t_pitch, .inl (cI, 8, .inl t_pitch))] sz) := by
  refine Met.ofW (cc := cX2_apart) (maxL := 5) (ret := (some .int)) (by decide) rfl ?_
  intro p e s m args below meth c s₁ B hml hv
  obtain ⟨rfl, hsz, hN, hP, hK, hD0⟩ := hv
  have hx := B.exec
  have hb := B.bytes
  have hr := B.returns
  have hts := atoms_spec (ws := wsX2_apart) B.pre
  have hown : s.vm.findClass RX2 = some m.cls := findClass_of_methodNamed B.named
  have hlocks := B.notSynchronized
  subst hsz
  have hD := hD0.self (sz := s.heap.size)
  generalize hAe : va_A [(a_t, .inr (2, [.ref a_t_pitch, .ref a_t_hears, .int t_oboe, .int t_seconds])), (a_t_pitch, .inl (cI, 8, .inl t_pitch))] s.heap.size = A at hD ⊢
  have hA : ∀ q : Nat, s.heap.size ≤ q → A q := fun q h => by rw [← hAe]; exact Or.inr h
  have hS : va_S A s.heap s.heap [] := va_S.rf
  generalize hQe : MQ below _ _ s _ _ A = QQ
  have hl := lv_entry ([.ref a_t, .int x1]) (n := 5) (Nat.le_of_ble_eq_true rfl)
  rw [lg_entry_eq]
  generalize (lg_sl ([.ref a_t, .int x1]) ++ List.replicate (5 - (lg_sl ([.ref a_t, .int x1])).length) Slot.unset).toArray = ls at hl ⊢
  have hl : lv_has ls 5 [(0, .ref a_t), (1, .int x1)] := hl
  have f_9 := hts (.fieldLink RX2 9 "RoundOfTheA$State" "pitch" "[I") (by decide +kernel)
  have in_X2 := (by decide +kernel : ∀ w ∈ wsX20, w ∈ wsX2_apart)
  have m_51 := hts (.methodLink RX2 51 Lib.Math.max.name) (by decide +kernel)
  have ms_max := hts (.static Lib.Math.max.name) (by decide +kernel)
  have m_mi := hts (.initialized "java/lang/Math") (by decide +kernel)
  have mc_max := hts (.code Lib.Math.max.name Lib.Math.max.code 2 (some .int)) (by decide +kernel)
  have m_57 := hts (.methodLink RX2 57 Lib.Math.min.name) (by decide +kernel)
  have ms_min := hts (.static Lib.Math.min.name) (by decide +kernel)
  have mc_min := hts (.code Lib.Math.min.name Lib.Math.min.code 2 (some .int)) (by decide +kernel)
  rw [F_X2_apart] at h
  refine lv_aload_n hx hb dX2_apart_0 rfl (lv_at hl 0 rfl) ?_
  refine va_get (D := (dC, dI)) (ci := 2) (v := .ref a_t_pitch) (C := RX2) (T := TX2) (N := 4) hx hb hts in_X2 hown hK hP 0 rfl rfl 0 (by decide) f_9 (fun _ h9 => h9) rfl dX2_apart_1 ?_
  refine lv_iconst (v := (0 : Int32)) hx hb dX2_apart_4 (by decide) ?_
  obtain ⟨v419, hv419, h⟩ := ob h
  refine k_ld hx hb hK hP 1 0 rfl rfl hv419 dX2_apart_5 ?_
  refine lv_istore_n (lv' := [(2, .int v419), (0, .ref a_t), (1, .int x1)]) hx hb dX2_apart_6 rfl hl (by decide) rfl (fun ls hl => ?_)
  refine lv_aload_n hx hb dX2_apart_7 rfl (lv_at hl 1 rfl) ?_
  refine va_get (D := (dC, dI)) (ci := 2) (v := .ref a_t_pitch) (C := RX2) (T := TX2) (N := 4) hx hb hts in_X2 hown hK hP 0 rfl rfl 0 (by decide) f_9 (fun _ h9 => h9) rfl dX2_apart_8 ?_
  refine lv_iconst (v := (0 : Int32)) hx hb dX2_apart_11 (by decide) ?_
  obtain ⟨v420, hv420, h⟩ := ob h
  refine k_ld hx hb hK hP 1 0 rfl rfl hv420 dX2_apart_12 ?_
  refine lv_istore_n (lv' := [(3, .int v420), (2, .int v419), (0, .ref a_t), (1, .int x1)]) hx hb dX2_apart_13 rfl hl (by decide) rfl (fun ls hl => ?_)
  refine lv_iconst (v := (1 : Int32)) hx hb dX2_apart_14 (by decide) ?_
  refine lv_istore (lv' := [(4, .int (1 : Int32)), (3, .int v420), (2, .int v419), (0, .ref a_t), (1, .int x1)]) hx hb dX2_apart_15 hl (by decide) rfl (fun ls hl => ?_)
  obtain ⟨j428, hjj428, h⟩ := ob h
  have Jj428 : ∀ (H : Heap) (locs : List Loc), va_P (dC, dI) vwCl [(a_t, .inr (2, [.ref a_t_pitch, .ref a_t_hears, .int t_oboe, .int t_seconds])), (a_t_pitch, .inl (cI, 8, .inl t_pitch))] H → va_D A [(a_t, .inr (2, [.ref a_t_pitch, .ref a_t_hears, .int t_oboe, .int t_seconds])), (a_t_pitch, .inl (cI, 8, .inl t_pitch))] → va_S A s.heap H locs → ∀ ls : Array Slot, lv_has ls 5 [(0, .ref a_t), (1, .int x1), (2, .int j428.1), (3, .int j428.2.1), (4, .int j428.2.2)] → W p l e (headSpec wsX2_apart rm_X2_apart).room s m ([.ref a_t, .int x1] : List Value).toArray below meth c H locs 0 0 QQ (F0 m 53 ls []) := by
    intro H locs hP hD hS ls hl
    refine lv_iload_n hx hb dX2_apart_53 rfl (lv_at hl 2 rfl) ?_
    refine lv_iload_n hx hb dX2_apart_54 rfl (lv_at hl 3 rfl) ?_
    refine lv_isub hx hb dX2_apart_55 ?_
    obtain rfl := Option.some.inj h
    subst hQe
    exact W.iret (v := (j428.1 - j428.2.1)) hx hb hr (fun t ht hW => ⟨⟨(j428.1 - j428.2.1), (), rfl, rfl, ⟨by rw [ht]; exact hP, hD⟩⟩, hS.F ht⟩) hS.2.2 dX2_apart_56
  have K17 : ∀ (k : Nat) (y2_17 : Int32) (y3_17 : Int32) (y4_17 : Int32), L_X2_apart_17 t_pitch x1 k y2_17 y3_17 y4_17 = some j428 → ∀ (H : Heap) (locs : List Loc), va_P (dC, dI) vwCl [(a_t, .inr (2, [.ref a_t_pitch, .ref a_t_hears, .int t_oboe, .int t_seconds])), (a_t_pitch, .inl (cI, 8, .inl t_pitch))] H → va_D A [(a_t, .inr (2, [.ref a_t_pitch, .ref a_t_hears, .int t_oboe, .int t_seconds])), (a_t_pitch, .inl (cI, 8, .inl t_pitch))] → va_S A s.heap H locs → ∀ ls : Array Slot, lv_has ls 5 [(0, .ref a_t), (1, .int x1), (2, .int y2_17), (3, .int y3_17), (4, .int y4_17)] → W p l e (headSpec wsX2_apart rm_X2_apart).room s m ([.ref a_t, .int x1] : List Value).toArray below meth c H locs 0 0 QQ (F0 m 17 ls []) := by
    intro k
    induction k with
    | zero =>
      intro y2_17 y3_17 y4_17 h
      rw [L_X2_apart_17] at h
      cases h
    | succ k ih =>
      intro y2_17 y3_17 y4_17 h H locs hP hD hS ls hl
      rw [L_X2_apart_17] at h
      refine lv_iload hx hb dX2_apart_17 (lv_at hl 4 rfl) ?_
      refine lv_iload_n hx hb dX2_apart_19 rfl (lv_at hl 1 rfl) ?_
      refine lv_icmp_ge (tgt := 53) hx hb dX2_apart_20 (by decide) (fun c_20 => ?_) (fun c_20 => ?_)
      · have h := (if_pos c_20).symm.trans h
        obtain rfl := Option.some.inj h
        exact Jj428 _ _ hP hD hS _ hl
      · have h := (if_neg c_20).symm.trans h
        refine lv_iload_n hx hb dX2_apart_23 rfl (lv_at hl 2 rfl) ?_
        refine lv_aload_n hx hb dX2_apart_24 rfl (lv_at hl 0 rfl) ?_
        refine va_get (D := (dC, dI)) (ci := 2) (v := .ref a_t_pitch) (C := RX2) (T := TX2) (N := 4) hx hb hts in_X2 hown hK hP 0 rfl rfl 0 (by decide) f_9 (fun _ h9 => h9) rfl dX2_apart_25 ?_
        refine lv_iload hx hb dX2_apart_28 (lv_at hl 4 rfl) ?_
        obtain ⟨v429, hv429, h⟩ := ob h
        refine k_ld hx hb hK hP 1 0 rfl rfl hv429 dX2_apart_30 ?_
        refine va_mmax hx hb (hml.trans hl.1.symm) hown m_51 ms_max m_mi mc_max (Nat.le_of_ble_eq_true rfl) (Nat.le_of_ble_eq_true rfl) (Nat.le_of_ble_eq_true rfl) (Nat.le_of_ble_eq_true rfl) dX2_apart_31 ?_
        refine lv_istore_n (lv' := [(2, .int (if y2_17 < v429 then v429 else y2_17)), (0, .ref a_t), (1, .int x1), (3, .int y3_17), (4, .int y4_17)]) hx hb dX2_apart_34 rfl hl (by decide) rfl (fun ls hl => ?_)
        refine lv_iload_n hx hb dX2_apart_35 rfl (lv_at hl 3 rfl) ?_
        refine lv_aload_n hx hb dX2_apart_36 rfl (lv_at hl 1 rfl) ?_
        refine va_get (D := (dC, dI)) (ci := 2) (v := .ref a_t_pitch) (C := RX2) (T := TX2) (N := 4) hx hb hts in_X2 hown hK hP 0 rfl rfl 0 (by decide) f_9 (fun _ h9 => h9) rfl dX2_apart_37 ?_
        refine lv_iload hx hb dX2_apart_40 (lv_at hl 4 rfl) ?_
        obtain ⟨v430, hv430, h⟩ := ob h
        refine k_ld hx hb hK hP 1 0 rfl rfl hv430 dX2_apart_42 ?_
        refine va_mmin hx hb (hml.trans hl.1.symm) hown m_57 ms_min m_mi mc_min (Nat.le_of_ble_eq_true rfl) (Nat.le_of_ble_eq_true rfl) (Nat.le_of_ble_eq_true rfl) (Nat.le_of_ble_eq_true rfl) dX2_apart_43 ?_
        refine lv_istore_n (lv' := [(3, .int (if v430 < y3_17 then v430 else y3_17)), (2, .int (if y2_17 < v429 then v429 else y2_17)), (0, .ref a_t), (1, .int x1), (4, .int y4_17)]) hx hb dX2_apart_46 rfl hl (by decide) rfl (fun ls hl => ?_)
        refine lv_iinc (v := (y4_17 + (1 : Int32))) (lv' := [(4, .int (y4_17 + (1 : Int32))), (3, .int (if v430 < y3_17 then v430 else y3_17)), (2, .int (if y2_17 < v429 then v429 else y2_17)), (0, .ref a_t), (1, .int x1)]) hx hb dX2_apart_47 hl (k := 4) rfl rfl (by decide) rfl (fun ls hl => ?_)
        refine lv_goto (tgt := 17) hx hb dX2_apart_50 (by decide) ?_
        exact ih _ _ _ h _ _ hP hD hS _ (lv_sub hl [3, 4, 2, 1, 0] rfl)
  exact K17 n v419 v420 (1 : Int32) hjj428 _ _ hP hD hS _ (lv_sub hl [3, 4, 2, 1, 0] rfl)
def rm_X2_twosHeard : Room := { frames := 1, cells := 0, slots := 0, locals := 21 }
set_option maxRecDepth 100000 in
set_option maxHeartbeats 8000000 in
theorem c_X2_twosHeard (l : Launch) (dC : Nat → ClassId) (dI : Nat → Nat → Nat) (cI cS : ClassId) (n sz : Nat) (a_t : Nat) (a_t_pitch : Nat) (a_t_hears : Nat) (a_h : Nat) (a_h_kind : Nat) (a_h_leanTold : Nat) (a_h_needs : Nat) (a_h_firstHears : Nat) (a_h_group : Nat) (a_h_firstPitch : Nat) (t_pitch : Nat → Int32) (t_oboe : Int32) (t_seconds : Int32) (h_desks : Int32) (h_oboe : Int32) (h_slip : Int32) (h_warmth : Int32) (h_unheard : Int32) (res : Int32)  (h : F_X2_twosHeard n t_pitch h_desks h_unheard = some res) : Met l yX2_twosHeard wsX2_twosHeard rm_X2_twosHeard (va_Pc [.ref a_t, .ref a_h] (PRE (dC, dI) vwCl [(cI, .int), (cS, .object "RoundOfTheA$State")] sz [(a_t, .inr (2, [.ref a_t_pitch, .ref a_t_hears, .int t_oboe, .int t_seconds])), (a_t_pitch, .inl (cI, 8, .inl t_pitch)), (a_h, .inr (0, [.int h_desks, .ref a_h_kind, .ref a_h_leanTold, .ref a_h_needs, .ref a_h_firstHears, .ref a_h_group, .ref a_h_firstPitch, .int h_oboe, .int h_slip, .int h_warmth, .int h_unheard]))])) (va_Qi (fun (r : Int32) (_ : Unit) => r = res) (fun u t => POST (dC, dI) vwCl [(a_t, .inr (2, [.ref a_t_pitch, .ref a_t_hears, .int t_oboe, .int t_seconds])), (a_t_pitch, .inl (cI, 8, .inl t_pitch)), (a_h, .inr (0, [.int h_desks, .ref a_h_kind, .ref a_h_leanTold, .ref a_h_needs, .ref a_h_firstHears, .ref a_h_group, .ref a_h_firstPitch, .int h_oboe, .int h_slip, .int h_warmth, .int h_unheard]))] (va_A [(a_t, .inr (2, [.ref a_t_pitch, .ref a_t_hears, .int t_oboe, .int t_seconds])), (a_t_pitch, .inl (cI, 8, .inl t_pitch)), (a_h, .inr (0, [.int h_desks, .ref a_h_kind, .ref a_h_leanTold, .ref a_h_needs, .ref a_h_firstHears, .ref a_h_group, .ref a_h_firstPitch, .int h_oboe, .int h_slip, .int h_warmth, .int h_unheard]))] sz) t) (va_A [(a_t, .inr (2, [.ref a_t_pitch, .ref a_t_hears, .int t_oboe, .int t_seconds])), (a_t_pitch, .inl (cI, 8, .inl t_pitch)), (a_h, .inr (0, [.int h_desks, .ref a_h_kind, .ref a_h_leanTold, .ref a_h_needs, .ref a_h_firstHears, .ref a_h_group, .ref a_h_firstPitch, .int h_oboe, .int h_slip, .int h_warmth, .int h_unheard]))] sz)) 0 0 (va_A [(a_t, .inr (2, [.ref a_t_pitch, .ref a_t_hears, .int t_oboe, .int t_seconds])), (a_t_pitch, .inl (cI, 8, .inl t_pitch)), (a_h, .inr (0, [.int h_desks, .ref a_h_kind, .ref a_h_leanTold, .ref a_h_needs, .ref a_h_firstHears, .ref a_h_group, .ref a_h_firstPitch, .int h_oboe, .int h_slip, .int h_warmth, .int h_unheard]))] sz) := by
  refine Met.ofW (cc := cX2_twosHeard) (maxL := 5) (ret := (some .int)) (by decide) rfl ?_
  intro p e s m args below meth c s₁ B hml hv
  obtain ⟨rfl, hsz, hN, hP, hK, hD0⟩ := hv
  have hx := B.exec
  have hb := B.bytes
  have hr := B.returns
  have hts := atoms_spec (ws := wsX2_twosHeard) B.pre
  have hown : s.vm.findClass RX2 = some m.cls := findClass_of_methodNamed B.named
  have hlocks := B.notSynchronized
  subst hsz
  have hD := hD0.self (sz := s.heap.size)
  generalize hAe : va_A [(a_t, .inr (2, [.ref a_t_pitch, .ref a_t_hears, .int t_oboe, .int t_seconds])), (a_t_pitch, .inl (cI, 8, .inl t_pitch)), (a_h, .inr (0, [.int h_desks, .ref a_h_kind, .ref a_h_leanTold, .ref a_h_needs, .ref a_h_firstHears, .ref a_h_group, .ref a_h_firstPitch, .int h_oboe, .int h_slip, .int h_warmth, .int h_unheard]))] s.heap.size = A at hD ⊢
  have hA : ∀ q : Nat, s.heap.size ≤ q → A q := fun q h => by rw [← hAe]; exact Or.inr h
  have hS : va_S A s.heap s.heap [] := va_S.rf
  generalize hQe : MQ below _ _ s _ _ A = QQ
  have hl := lv_entry ([.ref a_t, .ref a_h]) (n := 5) (Nat.le_of_ble_eq_true rfl)
  rw [lg_entry_eq]
  generalize (lg_sl ([.ref a_t, .ref a_h]) ++ List.replicate (5 - (lg_sl ([.ref a_t, .ref a_h])).length) Slot.unset).toArray = ls at hl ⊢
  have hl : lv_has ls 5 [(0, .ref a_t), (1, .ref a_h)] := hl
  have f_18 := hts (.fieldLink RX2 18 "RoundOfTheA$Hall" "desks" "I") (by decide +kernel)
  have in_X0 := (by decide +kernel : ∀ w ∈ wsX00, w ∈ wsX2_twosHeard)
  have f_9 := hts (.fieldLink RX2 9 "RoundOfTheA$State" "pitch" "[I") (by decide +kernel)
  have in_X2 := (by decide +kernel : ∀ w ∈ wsX20, w ∈ wsX2_twosHeard)
  have m_60 := hts (.methodLink RX2 60 Lib.Math.abs.name) (by decide +kernel)
  have ms_abs := hts (.static Lib.Math.abs.name) (by decide +kernel)
  have m_mi := hts (.initialized "java/lang/Math") (by decide +kernel)
  have mc_abs := hts (.code Lib.Math.abs.name Lib.Math.abs.code 1 (some .int)) (by decide +kernel)
  have f_63 := hts (.fieldLink RX2 63 "RoundOfTheA$Hall" "unheard" "I") (by decide +kernel)
  rw [F_X2_twosHeard] at h
  refine lv_iconst (v := (0 : Int32)) hx hb dX2_twosHeard_0 (by decide) ?_
  refine lv_istore_n (lv' := [(2, .int (0 : Int32)), (0, .ref a_t), (1, .ref a_h)]) hx hb dX2_twosHeard_1 rfl hl (by decide) rfl (fun ls hl => ?_)
  refine lv_iconst (v := (0 : Int32)) hx hb dX2_twosHeard_2 (by decide) ?_
  refine lv_istore_n (lv' := [(3, .int (0 : Int32)), (2, .int (0 : Int32)), (0, .ref a_t), (1, .ref a_h)]) hx hb dX2_twosHeard_3 rfl hl (by decide) rfl (fun ls hl => ?_)
  obtain ⟨j496, hjj496, h⟩ := ob h
  have Jj496 : ∀ (H : Heap) (locs : List Loc), va_P (dC, dI) vwCl [(a_t, .inr (2, [.ref a_t_pitch, .ref a_t_hears, .int t_oboe, .int t_seconds])), (a_t_pitch, .inl (cI, 8, .inl t_pitch)), (a_h, .inr (0, [.int h_desks, .ref a_h_kind, .ref a_h_leanTold, .ref a_h_needs, .ref a_h_firstHears, .ref a_h_group, .ref a_h_firstPitch, .int h_oboe, .int h_slip, .int h_warmth, .int h_unheard]))] H → va_D A [(a_t, .inr (2, [.ref a_t_pitch, .ref a_t_hears, .int t_oboe, .int t_seconds])), (a_t_pitch, .inl (cI, 8, .inl t_pitch)), (a_h, .inr (0, [.int h_desks, .ref a_h_kind, .ref a_h_leanTold, .ref a_h_needs, .ref a_h_firstHears, .ref a_h_group, .ref a_h_firstPitch, .int h_oboe, .int h_slip, .int h_warmth, .int h_unheard]))] → va_S A s.heap H locs → ∀ ls : Array Slot, lv_has ls 5 [(0, .ref a_t), (1, .ref a_h), (2, .int j496.1), (3, .int j496.2)] → W p l e (headSpec wsX2_twosHeard rm_X2_twosHeard).room s m ([.ref a_t, .ref a_h] : List Value).toArray below meth c H locs 0 0 QQ (F0 m 65 ls []) := by
    intro H locs hP hD hS ls hl
    refine lv_iload_n hx hb dX2_twosHeard_65 rfl (lv_at hl 2 rfl) ?_
    obtain rfl := Option.some.inj h
    subst hQe
    exact W.iret (v := j496.1) hx hb hr (fun t ht hW => ⟨⟨j496.1, (), rfl, rfl, ⟨by rw [ht]; exact hP, hD⟩⟩, hS.F ht⟩) hS.2.2 dX2_twosHeard_66
  have K4 : ∀ (k : Nat) (y2_4 : Int32) (y3_4 : Int32), L_X2_twosHeard_4 n t_pitch h_desks h_unheard k y2_4 y3_4 = some j496 → ∀ (H : Heap) (locs : List Loc), va_P (dC, dI) vwCl [(a_t, .inr (2, [.ref a_t_pitch, .ref a_t_hears, .int t_oboe, .int t_seconds])), (a_t_pitch, .inl (cI, 8, .inl t_pitch)), (a_h, .inr (0, [.int h_desks, .ref a_h_kind, .ref a_h_leanTold, .ref a_h_needs, .ref a_h_firstHears, .ref a_h_group, .ref a_h_firstPitch, .int h_oboe, .int h_slip, .int h_warmth, .int h_unheard]))] H → va_D A [(a_t, .inr (2, [.ref a_t_pitch, .ref a_t_hears, .int t_oboe, .int t_seconds])), (a_t_pitch, .inl (cI, 8, .inl t_pitch)), (a_h, .inr (0, [.int h_desks, .ref a_h_kind, .ref a_h_leanTold, .ref a_h_needs, .ref a_h_firstHears, .ref a_h_group, .ref a_h_firstPitch, .int h_oboe, .int h_slip, .int h_warmth, .int h_unheard]))] → va_S A s.heap H locs → ∀ ls : Array Slot, lv_has ls 5 [(0, .ref a_t), (1, .ref a_h), (2, .int y2_4), (3, .int y3_4)] → W p l e (headSpec wsX2_twosHeard rm_X2_twosHeard).room s m ([.ref a_t, .ref a_h] : List Value).toArray below meth c H locs 0 0 QQ (F0 m 4 ls []) := by
    intro k
    induction k with
    | zero =>
      intro y2_4 y3_4 h
      rw [L_X2_twosHeard_4] at h
      cases h
    | succ k ih =>
      intro y2_4 y3_4 h H locs hP hD hS ls hl
      rw [L_X2_twosHeard_4] at h
      refine lv_iload_n hx hb dX2_twosHeard_4 rfl (lv_at hl 3 rfl) ?_
      refine lv_aload_n hx hb dX2_twosHeard_5 rfl (lv_at hl 1 rfl) ?_
      refine va_get (D := (dC, dI)) (ci := 0) (v := .int h_desks) (C := RX0) (T := TX0) (N := 11) hx hb hts in_X0 hown hK hP 2 rfl rfl 0 (by decide) f_18 (fun _ h9 => h9) rfl dX2_twosHeard_6 ?_
      refine lv_icmp_ge (tgt := 65) hx hb dX2_twosHeard_9 (by decide) (fun c_9 => ?_) (fun c_9 => ?_)
      · have h := (if_pos c_9).symm.trans h
        obtain rfl := Option.some.inj h
        exact Jj496 _ _ hP hD hS _ hl
      · have h := (if_neg c_9).symm.trans h
        refine lv_iload_n hx hb dX2_twosHeard_12 rfl (lv_at hl 3 rfl) ?_
        refine lv_iconst (v := (1 : Int32)) hx hb dX2_twosHeard_13 (by decide) ?_
        refine lv_iadd hx hb dX2_twosHeard_14 ?_
        refine lv_istore (lv' := [(4, .int (y3_4 + (1 : Int32))), (0, .ref a_t), (1, .ref a_h), (2, .int y2_4), (3, .int y3_4)]) hx hb dX2_twosHeard_15 hl (by decide) rfl (fun ls hl => ?_)
        obtain ⟨j505, hjj505, h⟩ := ob h
        have Jj505 : ∀ (H : Heap) (locs : List Loc), va_P (dC, dI) vwCl [(a_t, .inr (2, [.ref a_t_pitch, .ref a_t_hears, .int t_oboe, .int t_seconds])), (a_t_pitch, .inl (cI, 8, .inl t_pitch)), (a_h, .inr (0, [.int h_desks, .ref a_h_kind, .ref a_h_leanTold, .ref a_h_needs, .ref a_h_firstHears, .ref a_h_group, .ref a_h_firstPitch, .int h_oboe, .int h_slip, .int h_warmth, .int h_unheard]))] H → va_D A [(a_t, .inr (2, [.ref a_t_pitch, .ref a_t_hears, .int t_oboe, .int t_seconds])), (a_t_pitch, .inl (cI, 8, .inl t_pitch)), (a_h, .inr (0, [.int h_desks, .ref a_h_kind, .ref a_h_leanTold, .ref a_h_needs, .ref a_h_firstHears, .ref a_h_group, .ref a_h_firstPitch, .int h_oboe, .int h_slip, .int h_warmth, .int h_unheard]))] → va_S A s.heap H locs → ∀ ls : Array Slot, lv_has ls 5 [(0, .ref a_t), (1, .ref a_h), (2, .int j505.1), (3, .int y3_4), (4, .int j505.2)] → W p l e (headSpec wsX2_twosHeard rm_X2_twosHeard).room s m ([.ref a_t, .ref a_h] : List Value).toArray below meth c H locs 0 0 QQ (F0 m 59 ls []) := by
          intro H locs hP hD hS ls hl
          refine lv_iinc (v := (y3_4 + (1 : Int32))) (lv' := [(3, .int (y3_4 + (1 : Int32))), (0, .ref a_t), (1, .ref a_h), (2, .int j505.1), (4, .int j505.2)]) hx hb dX2_twosHeard_59 hl (k := 3) rfl rfl (by decide) rfl (fun ls hl => ?_)
          refine lv_goto (tgt := 4) hx hb dX2_twosHeard_62 (by decide) ?_
          exact ih _ _ h _ _ hP hD hS _ (lv_sub hl [1, 2, 3, 0] rfl)
        have K17 : ∀ (k : Nat) (y2_17 : Int32) (y4_17 : Int32), L_X2_twosHeard_17 t_pitch h_desks h_unheard y3_4 k y2_17 y4_17 = some j505 → ∀ (H : Heap) (locs : List Loc), va_P (dC, dI) vwCl [(a_t, .inr (2, [.ref a_t_pitch, .ref a_t_hears, .int t_oboe, .int t_seconds])), (a_t_pitch, .inl (cI, 8, .inl t_pitch)), (a_h, .inr (0, [.int h_desks, .ref a_h_kind, .ref a_h_leanTold, .ref a_h_needs, .ref a_h_firstHears, .ref a_h_group, .ref a_h_firstPitch, .int h_oboe, .int h_slip, .int h_warmth, .int h_unheard]))] H → va_D A [(a_t, .inr (2, [.ref a_t_pitch, .ref a_t_hears, .int t_oboe, .int t_seconds])), (a_t_pitch, .inl (cI, 8, .inl t_pitch)), (a_h, .inr (0, [.int h_desks, .ref a_h_kind, .ref a_h_leanTold, .ref a_h_needs, .ref a_h_firstHears, .ref a_h_group, .ref a_h_firstPitch, .int h_oboe, .int h_slip, .int h_warmth, .int h_unheard]))] → va_S A s.heap H locs → ∀ ls : Array Slot, lv_has ls 5 [(0, .ref a_t), (1, .ref a_h), (2, .int y2_17), (3, .int y3_4), (4, .int y4_17)] → W p l e (headSpec wsX2_twosHeard rm_X2_twosHeard).room s m ([.ref a_t, .ref a_h] : List Value).toArray below meth c H locs 0 0 QQ (F0 m 17 ls []) := by
          intro k
          induction k with
          | zero =>
            intro y2_17 y4_17 h
            rw [L_X2_twosHeard_17] at h
            cases h
          | succ k ih =>
            intro y2_17 y4_17 h H locs hP hD hS ls hl
            rw [L_X2_twosHeard_17] at h
            refine lv_iload hx hb dX2_twosHeard_17 (lv_at hl 4 rfl) ?_
            refine lv_aload_n hx hb dX2_twosHeard_19 rfl (lv_at hl 1 rfl) ?_
            refine va_get (D := (dC, dI)) (ci := 0) (v := .int h_desks) (C := RX0) (T := TX0) (N := 11) hx hb hts in_X0 hown hK hP 2 rfl rfl 0 (by decide) f_18 (fun _ h9 => h9) rfl dX2_twosHeard_20 ?_
            refine lv_icmp_ge (tgt := 59) hx hb dX2_twosHeard_23 (by decide) (fun c_23 => ?_) (fun c_23 => ?_)
            · have h := (if_pos c_23).symm.trans h
              obtain rfl := Option.some.inj h
              exact Jj505 _ _ hP hD hS _ hl
            · have h := (if_neg c_23).symm.trans h
              refine lv_aload_n hx hb dX2_twosHeard_26 rfl (lv_at hl 0 rfl) ?_
              refine va_get (D := (dC, dI)) (ci := 2) (v := .ref a_t_pitch) (C := RX2) (T := TX2) (N := 4) hx hb hts in_X2 hown hK hP 0 rfl rfl 0 (by decide) f_9 (fun _ h9 => h9) rfl dX2_twosHeard_27 ?_
              refine lv_iload_n hx hb dX2_twosHeard_30 rfl (lv_at hl 3 rfl) ?_
              obtain ⟨v506, hv506, h⟩ := ob h
              refine k_ld hx hb hK hP 1 0 rfl rfl hv506 dX2_twosHeard_31 ?_
              refine lv_aload_n hx hb dX2_twosHeard_32 rfl (lv_at hl 0 rfl) ?_
              refine va_get (D := (dC, dI)) (ci := 2) (v := .ref a_t_pitch) (C := RX2) (T := TX2) (N := 4) hx hb hts in_X2 hown hK hP 0 rfl rfl 0 (by decide) f_9 (fun _ h9 => h9) rfl dX2_twosHeard_33 ?_
              refine lv_iload hx hb dX2_twosHeard_36 (lv_at hl 4 rfl) ?_
              obtain ⟨v507, hv507, h⟩ := ob h
              refine k_ld hx hb hK hP 1 0 rfl rfl hv507 dX2_twosHeard_38 ?_
              refine lv_isub hx hb dX2_twosHeard_39 ?_
              refine va_mabs hx hb (hml.trans hl.1.symm) hown m_60 ms_abs m_mi mc_abs (Nat.le_of_ble_eq_true rfl) (Nat.le_of_ble_eq_true rfl) (Nat.le_of_ble_eq_true rfl) (Nat.le_of_ble_eq_true rfl) dX2_twosHeard_40 ?_
              refine lv_aload_n hx hb dX2_twosHeard_43 rfl (lv_at hl 1 rfl) ?_
              refine va_get (D := (dC, dI)) (ci := 0) (v := .int h_unheard) (C := RX0) (T := TX0) (N := 11) hx hb hts in_X0 hown hK hP 2 rfl rfl 10 (by decide) f_63 (fun _ h9 => h9) rfl dX2_twosHeard_44 ?_
              obtain ⟨j508, hjj508, h⟩ := ob h
              have Jj508 : ∀ (H : Heap) (locs : List Loc), va_P (dC, dI) vwCl [(a_t, .inr (2, [.ref a_t_pitch, .ref a_t_hears, .int t_oboe, .int t_seconds])), (a_t_pitch, .inl (cI, 8, .inl t_pitch)), (a_h, .inr (0, [.int h_desks, .ref a_h_kind, .ref a_h_leanTold, .ref a_h_needs, .ref a_h_firstHears, .ref a_h_group, .ref a_h_firstPitch, .int h_oboe, .int h_slip, .int h_warmth, .int h_unheard]))] H → va_D A [(a_t, .inr (2, [.ref a_t_pitch, .ref a_t_hears, .int t_oboe, .int t_seconds])), (a_t_pitch, .inl (cI, 8, .inl t_pitch)), (a_h, .inr (0, [.int h_desks, .ref a_h_kind, .ref a_h_leanTold, .ref a_h_needs, .ref a_h_firstHears, .ref a_h_group, .ref a_h_firstPitch, .int h_oboe, .int h_slip, .int h_warmth, .int h_unheard]))] → va_S A s.heap H locs → ∀ ls : Array Slot, lv_has ls 5 [(0, .ref a_t), (1, .ref a_h), (2, .int j508), (3, .int y3_4), (4, .int y4_17)] → W p l e (headSpec wsX2_twosHeard rm_X2_twosHeard).room s m ([.ref a_t, .ref a_h] : List Value).toArray below meth c H locs 0 0 QQ (F0 m 53 ls []) := by
                intro H locs hP hD hS ls hl
                refine lv_iinc (v := (y4_17 + (1 : Int32))) (lv' := [(4, .int (y4_17 + (1 : Int32))), (0, .ref a_t), (1, .ref a_h), (2, .int j508), (3, .int y3_4)]) hx hb dX2_twosHeard_53 hl (k := 4) rfl rfl (by decide) rfl (fun ls hl => ?_)
                refine lv_goto (tgt := 17) hx hb dX2_twosHeard_56 (by decide) ?_
                exact ih _ _ h _ _ hP hD hS _ (lv_sub hl [1, 2, 3, 4, 0] rfl)
              refine lv_icmp_le (tgt := 53) hx hb dX2_twosHeard_47 (by decide) (fun c_47 => ?_) (fun c_47 => ?_)
              · have h := (if_pos c_47).symm.trans hjj508
                obtain rfl := Option.some.inj h
                exact Jj508 _ _ hP hD hS _ hl
              · have h := (if_neg c_47).symm.trans hjj508
                refine lv_iinc (v := (y2_17 + (1 : Int32))) (lv' := [(2, .int (y2_17 + (1 : Int32))), (0, .ref a_t), (1, .ref a_h), (3, .int y3_4), (4, .int y4_17)]) hx hb dX2_twosHeard_50 hl (k := 2) rfl rfl (by decide) rfl (fun ls hl => ?_)
                obtain rfl := Option.some.inj h
                exact Jj508 _ _ hP hD hS _ (lv_sub hl [1, 2, 0, 3, 4] rfl)
        exact K17 n y2_4 (y3_4 + (1 : Int32)) hjj505 _ _ hP hD hS _ (lv_sub hl [1, 2, 3, 4, 0] rfl)
  exact K4 n (0 : Int32) (0 : Int32) hjj496 _ _ hP hD hS _ (lv_sub hl [2, 3, 1, 0] rfl)
