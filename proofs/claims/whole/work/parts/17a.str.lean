/-! The class's one literal: its length and its letters, through the JDK's own methods. -/
def S_by : List Int32 := S_first.map nI
def c7 : Nat → Int32 := fun j => nI (S_first.getD j 0)
/-- what the JDK's methods need: the two statics, and the literal at kA with its bytes at vA -/
def STR (kA vA : Nat) (A : Nat → Prop) (U : State) (H : Heap) : Prop := va_Z "java/lang/String" "COMPACT_STRINGS" "Z" (.int 1) A U H ∧ va_Zq "jdk/internal/util/Preconditions" "SIOOBE_FORMATTER" "Ljava/util/function/BiFunction;" A U H ∧ vk_S 1 [81] [S_by] (fun _ => kA) (fun _ => vA) A U H
theorem STR.moved {kA vA : Nat} {A : Nat → Prop} {u U : State} {H : Heap} (hvm : u.vm.Alike U.vm) (h : STR kA vA A u H) : STR kA vA A U H := ⟨va_Z.moved hvm h.1, va_Zq.moved hvm h.2.1, vk_S.moved hvm h.2.2⟩
theorem STR.kept {kA vA : Nat} {A : Nat → Prop} {U : State} {H H1 : Heap} (h : STR kA vA A U H) (hq : ∀ a : Nat, a < H.size → ¬ A a → H1[a]? = H[a]?) : STR kA vA A U H1 := ⟨h.1.kept hq, h.2.1.kept hq, h.2.2.kept hq⟩
theorem STR.narrow {kA vA : Nat} {A B : Nat → Prop} {U : State} {H : Heap} (h : STR kA vA A U H) (hAB : ∀ q, B q → A q) : STR kA vA B U H := ⟨h.1.narrow hAB, h.2.1.narrow hAB, h.2.2.narrow hAB⟩
def SP (kA vA sz : Nat) (U : State) : Prop := U.heap.size = sz ∧ STR kA vA (va_A [] sz) U U.heap
theorem SP.blind {kA vA sz : Nat} {av : List Value} : FrameBlind (va_Pc av (SP kA vA sz)) := by
  intro a U g mk q
  obtain ⟨q0, q1, q2⟩ := q
  exact ⟨q0, q1, STR.moved (u := U) (U := U.calling g mk a) (Vm.Alike.refl U.vm) q2⟩
section OWN7
variable {p : Program} {l : Launch} {e : Env} {R : Room} {s : State} {m : MethodId} {args : Array Value} {below : List Frame} {meth : Method} {c : Code} {H : Heap} {locs : List Loc} {cells slots : Nat} {Q : State → Prop}
variable {cc : ByteArray} {pc : Nat} {ls : Array Slot} {rest st0 As : List Value} {A0 : Nat → Prop} {kA vA : Nat}
variable {y : MethodName} {bytes : ByteArray} {maxL nL mc ms n index : Nat} {ret : Option FieldType} {yw Ts : List Cond} {rm : Room} {own : String}
theorem SP_free (hS : va_S A0 s.heap H locs) (hA : ∀ q, s.heap.size ≤ q → A0 q) : ∀ q : Nat, va_A [] H.size q → A0 q := fun q h => by
  rcases h with ⟨k, e', h⟩ | h
  · simp at h
  · exact hA q (Nat.le_trans hS.1 h)
theorem SP_not {H : Heap} {q : Nat} (h : q < H.size) : ¬ va_A [] H.size q := fun z => by
  rcases z with ⟨k, e', z⟩ | z
  · simp at z
  · exact absurd h (Nat.not_lt.mpr z)
/-- a call on the literal -/
theorem k_Sv {r0 : Int32} (hM : Met l y yw rm (va_Pc (.ref kA :: As) (SP kA vA H.size)) (va_Qi (fun (r : Int32) (_ : Unit) => r = r0) (fun _ _ => True) (va_A [] H.size)) mc ms (va_A [] H.size))
    (S : CallFix p m c cc nL s args Ts own) (cw : CallW R s args own "java/lang/String" index y bytes maxL ret yw rm mc ms n)
    (hE : STR kA vA A0 s s.heap) (hS : va_S A0 s.heap H locs) (hA : ∀ q, s.heap.size ≤ q → A0 q)
    (hn2 : As.length = n) (hsz : ls.size = nL) (hst : st0 = As.reverse ++ .ref kA :: rest) (hW : (rest.map fun v => v.category).sum ≤ 8) (hdg : decode cc pc = .ok (.invokevirtual index, 3)) (hf : cells + mc ≤ R.cells ∧ slots + ms ≤ R.slots)
    (kk : ∀ (H1 : Heap) (locs1 : List Loc), (∀ q : Nat, q < H.size → H1[q]? = H[q]?) → va_S A0 s.heap H1 locs1 → W p l e R s m args below meth c H1 locs1 (cells + mc) (slots + ms) Q (F0 m (pc + 3) ls (.int r0 :: rest))) :
    W p l e R s m args below meth c H locs cells slots Q (F0 m pc ls st0) := by
  have hF0 := SP_free hS hA
  have hE1 : STR kA vA (va_A [] H.size) s H := (hE.kept hS.2.1).narrow hF0
  refine va_calli (va_runV S hM cw ⟨SP.blind, vk_recv (i := 0) hE.2.2 (by decide) hS, fun U hU hW => ⟨rfl, by rw [hU], by rw [hU]; exact hE1.moved hW.alike⟩⟩ rfl hn2 hsz hst (lv_room hW) hdg hf) hS (fun q _ h => hF0 q h) hF0 (fun r u t H1 locs1 ht hvm hw hB hz1 hk1 hS1 => ?_)
  obtain rfl := hw
  exact kk H1 locs1 (fun q h => hk1 q h (SP_not h)) hS1
/-- a static call among the JDK's, with an answer -/
theorem k_Ssi {r0 : Int32} (hM : Met l y yw rm (va_Pc As (SP kA vA H.size)) (va_Qi (fun (r : Int32) (_ : Unit) => r = r0) (fun _ _ => True) (va_A [] H.size)) mc ms (va_A [] H.size))
    (S : CallFix p m c cc nL s args Ts own) (cw : CallB R s args own index y bytes maxL ret yw rm mc ms n ∧ (Cond.static y).before args s = true)
    (hE : STR kA vA A0 s s.heap) (hS : va_S A0 s.heap H locs) (hA : ∀ q, s.heap.size ≤ q → A0 q)
    (hn2 : As.length = n) (hsz : ls.size = nL) (hst : st0 = As.reverse ++ rest) (hW : (rest.map fun v => v.category).sum ≤ 8) (hdg : decode cc pc = .ok (.invokestatic index, 3)) (hf : cells + mc ≤ R.cells ∧ slots + ms ≤ R.slots)
    (kk : ∀ (H1 : Heap) (locs1 : List Loc), (∀ q : Nat, q < H.size → H1[q]? = H[q]?) → va_S A0 s.heap H1 locs1 → W p l e R s m args below meth c H1 locs1 (cells + mc) (slots + ms) Q (F0 m (pc + 3) ls (.int r0 :: rest))) :
    W p l e R s m args below meth c H locs cells slots Q (F0 m pc ls st0) := by
  have hF0 := SP_free hS hA
  have hE1 : STR kA vA (va_A [] H.size) s H := (hE.kept hS.2.1).narrow hF0
  refine va_calli (va_runS S hM cw ⟨SP.blind, fun U hU hW => ⟨rfl, by rw [hU], by rw [hU]; exact hE1.moved hW.alike⟩⟩ rfl hn2 hsz hst (lv_room hW) hdg hf) hS (fun q _ h => hF0 q h) hF0 (fun r u t H1 locs1 ht hvm hw hB hz1 hk1 hS1 => ?_)
  obtain rfl := hw
  exact kk H1 locs1 (fun q h => hk1 q h (SP_not h)) hS1
/-- a static call among the JDK's, without an answer -/
theorem k_Ssv (hM : Met l y yw rm (va_Pc As (SP kA vA H.size)) (va_Qv (fun (_ : Unit) => True) (fun _ _ => True) (va_A [] H.size)) mc ms (va_A [] H.size))
    (S : CallFix p m c cc nL s args Ts own) (cw : CallB R s args own index y bytes maxL ret yw rm mc ms n ∧ (Cond.static y).before args s = true)
    (hE : STR kA vA A0 s s.heap) (hS : va_S A0 s.heap H locs) (hA : ∀ q, s.heap.size ≤ q → A0 q)
    (hn2 : As.length = n) (hsz : ls.size = nL) (hst : st0 = As.reverse ++ rest) (hW : (rest.map fun v => v.category).sum ≤ 8) (hdg : decode cc pc = .ok (.invokestatic index, 3)) (hf : cells + mc ≤ R.cells ∧ slots + ms ≤ R.slots)
    (kk : ∀ (H1 : Heap) (locs1 : List Loc), (∀ q : Nat, q < H.size → H1[q]? = H[q]?) → va_S A0 s.heap H1 locs1 → W p l e R s m args below meth c H1 locs1 (cells + mc) (slots + ms) Q (F0 m (pc + 3) ls rest)) :
    W p l e R s m args below meth c H locs cells slots Q (F0 m pc ls st0) := by
  have hF0 := SP_free hS hA
  have hE1 : STR kA vA (va_A [] H.size) s H := (hE.kept hS.2.1).narrow hF0
  refine va_callv (va_runS S hM cw ⟨SP.blind, fun U hU hW => ⟨rfl, by rw [hU], by rw [hU]; exact hE1.moved hW.alike⟩⟩ rfl hn2 hsz hst (lv_room hW) hdg hf) hS (fun q _ h => hF0 q h) hF0 (fun u t H1 locs1 ht hvm hw hB hz1 hk1 hS1 => ?_)
  exact kk H1 locs1 (fun q h => hk1 q h (SP_not h)) hS1
end OWN7
def rmJ (f c : Nat) : Room := { frames := f, cells := 0, slots := 0, locals := c }
theorem c_J0_coder (l : Launch) (kA vA sz : Nat) : Met l yJ0_coder_7d493 wsJ0_coder_7d493 (rmJ 0 0) (va_Pc [.ref kA] (SP kA vA sz)) (va_Qi (fun (r : Int32) (_ : Unit) => r = 0) (fun _ _ => True) (va_A [] sz)) 0 0 (va_A [] sz) := by
  refine Met.ofW (cc := cJ0_coder_7d493) (maxL := 1) (ret := (some .byte)) (by decide) rfl ?_
  intro p e s m args below meth c s₁ B hml hv
  obtain ⟨rfl, hsz, hE⟩ := hv
  have hx := B.exec
  have hb := B.bytes
  have hr := B.returns
  have hts := atoms_spec (ws := wsJ0_coder_7d493) B.pre
  have hown : s.vm.findClass RJ0 = some m.cls := findClass_of_methodNamed B.named
  have hlocks := B.notSynchronized
  subst hsz
  generalize hAe : va_A [] s.heap.size = A at hE ⊢
  have hS : va_S A s.heap s.heap [] := va_S.rf
  have hl := lv_entry ([.ref kA]) (n := 1) (Nat.le_of_ble_eq_true rfl)
  rw [lg_entry_eq]
  generalize (lg_sl ([.ref kA]) ++ List.replicate (1 - (lg_sl ([.ref kA])).length) Slot.unset).toArray = ls at hl ⊢
  have hl : lv_has ls 1 [(0, .ref kA)] := hl
  refine va_gets hx hb hE.1 hS hown (hts (.fieldLink RJ0 38 "java/lang/String" "COMPACT_STRINGS" "Z") (by decide +kernel)) (fun _ h => h) dJ0_coder_7d493_0 ?_
  refine lv_if_eq (tgt := 13) hx hb dJ0_coder_7d493_3 (by decide) (fun c9 => absurd c9 (by decide)) (fun _ => ?_)
  refine lv_aload_n hx hb dJ0_coder_7d493_6 rfl (lv_at hl 0 rfl) ?_
  refine vk_getf hx hb (hE.2.2.1 0 (by decide)).2.1 hS hown (hts (.fieldLink RJ0 15 "java/lang/String" "coder" "B") (by decide +kernel)) (fun _ h => h) dJ0_coder_7d493_7 ?_
  refine lv_goto (tgt := 14) hx hb dJ0_coder_7d493_10 (by decide) ?_
  exact W.zret (v := 0) (ty := .byte) hx hb hr rfl (fun t ht hW => ⟨⟨0, (), rfl, rfl, trivial⟩, hS.F ht⟩) hS.2.2 dJ0_coder_7d493_14
theorem c_J0_isLatin1 (l : Launch) (kA vA sz : Nat) : Met l yJ0_isLatin1_aae02 wsJ0_isLatin1_aae02 (rmJ 0 0) (va_Pc [.ref kA] (SP kA vA sz)) (va_Qi (fun (r : Int32) (_ : Unit) => r = 1) (fun _ _ => True) (va_A [] sz)) 0 0 (va_A [] sz) := by
  refine Met.ofW (cc := cJ0_isLatin1_aae02) (maxL := 1) (ret := (some .boolean)) (by decide) rfl ?_
  intro p e s m args below meth c s₁ B hml hv
  obtain ⟨rfl, hsz, hE⟩ := hv
  have hx := B.exec
  have hb := B.bytes
  have hr := B.returns
  have hts := atoms_spec (ws := wsJ0_isLatin1_aae02) B.pre
  have hown : s.vm.findClass RJ0 = some m.cls := findClass_of_methodNamed B.named
  have hlocks := B.notSynchronized
  subst hsz
  generalize hAe : va_A [] s.heap.size = A at hE ⊢
  have hS : va_S A s.heap s.heap [] := va_S.rf
  have hl := lv_entry ([.ref kA]) (n := 1) (Nat.le_of_ble_eq_true rfl)
  rw [lg_entry_eq]
  generalize (lg_sl ([.ref kA]) ++ List.replicate (1 - (lg_sl ([.ref kA])).length) Slot.unset).toArray = ls at hl ⊢
  have hl : lv_has ls 1 [(0, .ref kA)] := hl
  refine va_gets hx hb hE.1 hS hown (hts (.fieldLink RJ0 38 "java/lang/String" "COMPACT_STRINGS" "Z") (by decide +kernel)) (fun _ h => h) dJ0_isLatin1_aae02_0 ?_
  refine lv_if_eq (tgt := 17) hx hb dJ0_isLatin1_aae02_3 (by decide) (fun c9 => absurd c9 (by decide)) (fun _ => ?_)
  refine lv_aload_n hx hb dJ0_isLatin1_aae02_6 rfl (lv_at hl 0 rfl) ?_
  refine vk_getf hx hb (hE.2.2.1 0 (by decide)).2.1 hS hown (hts (.fieldLink RJ0 15 "java/lang/String" "coder" "B") (by decide +kernel)) (fun _ h => h) dJ0_isLatin1_aae02_7 ?_
  refine lv_if_ne (tgt := 17) hx hb dJ0_isLatin1_aae02_10 (by decide) (fun c9 => absurd rfl c9) (fun _ => ?_)
  refine lv_iconst (v := 1) hx hb dJ0_isLatin1_aae02_13 (by decide) ?_
  refine lv_goto (tgt := 18) hx hb dJ0_isLatin1_aae02_14 (by decide) ?_
  exact W.zret (v := 1) (ty := .boolean) hx hb hr rfl (fun t ht hW => ⟨⟨1, (), rfl, rfl, trivial⟩, hS.F ht⟩) hS.2.2 dJ0_isLatin1_aae02_18
theorem c_J0_length (l : Launch) (kA vA sz : Nat) : Met l yJ0_length_8abf5 wsJ0_length_8abf5 (rmJ 1 20) (va_Pc [.ref kA] (SP kA vA sz)) (va_Qi (fun (r : Int32) (_ : Unit) => r = 81) (fun _ _ => True) (va_A [] sz)) 0 0 (va_A [] sz) := by
  refine Met.ofW (cc := cJ0_length_8abf5) (maxL := 1) (ret := (some .int)) (by decide) rfl ?_
  intro p e s m args below meth c s₁ B hml hv
  obtain ⟨rfl, hsz, hE⟩ := hv
  have hx := B.exec
  have hb := B.bytes
  have hr := B.returns
  have hts := atoms_spec (ws := wsJ0_length_8abf5) B.pre
  have hown : s.vm.findClass RJ0 = some m.cls := findClass_of_methodNamed B.named
  have hlocks := B.notSynchronized
  subst hsz
  have hA : ∀ q : Nat, s.heap.size ≤ q → va_A [] s.heap.size q := fun q h => Or.inr h
  generalize hAe : va_A [] s.heap.size = A at hE hA ⊢
  have hS : va_S A s.heap s.heap [] := va_S.rf
  have hl := lv_entry ([.ref kA]) (n := 1) (Nat.le_of_ble_eq_true rfl)
  rw [lg_entry_eq]
  generalize (lg_sl ([.ref kA]) ++ List.replicate (1 - (lg_sl ([.ref kA])).length) Slot.unset).toArray = ls at hl ⊢
  have hl : lv_has ls 1 [(0, .ref kA)] := hl
  refine lv_aload_n hx hb dJ0_length_8abf5_0 rfl (lv_at hl 0 rfl) ?_
  refine vk_getf hx hb (hE.2.2.1 0 (by decide)).2.2.1 hS hown (hts (.fieldLink RJ0 9 "java/lang/String" "value" "[B") (by decide +kernel)) (fun _ h => h) dJ0_length_8abf5_1 ?_
  refine va_tlen hx hb (hE.2.2.1 0 (by decide)).2.2.2 hS (v := (81 : Int32)) rfl dJ0_length_8abf5_4 ?_
  refine lv_aload_n hx hb dJ0_length_8abf5_5 rfl (lv_at hl 0 rfl) ?_
  refine k_Sv (As := []) (rest := [.int 81]) (c_J0_coder l kA vA _) ⟨hx, hb, hml, hown, hts⟩ (cwV 0 hts gJ0_length_8abf5_J0_coder_7d493 rfl rfl rfl (by decide +kernel) ⟨Nat.le_of_ble_eq_true rfl, Nat.le_of_ble_eq_true rfl⟩) hE hS hA rfl hl.1 rfl (Nat.le_of_ble_eq_true rfl) dJ0_length_8abf5_6 ⟨Nat.le_of_ble_eq_true rfl, Nat.le_of_ble_eq_true rfl⟩ (fun H locs _ hS => ?_)
  refine lv_ishr hx hb dJ0_length_8abf5_9 ?_
  exact W.iret (v := ((81 : Int32) >>> ((0 : Int32) &&& 31))) hx hb hr (fun t ht hW => ⟨⟨_, (), rfl, by decide, trivial⟩, hS.F ht⟩) hS.2.2 dJ0_length_8abf5_10
theorem lt81 {i : Int32} (h : vp_in i 81) : ¬ i < 0 ∧ i < 81 := by
  have h1 : ¬ i < 0 := fun z => h (Or.inl z)
  have h2 : i.toNatClampNeg < 81 := Nat.not_le.mp fun z => h (Or.inr z)
  refine ⟨h1, ?_⟩
  obtain ⟨j, hj, rfl⟩ := nI_of h1
  rw [nI_clamp hj] at h2
  exact nI_lt h2 (by decide)
theorem c_J3_checkIndex (l : Launch) (kA vA sz : Nat) (i : Int32) (h : vp_in i 81) (v : Value) (hv0 : v = .null ∨ ∃ t : Nat, v = .ref t) : Met l yJ3_checkIndex_8e157 wsJ3_checkIndex_8e157 (rmJ 0 0) (va_Pc [.int i, .int 81, v] (SP kA vA sz)) (va_Qi (fun (r : Int32) (_ : Unit) => r = i) (fun _ _ => True) (va_A [] sz)) 0 0 (va_A [] sz) := by
  obtain ⟨h1, h2⟩ := lt81 h
  refine Met.ofW (cc := cJ3_checkIndex_8e157) (maxL := 3) (ret := (some .int)) (by decide) rfl ?_
  intro p e s m args below meth c s₁ B hml hv
  obtain ⟨rfl, hsz, hE⟩ := hv
  have hx := B.exec
  have hb := B.bytes
  have hr := B.returns
  have hlocks := B.notSynchronized
  subst hsz
  generalize hAe : va_A [] s.heap.size = A at hE ⊢
  have hS : va_S A s.heap s.heap [] := va_S.rf
  have hl : ∃ ls : Array Slot, lv_has ls 3 [(0, .int i), (1, .int 81)] ∧ entryFrame m ([Value.int i, .int 81, v] : List Value).toArray 3 = F0 m 0 ls [] := by
    rcases hv0 with rfl | ⟨t, rfl⟩
    · have hl := lv_entry ([.int i, .int 81, .null]) (n := 3) (Nat.le_of_ble_eq_true rfl)
      exact ⟨_, lv_sub hl [0, 1] rfl, lg_entry_eq ..⟩
    · have hl := lv_entry ([.int i, .int 81, .ref t]) (n := 3) (Nat.le_of_ble_eq_true rfl)
      exact ⟨_, lv_sub hl [0, 1] rfl, lg_entry_eq ..⟩
  obtain ⟨ls, hl, hle⟩ := hl
  rw [hle]
  refine lv_iload_n hx hb dJ3_checkIndex_8e157_0 rfl (lv_at hl 0 rfl) ?_
  refine lv_if_lt (tgt := 9) hx hb dJ3_checkIndex_8e157_1 (by decide) (fun c9 => absurd c9 h1) (fun _ => ?_)
  refine lv_iload_n hx hb dJ3_checkIndex_8e157_4 rfl (lv_at hl 0 rfl) ?_
  refine lv_iload_n hx hb dJ3_checkIndex_8e157_5 rfl (lv_at hl 1 rfl) ?_
  refine lv_icmp_lt (tgt := 16) hx hb dJ3_checkIndex_8e157_6 (by decide) (fun _ => ?_) (fun c9 => absurd h2 c9)
  refine lv_iload_n hx hb dJ3_checkIndex_8e157_16 rfl (lv_at hl 0 rfl) ?_
  exact W.iret (v := i) hx hb hr (fun t ht hW => ⟨⟨i, (), rfl, rfl, trivial⟩, hS.F ht⟩) hS.2.2 dJ3_checkIndex_8e157_17
theorem c_J0_checkIndex (l : Launch) (kA vA sz : Nat) (i : Int32) (h : vp_in i 81) : Met l yJ0_checkIndex_df160 wsJ0_checkIndex_df160 (rmJ 1 22) (va_Pc [.int i, .int 81] (SP kA vA sz)) (va_Qv (fun (_ : Unit) => True) (fun _ _ => True) (va_A [] sz)) 0 0 (va_A [] sz) := by
  refine Met.ofW (cc := cJ0_checkIndex_df160) (maxL := 2) (ret := none) (by decide) rfl ?_
  intro p e s m args below meth c s₁ B hml hv
  obtain ⟨rfl, hsz, hE⟩ := hv
  have hx := B.exec
  have hb := B.bytes
  have hr := B.returns
  have hts := atoms_spec (ws := wsJ0_checkIndex_df160) B.pre
  have hown : s.vm.findClass RJ0 = some m.cls := findClass_of_methodNamed B.named
  have hlocks := B.notSynchronized
  subst hsz
  have hA : ∀ q : Nat, s.heap.size ≤ q → va_A [] s.heap.size q := fun q h => Or.inr h
  generalize hAe : va_A [] s.heap.size = A at hE hA ⊢
  have hS : va_S A s.heap s.heap [] := va_S.rf
  have hl := lv_entry ([.int i, .int 81]) (n := 2) (Nat.le_of_ble_eq_true rfl)
  rw [lg_entry_eq]
  generalize (lg_sl ([.int i, .int 81]) ++ List.replicate (2 - (lg_sl ([.int i, .int 81])).length) Slot.unset).toArray = ls at hl ⊢
  have hl : lv_has ls 2 [(0, .int i), (1, .int 81)] := hl
  refine lv_iload_n hx hb dJ0_checkIndex_df160_0 rfl (lv_at hl 0 rfl) ?_
  refine lv_iload_n hx hb dJ0_checkIndex_df160_1 rfl (lv_at hl 1 rfl) ?_
  have hZ : ∃ v : Value, (v = .null ∨ ∃ t : Nat, v = .ref t) ∧ va_Z "jdk/internal/util/Preconditions" "SIOOBE_FORMATTER" "Ljava/util/function/BiFunction;" v A s s.heap := by
    rcases hE.2.1 with hz | ⟨t, hz⟩
    · exact ⟨.null, Or.inl rfl, hz⟩
    · exact ⟨.ref t, Or.inr ⟨t, rfl⟩, hz⟩
  obtain ⟨v, hv0, hz⟩ := hZ
  refine va_gets hx hb hz hS hown (hts (.fieldLink RJ0 1053 "jdk/internal/util/Preconditions" "SIOOBE_FORMATTER" "Ljava/util/function/BiFunction;") (by decide +kernel)) (fun _ h => h) dJ0_checkIndex_df160_2 ?_
  refine k_Ssi (As := [.int i, .int 81, v]) (rest := []) (c_J3_checkIndex l kA vA _ i h v hv0) ⟨hx, hb, hml, hown, hts⟩ (va_cwS 3 hts gJ0_checkIndex_df160_J3_checkIndex_8e157 rfl rfl rfl (by decide +kernel) ⟨Nat.le_of_ble_eq_true rfl, Nat.le_of_ble_eq_true rfl⟩) hE hS hA rfl hl.1 rfl (Nat.le_of_ble_eq_true rfl) dJ0_checkIndex_df160_5 ⟨Nat.le_of_ble_eq_true rfl, Nat.le_of_ble_eq_true rfl⟩ (fun H locs _ hS => ?_)
  refine lv_pop hx hb dJ0_checkIndex_df160_8 rfl ?_
  exact W.vret hx hb hr (fun t ht hW => ⟨⟨(), rfl, trivial, trivial⟩, hS.F ht⟩) hS.2.2 dJ0_checkIndex_df160_9
def i2c7 (x : Int32) : Int32 := UInt32.toInt32 (Int32.toUInt32 (x &&& 255) % 65536)
theorem by_c7 : ∀ j : Nat, j < 81 → i2c7 (S_by.getD j 0) = c7 j := by
  have h : (List.range 81).all (fun j => decide (i2c7 (S_by.getD j 0) = c7 j)) = true := by decide +kernel
  exact fun j hj => of_decide_eq_true (List.all_eq_true.mp h j (List.mem_range.mpr hj))
theorem c_J1_charAt (l : Launch) (kA vA sz : Nat) (i : Int32) (h : vp_in i 81) : Met l yJ1_charAt_3b067 wsJ1_charAt_3b067 (rmJ 2 43) (va_Pc [.ref vA, .int i] (SP kA vA sz)) (va_Qi (fun (r : Int32) (_ : Unit) => r = i2c7 (S_by.getD i.toNatClampNeg 0)) (fun _ _ => True) (va_A [] sz)) 0 0 (va_A [] sz) := by
  refine Met.ofW (cc := cJ1_charAt_3b067) (maxL := 2) (ret := (some .char)) (by decide) rfl ?_
  intro p e s m args below meth c s₁ B hml hv
  obtain ⟨rfl, hsz, hE⟩ := hv
  have hx := B.exec
  have hb := B.bytes
  have hr := B.returns
  have hts := atoms_spec (ws := wsJ1_charAt_3b067) B.pre
  have hown : s.vm.findClass RJ1 = some m.cls := findClass_of_methodNamed B.named
  have hlocks := B.notSynchronized
  subst hsz
  have hA : ∀ q : Nat, s.heap.size ≤ q → va_A [] s.heap.size q := fun q h => Or.inr h
  generalize hAe : va_A [] s.heap.size = A at hE hA ⊢
  have hS : va_S A s.heap s.heap [] := va_S.rf
  have hl := lv_entry ([.ref vA, .int i]) (n := 2) (Nat.le_of_ble_eq_true rfl)
  rw [lg_entry_eq]
  generalize (lg_sl ([.ref vA, .int i]) ++ List.replicate (2 - (lg_sl ([.ref vA, .int i])).length) Slot.unset).toArray = ls at hl ⊢
  have hl : lv_has ls 2 [(0, .ref vA), (1, .int i)] := hl
  refine lv_iload_n hx hb dJ1_charAt_3b067_0 rfl (lv_at hl 1 rfl) ?_
  refine lv_aload_n hx hb dJ1_charAt_3b067_1 rfl (lv_at hl 0 rfl) ?_
  refine va_tlen hx hb (hE.2.2.1 0 (by decide)).2.2.2 hS (v := (81 : Int32)) rfl dJ1_charAt_3b067_2 ?_
  refine k_Ssv (As := [.int i, .int 81]) (rest := []) (c_J0_checkIndex l kA vA _ i h) ⟨hx, hb, hml, hown, hts⟩ (va_cwS 2 hts gJ1_charAt_3b067_J0_checkIndex_df160 rfl rfl rfl (by decide +kernel) ⟨Nat.le_of_ble_eq_true rfl, Nat.le_of_ble_eq_true rfl⟩) hE hS hA rfl hl.1 rfl (Nat.le_of_ble_eq_true rfl) dJ1_charAt_3b067_3 ⟨Nat.le_of_ble_eq_true rfl, Nat.le_of_ble_eq_true rfl⟩ (fun H locs _ hS => ?_)
  refine lv_aload_n hx hb dJ1_charAt_3b067_6 rfl (lv_at hl 0 rfl) ?_
  refine lv_iload_n hx hb dJ1_charAt_3b067_7 rfl (lv_at hl 1 rfl) ?_
  refine va_tb (v := .int (S_by.getD i.toNatClampNeg 0)) hx hb (hE.2.2.1 0 (by decide)).2.2.2 hS h rfl dJ1_charAt_3b067_8 ?_
  refine lv_sipush (v := (255 : Int32)) hx hb dJ1_charAt_3b067_9 (by decide) ?_
  refine lv_iand hx hb dJ1_charAt_3b067_12 ?_
  refine lv_i2c (v := i2c7 (S_by.getD i.toNatClampNeg 0)) hx hb dJ1_charAt_3b067_13 rfl ?_
  exact W.zret (v := i2c7 (S_by.getD i.toNatClampNeg 0)) (ty := .char) hx hb hr (pk_nc _) (fun t ht hW => ⟨⟨_, (), rfl, rfl, trivial⟩, hS.F ht⟩) hS.2.2 dJ1_charAt_3b067_14
theorem c_J0_charAt (l : Launch) (kA vA sz : Nat) (i : Int32) (h : vp_in i 81) : Met l yJ0_charAt_5068e wsJ0_charAt_5068e (rmJ 3 64) (va_Pc [.ref kA, .int i] (SP kA vA sz)) (va_Qi (fun (r : Int32) (_ : Unit) => r = c7 i.toNatClampNeg) (fun _ _ => True) (va_A [] sz)) 0 0 (va_A [] sz) := by
  refine Met.ofW (cc := cJ0_charAt_5068e) (maxL := 2) (ret := (some .char)) (by decide) rfl ?_
  intro p e s m args below meth c s₁ B hml hv
  obtain ⟨rfl, hsz, hE⟩ := hv
  have hx := B.exec
  have hb := B.bytes
  have hr := B.returns
  have hts := atoms_spec (ws := wsJ0_charAt_5068e) B.pre
  have hown : s.vm.findClass RJ0 = some m.cls := findClass_of_methodNamed B.named
  have hlocks := B.notSynchronized
  subst hsz
  have hA : ∀ q : Nat, s.heap.size ≤ q → va_A [] s.heap.size q := fun q h => Or.inr h
  generalize hAe : va_A [] s.heap.size = A at hE hA ⊢
  have hS : va_S A s.heap s.heap [] := va_S.rf
  have hl := lv_entry ([.ref kA, .int i]) (n := 2) (Nat.le_of_ble_eq_true rfl)
  rw [lg_entry_eq]
  generalize (lg_sl ([.ref kA, .int i]) ++ List.replicate (2 - (lg_sl ([.ref kA, .int i])).length) Slot.unset).toArray = ls at hl ⊢
  have hl : lv_has ls 2 [(0, .ref kA), (1, .int i)] := hl
  refine lv_aload_n hx hb dJ0_charAt_5068e_0 rfl (lv_at hl 0 rfl) ?_
  refine k_Sv (As := []) (rest := []) (c_J0_isLatin1 l kA vA _) ⟨hx, hb, hml, hown, hts⟩ (cwV 0 hts gJ0_charAt_5068e_J0_isLatin1_aae02 rfl rfl rfl (by decide +kernel) ⟨Nat.le_of_ble_eq_true rfl, Nat.le_of_ble_eq_true rfl⟩) hE hS hA rfl hl.1 rfl (Nat.le_of_ble_eq_true rfl) dJ0_charAt_5068e_1 ⟨Nat.le_of_ble_eq_true rfl, Nat.le_of_ble_eq_true rfl⟩ (fun H locs _ hS => ?_)
  refine lv_if_eq (tgt := 16) hx hb dJ0_charAt_5068e_4 (by decide) (fun c9 => absurd c9 (by decide)) (fun _ => ?_)
  refine lv_aload_n hx hb dJ0_charAt_5068e_7 rfl (lv_at hl 0 rfl) ?_
  refine vk_getf hx hb (hE.2.2.1 0 (by decide)).2.2.1 hS hown (hts (.fieldLink RJ0 9 "java/lang/String" "value" "[B") (by decide +kernel)) (fun _ h => h) dJ0_charAt_5068e_8 ?_
  refine lv_iload_n hx hb dJ0_charAt_5068e_11 rfl (lv_at hl 1 rfl) ?_
  refine k_Ssi (As := [.ref vA, .int i]) (rest := []) (c_J1_charAt l kA vA _ i h) ⟨hx, hb, hml, hown, hts⟩ (va_cwS 2 hts gJ0_charAt_5068e_J1_charAt_3b067 rfl rfl rfl (by decide +kernel) ⟨Nat.le_of_ble_eq_true rfl, Nat.le_of_ble_eq_true rfl⟩) hE hS hA rfl hl.1 rfl (Nat.le_of_ble_eq_true rfl) dJ0_charAt_5068e_12 ⟨Nat.le_of_ble_eq_true rfl, Nat.le_of_ble_eq_true rfl⟩ (fun H locs _ hS => ?_)
  have hj : i.toNatClampNeg < 81 := Nat.not_le.mp fun z => h (Or.inr z)
  exact W.zret (v := i2c7 (S_by.getD i.toNatClampNeg 0)) (ty := .char) hx hb hr (pk_nc _) (fun t ht hW => ⟨⟨_, (), rfl, by_c7 _ hj, trivial⟩, hS.F ht⟩) hS.2.2 dJ0_charAt_5068e_15
/-! the two rows for the class's constructor -/
section OWN8
variable {p : Program} {l : Launch} {e : Env} {R : Room} {s : State} {m : MethodId} {args : Array Value} {below : List Frame} {meth : Method} {c : Code} {H : Heap} {locs : List Loc} {cells slots : Nat} {Q : State → Prop}
variable {cc : ByteArray} {pc : Nat} {ls : Array Slot} {rest : List Value} {A0 : Nat → Prop} {kA vA : Nat} {D : va_G} {cl : List vw_C} {ws : va_W}
variable {nL index : Nat} {Ts : List Cond} {own : String}
theorem k_slen (S : CallFix p m c cc nL s args Ts own) (cw : CallW R s args own "java/lang/String" index yJ0_length_8abf5 cJ0_length_8abf5 1 (some .int) wsJ0_length_8abf5 (rmJ 1 20) 0 0 0)
    (hE : STR kA vA A0 s s.heap) (hP : va_P D cl ws H) (hD : va_D A0 ws) (hS : va_S A0 s.heap H locs) (hA : ∀ q, s.heap.size ≤ q → A0 q)
    (hsz : ls.size = nL) (hW : (rest.map fun v => v.category).sum ≤ 8) (hdg : decode cc pc = .ok (.invokevirtual index, 3)) (hf : cells ≤ R.cells ∧ slots ≤ R.slots)
    (kk : ∀ (H1 : Heap) (locs1 : List Loc), va_P D cl ws H1 → va_D A0 ws → va_S A0 s.heap H1 locs1 → W p l e R s m args below meth c H1 locs1 cells slots Q (F0 m (pc + 3) ls (.int 81 :: rest))) :
    W p l e R s m args below meth c H locs cells slots Q (F0 m pc ls (.ref kA :: rest)) :=
  k_Sv (As := []) (rest := rest) (c_J0_length l kA vA _) S cw hE hS hA rfl hsz rfl hW hdg hf (fun H1 locs1 hk hS1 => kk H1 locs1 (fun k q hq => (hP k q hq).kept (hk q.1 (hP k q hq).lt)) hD hS1)
theorem k_schr (S : CallFix p m c cc nL s args Ts own) (cw : CallW R s args own "java/lang/String" index yJ0_charAt_5068e cJ0_charAt_5068e 2 (some .char) wsJ0_charAt_5068e (rmJ 3 64) 0 0 1)
    (hE : STR kA vA A0 s s.heap) (hP : va_P D cl ws H) (hD : va_D A0 ws) (hS : va_S A0 s.heap H locs) (hA : ∀ q, s.heap.size ≤ q → A0 q) {i v : Int32} (h : ld c7 81 i = some v)
    (hsz : ls.size = nL) (hW : (rest.map fun v => v.category).sum ≤ 8) (hdg : decode cc pc = .ok (.invokevirtual index, 3)) (hf : cells ≤ R.cells ∧ slots ≤ R.slots)
    (kk : ∀ (H1 : Heap) (locs1 : List Loc), va_P D cl ws H1 → va_D A0 ws → va_S A0 s.heap H1 locs1 → W p l e R s m args below meth c H1 locs1 cells slots Q (F0 m (pc + 3) ls (.int v :: rest))) :
    W p l e R s m args below meth c H locs cells slots Q (F0 m pc ls (.int i :: .ref kA :: rest)) := by
  obtain ⟨h1, rfl⟩ := ld_some h
  exact k_Sv (As := [.int i]) (rest := rest) (c_J0_charAt l kA vA _ i h1) S cw hE hS hA rfl hsz rfl hW hdg hf (fun H1 locs1 hk hS1 => kk H1 locs1 (fun k q hq => (hP k q hq).kept (hk q.1 (hP k q hq).lt)) hD hS1)
end OWN8
/-! the class's constructor: its start -/
def S_lit : String := "d0,4,10,9;d0,4,10,0;d1,3,5,9;d2,3,1,9;d3,2,20,1;p0,25;p3,22;g1,1;g4,2;o9,1;w1;h3;"
def PREI (kA vA : Nat) (D : va_G) (cl : List vw_C) (tys : List (ClassId × FieldType)) (sz : Nat) (ws : va_W) (U : State) : Prop := PRE D cl tys sz ws U ∧ STR kA vA (va_A ws sz) U U.heap ∧ vk_R RX5 75 S_lit kA U
theorem PREI.blind {kA vA : Nat} {D : va_G} {cl : List vw_C} {tys : List (ClassId × FieldType)} {sz : Nat} {ws : va_W} {av : List Value} : FrameBlind (va_Pc av (PREI kA vA D cl tys sz ws)) := by
  intro a U g mk q
  obtain ⟨q0, q1, q2, q3⟩ := q
  exact ⟨q0, (PRE.blind (av := av) a U g mk ⟨q0, q1⟩).2, STR.moved (u := U) (U := U.calling g mk a) (Vm.Alike.refl U.vm) q2, q3.same rfl⟩
section OWN9
variable {p : Program} {l : Launch} {e : Env} {R : Room} {s : State} {m : MethodId} {args : Array Value} {below : List Frame} {meth : Method} {c : Code} {H : Heap} {locs : List Loc} {cells slots : Nat} {Q : State → Prop}
variable {cc : ByteArray} {pc : Nat} {ls : Array Slot} {rest st0 As : List Value} {D : va_G} {cl : List vw_C} {A0 : Nat → Prop} {b : Nat} {tys : List (ClassId × FieldType)} {ws wc wr : va_W} {kA vA : Nat}
variable {y : MethodName} {bytes : ByteArray} {maxL nL mc ms n index : Nat} {yw Ts : List Cond} {rm : Room} {own : String}
/-- the call of the class's constructor -/
theorem k_IS {σ : Type} {w1 : σ → va_W} {post : σ → Prop}
    (hM : Met l y yw rm (va_Pc (.ref b :: As) (PREI kA vA D cl tys H.size wc)) (va_Qv post (fun u t => POST D cl (w1 u) (va_A wc H.size) t) (va_A wc H.size)) mc ms (va_A wc H.size))
    (S : CallFix p m c cc nL s args Ts own) (cw : CallB R s args own index y bytes maxL none yw rm mc ms n ∧ y.name = "<init>" ∧ (Cond.instanceMethod y).before args s = true)
    (hN : NN s) (hE : STR kA vA A0 s s.heap) (hR : vk_R RX5 75 S_lit kA s) (hK : va_K D cl tys s) (hP : va_P D cl ws H) (hD : va_D A0 ws) (hS : va_S A0 s.heap H locs) (hA : ∀ q, s.heap.size ≤ q → A0 q)
    (isC isR : List Nat) (hC : isC.map (fun i => ws[i]?) = wc.map some) (hRr : isR.map (fun i => ws[i]?) = wr.map some) (hnC : va_nd isC = true) (hn : va_nd isR = true) (hdis : ∀ i ∈ isR, i ∉ isC)
    (hn2 : As.length = n) (hsz : ls.size = nL) (hst : st0 = As.reverse ++ .ref b :: rest) (hW : (rest.map fun v => v.category).sum ≤ 8) (hdg : decode cc pc = .ok (.invokespecial index, 3)) (hf : cells + mc ≤ R.cells ∧ slots + ms ≤ R.slots)
    (kk : ∀ (u : σ) (H1 : Heap) (locs1 : List Loc), post u → va_P D cl (wr ++ w1 u) H1 → va_D A0 (wr ++ w1 u) → va_S A0 s.heap H1 locs1 → W p l e R s m args below meth c H1 locs1 (cells + mc) (slots + ms) Q (F0 m (pc + 3) ls rest)) :
    W p l e R s m args below meth c H locs cells slots Q (F0 m pc ls st0) := by
  have hPc : va_P D cl wc H := fun k q hq => by
    have h1 : (isC.map (fun i => ws[i]?))[k]? = some (some q) := by rw [hC, List.getElem?_map, hq]; rfl
    rw [List.getElem?_map] at h1
    cases hi : isC[k]? with
    | none => rw [hi] at h1; cases h1
    | some i => rw [hi] at h1; exact hP i q (Option.some.inj h1)
  have hDc := hD.sub isC hnC hC
  have hFc := va_free hD hS hA isC hC
  have hE1 : STR kA vA (va_A wc H.size) s H := (hE.kept hS.2.1).narrow hFc
  refine va_callv (va_runI S hM cw ⟨PREI.blind, fun U hU hW => ⟨rfl, ⟨by rw [hU], hN.warm hW, by rw [hU]; exact hPc, va_K.moved hW.alike hK, hDc.weaken (fun _ _ _ _ => trivial)⟩, by rw [hU]; exact hE1.moved hW.alike, hR.warm hW⟩⟩ rfl hn2 hsz hst (lv_room hW) hdg hf) hS (fun q _ h => hFc q h) hFc (fun u t H1 locs1 ht hvm hw hB hz1 hk1 hS1 => ?_)
  obtain ⟨hP1, hD1⟩ := hB
  rw [ht] at hP1
  obtain ⟨hP2, hD2⟩ := va_join hP hD isC isR hC hRr hn hdis hk1 hFc hP1 hD1
  exact kk u H1 locs1 hw hP2 hD2 hS1
end OWN9
