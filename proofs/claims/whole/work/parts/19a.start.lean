/-! What the law's start gives. -/
theorem l_int {args : Array Value} {s : State} (h : (Cond.arrayClass .int).before args s = true) : ∃ cI : ClassId, ArrOfT s cI .int ∧ va_RA s cI .int := by
  obtain ⟨cc, k, comp, h1, h2, h3⟩ := Cond.arrayClass_spec h
  exact ⟨cc, fun n z => ⟨fun k h => (by cases h), k, h2, comp, h3⟩, h1⟩
theorem l_st {args : Array Value} {s : State} {C : String} (h : (Cond.arrayOver (.object C)).before args s = true) : ∃ cS : ClassId, ArrOfT s cS (.object C) ∧ va_RA s cS (.object C) := by
  obtain ⟨comp, cc, k, h1, h2, h3, h4, h5⟩ := Cond.arrayOver_spec h
  exact ⟨cc, fun n z => ⟨fun k h => (by cases h), k, h3, comp, h4⟩, k, comp, h3, h4, h1, h5⟩
theorem law_K {args : Array Value} {s : State} (hts0 : ∀ w ∈ lw_tbl, w.before args s = true) : ∃ (dC : Nat → ClassId) (dI : Nat → Nat → Nat) (cI cS : ClassId), va_K (dC, dI) vwCl [(cI, .int), (cS, .object "RoundOfTheA$State")] s := by
  obtain ⟨c0, i0, k0⟩ := u_known (C := RX0) (T := TX0) (N := 11) (n := 11) hts0 inX0 (hts0 (.instantiable RX0 11) (by decide +kernel))
  obtain ⟨c1, i1, k1⟩ := u_known (C := RX1) (T := TX1) (N := 3) (n := 3) hts0 inX1 (hts0 (.instantiable RX1 3) (by decide +kernel))
  obtain ⟨c2, i2, k2⟩ := u_known (C := RX2) (T := TX2) (N := 4) (n := 4) hts0 inX2 (hts0 (.instantiable RX2 4) (by decide +kernel))
  obtain ⟨c3, i3, k3⟩ := u_known (C := RX3) (T := TX3) (N := 2) (n := 2) hts0 inX3 (hts0 (.instantiable RX3 2) (by decide +kernel))
  obtain ⟨c4, i4, k4⟩ := u_known (C := RX4) (T := TX4) (N := 5) (n := 5) hts0 inX4 (hts0 (.instantiable RX4 5) (by decide +kernel))
  obtain ⟨c5, i5, k5⟩ := u_known (C := RX5) (T := TX5) (N := 14) (n := 14) hts0 inX5 (hts0 (.instantiable RX5 14) (by decide +kernel))
  obtain ⟨c6, i6, k6⟩ := u_known (C := RX6) (T := TX6) (N := 15) (n := 15) hts0 inX6 (hts0 (.instantiable RX6 15) (by decide +kernel))
  obtain ⟨cI, a1, a2⟩ := l_int (hts0 (.arrayClass .int) (by decide +kernel))
  obtain ⟨cS, b1, b2⟩ := l_st (hts0 (.arrayOver (.object "RoundOfTheA$State")) (by decide +kernel))
  refine ⟨fun k => if k = 0 then c0 else if k = 1 then c1 else if k = 2 then c2 else if k = 3 then c3 else if k = 4 then c4 else if k = 5 then c5 else c6, fun k => if k = 0 then i0 else if k = 1 then i1 else if k = 2 then i2 else if k = 3 then i3 else if k = 4 then i4 else if k = 5 then i5 else i6, cI, cS, ?_, ?_⟩
  · intro k q hq
    match k, hq with
    | 0, hq => cases hq; exact k0
    | 1, hq => cases hq; exact k1
    | 2, hq => cases hq; exact k2
    | 3, hq => cases hq; exact k3
    | 4, hq => cases hq; exact k4
    | 5, hq => cases hq; exact k5
    | 6, hq => cases hq; exact k6
    | k + 7, hq => simp [vwCl] at hq
  · intro k q hq
    match k, hq with
    | 0, hq => cases hq; exact ⟨a1, a2⟩
    | 1, hq => cases hq; exact ⟨b1, b2⟩
    | k + 2, hq => simp at hq
theorem nest_in : ∀ q ∈ nestL, Cond.methodLinkNest q.1 q.2.1 q.2.2.1 q.2.2.2 ∈ lw_tbl := by decide +kernel
theorem law_N {args : Array Value} {s : State} (hts0 : ∀ w ∈ lw_tbl, w.before args s = true) : NN s :=
  ⟨fun q hq => va_Nw.of rfl (hts0 _ (nest_in q hq)), va_AO.of (hts0 (.arrayOver (.object "RoundOfTheA$State")) (by decide +kernel))⟩
def S_tm : Term := .string "RoundOfTheA" 75
def S_el (j : Nat) : Cond := .eq (.elem (.field S_tm "java/lang/String" "value" "[B") (.int (Int32.ofNat j))) (.int (S_by.getD j 0))
theorem S_els : (List.range 81).map S_el = ((flatC (Jvm.Cond.and given_1 narrow_1)).drop 13).take 81 := by decide +kernel
theorem law_S {b : Nat} {s : State} (hts0 : ∀ w ∈ lw_tbl, w.before #[Value.ref b] s = true) (hgv : (Jvm.Cond.and given_1 narrow_1).before #[Value.ref b] s = true) : ∃ kA vA : Nat, STR kA vA (fun q : Nat => s.heap.size ≤ q) s s.heap ∧ vk_R RX5 75 S_lit kA s := by
  have hs := flat_of_before _ hgv
  have hA : ∀ a : Nat, a < s.heap.size → ¬ (fun q : Nat => s.heap.size ≤ q) a := fun a h z => absurd h (Nat.not_lt.mpr z)
  have i0 : ∀ i : Nat, i < 1 → i = 0 := fun i h => by omega
  obtain ⟨adK, adV, hE, hEv⟩ := vk_Sof (args := #[Value.ref b]) (s := s) (A := fun q : Nat => s.heap.size ≤ q) (N := 1) (tm := fun _ => S_tm) (len := [81]) (byt := [S_by])
    (fun i hi => by rw [i0 i hi]; decide)
    (fun i hi => hs _ (by decide +kernel))
    (fun i hi => hs _ (by decide +kernel))
    (fun i hi => hs _ (by decide +kernel))
    (fun i hi => by rw [i0 i hi]; exact hs (.eq (.length (.field S_tm "java/lang/String" "value" "[B")) (.int 81)) (by decide +kernel))
    (fun i hi j hj => by rw [i0 i hi] at hj ⊢; exact hs (S_el j) (va_run S_els j hj))
    (fun i j hi hj hij => absurd ((i0 i hi).trans (i0 j hj).symm) hij) hA
  refine ⟨adK 0, adV 0, ⟨?_, ?_, ⟨fun i hi => ?_, fun i j hi hj _ => (i0 i hi).trans (i0 j hj).symm⟩⟩, ?_⟩
  · exact va_Zof (hts0 (.laysStatic "java/lang/String" "COMPACT_STRINGS" "Z") (by decide +kernel)) (hts0 (.initialized "java/lang/String") (by decide +kernel)) (va_eqi (hs (.eq (.static "java/lang/String" "COMPACT_STRINGS" "Z") (.int 1)) (by decide +kernel))) hA
  · exact va_Zqof (hts0 (.laysStatic "jdk/internal/util/Preconditions" "SIOOBE_FORMATTER" "Ljava/util/function/BiFunction;") (by decide +kernel)) (hts0 (.initialized "jdk/internal/util/Preconditions") (by decide +kernel)) (hs (.isRef (.static "jdk/internal/util/Preconditions" "SIOOBE_FORMATTER" "Ljava/util/function/BiFunction;")) (by decide +kernel)) hA
  · rw [i0 i hi]
    exact hE.1 0 (by decide)
  · exact vk_R.of (hts0 (.stringRef "RoundOfTheA" 75 S_lit) (by decide +kernel)) (hEv 0 (by decide))
