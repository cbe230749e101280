/-! How both begin. -/
def S_first : List Nat := [100, 48, 44, 52, 44, 49, 48, 44, 57, 59, 100, 48, 44, 52, 44, 49, 48, 44, 48, 59, 100, 49, 44, 51, 44, 53, 44, 57, 59, 100, 50, 44, 51, 44, 49, 44, 57, 59, 100, 51, 44, 50, 44, 50, 48, 44, 49, 59, 112, 48, 44, 50, 53, 59, 112, 51, 44, 50, 50, 59, 103, 49, 44, 49, 59, 103, 52, 44, 50, 59, 111, 57, 44, 49, 59, 119, 49, 59, 104, 51, 59]
def S_text (f : Nat → Int32) : Nat → Int32 := fun i => if i < 81 then nI (S_first.getD i 0) else f i
/-- the Model's beginning -/
def S_six : Option (List Int32 × List Int32 × List Int32) := Option.map (fun r => ([r.1, r.2.1, r.2.2.1], (List.range 53).map r.2.2.2.1, (List.range 18).map r.2.2.2.2)) (F_X6_init 300)
def S_sixL : Option (List Int32 × List Int32 × List Int32) := S_six
theorem six_some : S_six.isSome = true := by decide +kernel
def Z8 : Nat → Int32 := fun _ => 0
/-- the class's -/
def S_five : Option (List Int32 × List Int32) := Option.map (fun r => ([r.1, r.2.1, r.2.2.2.2.1, r.2.2.2.2.2.2.1, r.2.2.2.2.2.2.2.1, r.2.2.2.2.2.2.2.2.1], (List.range 5).map r.2.2.2.2.2.2.2.2.2.1)) (F_X5_layText 300 (S_text Z8) (nI 81) Z8 0 Z8 Z8 Z8 Z8 Z8 Z8 0 0 0 0 Z8 Z8 Z8 Z8 Z8 Z8 Z8 Z8 0 0 0 0 0)
theorem five_some : S_five = some ([5, 0, 5, 1, 1, 3], [0, 0, 1, 2, 3]) := by decide +kernel

