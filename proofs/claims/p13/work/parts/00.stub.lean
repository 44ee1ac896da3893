def pz_up (t : Nat → Int) (j : Nat) (z : Int) : Nat → Int := fun i => if i = j then z else t i
theorem pz_up_s {r : Nat → Int} {j : Nat} {z : Int} : pz_up r j z j = z := by unfold pz_up; rw [if_pos rfl]
theorem pz_up_n {r : Nat → Int} {i j : Nat} {z : Int} (h : i ≠ j) : pz_up r j z i = r i := by unfold pz_up; rw [if_neg h]
