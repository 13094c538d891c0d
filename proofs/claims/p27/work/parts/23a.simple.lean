theorem snM_le {n : Nat} (h : n ≤ 6) : snM n ≤ 6 := by unfold snM; split <;> omega
def sliceM (g : Nat → Int32) (a : Nat) : Nat → Int32 := fun j => g (a + j)
