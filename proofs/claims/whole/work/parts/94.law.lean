/-! what is to be shown of the pure machine: on every script the law answers 1, within the room -/
def zq_sh0 (b L : Nat) : zq_S := fun a => if a = b then (1, L) else (0, 0)
def zq_I0 (b : Nat) (xs : Nat → Int32) : zq_I := fun a j => if a = b then xs j else 0
def zq_P0 : zq_P := fun _ _ => none
theorem zq_law {b L n0 : Nat} (xs : Nat → Int32) (hL : L ≤ 2048) (hb : b < n0) : ∃ (sh' : zq_S) (I' : zq_I) (P' : zq_P) (nx' kx' : Nat), zq_F 1000 0 0 (zq_ent 0 [.ref b]) [] (zq_sh0 b L) (zq_I0 b xs) zq_P0 n0 0 = some (some (.int 1), sh', I', P', nx', kx') ∧ nx' ≤ n0 + 600000 ∧ kx' ≤ 7302250 := by
  sorry
