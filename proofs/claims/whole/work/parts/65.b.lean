/-! kinds of the reference's tokens -/
def mkd (tk wo : Int) : Int := if tk = 0 then 0 else if tk = 1 then 3 else if tk = 2 then wkp wo else if tk = 4 then 41 else if tk = 5 then 43 else sgk tk false
theorem mkd_iff {tk wo K : Int} (h : mkd tk wo = K) : (tk = 0 ↔ K = 0) ∧ (tk = 1 ↔ K = 3) ∧ (tk = 4 ↔ K = 41) ∧ (tk = 5 ↔ K = 43) ∧ (tk = 60 ↔ K = 40) ∧ (tk = 62 ↔ K = 42) ∧ (tk = 61 ↔ K = 44) ∧ (tk = 35 ↔ K = 45) ∧ (tk = 43 ↔ K = 46) ∧ (tk = 45 ↔ K = 47) ∧ (tk = 42 ↔ K = 48) ∧ (tk = 47 ↔ K = 49) ∧ (tk = 40 ↔ K = 50) ∧ (tk = 41 ↔ K = 51) ∧ (tk = 59 ↔ K = 52) ∧ (tk = 63 ↔ K = 53) ∧ (tk = 58 ↔ K = 54) ∧ (tk = 2 ∧ wkp wo ≠ 1 ↔ 10 ≤ K ∧ K ≤ 29) ∧ (tk = 2 → K = wkp wo) := by
  have hw := wkp_bd wo
  unfold mkd sgk at h
  simp only [Bool.false_eq_true, if_false] at h
  repeat' split at h
  all_goals (refine ⟨?_, ?_, ?_, ?_, ?_, ?_, ?_, ?_, ?_, ?_, ?_, ?_, ?_, ?_, ?_, ?_, ?_, ?_, ?_⟩ <;> omega)
theorem mkd_w {tk wo K : Int} (h : mkd tk wo = K) : (tk = 2 ∧ wo = 1953459308 ↔ K = 10) ∧ (tk = 2 ∧ wo = 1920295539 ↔ K = 11) ∧ (tk = 2 ∧ wo = 7364985 ↔ K = 12) ∧ (tk = 2 ∧ wo = 444300619380 ↔ K = 13) ∧ (tk = 2 ∧ wo = 1885434739 ↔ K = 14) ∧ (tk = 2 ∧ wo = 28518 ↔ K = 15) ∧ (tk = 2 ∧ wo = 1718775661 ↔ K = 16) ∧ (tk = 2 ∧ wo = 29807 ↔ K = 17) ∧ (tk = 2 ∧ wo = 26982 ↔ K = 18) ∧ (tk = 2 ∧ wo = 6647396 ↔ K = 19) ∧ (tk = 2 ∧ wo = 28530 ↔ K = 20) ∧ (tk = 2 ∧ wo = 6385252 ↔ K = 21) ∧ (tk = 2 ∧ wo = 7237492 ↔ K = 22) ∧ (tk = 2 ∧ wo = 7825519 ↔ K = 23) ∧ (tk = 2 ∧ wo = 469786323827 ↔ K = 24) ∧ (tk = 2 ∧ wo = 6578553 ↔ K = 25) ∧ (tk = 2 ∧ wo = 1885432164 ↔ K = 26) ∧ (tk = 2 ∧ wo = 1919251316 ↔ K = 27) ∧ (tk = 2 ∧ wo = 32488805071480179 ↔ K = 28) ∧ (tk = 2 ∧ wo = 7824756 ↔ K = 29) := by
  have h1 := wkp_iff wo
  have h2 := mkd_iff h
  have hw := wkp_bd wo
  refine ⟨?_, ?_, ?_, ?_, ?_, ?_, ?_, ?_, ?_, ?_, ?_, ?_, ?_, ?_, ?_, ?_, ?_, ?_, ?_, ?_⟩ <;> omega

