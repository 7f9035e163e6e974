/-! LEVEL 2: the start -/
theorem in_1 : dA0.1 2 0 = nI 20 ∧ dA0.1 2 4 = nI 0 ∧ dA0.1 2 9 = nI 0 ∧ dA0.1 2 15 = nI 0 ∧ dA0.1 101 0 = nI 20 ∧ dA0.1 101 1 = nI 0 ∧ dA0.1 101 2 = nI 0 ∧ dA0.1 101 3 = nI 0 := by decide +kernel
theorem in_2 : dA0.1 101 4 = nI 0 ∧ dA0.1 2 1 = -2 := by decide +kernel
theorem in_3 : dA0.1 101 5 = nI 0 ∧ dA0.1 2 2 = nI 0 := by decide +kernel
theorem in_4 : dA0.1 101 6 = nI 0 ∧ dA0.1 2 3 = nI 0 := by decide +kernel
theorem in_5 : dA0.1 101 7 = nI 0 ∧ dA0.1 (2 + 13) 0 = nI 0 ∧ dA0.1 (2 + 13) 1 = nI 0 := by decide +kernel
theorem in_6 : ∀ k : Fin 61, dA0.1 (2 + 4) k.val = -1 := by decide +kernel
theorem in_7 : ∀ k : Fin 3, bt (dA0.1 (2 + 13) 4) k.val = false ∧ dA0.1 113 k.val = dA0.1 114 k.val := by decide +kernel
theorem in_8 : dA0.1 45 0 = dA0.1 119 0 ∧ dA0.1 45 1 = nI 0 ∧ dA0.1 121 0 = nI 0 ∧ dA0.1 122 0 = nI 0 ∧ dA0.1 45 2 = -2 := by decide +kernel
theorem in_9 : dA0.1 120 0 = nI 0 ∧ dA0.2.1 45 3 = lN 0 := by decide +kernel
theorem in_10 : dA0.1 45 4 = nI 0 ∧ dA0.1 45 14 = nI 0 ∧ ∀ r : Fin 32, bt (dA0.1 123 0) r.val = false := by decide +kernel
theorem in_11 : dA0.1 99 50 = 0 ∧ dA0.1 99 51 = -1 ∧ dA0.1 99 53 = -1 ∧ dA0.1 0 11 = 0 ∧ dA0.1 99 48 = 0 ∧ dA0.1 89 0 = nI 0 ∧ dA0.1 99 49 = nI 0 := by decide +kernel
theorem in_12 : dA0.1 92 0 = nI 0 ∧ dA0.1 99 57 = nI 0 ∧ dA0.1 92 1 = dA0.1 99 58 ∧ dA0.1 99 58 = -1 := by decide +kernel
theorem in_13 : dA0.1 0 1 = nI 0 ∧ dA0.1 99 2 = nI 0 ∧ dA0.1 0 2 = dA0.1 99 28 ∧ dA0.1 0 3 = dA0.1 99 29 := by decide +kernel
theorem in_14 : ∀ i : Fin 21, dA0.1 41 i.val = wdl.getD i.val 0 := by decide +kernel
theorem pr0 : PR 2 0 0 0 0 20 dA0.1 dA0.1 := by
  obtain ⟨a1, a2, a3, a4, a5, a6, a7, a8⟩ := in_1
  refine ⟨Or.inl rfl, by omega, by omega, by omega, by omega, by omega, a1, a2, a3, a4, a5, a6, a7, a8, ⟨0, by omega, in_2.1, in_2.2⟩, ⟨0, by omega, in_3.1, in_3.2⟩, ⟨0, by omega, in_4.1, in_4.2⟩, ⟨0, by omega, in_5.1, in_5.2.1, in_5.2.2⟩, fun i hi => by omega, fun i hi => by omega, fun i hi => by omega, fun i j hi => by omega, fun i hi => by omega, fun k hk => in_6 ⟨k, by omega⟩, fun i hi => by omega, fun i hi => by omega, fun i hi => by omega, fun i hi => by omega, fun i hi => by omega, fun i hi => by omega, fun i hi => by omega, fun k hk => Or.inl ?_⟩
  have z := in_7 ⟨k, hk⟩
  rw [Nat.mul_zero, Nat.zero_add]
  exact z
theorem sc0 : SC 0 0 0 0 20 0 (fun _ _ => True) True dA0.1 (-1) (vC 45 dA0.1) (dA0.2.1 45 3) (vM 0 dA0.1) := by
  obtain ⟨a1, a2, a3, a4, a5⟩ := in_8
  refine ⟨a1, ⟨0, by omega, by omega, a2, a3⟩, ⟨0, by omega, a4, a5⟩, ⟨0, by omega, in_9.1, in_9.2⟩, in_10.1, fun i hi => by omega, fun i hi => by omega, fun i hi => by omega, fun i hi => by omega, fun i hi => by omega, fun _ i hi => by omega, fun i hi => by omega, fun i hi => by omega, fun i hi => by omega, fun i hi => by omega, fun i hi => by omega, fun i hi => by omega, by omega, in_10.2.1, fun i hi => by omega, fun i hi => by omega, fun r _ hr => in_10.2.2 ⟨r, hr⟩, fun _ => rfl, fun h => by omega⟩
theorem rq0 : RQ 2 0 0 0 20 dA0 dA0 := by
  obtain ⟨a1, a2, a3, a4, a5, a6, a7⟩ := in_11
  obtain ⟨b1, b2, b3, b4⟩ := in_12
  obtain ⟨c1, c2, c3, c4⟩ := in_13
  exact ⟨ref0, ref0, pr0, sc0, a1, a2, a3, Or.inl ⟨a4, a5⟩, ⟨0, by omega, a6, a7, fun k hk => by omega⟩, ⟨0, by omega, b1, b2, b3, Or.inl b4, fun i hi => by omega⟩, ⟨0, by omega, c1, c2, fun i hi => by omega⟩, ⟨c3, c4⟩, fun i hi => in_14 ⟨i, hi⟩⟩
theorem l2_init : L2_init Rel := ⟨dC0, dM0, dC0_eq, dM0_eq, 2, 0, 0, 0, 20, rq0⟩
