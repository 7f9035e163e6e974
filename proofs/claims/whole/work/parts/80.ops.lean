/-! LEVEL 2: what a scene and a slot do together, step by step (pure) -/
theorem xu_is {α : Type} {f : Nat → Nat → α} {q k i : Nat} {v : α} : xu f q k v q i = if i = k then v else f q i := by unfold xu; simp
theorem sc_stat {nw nb nr e tp tl : Nat} {mt : Nat → Nat → Prop} {fl : Prop} {G : Nat → Nat → Int32} {xw : Int32} {X : Nat → Nat → Int32} {nu : Int64} {Y : Nat → Nat → Int32} (hs : SC nw nb nr e tp tl mt fl G xw X nu Y) {p : Nat} {v : Int32} (hv : v ≠ 2) (h0 : Y 5 p ≠ 2) : SC nw nb nr e tp tl mt fl G xw (xu X 1 p v) nu (xu Y 5 p v) := by
  refine ⟨(sc_mi hs :), (sc_ta hs :), (sc_pi hs :), (sc_nu hs :), (sc_cw hs :), ?_, (sc_sp hs :), (sc_dn hs :), (sc_pa hs :), ?_, ?_, (sc_sa hs :), (sc_me hs :), (sc_se hs :), (sc_wo hs :), ?_, ?_, (sc_e1 hs :), (sc_rc hs :), (sc_rr hs :), (sc_rt hs :), (sc_rz hs :), (sc_x0 hs :), (sc_x1 hs :)⟩
  · intro i hi; rw [xu_is, xu_is, sc_st hs i hi]
  · intro i hi h2
    rw [xu_is] at h2
    by_cases e : i = p
    · rw [if_pos e] at h2; exact absurd h2 hv
    · rw [if_neg e] at h2; exact sc_lf hs i hi h2
  · intro f i hi
    refine ⟨(sc_la hs f i hi).1, fun h2 => ?_⟩
    rw [xu_is] at h2
    by_cases e : i = p
    · exact (sc_la hs f i hi).2 (e ▸ h0)
    · rw [if_neg e] at h2; exact (sc_la hs f i hi).2 h2
  · intro i hi h2
    rw [xu_is] at h2
    by_cases e : i = p
    · rw [if_pos e] at h2; exact absurd h2 hv
    · rw [if_neg e] at h2; exact sc_so hs i hi h2
  · intro i hi h2
    rw [xu_is] at h2
    by_cases e : i = p
    · exact sc_sn hs i hi (e ▸ h0)
    · rw [if_neg e] at h2; exact sc_sn hs i hi h2
theorem sc_out {nw nb nr e tp tl : Nat} {mt : Nat → Nat → Prop} {fl : Prop} {G : Nat → Nat → Int32} {xw : Int32} {X : Nat → Nat → Int32} {nu : Int64} {Y : Nat → Nat → Int32} (hs : SC nw nb nr e tp tl mt fl G xw X nu Y) {p : Nat} (h0 : Y 5 p ≠ 2) : SC nw nb nr e tp tl mt fl G xw (xu X 1 p 3) nu (xu (xu (xu (xu Y 5 p 1) 8 p (-1)) 9 p 0) 5 p 3) := by
  have h1 := sc_stat hs (v := 3) (by decide) h0
  have e5 : ∀ i, xu (xu (xu (xu Y 5 p 1) 8 p (-1)) 9 p 0) 5 p 3 5 i = xu Y 5 p 3 5 i := by
    intro i; rw [xu_is, xu_is]
    by_cases e : i = p
    · rw [if_pos e, if_pos e]
    · rw [if_neg e, if_neg e]
      show xu Y 5 p 1 5 i = _
      rw [xu_is, if_neg e]
  have e8 : ∀ i, i < nw → Y 5 i ≠ 2 → xu (xu (xu (xu Y 5 p 1) 8 p (-1)) 9 p 0) 5 p 3 8 i = -1 := by
    intro i hi h2
    show xu (xu Y 5 p 1) 8 p (-1) 8 i = _
    rw [xu_is]
    by_cases e : i = p
    · rw [if_pos e]
    · rw [if_neg e]; exact sc_sn hs i hi h2
  have e8' : ∀ i, i ≠ p → xu (xu (xu (xu Y 5 p 1) 8 p (-1)) 9 p 0) 5 p 3 8 i = Y 8 i := by
    intro i e
    show xu (xu Y 5 p 1) 8 p (-1) 8 i = _
    rw [xu_is, if_neg e]; rfl
  have e9 : ∀ i, i ≠ p → xu (xu (xu (xu Y 5 p 1) 8 p (-1)) 9 p 0) 5 p 3 9 i = Y 9 i := by
    intro i e
    show xu (xu (xu Y 5 p 1) 8 p (-1)) 9 p 0 9 i = _
    rw [xu_is, if_neg e]; rfl
  have e9' : xu (xu (xu (xu Y 5 p 1) 8 p (-1)) 9 p 0) 5 p 3 9 p = 0 := by
    show xu (xu (xu Y 5 p 1) 8 p (-1)) 9 p 0 9 p = _
    rw [xu_is, if_pos rfl]
  refine ⟨(sc_mi h1 :), (sc_ta h1 :), (sc_pi h1 :), (sc_nu h1 :), (sc_cw h1 :), ?_, (sc_sp h1 :), (sc_dn h1 :), (sc_pa h1 :), ?_, ?_, (sc_sa h1 :), (sc_me h1 :), (sc_se h1 :), (sc_wo h1 :), ?_, ?_, (sc_e1 h1 :), (sc_rc h1 :), (sc_rr h1 :), (sc_rt h1 :), (sc_rz h1 :), (sc_x0 h1 :), (sc_x1 h1 :)⟩
  · intro i hi; rw [e5]; exact sc_st h1 i hi
  · intro i hi h2
    rw [e5] at h2
    by_cases e : i = p
    · rw [xu_is, if_pos e] at h2; exact absurd h2 (by decide)
    · rw [e9 i e]; exact sc_lf h1 i hi h2
  · intro f i hi
    rw [e5]
    by_cases e : i = p
    · subst e
      rw [e9']
      have z := sc_la hs f i hi
      exact ⟨by show X 5 i = 0; rw [z.1, z.2 h0], fun _ => rfl⟩
    · rw [e9 i e]; exact sc_la h1 f i hi
  · intro i hi h2
    rw [e5] at h2
    by_cases e : i = p
    · rw [xu_is, if_pos e] at h2; exact absurd h2 (by decide)
    · rw [e8' i e]; exact sc_so h1 i hi h2
  · intro i hi h2
    rw [e5] at h2
    by_cases e : i = p
    · rw [e8 i hi (e ▸ h0)]
    · rw [e8' i e]; exact sc_sn h1 i hi h2
theorem sc_turn {nw nb nr e tp tl : Nat} {mt : Nat → Nat → Prop} {fl : Prop} {G : Nat → Nat → Int32} {xw : Int32} {X : Nat → Nat → Int32} {nu : Int64} {Y : Nat → Nat → Int32} (hs : SC nw nb nr e tp tl mt fl G xw X nu Y) {p : Nat} {v : Int32} : SC nw nb nr e tp tl mt fl G xw (xu X 3 p v) nu (xu Y 7 p v) := by
  refine ⟨(sc_mi hs :), (sc_ta hs :), (sc_pi hs :), (sc_nu hs :), (sc_cw hs :), (sc_st hs :), (sc_sp hs :), ?_, (sc_pa hs :), (sc_lf hs :), (sc_la hs :), (sc_sa hs :), (sc_me hs :), (sc_se hs :), (sc_wo hs :), (sc_so hs :), (sc_sn hs :), (sc_e1 hs :), (sc_rc hs :), (sc_rr hs :), (sc_rt hs :), (sc_rz hs :), (sc_x0 hs :), (sc_x1 hs :)⟩
  intro i hi; rw [xu_is, xu_is, sc_dn hs i hi]
theorem sc_step {nw nb nr e tp tl : Nat} {mt : Nat → Nat → Prop} {fl : Prop} {G : Nat → Nat → Int32} {xw : Int32} {X : Nat → Nat → Int32} {nu : Int64} {Y : Nat → Nat → Int32} (hs : SC nw nb nr e tp tl mt fl G xw X nu Y) {p a : Nat} (ha : a ≤ tp) (h0 : Y 5 p ≠ 2) : SC nw nb nr e tp tl mt fl G xw (xu X 2 p (nI a)) nu (xu Y 6 p (nI a)) := by
  refine ⟨(sc_mi hs :), (sc_ta hs :), (sc_pi hs :), (sc_nu hs :), (sc_cw hs :), (sc_st hs :), ?_, (sc_dn hs :), (sc_pa hs :), (sc_lf hs :), (sc_la hs :), (sc_sa hs :), (sc_me hs :), (sc_se hs :), (sc_wo hs :), ?_, (sc_sn hs :), (sc_e1 hs :), (sc_rc hs :), (sc_rr hs :), (sc_rt hs :), (sc_rz hs :), (sc_x0 hs :), (sc_x1 hs :)⟩
  · intro i hi
    rw [xu_is, xu_is]
    by_cases e : i = p
    · rw [if_pos e, if_pos e]; exact ⟨a, ha, rfl, rfl⟩
    · rw [if_neg e, if_neg e]; exact sc_sp hs i hi
  · intro i hi h2
    rw [xu_is]
    by_cases e : i = p
    · exact absurd h2 (e ▸ h0)
    · rw [if_neg e]; exact sc_so hs i hi h2
theorem sc_sit {nw nb nr e tp tl : Nat} {mt : Nat → Nat → Prop} {fl : Prop} {G : Nat → Nat → Int32} {xw : Int32} {X : Nat → Nat → Int32} {nu : Int64} {Y : Nat → Nat → Int32} (hs : SC nw nb nr e tp tl mt fl G xw X nu Y) {p b a : Nat} (hb : b < nb) (hg : G 103 b = Y 6 p) (h1 : 1 ≤ a) (h2 : a ≤ 30) : SC nw nb nr e tp tl mt fl G xw (xu (xu X 1 p 2) 5 p (nI a)) nu (xu (xu (xu Y 5 p 2) 8 p (nI b)) 9 p (nI a)) := by
  refine ⟨(sc_mi hs :), (sc_ta hs :), (sc_pi hs :), (sc_nu hs :), (sc_cw hs :), ?_, (sc_sp hs :), (sc_dn hs :), (sc_pa hs :), ?_, ?_, (sc_sa hs :), (sc_me hs :), (sc_se hs :), (sc_wo hs :), ?_, ?_, (sc_e1 hs :), (sc_rc hs :), (sc_rr hs :), (sc_rt hs :), (sc_rz hs :), (sc_x0 hs :), (sc_x1 hs :)⟩
  · intro i hi
    show xu X 1 p 2 1 i = xu Y 5 p 2 5 i
    rw [xu_is, xu_is, sc_st hs i hi]
  · intro i hi z
    have z : xu Y 5 p 2 5 i = 2 := z
    rw [xu_is] at z
    rw [xu_is, xu_is]
    by_cases e : i = p
    · rw [if_pos e, if_pos e]; exact ⟨a, h1, h2, rfl, rfl⟩
    · rw [if_neg e] at z; rw [if_neg e, if_neg e]; exact sc_lf hs i hi z
  · intro f i hi
    rw [xu_is, xu_is]
    by_cases e : i = p
    · rw [if_pos e, if_pos e]
      refine ⟨rfl, fun z => ?_⟩
      have z : xu Y 5 p 2 5 i ≠ 2 := z
      rw [xu_is, if_pos e] at z
      exact absurd rfl z
    · rw [if_neg e, if_neg e]
      refine ⟨(sc_la hs f i hi).1, fun z => ?_⟩
      have z : xu Y 5 p 2 5 i ≠ 2 := z
      rw [xu_is, if_neg e] at z
      exact (sc_la hs f i hi).2 z
  · intro i hi z
    have z : xu Y 5 p 2 5 i = 2 := z
    rw [xu_is] at z
    show ∃ b', b' < nb ∧ xu (xu Y 5 p 2) 8 p (nI b) 8 i = nI b' ∧ G 103 b' = Y 6 i
    rw [xu_is]
    by_cases e : i = p
    · rw [if_pos e, e]; exact ⟨b, hb, rfl, hg⟩
    · rw [if_neg e] at z; rw [if_neg e]; exact sc_so hs i hi z
  · intro i hi z
    have z : xu Y 5 p 2 5 i ≠ 2 := z
    rw [xu_is] at z
    show xu (xu Y 5 p 2) 8 p (nI b) 8 i = -1
    rw [xu_is]
    by_cases e : i = p
    · rw [if_pos e] at z; exact absurd rfl z
    · rw [if_neg e] at z; rw [if_neg e]; exact sc_sn hs i hi z
theorem sc_take {nw nb nr e tp tl : Nat} {mt : Nat → Nat → Prop} {fl : Prop} {G : Nat → Nat → Int32} {xw : Int32} {X : Nat → Nat → Int32} {nu : Int64} {Y : Nat → Nat → Int32} (hs : SC nw nb nr e tp tl mt fl G xw X nu Y) {r : Nat} (hr : r < nr) (hr2 : nr ≤ 12) (h4 : G 99 50 ≠ 4) : SC nw nb nr e tp tl mt fl G xw (xu X 13 r 1) nu (xu Y 4 0 (Y 4 0 ||| ((1 : Int32) <<< (nI r &&& 31)))) := by
  refine ⟨(sc_mi hs :), (sc_ta hs :), (sc_pi hs :), (sc_nu hs :), (sc_cw hs :), (sc_st hs :), (sc_sp hs :), (sc_dn hs :), (sc_pa hs :), (sc_lf hs :), (sc_la hs :), (sc_sa hs :), (sc_me hs :), (sc_se hs :), (sc_wo hs :), (sc_so hs :), (sc_sn hs :), (sc_e1 hs :), (sc_rc hs :), (sc_rr hs :), ?_, ?_, (sc_x0 hs :), ?_⟩
  · intro i hi
    show xu X 13 r 1 13 i = if G 99 50 = 4 then 1 else if bt (Y 4 0 ||| ((1 : Int32) <<< (nI r &&& 31))) i = true then 1 else 0
    rw [xu_is, if_neg h4, b_or1 _ (by omega) (by omega)]
    by_cases e : i = r
    · rw [if_pos e, decide_eq_true e, Bool.or_true]; rfl
    · have z := sc_rt hs i hi
      rw [if_neg h4] at z
      rw [if_neg e, decide_eq_false e, Bool.or_false]; exact z
  · intro i h1 h2
    show bt (Y 4 0 ||| ((1 : Int32) <<< (nI r &&& 31))) i = false
    rw [b_or1 _ (by omega) h2, sc_rz hs i h1 h2, decide_eq_false (by omega)]; rfl
  · intro h1
    rw [xu_is, if_neg (by omega)]
    exact sc_x1 hs h1
theorem sc_takeX {nw nb nr e tp tl : Nat} {mt : Nat → Nat → Prop} {fl : Prop} {G : Nat → Nat → Int32} {xw : Int32} {X : Nat → Nat → Int32} {nu : Int64} {Y : Nat → Nat → Int32} (hs : SC nw nb nr e tp tl mt fl G xw X nu Y) (h1 : e = 1) : SC nw nb nr e tp tl mt fl G (-1) (xu X 13 nr 1) nu Y := by
  refine ⟨(sc_mi hs :), (sc_ta hs :), (sc_pi hs :), (sc_nu hs :), (sc_cw hs :), (sc_st hs :), (sc_sp hs :), (sc_dn hs :), (sc_pa hs :), (sc_lf hs :), (sc_la hs :), (sc_sa hs :), (sc_me hs :), (sc_se hs :), (sc_wo hs :), (sc_so hs :), (sc_sn hs :), (sc_e1 hs :), (sc_rc hs :), (sc_rr hs :), ?_, (sc_rz hs :), ?_, ?_⟩
  · intro i hi; rw [xu_is, if_neg (by omega)]; exact sc_rt hs i hi
  · intro _; rfl
  · intro _; rw [xu_is, if_pos rfl]; exact Or.inr ⟨rfl, rfl⟩
theorem sc_min {nw nb nr e tp tl : Nat} {mt : Nat → Nat → Prop} {fl : Prop} {G : Nat → Nat → Int32} {xw : Int32} {X : Nat → Nat → Int32} {nu : Int64} {Y : Nat → Nat → Int32} (hs : SC nw nb nr e tp tl mt fl G xw X nu Y) : SC nw nb nr e tp tl mt fl G xw (xu X 0 0 (X 0 0 + 1)) nu (xu Y 0 0 (Y 0 0 + 1)) := by
  refine ⟨?_, (sc_ta hs :), (sc_pi hs :), (sc_nu hs :), (sc_cw hs :), (sc_st hs :), (sc_sp hs :), (sc_dn hs :), (sc_pa hs :), (sc_lf hs :), (sc_la hs :), (sc_sa hs :), (sc_me hs :), (sc_se hs :), (sc_wo hs :), (sc_so hs :), (sc_sn hs :), (sc_e1 hs :), (sc_rc hs :), (sc_rr hs :), (sc_rt hs :), (sc_rz hs :), (sc_x0 hs :), (sc_x1 hs :)⟩
  rw [xu_is, xu_is, if_pos rfl, if_pos rfl, sc_mi hs]
/-- a minute sat: sat and left -/
theorem sc_sat {nw nb nr e tp tl : Nat} {mt : Nat → Nat → Prop} {fl : Prop} {G : Nat → Nat → Int32} {xw : Int32} {X : Nat → Nat → Int32} {nu : Int64} {Y : Nat → Nat → Int32} (hs : SC nw nb nr e tp tl mt fl G xw X nu Y) {p a : Nat} {v : Int32} (h1 : 1 ≤ a) (h2 : a ≤ 30) (h3 : Y 5 p = 2) : SC nw nb nr e tp tl mt fl G xw (xu (xu X 6 p v) 5 p (nI a)) nu (xu (xu Y 10 p v) 9 p (nI a)) := by
  refine ⟨(sc_mi hs :), (sc_ta hs :), (sc_pi hs :), (sc_nu hs :), (sc_cw hs :), (sc_st hs :), (sc_sp hs :), (sc_dn hs :), (sc_pa hs :), ?_, ?_, ?_, (sc_me hs :), (sc_se hs :), (sc_wo hs :), (sc_so hs :), (sc_sn hs :), (sc_e1 hs :), (sc_rc hs :), (sc_rr hs :), (sc_rt hs :), (sc_rz hs :), (sc_x0 hs :), (sc_x1 hs :)⟩
  · intro i hi z
    have z : Y 5 i = 2 := z
    rw [xu_is, xu_is]
    by_cases e : i = p
    · rw [if_pos e, if_pos e]; exact ⟨a, h1, h2, rfl, rfl⟩
    · rw [if_neg e, if_neg e]; exact sc_lf hs i hi z
  · intro f i hi
    rw [xu_is, xu_is]
    by_cases e : i = p
    · rw [if_pos e, if_pos e]; exact ⟨rfl, fun z => absurd (e ▸ h3) z⟩
    · rw [if_neg e, if_neg e]; exact sc_la hs f i hi
  · intro i hi
    show xu X 6 p v 6 i = xu Y 10 p v 10 i
    rw [xu_is, xu_is, sc_sa hs i hi]
theorem sc_sato {nw nb nr e tp tl : Nat} {mt : Nat → Nat → Prop} {fl : Prop} {G : Nat → Nat → Int32} {xw : Int32} {X : Nat → Nat → Int32} {nu : Int64} {Y : Nat → Nat → Int32} (hs : SC nw nb nr e tp tl mt fl G xw X nu Y) {p : Nat} {v : Int32} : SC nw nb nr e tp tl mt fl G xw (xu X 6 p v) nu (xu Y 10 p v) := by
  refine ⟨(sc_mi hs :), (sc_ta hs :), (sc_pi hs :), (sc_nu hs :), (sc_cw hs :), (sc_st hs :), (sc_sp hs :), (sc_dn hs :), (sc_pa hs :), (sc_lf hs :), (sc_la hs :), ?_, (sc_me hs :), (sc_se hs :), (sc_wo hs :), (sc_so hs :), (sc_sn hs :), (sc_e1 hs :), (sc_rc hs :), (sc_rr hs :), (sc_rt hs :), (sc_rz hs :), (sc_x0 hs :), (sc_x1 hs :)⟩
  intro i hi
  rw [xu_is, xu_is, sc_sa hs i hi]
theorem sc_up {nw nb nr e tp tl : Nat} {mt : Nat → Nat → Prop} {fl : Prop} {G : Nat → Nat → Int32} {xw : Int32} {X : Nat → Nat → Int32} {nu : Int64} {Y : Nat → Nat → Int32} (hs : SC nw nb nr e tp tl mt fl G xw X nu Y) {p : Nat} {v w : Int32} : SC nw nb nr e tp tl mt fl G xw (xu (xu (xu X 5 p v) 1 p 1) 5 p 0) nu (xu (xu (xu (xu Y 9 p w) 5 p 1) 8 p (-1)) 9 p 0) := by
  have x5 : ∀ i, xu (xu (xu X 5 p v) 1 p 1) 5 p 0 5 i = if i = p then 0 else X 5 i := by
    intro i; rw [xu_is]
    by_cases e : i = p
    · rw [if_pos e, if_pos e]
    · rw [if_neg e, if_neg e]
      show xu X 5 p v 5 i = _
      rw [xu_is, if_neg e]
  have y9 : ∀ i, xu (xu (xu (xu Y 9 p w) 5 p 1) 8 p (-1)) 9 p 0 9 i = if i = p then 0 else Y 9 i := by
    intro i; rw [xu_is]
    by_cases e : i = p
    · rw [if_pos e, if_pos e]
    · rw [if_neg e, if_neg e]
      show xu Y 9 p w 9 i = _
      rw [xu_is, if_neg e]
  have y5 : ∀ i, xu (xu (xu (xu Y 9 p w) 5 p 1) 8 p (-1)) 9 p 0 5 i = if i = p then 1 else Y 5 i := by
    intro i
    show xu (xu Y 9 p w) 5 p 1 5 i = _
    rw [xu_is]; rfl
  have y8 : ∀ i, xu (xu (xu (xu Y 9 p w) 5 p 1) 8 p (-1)) 9 p 0 8 i = if i = p then -1 else Y 8 i := by
    intro i
    show xu (xu (xu Y 9 p w) 5 p 1) 8 p (-1) 8 i = _
    rw [xu_is]; rfl
  refine ⟨(sc_mi hs :), (sc_ta hs :), (sc_pi hs :), (sc_nu hs :), (sc_cw hs :), ?_, (sc_sp hs :), (sc_dn hs :), (sc_pa hs :), ?_, ?_, (sc_sa hs :), (sc_me hs :), (sc_se hs :), (sc_wo hs :), ?_, ?_, (sc_e1 hs :), (sc_rc hs :), (sc_rr hs :), (sc_rt hs :), (sc_rz hs :), (sc_x0 hs :), (sc_x1 hs :)⟩
  · intro i hi
    rw [y5]
    show xu (xu X 5 p v) 1 p 1 1 i = _
    rw [xu_is, ← sc_st hs i hi]; rfl
  · intro i hi z
    rw [y5] at z
    rw [x5, y9]
    by_cases e : i = p
    · rw [if_pos e] at z; exact absurd z (by decide)
    · rw [if_neg e] at z; rw [if_neg e, if_neg e]; exact sc_lf hs i hi z
  · intro f i hi
    rw [x5, y9, y5]
    by_cases e : i = p
    · rw [if_pos e, if_pos e]; exact ⟨rfl, fun _ => rfl⟩
    · rw [if_neg e, if_neg e, if_neg e]; exact sc_la hs f i hi
  · intro i hi z
    rw [y5] at z
    rw [y8]
    by_cases e : i = p
    · rw [if_pos e] at z; exact absurd z (by decide)
    · rw [if_neg e] at z; rw [if_neg e]; exact sc_so hs i hi z
  · intro i hi z
    rw [y5] at z
    rw [y8]
    by_cases e : i = p
    · rw [if_pos e]
    · rw [if_neg e] at z; rw [if_neg e]; exact sc_sn hs i hi z
theorem sc_nu' {nw nb nr e tp tl : Nat} {mt : Nat → Nat → Prop} {fl : Prop} {G : Nat → Nat → Int32} {xw : Int32} {X : Nat → Nat → Int32} {nu : Int64} {Y : Nat → Nat → Int32} (hs : SC nw nb nr e tp tl mt fl G xw X nu Y) {a : Nat} (ha : a < 2 ^ 31) : SC nw nb nr e tp tl mt fl G xw X (lN a) (xu Y 1 0 (nI a)) := by
  refine ⟨(sc_mi hs :), (sc_ta hs :), (sc_pi hs :), ?_, (sc_cw hs :), (sc_st hs :), (sc_sp hs :), (sc_dn hs :), (sc_pa hs :), (sc_lf hs :), (sc_la hs :), (sc_sa hs :), (sc_me hs :), (sc_se hs :), (sc_wo hs :), (sc_so hs :), (sc_sn hs :), (sc_e1 hs :), (sc_rc hs :), (sc_rr hs :), (sc_rt hs :), (sc_rz hs :), (sc_x0 hs :), (sc_x1 hs :)⟩
  exact ⟨a, ha, by rw [xu_is, if_pos rfl], rfl⟩
/-- behind the talk: talk and met -/
theorem sc_talk {nw nb nr e tp tl : Nat} {mt : Nat → Nat → Prop} {fl : Prop} {G : Nat → Nat → Int32} {xw : Int32} {X : Nat → Nat → Int32} {nu : Int64} {Y : Nat → Nat → Int32} (hs : SC nw nb nr e tp tl mt fl G xw X nu Y) {X' Y' : Nat → Nat → Int32} (hX : ∀ j, j ≠ 0 → j ≠ 7 → X' j = X j) (hX0 : ∀ k, k ≠ 1 → X' 0 k = X 0 k) (hY : ∀ j, j ≠ 2 → j ≠ 11 → Y' j = Y j) (ht : ∃ a, tl ≤ a ∧ a ≤ 99999 ∧ X' 0 1 = nI a ∧ Y' 2 0 = nI a) (hm : ∀ i, i < nw → ∀ j, j < 32 → mt i j → bt (X' 7 i) j = bt (Y' 11 i) j) : SC nw nb nr e tp tl mt fl G xw X' nu Y' := by
  unfold SC at hs ⊢
  rw [hX0 0 (by omega), hX0 2 (by omega), hX0 4 (by omega), hX0 14 (by omega), hX 1 (by omega) (by omega), hX 2 (by omega) (by omega), hX 3 (by omega) (by omega), hX 4 (by omega) (by omega), hX 5 (by omega) (by omega), hX 6 (by omega) (by omega), hX 8 (by omega) (by omega), hX 9 (by omega) (by omega), hX 10 (by omega) (by omega), hX 11 (by omega) (by omega), hX 12 (by omega) (by omega), hX 13 (by omega) (by omega), hY 0 (by omega) (by omega), hY 1 (by omega) (by omega), hY 3 (by omega) (by omega), hY 4 (by omega) (by omega), hY 5 (by omega) (by omega), hY 6 (by omega) (by omega), hY 7 (by omega) (by omega), hY 8 (by omega) (by omega), hY 9 (by omega) (by omega), hY 10 (by omega) (by omega), hY 12 (by omega) (by omega)]
  obtain ⟨z1, z2, z3, z4, z5, z6, z7, z8, z9, z10, z11, z12, z13, z14, z15, z16, z17, z18, z19, z20, z21, z22, z23, z24⟩ := hs
  exact ⟨z1, ht, z3, z4, z5, z6, z7, z8, z9, z10, z11, z12, hm, z14, z15, z16, z17, z18, z19, z20, z21, z22, z23, z24⟩
/-- behind the wear: worn -/
theorem sc_wear {nw nb nr e tp tl : Nat} {mt : Nat → Nat → Prop} {fl : Prop} {G : Nat → Nat → Int32} {xw : Int32} {X : Nat → Nat → Int32} {nu : Int64} {Y : Nat → Nat → Int32} (hs : SC nw nb nr e tp tl mt fl G xw X nu Y) {X' Y' : Nat → Nat → Int32} (hX : ∀ j, j ≠ 9 → X' j = X j) (hY : ∀ j, j ≠ 12 → Y' j = Y j) (hw : ∀ b, b < nb → ∃ a, a ≤ 9999 ∧ X' 9 b = nI a ∧ Y' 12 b = nI a) : SC nw nb nr e tp tl mt fl G xw X' nu Y' := by
  unfold SC at hs ⊢
  rw [hX 0 (by omega), hX 1 (by omega), hX 2 (by omega), hX 3 (by omega), hX 4 (by omega), hX 5 (by omega), hX 6 (by omega), hX 7 (by omega), hX 8 (by omega), hX 10 (by omega), hX 11 (by omega), hX 12 (by omega), hX 13 (by omega), hY 0 (by omega), hY 1 (by omega), hY 2 (by omega), hY 3 (by omega), hY 4 (by omega), hY 5 (by omega), hY 6 (by omega), hY 7 (by omega), hY 8 (by omega), hY 9 (by omega), hY 10 (by omega), hY 11 (by omega)]
  obtain ⟨z1, z2, z3, z4, z5, z6, z7, z8, z9, z10, z11, z12, z13, z14, z15, z16, z17, z18, z19, z20, z21, z22, z23, z24⟩ := hs
  exact ⟨z1, z2, z3, z4, z5, z6, z7, z8, z9, z10, z11, z12, z13, z14, hw, z16, z17, z18, z19, z20, z21, z22, z23, z24⟩
/-- the first place of n behind i with t -/
def fstR (t : Nat → Bool) : Nat → Nat → Option Nat
  | _, 0 => none
  | i, n + 1 => if t i then some i else fstR t (i + 1) n
theorem fstR_congr {t u : Nat → Bool} : ∀ n i, (∀ j, i ≤ j → j < i + n → t j = u j) → fstR t i n = fstR u i n := by
  intro n
  induction n with
  | zero => intro i _; rfl
  | succ n ih =>
    intro i h
    unfold fstR
    rw [h i (by omega) (by omega), ih (i + 1) (fun j h1 h2 => h j (by omega) (by omega))]
theorem fstR_none {t : Nat → Bool} : ∀ n i, (∀ j, i ≤ j → j < i + n → t j = false) → fstR t i n = none := by
  intro n
  induction n with
  | zero => intro i _; rfl
  | succ n ih =>
    intro i h
    unfold fstR
    rw [h i (by omega) (by omega), ih (i + 1) (fun j h1 h2 => h j (by omega) (by omega))]; rfl
theorem fstR_add {t : Nat → Bool} : ∀ n i, fstR t i (n + 1) = match fstR t i n with | some r => some r | none => if t (i + n) then some (i + n) else none := by
  intro n
  induction n with
  | zero => intro i; rfl
  | succ n ih =>
    intro i
    have e1 : fstR t i (n + 1 + 1) = if t i then some i else fstR t (i + 1) (n + 1) := rfl
    have e2 : fstR t i (n + 1) = if t i then some i else fstR t (i + 1) n := rfl
    rw [e1, e2, ih (i + 1), show i + (n + 1) = i + 1 + n by omega]
    cases t i
    · rfl
    · rfl
theorem fstR_spec {t : Nat → Bool} : ∀ n i r, fstR t i n = some r → i ≤ r ∧ r < i + n ∧ t r = true := by
  intro n
  induction n with
  | zero => intro i r h; exact absurd h (by simp [fstR])
  | succ n ih =>
    intro i r h
    have e1 : fstR t i (n + 1) = if t i then some i else fstR t (i + 1) n := rfl
    rw [e1] at h
    cases ht : t i with
    | true =>
      rw [ht] at h
      have h : some i = some r := h
      rw [← Option.some.inj h]
      exact ⟨by omega, by omega, ht⟩
    | false =>
      rw [ht] at h
      have z := ih (i + 1) r h
      exact ⟨by omega, by omega, z.2.2⟩
theorem fstR_t {t : Nat → Bool} {i n : Nat} (h : t i = true) : fstR t i (n + 1) = some i := by rw [fstR, h]; rfl
theorem fstR_f {t : Nat → Bool} {i n : Nat} (h : t i = false) : fstR t i (n + 1) = fstR t (i + 1) n := by rw [fstR, h]; rfl
