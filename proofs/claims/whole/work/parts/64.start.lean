theorem x_arr {s : State} {ty : FieldType} {args : Array Value} (h : (Cond.arrayClass ty).before args s = true) : ∃ cA : ClassId, ArrOfT s cA ty ∧ s.vm.findClass ("[" ++ ty.toString) = some cA := by
  obtain ⟨cA, kA, comp, h1, h2, h3⟩ := Cond.arrayClass_spec h
  exact ⟨cA, fun n z => ⟨fun k h => (by cases h), kA, h2, comp, h3⟩, h1⟩
theorem xK_start {s : State} {args : Array Value} (hts : ∀ w ∈ xTB, w.before args s = true) : ∃ (D : va_G) (cid : FieldType → ClassId), va_K D vwCl (xtys cid) s := by
  obtain ⟨c0, i0, k0⟩ := u_known (C := RX0) (T := TX0) (N := 6) (n := 6) hts x_in0 (hts _ kw_270)
  obtain ⟨c1, i1, k1⟩ := u_known (C := RX1) (T := TX1) (N := 8) (n := 8) hts x_in1 (hts _ kw_40)
  obtain ⟨c2, i2, k2⟩ := u_known (C := RX2) (T := TX2) (N := 2) (n := 2) hts x_in2 (hts _ kw_405)
  obtain ⟨c3, i3, k3⟩ := u_known (C := RX3) (T := TX3) (N := 20) (n := 20) hts x_in3 (hts _ kw_34)
  obtain ⟨c4, i4, k4⟩ := u_known (C := RX4) (T := TX4) (N := 19) (n := 19) hts x_in4 (hts _ kw_308)
  obtain ⟨c5, i5, k5⟩ := u_known (C := RX5) (T := TX5) (N := 8) (n := 8) hts x_in5 (hts _ kw_436)
  obtain ⟨c6, i6, k6⟩ := u_known (C := RX6) (T := TX6) (N := 4) (n := 4) hts x_in6 (hts _ kw_264)
  obtain ⟨c7, i7, k7⟩ := u_known (C := RX7) (T := TX7) (N := 9) (n := 9) hts x_in7 (hts _ kw_172)
  obtain ⟨c8, i8, k8⟩ := u_known (C := RX8) (T := TX8) (N := 3) (n := 3) hts x_in8 (hts _ kw_419)
  obtain ⟨c9, i9, k9⟩ := u_known (C := RX9) (T := TX9) (N := 15) (n := 15) hts x_in9 (hts _ kw_26)
  obtain ⟨c10, i10, k10⟩ := u_known (C := RX10) (T := TX10) (N := 65) (n := 65) hts x_in10 (hts _ kw_1155)
  obtain ⟨a_int, p_int, q_int⟩ := x_arr (hts _ kw_73)
  obtain ⟨a_byte, p_byte, q_byte⟩ := x_arr (hts _ kw_72)
  obtain ⟨a_boolean, p_boolean, q_boolean⟩ := x_arr (hts _ kw_468)
  obtain ⟨a_long, p_long, q_long⟩ := x_arr (hts _ kw_74)
  refine ⟨(fun k => if k = 0 then c0 else if k = 1 then c1 else if k = 2 then c2 else if k = 3 then c3 else if k = 4 then c4 else if k = 5 then c5 else if k = 6 then c6 else if k = 7 then c7 else if k = 8 then c8 else if k = 9 then c9 else c10, fun k => if k = 0 then i0 else if k = 1 then i1 else if k = 2 then i2 else if k = 3 then i3 else if k = 4 then i4 else if k = 5 then i5 else if k = 6 then i6 else if k = 7 then i7 else if k = 8 then i8 else if k = 9 then i9 else i10), fun ty => match ty with | .byte => a_byte | .boolean => a_boolean | .long => a_long | _ => a_int, fun k q hq => ?_, fun k q hk => ?_⟩
  · match k, hq with
    | 0, hq => cases hq; exact k0
    | 1, hq => cases hq; exact k1
    | 2, hq => cases hq; exact k2
    | 3, hq => cases hq; exact k3
    | 4, hq => cases hq; exact k4
    | 5, hq => cases hq; exact k5
    | 6, hq => cases hq; exact k6
    | 7, hq => cases hq; exact k7
    | 8, hq => cases hq; exact k8
    | 9, hq => cases hq; exact k9
    | 10, hq => cases hq; exact k10
    | k + 11, hq => simp [vwCl] at hq
  · match k, hk with
    | 0, hk => cases hk; exact ⟨p_int, q_int⟩
    | 1, hk => cases hk; exact ⟨p_byte, q_byte⟩
    | 2, hk => cases hk; exact ⟨p_boolean, q_boolean⟩
    | 3, hk => cases hk; exact ⟨p_long, q_long⟩
    | k + 4, hk => simp [xtys] at hk
