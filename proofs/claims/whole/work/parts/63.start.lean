/-! THE LAW FROM ITS ENTRY: what the Statement gives, the two constructors, the row, then the loop -/
theorem lw_at {w : Cond} {args : Array Value} {s : State} (h : ∀ w ∈ lw_tbl, w.before args s = true) (i : Nat) (hw : tables_1[i]? = some w) : w.before args s = true := h w (List.mem_append_right _ (List.mem_of_getElem? hw))
def xFL : List Cond := flatC (Jvm.Cond.and given_1 narrow_1)
theorem xfl {s : State} {bs : Nat} (hgv : (Jvm.Cond.and given_1 narrow_1).before #[Value.ref bs] s = true) {w : Cond} (i : Nat) (h : xFL[i]? = some w) : w.before #[Value.ref bs] s = true := flat_of_before _ hgv w (List.mem_of_getElem? h)
theorem xfl_b : ∀ j, j < 104 → xFL[39 + j]? = some (Cond.eq (.elem (.field (Term.string "HalfLandings$Tokens" 41) "java/lang/String" "value" "[B") (.int (Int32.ofNat j))) (.int (xBYT.getD j 0))) := by decide +kernel
theorem xstr_start {s : State} {bs : Nat} (hts : ∀ w ∈ lw_tbl, w.before #[Value.ref bs] s = true) (hgv : (Jvm.Cond.and given_1 narrow_1).before #[Value.ref bs] s = true) : ∃ sa sv : Nat, xstr sa sv s.heap.size s := by
  have hA : ∀ a : Nat, a < s.heap.size → ¬ (fun q => s.heap.size ≤ q) a := fun a h => Nat.not_le.mpr h
  obtain ⟨adK, adV, hS, hT⟩ := vk_Sof (args := #[Value.ref bs]) (s := s) (N := 1) (tm := fun _ => Term.string "HalfLandings$Tokens" 41) (len := [104]) (byt := [xBYT]) (A := fun q => s.heap.size ≤ q)
    (fun i hi => by rw [show i = 0 by omega]; decide) (fun i _ => xfl hgv 35 (by decide +kernel)) (fun i _ => xfl hgv 36 (by decide +kernel)) (fun i _ => xfl hgv 37 (by decide +kernel)) (fun i hi => by rw [show i = 0 by omega]; exact xfl hgv 38 (by decide +kernel))
    (fun i hi j hj => by
      rw [show i = 0 by omega] at hj ⊢
      exact xfl hgv (39 + j) (xfl_b j hj))
    (fun i j hi hj hne => absurd (show i = j by omega) hne) hA
  have e0 := hT 0 (by decide)
  refine ⟨adK 0, adV 0, vk_R.of (lw_at hts 177 (by decide +kernel)) e0, vk_R.of (lw_at hts 1395 (by decide +kernel)) (va_eqR (xfl hgv 288 (by decide +kernel)) e0), ⟨fun i hi => ?_, fun i j hi hj _ => by omega⟩, ?_, ?_, ⟨?_, ?_, ?_, ?_⟩, Nat.le_refl _⟩
  · rw [show i = 0 by omega]; exact hS.1 0 (by decide)
  · exact va_Zof (lw_at hts 187 (by decide +kernel)) (lw_at hts 6 (by decide +kernel)) (va_eqt (xfl hgv 4 (by decide +kernel))) hA
  · exact va_Zqof (lw_at hts 203 (by decide +kernel)) (lw_at hts 8 (by decide +kernel)) (xfl hgv 5 (by decide +kernel)) hA
  · exact va_Nw.of rfl (lw_at hts 41 (by decide +kernel))
  · exact va_Nw.of rfl (lw_at hts 309 (by decide +kernel))
  · exact va_Nw.of rfl (lw_at hts 420 (by decide +kernel))
  · exact va_Nw.of rfl (lw_at hts 437 (by decide +kernel))
