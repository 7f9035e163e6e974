/-! LEVEL 2: text. The reader of laws against the reference's descent: values, brackets, the whole -/
theorem k162F {L' : Nat → Nat → Int64} {R' : Nat → Nat → Option Nat} {Fe : Nat → xD → Option xD} {J : Nat → Nat → Int32} (hJ : J 99 26 ≠ 0) (x : Int32) : k_X10_primary_162 shA Fe 99 x (J, L', R') = some (J, L', R') := by
  unfold k_X10_primary_162 k_X10_primary_176 k_X10_primary_194
  simp only [on_of sA_99, m_knotF hJ, Option.bind_some, gI_of sA_99, m_putsF hJ, m_goOnF (d := (J, L', R')) hJ, ite_self]
theorem k162_64 {L' : Nat → Nat → Int64} {R' : Nat → Nat → Option Nat} {Fe : Nat → xD → Option xD} {J : Nat → Nat → Int32} (f0 : J 99 26 = 0) (hk : J 99 31 = nI 64) (x : Int32) : k_X10_primary_162 shA Fe 99 x (J, L', R') = some (rfM 2 J, L', R') := by
  have hn : rfM 2 J 99 26 ≠ 0 := by rw [rfM_26]; decide
  unfold k_X10_primary_162 k_X10_primary_176 k_X10_primary_194
  rw [on_of sA_99, m_knot f0 hk (by omega), if_neg (show ¬ (64 : Nat) < 64 by omega), Option.bind_some]
  simp only [on_of sA_99, Option.bind_some, gI_of sA_99, m_putsF hn, m_goOnF (d := (rfM 2 J, L', R')) hn, ite_self]
theorem k162_go {P : Nat} {L' : Nat → Nat → Int64} {R' : Nat → Nat → Option Nat} (hR' : ∀ I, RefOK (I, L', R') P) {Fe : Nat → xD → Option xD} {J : Nat → Nat → Int32} (f0 : J 99 26 = 0) {k z : Nat} (hk : J 99 31 = nI k) (hk64 : k < 64) (hz : J 101 15 = nI z) (hz64 : z < 64) (x : Int32) {so va : Int32} (h1 : so = if x = 0 then 1 else 0) (h2 : va = if x = 0 then J 99 25 - 14 else J 99 25) : k_X10_primary_162 shA Fe 99 x (J, L', R') = f_X10_token shA 99 (xu (xu (xu (xu J 99 31 (nI (k + 1))) 115 (64 + z) so) 116 (64 + z) va) 101 15 (nI (z + 1)), L', R') := by
  have h0 : xu J 99 31 (nI (k + 1)) 99 26 = 0 := (xu_at2 (by omega)).trans f0
  unfold k_X10_primary_162 k_X10_primary_176 k_X10_primary_194
  rw [on_of sA_99, m_knot f0 hk (by omega), if_pos hk64, Option.bind_some]
  simp only [on_of sA_99, Option.bind_some, gI_of sA_99, xu_at2 (show 25 ≠ 31 by omega), m_puts hR' h0 ((xu_cell (by omega)).trans hz) hz64]
  have hg : ∀ a b : Int32, f_X10_goOn shA 99 (xu (xu (xu (xu J 99 31 (nI (k + 1))) 115 (64 + z) a) 116 (64 + z) b) 101 15 (nI (z + 1)), L', R') = f_X10_token shA 99 (xu (xu (xu (xu J 99 31 (nI (k + 1))) 115 (64 + z) a) 116 (64 + z) b) 101 15 (nI (z + 1)), L', R') := fun a b => m_goOn (show xu (xu (xu (xu J 99 31 (nI (k + 1))) 115 (64 + z) a) 116 (64 + z) b) 101 15 (nI (z + 1)) 99 26 = 0 by rw [xu_cell (by omega), xu_cell (by omega), xu_cell (by omega)]; exact h0)
  simp only [hg, bind_id]
  by_cases c : x = 0
  · rw [if_pos c] at h1 h2
    rw [if_pos c, if_pos c, h1, h2]
  · rw [if_neg c] at h1 h2
    rw [if_neg c, if_neg c, h1, h2]
theorem sp_prim {P P' : Nat} {L L' : Nat → Nat → Int64} {R R' : Nat → Nat → Option Nat} (hR : ∀ I, RefOK (I, L, R) P) (hR' : ∀ I, RefOK (I, L', R') P') {n : Nat} {B : Nat → Nat} {D kk : Nat} (hD : isPl D) {Fe : Nat → xD → Option xD} (hE : SP L R L' R' n B D kk 1 0 Fe) (hEz : FZ L' R' Fe) : SP L R L' R' n B D (kk + 1) 7 6 (fun q d => e_X10_primary shA Fe q d) ∧ FZ L' R' (fun q d => e_X10_primary shA Fe q d) := by
  have h78F : ∀ J : Nat → Nat → Int32, J 99 26 ≠ 0 → k_X10_primary_78 shA Fe 99 (J, L', R') = some (J, L', R') := fun J hJ => by
    unfold k_X10_primary_78
    simp only [gI_of sA_99, Option.bind_some, if_neg hJ]
  have h31F : ∀ J : Nat → Nat → Int32, J 99 26 ≠ 0 → k_X10_primary_31 shA Fe 99 (J, L', R') = some (J, L', R') := fun J hJ => by
    unfold k_X10_primary_31
    simp only [gI_of sA_99, Option.bind_some, if_neg hJ]
  constructor
  · intro i k z w o z0 S p t I J hs h4 _ n2 hw hme hz
    have tt := oks_tt hs; have f0 := oks_f0 hs
    obtain ⟨mk, k64⟩ := oks_mk hs
    obtain ⟨mo, o8, how⟩ := oks_mo hs
    obtain ⟨my, hzw⟩ := oks_my hs
    have my : J 101 15 = nI z := my
    have n13 := n2 (by omega)
    have e : e_X10_primary shA Fe 99 (J, L', R') = if t = 24 then (if o = 8 then ((f_X10_wrong shA 99 (2 : Int32) (J, L', R')).bind fun d27 => k_X10_primary_31 shA Fe 99 d27) else k_X10_primary_31 shA Fe 99 (J, L', R')) else (if t = 22 then k_X10_primary_114 shA Fe 99 (1 : Int32) (J, L', R') else k_X10_primary_114 shA Fe 99 (0 : Int32) (J, L', R')) := by
      have q8 : nI o = (8 : Int32) ↔ o = 8 := nI_eq (b := 8) (by omega) (by omega)
      unfold e_X10_primary
      simp only [gI_of sA_99, Option.bind_some, on_of sA_99, m_isS tt f0 (s := 24) (by omega) (by omega) (x := 40) rfl, mo, q8, t_num tt]
      rw [if_pos f0]
      by_cases c : t = 24
      · rw [if_pos c, if_neg (by decide), if_pos c]
      · rw [if_neg c, if_pos rfl, if_neg c]
    have leaf : ∀ x so va, so = (if x = 0 then (1 : Int32) else 0) → va = (if x = 0 then J 99 25 - 14 else J 99 25) → LV t I J so va → ¬ so = 2 → BADR L R L' R' D i I J (k_X10_primary_162 shA Fe 99 x (J, L', R')) ∨ GOOD L R L' R' n B D 7 i k z w o z0 S p I J (k_X10_primary_162 shA Fe 99 x (J, L', R')) := by
      intro x so va hso hva hv hns
      rcases st_leaf hR hR' hD hs h4 hv hz with ⟨q0, I', q1, q2, q3⟩ | ⟨q0, I2, J2, p2, t2, q1, q2, q3, q4, q5, q6, q7, q8, q9⟩
      · left
        rw [q0] at mk
        exact ⟨I', rfM 2 J, q1, k162_64 f0 mk x, q2, lfm_rf lfm_refl, q3⟩
      · right
        refine ⟨i + 1, k + 1, z + 1, 0, S, p2, t2, I2, J2, q1, ?_, q3, q4, fun _ _ => rfl, fun j hj => by omega, ⟨fun q => by omega, fun q => by omega, fun q => by omega, fun q => by omega, fun q => by omega⟩, q5, by omega, by omega, q6, q7, fun h => ?_⟩
        · rw [k162_go hR' f0 mk q0 my (by omega) x hso hva]; exact q2
        · rw [show z + 1 + 0 - z = 1 by omega]
          exact HG_leaf (by rw [q8]; exact hns)
    have bad : ∀ v : Int32, v ≠ 0 → (∃ I', LRD L R D i I = some (0, (I', L, R)) ∧ LFC D 0 I I' ∧ FT I' (rfM v J)) → ∀ X, X = some (rfM v J, L', R') → BADR L R L' R' D i I J X ∨ GOOD L R L' R' n B D 7 i k z w o z0 S p I J X := by
      rintro v _ ⟨I', q1, q2, q3⟩ X hX
      exact Or.inl ⟨I', rfM v J, q1, hX, q2, lfm_rf lfm_refl, q3⟩
    have r1 : rfM 1 J 99 26 ≠ 0 := by rw [rfM_26]; decide
    have r2 : rfM 2 J 99 26 ≠ 0 := by rw [rfM_26]; decide
    dsimp only
    rw [e]
    by_cases c : t = 24
    · rw [if_pos c]
      by_cases c8 : o = 8
      · rw [if_pos c8]
        refine bad 2 (by decide) (st_badv hR hD hs h4 (Or.inl ⟨c, c8, rfl⟩)) _ ?_
        rw [m_wrong _ f0, Option.bind_some, h31F _ r2]
      · rw [if_neg c8]
        obtain ⟨I2, J2, p2, t2, q1, q2, q3, q4, q5, q6, q7, q8⟩ := st_open hR hR' hD hs h4 c (by omega)
        have e31 : k_X10_primary_31 shA Fe 99 (J, L', R') = (Fe 99 (J2, L', R')).bind fun d19 => (xgI 10 shA d19 99 26).bind fun v20 => if v20 = 0 then ((f_X10_isSign shA 99 (41 : Int32) d19).bind fun z21 => if z21.1 = 0 then ((f_X10_wrong shA 99 (1 : Int32) z21.2).bind fun d22 => k_X10_primary_78 shA Fe 99 d22) else (k_X10_primary_78 shA Fe 99 z21.2)) else (k_X10_primary_78 shA Fe 99 d19) := by
          unfold k_X10_primary_31
          simp only [gI_of sA_99, Option.bind_some, mo, nI_1, pM_30, on_of sA_99, q2]
          rw [if_pos f0]
        rw [e31]
        rcases hE (i + 1) k z (w + 1) (o + 1) z0 _ p2 t2 I2 J2 q3 q4 (fun _ => q5) (fun q => by omega) (fun _ => by rw [Nat.add_sub_cancel, if_pos rfl]; decide) (by omega) hz with ⟨I', J', b1, b2, b3, b4, b5⟩ | ⟨i', k', z', r', S', p', t', I', J', b1, b2, b3, b4, b5, b6, b7, b8, b9, b10, b11, b12, b13⟩
        · left
          refine ⟨I', J', q1.trans b1, ?_, lfc_trans (lfc_le q7 (Nat.zero_le _)) b3 (Nat.le_refl _), lfm_trans (lfm_le q8 (Nat.zero_le _)) b4 (Nat.le_refl _), b5⟩
          rw [b2, Option.bind_some, gI_of sA_99, Option.bind_some]
          dsimp only
          rw [if_neg b5.2.2, h78F _ b5.2.2]
        · have tt' := oks_tt b3; have f0' := oks_f0 b3
          obtain ⟨mo', _, _⟩ := oks_mo b3
          have sw : S' w = 24 := by rw [b5 w (by omega)]; exact if_pos rfl
          rw [b2, Option.bind_some, gI_of sA_99, Option.bind_some]
          dsimp only
          rw [if_pos f0', m_isS tt' f0' (s := 25) (by omega) (by omega) (x := 41) rfl, Option.bind_some]
          by_cases c25 : t' = 25
          · rw [if_pos c25]
            dsimp only
            rw [if_neg (show ¬ (1 : Int32) = 0 by decide)]
            obtain ⟨I3, J3, p3, t3, d1, d2, d3, d4, d5, d6, d7⟩ := st_close hR hR' hD b3 b4 c25 (by omega) ⟨by omega, by rw [show w + 1 + r' - r' - 1 = w by omega, sw]⟩
            right
            refine ⟨i' + 1, k', z' + r', 0, S', p3, t3, I3, J3, (q1.trans b1).trans d1, ?_, ?_, d4, fun j hj => by rw [b5 j (by omega)]; exact if_neg (by omega), fun j hj => by omega, ⟨fun q => by omega, fun q => by omega, fun q => by omega, fun q => by omega, fun q => by omega⟩, by omega, b9, by omega, lfc_trans (lfc_trans q7 b11 (Nat.le_refl _)) (lfc_le d6 b10) (Nat.le_refl _), lfm_trans (lfm_trans q8 b12 (Nat.le_refl _)) (lfm_le d7 (by omega)) (Nat.le_refl _), fun h => ?_⟩
            · unfold k_X10_primary_78
              rw [show o + 1 - 1 = o by omega] at d2
              simp only [gI_of sA_99, Option.bind_some, mo', nI_pred, pM_30, on_of sA_99, d2]
              rw [if_pos f0']
            · rw [show w + 1 + r' - r' - 1 = w by omega, show o + 1 - 1 = o by omega] at d3
              exact d3
            · exact HG_fr d7 (by omega) (b13 h)
          · rw [if_neg c25]
            dsimp only
            rw [if_pos rfl, m_wrong _ f0', Option.bind_some]
            have r3 : rfM 1 J' 99 26 ≠ 0 := by rw [rfM_26]; decide
            obtain ⟨I3, d1, d2, d3⟩ := st_bad hR hD b3 b4 (by omega) (fun q => absurd q c25) (nx_bad b7)
            left
            exact ⟨I3, rfM 1 J', (q1.trans b1).trans d1, h78F _ r3, lfc_trans (lfc_trans (lfc_le q7 (Nat.zero_le _)) (lfc_le b11 (Nat.zero_le _)) (Nat.le_refl _)) d2 (Nat.le_refl _), lfm_rf (lfm_trans (lfm_le q8 (Nat.zero_le _)) (lfm_le b12 (Nat.zero_le _)) (Nat.le_refl _)), d3⟩
    · rw [if_neg c]
      by_cases c22 : t = 22
      · rw [if_pos c22]
        obtain ⟨x, y, hv, v1, v2⟩ : ∃ x y, NV x y ∧ I 40 2 = nI x ∧ J 99 25 = nI y := by
          unfold TT at tt
          rcases tt with q | q | ⟨_, _, q⟩ | q | q | q
          · omega
          · omega
          · exact q
          · omega
          · omega
          · omega
        have q99 : nI y ≤ (9999 : Int32) ↔ y ≤ 9999 := nI_leI (b := 9999) (by unfold NV at hv; omega) (by omega)
        unfold k_X10_primary_114 k_X10_primary_137
        rw [if_neg (show ¬ (1 : Int32) = 0 by decide), if_neg (show ¬ (1 : Int32) = 0 by decide)]
        simp only [gI_of sA_99, Option.bind_some, v2, q99, on_of sA_99, m_wrong _ f0]
        by_cases cy : y ≤ 9999
        · rw [if_pos cy]
          have hxy : x = y := by unfold NV at hv; omega
          refine leaf 1 0 (J 99 25) rfl rfl (Or.inl ⟨c22, rfl, rfl, ?_, y, cy, v2⟩) (by decide)
          rw [v1, v2, hxy]
        · rw [if_neg cy]
          refine bad 2 (by decide) (st_badv hR hD hs h4 (Or.inr (Or.inr (Or.inl ⟨c22, ⟨x, ?_, ?_, v1⟩, rfl⟩)))) _ ?_
          · unfold NV at hv; omega
          · unfold NV at hv; omega
          · rw [k162F r2]
      · rw [if_neg c22]
        unfold k_X10_primary_114 k_X10_primary_137 k_X10_primary_157
        rw [if_pos rfl, if_pos rfl]
        simp only [gI_of sA_99, Option.bind_some, on_of sA_99, m_wrong _ f0, k162F r1]
        have tw : ∀ X Y : Option xD, (14 ≤ t ∧ t ≤ 20 → (if J 99 24 = 0 then (if (14 : Int32) ≤ J 99 25 then X else Y) else Y) = X) ∧ (¬ (14 ≤ t ∧ t ≤ 20) → (if J 99 24 = 0 then (if (14 : Int32) ≤ J 99 25 then X else Y) else Y) = Y) := by
          intro X Y
          unfold TT at tt
          rcases tt with ⟨z1, z2, z3⟩ | ⟨z1, z2, z3⟩ | ⟨z1, z2, z3⟩ | ⟨z1, z2, z3, z4⟩ | ⟨z1, z2⟩ | ⟨z1, z2⟩
          · rw [if_pos z2, z3]
            constructor
            · intro q; rw [if_pos (show (14 : Int32) ≤ nI t from nI_le (a := 14) q.1 (by omega))]
            · intro q; rw [if_neg (show ¬ (14 : Int32) ≤ nI t from nI_ge (b := 14) (by omega) (by omega))]
          · exact ⟨fun q => by omega, fun _ => by rw [z2, if_neg (by decide)]⟩
          · exact ⟨fun q => by omega, fun _ => by rw [z2, if_neg (by decide)]⟩
          · exact ⟨fun q => by omega, fun _ => by rw [z3, if_neg (by decide)]⟩
          · exact ⟨fun q => by omega, fun _ => by rw [z2, if_neg (by decide)]⟩
          · exact ⟨fun q => by omega, fun _ => by rw [z2, if_neg (by decide)]⟩
        by_cases c14 : 14 ≤ t ∧ t ≤ 20
        · rw [(tw _ _).1 c14]
          have v2 : J 99 25 = nI t := ((t_word tt (w := t) (by omega)).mpr rfl).2
          refine leaf 0 1 (nI (t - 14)) rfl ?_ (Or.inr ⟨c14.1, c14.2, rfl, rfl⟩) (by decide)
          rw [if_pos rfl, v2]
          exact (pk_sub (b := 14) c14.1).symm
        · rw [(tw _ _).2 c14]
          refine bad 1 (by decide) (st_badv hR hD hs h4 ?_) _ rfl
          by_cases c13 : t = 13
          · rcases n13 with q | q
            · exact Or.inr (Or.inl ⟨c13, q, rfl⟩)
            · exact absurd c13 q
          · exact Or.inr (Or.inr (Or.inr ⟨c, c13, c22, c14, rfl⟩))
  · intro J hJ
    dsimp only
    unfold e_X10_primary
    simp only [gI_of sA_99, Option.bind_some, if_neg hJ]
theorem fz_prim {L' : Nat → Nat → Int64} {R' : Nat → Nat → Option Nat} {F : Nat → xD → Option xD} : FZ L' R' (fun q d => e_X10_primary shA F q d) := by
  intro J hJ
  dsimp only
  unfold e_X10_primary
  simp only [gI_of sA_99, Option.bind_some, if_neg hJ]
theorem fz_product {L' : Nat → Nat → Int64} {R' : Nat → Nat → Option Nat} {F : Nat → xD → Option xD} (hF : FZ L' R' F) : FZ L' R' (fun q d => e_X10_product shA F q d) := by
  intro J hJ
  dsimp only
  unfold e_X10_product
  rw [on_of sA_99, hF J hJ, Option.bind_some, show xF = 999999 + 1 from rfl, loop_s]
  generalize xloop (fun _ _ => none) (b_X10_product_4 shA F) 999999 = rc
  unfold b_X10_product_4 k_X10_product_48
  simp only [on_of sA_99, m_isSF hJ, Option.bind_some, ↓reduceIte]
theorem fz_sum {L' : Nat → Nat → Int64} {R' : Nat → Nat → Option Nat} {F : Nat → xD → Option xD} (hF : FZ L' R' F) : FZ L' R' (fun q d => e_X10_sum shA F q d) := by
  intro J hJ
  dsimp only
  unfold e_X10_sum
  rw [on_of sA_99, hF J hJ, Option.bind_some, show xF = 999999 + 1 from rfl, loop_s]
  generalize xloop (fun _ _ => none) (b_X10_sum_4 shA F) 999999 = rc
  unfold b_X10_sum_4 k_X10_sum_48
  simp only [on_of sA_99, m_isSF hJ, Option.bind_some, ↓reduceIte]
theorem fz_neg {L' : Nat → Nat → Int64} {R' : Nat → Nat → Option Nat} {Fn F : Nat → xD → Option xD} (hF : FZ L' R' F) : FZ L' R' (fun q d => e_X10_negation shA Fn F q d) := by
  intro J hJ
  dsimp only
  unfold e_X10_negation k_X10_negation_86
  simp only [on_of sA_99, m_isWF hJ, Option.bind_some, ↓reduceIte, hF J hJ, gI_of sA_99, if_neg hJ]
theorem sp_all {P P' : Nat} {L L' : Nat → Nat → Int64} {R R' : Nat → Nat → Option Nat} (hR : ∀ I, RefOK (I, L, R) P) (hR' : ∀ I, RefOK (I, L', R') P') {n : Nat} {B : Nat → Nat} {D : Nat} (hD : isPl D) : ∀ kk, SP L R L' R' n B D kk 3 3 (g_neg shA kk) ∧ (1 ≤ kk → FZ L' R' (g_neg shA kk)) := by
  intro kk
  induction kk with
  | zero => exact ⟨fun i k z w o z0 S p t I J _ _ _ _ _ h => by omega, fun h => by omega⟩
  | succ kk ih =>
    obtain ⟨h1, h2⟩ := ih
    rcases Nat.eq_zero_or_pos kk with c | c
    · subst c
      refine ⟨fun i k z w o z0 S p t I J _ _ _ _ _ h => by omega, fun _ => ?_⟩
      exact fz_neg (fz_sum (fz_product fz_prim))
    · have a1 := sp_conj hR hR' hD h1 (h2 c)
      have a2 := sp_expr hR hR' hD a1.1 a1.2
      have a3 := sp_prim hR hR' hD a2.1 a2.2
      have a4 := sp_product hR hR' hD a3.1 a3.2
      have a5 := sp_sum hR hR' hD a4.1 a4.2
      have a6 := sp_neg hR hR' hD h1 (h2 c) a5.1 a5.2
      exact ⟨a6.1, fun _ => a6.2⟩
theorem sp_expression {P P' : Nat} {L L' : Nat → Nat → Int64} {R R' : Nat → Nat → Option Nat} (hR : ∀ I, RefOK (I, L, R) P) (hR' : ∀ I, RefOK (I, L', R') P') {n : Nat} {B : Nat → Nat} {D : Nat} (hD : isPl D) : SP L R L' R' n B D 80 1 0 (f_X10_expression shA) := by
  obtain ⟨h1, h2⟩ := sp_all (n := n) (B := B) hR hR' hD 80
  have a1 := sp_conj hR hR' hD h1 (h2 (by omega))
  exact (sp_expr hR hR' hD a1.1 a1.2).1
