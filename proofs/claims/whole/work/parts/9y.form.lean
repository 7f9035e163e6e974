/-! LEVEL 2: text. The reader of laws against the reference's descent: the form, and what is read from the left -/
def hg (so va : Nat → Int32) : Nat → Nat → Nat → Nat → Prop
  | _, 0, h, h' => h = h'
  | i, n + 1, h, h' => if so i = 2 then (if va i = 260 then 1 ≤ h ∧ hg so va (i + 1) n h h' else 2 ≤ h ∧ hg so va (i + 1) n (h - 1) h') else hg so va (i + 1) n (h + 1) h'
theorem hg_post {so va : Nat → Int32} : ∀ n i h, hg so va i n h 1 → post so va i n h := by
  intro n
  induction n with
  | zero => intro i h z; exact z
  | succ n ih =>
    intro i h z
    unfold hg at z
    unfold post
    by_cases c : so i = 2
    · rw [if_pos c] at z ⊢
      by_cases c2 : va i = 260
      · rw [if_pos c2] at z ⊢; exact ⟨z.1, ih _ _ z.2⟩
      · rw [if_neg c2] at z ⊢; exact ⟨z.1, ih _ _ z.2⟩
    · rw [if_neg c] at z ⊢; exact ih _ _ z
theorem hg_app {so va : Nat → Int32} {m h' h'' : Nat} : ∀ n i h, hg so va i n h h' → hg so va (i + n) m h' h'' → hg so va i (n + m) h h'' := by
  intro n
  induction n with
  | zero => intro i h z1 z2; rw [Nat.zero_add]; unfold hg at z1; subst z1; exact z2
  | succ n ih =>
    intro i h z1 z2
    rw [show n + 1 + m = (n + m) + 1 by omega]
    rw [show i + (n + 1) = (i + 1) + n by omega] at z2
    unfold hg at z1 ⊢
    by_cases c : so i = 2
    · rw [if_pos c] at z1 ⊢
      by_cases c2 : va i = 260
      · rw [if_pos c2] at z1 ⊢; exact ⟨z1.1, ih _ _ z1.2 z2⟩
      · rw [if_neg c2] at z1 ⊢; exact ⟨z1.1, ih _ _ z1.2 z2⟩
    · rw [if_neg c] at z1 ⊢; exact ih _ _ z1 z2
theorem hg_congr {so va so' va' : Nat → Int32} {h' : Nat} : ∀ n i h, (∀ j, i ≤ j → j < i + n → so' j = so j ∧ va' j = va j) → hg so va i n h h' → hg so' va' i n h h' := by
  intro n
  induction n with
  | zero => intro i h _ z; exact z
  | succ n ih =>
    intro i h e z
    obtain ⟨e1, e2⟩ := e i (by omega) (by omega)
    have e' : ∀ j, i + 1 ≤ j → j < i + 1 + n → so' j = so j ∧ va' j = va j := fun j j1 j2 => e j (by omega) (by omega)
    unfold hg at z ⊢
    rw [e1, e2]
    by_cases c : so i = 2
    · rw [if_pos c] at z ⊢
      by_cases c2 : va i = 260
      · rw [if_pos c2] at z ⊢; exact ⟨z.1, ih _ _ e' z.2⟩
      · rw [if_neg c2] at z ⊢; exact ⟨z.1, ih _ _ e' z.2⟩
    · rw [if_neg c] at z ⊢; exact ih _ _ e' z
def HG (J : Nat → Nat → Int32) (i n h h' : Nat) : Prop := hg (fun j => J 115 (64 + j)) (fun j => J 116 (64 + j)) i n h h'
theorem HG_fr {J J' : Nat → Nat → Int32} {y i n h h' : Nat} (hf : LFM y J J') (hy : i + n ≤ y) (z : HG J i n h h') : HG J' i n h h' :=
  hg_congr n i h (fun j _ j2 => hf.2.2.2 (64 + j) (by omega)) z
theorem HG_app {J : Nat → Nat → Int32} {i n m h h' h'' : Nat} (z1 : HG J i n h h') (z2 : HG J (i + n) m h' h'') : HG J i (n + m) h h'' := hg_app n i h z1 z2
theorem HG_bin {J : Nat → Nat → Int32} {i h : Nat} (e1 : J 115 (64 + i) = 2) (e2 : ¬ J 116 (64 + i) = 260) : HG J i 1 (h + 2) (h + 1) := by
  unfold HG hg
  rw [if_pos e1, if_neg e2]
  exact ⟨by omega, rfl⟩
theorem HG_not {J : Nat → Nat → Int32} {i h : Nat} (e1 : J 115 (64 + i) = 2) (e2 : J 116 (64 + i) = 260) : HG J i 1 (h + 1) (h + 1) := by
  unfold HG hg
  rw [if_pos e1, if_pos e2]
  exact ⟨by omega, rfl⟩
theorem HG_leaf {J : Nat → Nat → Int32} {i h : Nat} (e1 : ¬ J 115 (64 + i) = 2) : HG J i 1 h (h + 1) := by
  unfold HG hg
  rw [if_neg e1]
  rfl
/-- what can't stand behind a thing of this rank -/
def NX (lo t : Nat) (S : Nat → Nat) (w r : Nat) : Prop := (lo ≤ 6 → t ≠ 28 ∧ t ≠ 29) ∧ (lo ≤ 5 → t ≠ 26 ∧ t ≠ 27) ∧ (lo ≤ 3 → rk t = 4 → ∃ j, j < r ∧ rk (S (w - 1 - j)) = 4 ∧ ∀ j', j' < j → 5 ≤ rk (S (w - 1 - j'))) ∧ (lo ≤ 2 → t ≠ 12) ∧ (lo ≤ 1 → t ≠ 11)
theorem nx_r {lo t : Nat} {S : Nat → Nat} {w r r2 : Nat} (h : NX lo t S w r) (hr : r ≤ r2) : NX lo t S w r2 := by
  obtain ⟨a1, a2, a3, a4, a5⟩ := h
  refine ⟨a1, a2, fun z1 z2 => ?_, a4, a5⟩
  obtain ⟨j, j1, j2, j3⟩ := a3 z1 z2
  exact ⟨j, by omega, j2, j3⟩
theorem nx_bad {t : Nat} {S : Nat → Nat} {w r : Nat} (h : NX 1 t S w r) : rk t = 0 ∨ rk t = 3 ∨ (rk t = 4 ∧ ∃ j, j < r ∧ rk (S (w - 1 - j)) = 4 ∧ ∀ j', j' < j → 5 ≤ rk (S (w - 1 - j'))) := by
  obtain ⟨a1, a2, a3, a4, a5⟩ := h
  by_cases c : rk t = 4
  · exact Or.inr (Or.inr ⟨c, a3 (by omega) c⟩)
  · have b1 := a1 (by omega); have b2 := a2 (by omega); have b4 := a4 (by omega); have b5 := a5 (by omega)
    unfold rk at c ⊢
    repeat' split at c
    all_goals first | omega | (simp_all; done) | skip
    all_goals repeat' split
    all_goals omega
def BADR (L : Nat → Nat → Int64) (R : Nat → Nat → Option Nat) (L' : Nat → Nat → Int64) (R' : Nat → Nat → Option Nat) (D i : Nat) (I J : Nat → Nat → Int32) (X : Option xD) : Prop := ∃ I' J', LRD L R D i I = some (0, (I', L, R)) ∧ X = some (J', L', R') ∧ LFC D 0 I I' ∧ LFM 0 J J' ∧ FT I' J'
def GOOD (L : Nat → Nat → Int64) (R : Nat → Nat → Option Nat) (L' : Nat → Nat → Int64) (R' : Nat → Nat → Option Nat) (n : Nat) (B : Nat → Nat) (D lo i k z w o z0 : Nat) (S : Nat → Nat) (p : Nat) (I J : Nat → Nat → Int32) (X : Option xD) : Prop := ∃ i' k' z' r' S' p' t' I' J', LRD L R D i I = LRD L R D i' I' ∧ X = some (J', L', R') ∧ OKS n B D i' k' z' (w + r') o r' z0 S' p' t' I' J' ∧ I' 43 4 = 0 ∧ (∀ j, j < w → S' j = S j) ∧ (∀ j, j < r' → lo ≤ rk (S' (w + r' - 1 - j))) ∧ NX lo t' S' (w + r') r' ∧ p < p' ∧ k ≤ k' ∧ z ≤ z' ∧ LFC D z I I' ∧ LFM z J J' ∧ ∀ h, HG J' z (z' + r' - z) h (h + 1)
def SP (L : Nat → Nat → Int64) (R : Nat → Nat → Option Nat) (L' : Nat → Nat → Int64) (R' : Nat → Nat → Option Nat) (n : Nat) (B : Nat → Nat) (D kk lo bd : Nat) (F : Nat → xD → Option xD) : Prop := ∀ i k z w o z0 S p t I J, OKS n B D i k z w o 0 z0 S p t I J → I 43 4 = 1 → (lo ≤ 3 → I 43 5 = 1) → (3 < lo → (I 43 5 = 0 ∨ t ≠ 13)) → (0 < w → rk (S (w - 1)) ≤ bd) → 64 - k + (8 - o) + 1 < kk → z0 ≤ z → BADR L R L' R' D i I J (F 99 (J, L', R')) ∨ GOOD L R L' R' n B D lo i k z w o z0 S p I J (F 99 (J, L', R'))
def FZ (L' : Nat → Nat → Int64) (R' : Nat → Nat → Option Nat) (F : Nat → xD → Option xD) : Prop := ∀ J : Nat → Nat → Int32, J 99 26 ≠ 0 → F 99 (J, L', R') = some (J, L', R')
def GB (s : Int32) (F rc : Nat → xD → Option xD) (d : xD) : Option xD := (f_X10_knot shA 99 d).bind fun d2 => (f_X10_goOn shA 99 d2).bind fun d3 => (F 99 d3).bind fun d4 => (f_X10_puts shA 99 2 s d4).bind fun d5 => rc 99 d5
theorem rfM_26 {w : Int32} {J : Nat → Nat → Int32} : rfM w J 99 26 = w := by unfold rfM; rw [xu_at2 (by omega), xu_at]
theorem gb_full {L' : Nat → Nat → Int64} {R' : Nat → Nat → Option Nat} {s : Int32} {F rc : Nat → xD → Option xD} {J : Nat → Nat → Int32} (h0 : J 99 26 = 0) (hk : J 99 31 = nI 64) (hF : FZ L' R' F) (hr : FZ L' R' rc) : GB s F rc (J, L', R') = some (rfM 2 J, L', R') := by
  have hn : rfM 2 J 99 26 ≠ 0 := by rw [rfM_26]; decide
  unfold GB
  rw [m_knot h0 hk (by omega), if_neg (show ¬ (64 : Nat) < 64 by omega), Option.bind_some, m_goOnF hn, Option.bind_some, hF _ hn, Option.bind_some, m_putsF hn, Option.bind_some, hr _ hn]
theorem gb_go {L' : Nat → Nat → Int64} {R' : Nat → Nat → Option Nat} {s : Int32} {F rc : Nat → xD → Option xD} {J J2 : Nat → Nat → Int32} {k : Nat} (h0 : J 99 26 = 0) (hk : J 99 31 = nI k) (hk64 : k < 64) (e : f_X10_token shA 99 (xu J 99 31 (nI (k + 1)), L', R') = some (J2, L', R')) : GB s F rc (J, L', R') = (F 99 (J2, L', R')).bind fun d4 => (f_X10_puts shA 99 2 s d4).bind fun d5 => rc 99 d5 := by
  unfold GB
  rw [m_knot h0 hk (by omega), if_pos hk64, Option.bind_some, m_goOn (d := (xu J 99 31 (nI (k + 1)), L', R')) (show xu J 99 31 (nI (k + 1)) 99 26 = 0 from (xu_at2 (by omega)).trans h0), e, Option.bind_some]
theorem cd_260d : ∀ t : Fin 38, 1 ≤ rk t.val → rk t.val ≠ 3 → ¬ nI (cd t.val) = 260 := by decide +kernel
theorem cd_260 {t : Nat} (h1 : 1 ≤ rk t) (h3 : rk t ≠ 3) (ht : t ≤ 37) : ¬ nI (cd t) = 260 := cd_260d ⟨t, by omega⟩ h1 h3
theorem gbs {P P' : Nat} {L L' : Nat → Nat → Int64} {R R' : Nat → Nat → Option Nat} (hR : ∀ I, RefOK (I, L, R) P) (hR' : ∀ I, RefOK (I, L', R') P') {n : Nat} {B : Nat → Nat} {D i k z w o z0 : Nat} {S : Nat → Nat} {p t : Nat} {I J : Nat → Nat → Int32} (hD : isPl D) (hs : OKS n B D i k z (w + 1) o 0 z0 S p t I J) (h4 : I 43 4 = 1) {s kk lo bd : Nat} (hS : S w = s) (hs1 : 1 ≤ rk s) {F rc : Nat → xD → Option xD} (hF : SP L R L' R' n B D kk lo bd F) (hrc : FZ L' R' rc) (hbd : rk s ≤ bd) (n1 : lo ≤ 3 → I 43 5 = 1) (n2 : 3 < lo → (I 43 5 = 0 ∨ t ≠ 13)) (hme : 64 - k + (8 - o) + 1 < kk) (hz : z0 ≤ z) (how : o ≤ w) : BADR L R L' R' D i I J ((F 99 (J, L', R')).bind fun d4 => (f_X10_puts shA 99 2 (nI (cd s)) d4).bind fun d5 => rc 99 d5) ∨ (∃ i' k' z' r' S' p' t' I' J', LRD L R D i I = LRD L R D i' I' ∧ ((F 99 (J, L', R')).bind fun d4 => (f_X10_puts shA 99 2 (nI (cd s)) d4).bind fun d5 => rc 99 d5) = rc 99 (J', L', R') ∧ OKS n B D i' k' z' (w + (r' + 1)) o (r' + 1) z0 S' p' t' I' J' ∧ I' 43 4 = 0 ∧ (∀ j, j < w + 1 → S' j = S j) ∧ (∀ j, j < r' → lo ≤ rk (S' (w + (r' + 1) - 1 - j))) ∧ NX lo t' S' (w + (r' + 1)) r' ∧ p < p' ∧ k ≤ k' ∧ z ≤ z' ∧ LFC D z I I' ∧ LFM z J J' ∧ (∀ h, HG J' z (z' + r' - z) h (h + 1)) ∧ J' 115 (64 + (z' + r')) = 2 ∧ J' 116 (64 + (z' + r')) = nI (cd s)) := by
  rcases hF i k z (w + 1) o z0 S p t I J hs h4 n1 n2 (fun _ => by rw [Nat.add_sub_cancel, hS]; exact hbd) hme hz with ⟨I', J', b1, b2, b3, b4, b5⟩ | ⟨i', k', z', r', S', p', t', I', J', b1, b2, ⟨a, c1, c2, c3, c4⟩, b4, b5, b6, b7, b8, b9, b10, b11, b12, b13⟩
  · left
    refine ⟨I', J', b1, ?_, b3, b4, b5⟩
    rw [b2, Option.bind_some, m_putsF b5.2.2, Option.bind_some, hrc _ b5.2.2]
  · right
    have a1 := lk_k64 c2; have a2 := lk_o8 c2; have a3 := lk_zw c2; have a4 := lk_ow c2
    have hw : w + (r' + 1) = w + 1 + r' := by omega
    have sw : S' w = s := (b5 w (by omega)).trans hS
    generalize hJ : xu (xu (xu J' 115 (64 + (z' + r')) 2) 116 (64 + (z' + r')) (nI (cd s))) 101 15 (nI (z' + r' + 1)) = J3
    have m99 : J3 99 = J' 99 := by rw [← hJ, xu_off (by omega), xu_off (by omega), xu_off (by omega)]
    have m100 : J3 100 = J' 100 := by rw [← hJ, xu_off (by omega), xu_off (by omega), xu_off (by omega)]
    have m115 : ∀ j, j ≠ 64 + (z' + r') → J3 115 j = J' 115 j := fun j hj => by rw [← hJ, xu_cell (by omega), xu_cell (by omega), xu_at2 hj]
    have m116 : ∀ j, j ≠ 64 + (z' + r') → J3 116 j = J' 116 j := fun j hj => by rw [← hJ, xu_cell (by omega), xu_at2 hj, xu_cell (by omega)]
    have m115z : J3 115 (64 + (z' + r')) = 2 := by rw [← hJ, xu_cell (by omega), xu_cell (by omega), xu_at]
    have m116z : J3 116 (64 + (z' + r')) = nI (cd s) := by rw [← hJ, xu_cell (by omega), xu_at]
    have lf : LFM (z' + r') J' J3 := ⟨fun q q1 q2 q3 q4 => by rw [← hJ, xu_off q2, xu_off q4, xu_off q3], fun j _ => by rw [m99], fun j hj => by rw [← hJ, xu_at2 hj, xu_cell (by omega), xu_cell (by omega)], fun i hi => ⟨m115 i (by omega), m116 i (by omega)⟩⟩
    refine ⟨i', k', z', r', S', p', t', I', J3, b1, ?_, ⟨a, tk_congr c1 (fun _ _ => rfl) rfl rfl (fun j _ _ => by rw [m99]) m100, ?_, by omega, c4⟩, b4, b5, ?_, ?_, b8, b9, b10, b11, lfm_trans b12 lf (by omega), fun h => HG_fr lf (by omega) (b13 h), m115z, m116z⟩
    · rw [b2, Option.bind_some, m_puts hR' (lk_f0 c2) (lk_my c2) (by omega), Option.bind_some, hJ]
    · refine ⟨by rw [m99]; exact lk_f0 c2, by rw [m99]; exact lk_f1 c2, lk_g0 c2, lk_g1 c2, a1, lk_ck c2, by rw [m99]; exact lk_mk c2, lk_cz c2, by rw [← hJ, xu_at]; rfl, by rw [hw]; exact lk_cw c2, lk_co c2, by rw [m99]; exact lk_mo c2, a2, by omega, by omega, fun i hi => lk_st c2 i (by omega), fun i i1 i2 => ?_, fun j hj => ?_⟩
      · have q := lk_km c2 i i1 i2
        unfold KM at q ⊢
        rw [m115 _ (by omega), m116 _ (by omega)]; exact q
      · by_cases c : j = r'
        · subst c
          rw [m115z, m116z, show w + (j + 1) - 1 - j = w by omega, sw]
          exact ⟨rfl, rfl, hs1⟩
        · have q := lk_pn c2 j (by omega)
          rw [m115 _ (by omega), m116 _ (by omega), hw]; exact q
    · intro j hj; rw [hw]; exact b6 j hj
    · rw [hw]; exact b7
theorem sp_loop {P P' : Nat} {L L' : Nat → Nat → Int64} {R R' : Nat → Nat → Option Nat} (hR : ∀ I, RefOK (I, L, R) P) (hR' : ∀ I, RefOK (I, L', R') P') {n : Nat} {B : Nat → Nat} {D kk lo bd lo' bd' : Nat} (hD : isPl D) {op : Nat → Prop} {b : (Nat → xD → Option xD) → Nat → xD → Option xD} {F : Nat → xD → Option xD} (hop : ∀ t, op t → rk t = lo) (ho1 : 1 ≤ lo) (ho6 : lo ≤ 6) (ho3 : lo ≠ 3) (ho4 : lo ≠ 4) (hbl : bd < lo) (hlb : lo ≤ bd') (hll : lo ≤ lo') (hn1 : lo < 3 → lo' ≤ 3) (hn2 : 3 ≤ lo → 3 < lo') (hNX : ∀ t S w r, NX lo' t S w r → ¬ op t → NX lo t S w r) (hb1 : ∀ rc t cv (J : Nat → Nat → Int32), TT t cv (J 99 24) (J 99 25) → J 99 26 = 0 → op t → b rc 99 (J, L', R') = GB (nI (cd t)) F rc (J, L', R')) (hb2 : ∀ rc t cv (J : Nat → Nat → Int32), TT t cv (J 99 24) (J 99 25) → J 99 26 = 0 → ¬ op t → b rc 99 (J, L', R') = some (J, L', R')) (hbz : ∀ rc (J : Nat → Nat → Int32), J 99 26 ≠ 0 → b rc 99 (J, L', R') = some (J, L', R')) (hF : SP L R L' R' n B D kk lo' bd' F) (hFz : FZ L' R' F) : SP L R L' R' n B D kk lo bd (fun q d => (F q d).bind fun d8 => xloop (fun _ _ => none) b xF q d8) := by
  have hz : ∀ G, FZ L' R' (xloop (fun _ _ => none) b (G + 1)) := fun G J hJ => by rw [loop_s]; exact hbz _ J hJ
  have core : ∀ g i k z r w o z0 zs S p t I J G, OKS n B D i k z (w + r) o r z0 S p t I J → I 43 4 = 0 → (∀ j, j < r → lo ≤ rk (S (w + r - 1 - j))) → NX lo' t S (w + r) r → (0 < w → rk (S (w - 1)) ≤ bd) → 64 - k + (8 - o) + 1 < kk → z0 ≤ zs → zs ≤ z → o ≤ w → (∀ h, HG J zs (z + r - zs) h (h + 1)) → n - p < g → g < G → BADR L R L' R' D i I J (xloop (fun _ _ => none) b G 99 (J, L', R')) ∨ (∃ i' k' z' r' S' p' t' I' J', LRD L R D i I = LRD L R D i' I' ∧ xloop (fun _ _ => none) b G 99 (J, L', R') = some (J', L', R') ∧ OKS n B D i' k' z' (w + r') o r' z0 S' p' t' I' J' ∧ I' 43 4 = 0 ∧ (∀ j, j < w → S' j = S j) ∧ (∀ j, j < r' → lo ≤ rk (S' (w + r' - 1 - j))) ∧ NX lo t' S' (w + r') r' ∧ p ≤ p' ∧ k ≤ k' ∧ zs ≤ z' ∧ LFC D zs I I' ∧ LFM zs J J' ∧ ∀ h, HG J' zs (z' + r' - zs) h (h + 1)) := by
    intro g
    induction g with
    | zero => intro i k z r w o z0 zs S p t I J G _ _ _ _ _ _ _ _ _ _ hg _; omega
    | succ g ih =>
      intro i k z r w o z0 zs S p t I J G hs h4 hp hx hw hme hz0 hzs how hh hg hG
      obtain ⟨G, rfl⟩ : ∃ H, G = H + 2 := ⟨G - 2, by omega⟩
      obtain ⟨a, hk, hl, he, hi⟩ := id hs
      have tt := tk_tt hk
      have f0 := lk_f0 hl
      have mk := lk_mk hl
      by_cases c : op t
      · rw [loop_s, hb1 _ t _ J tt f0 c]
        have rt := hop t c
        rcases st_op hR hR' hD hs h4 (by omega) (by omega) (fun j hj => by rw [rt]; exact hp j hj) (fun q => by omega) (fun q => by rw [rt, show w + r - r - 1 = w - 1 by omega]; have := hw (by omega); omega) with ⟨k64, I', q1, q2, q3⟩ | ⟨k64, I2, J2, p2, t2, q1, q2, q3, q4, q5, q6, q7, q8⟩
        · left
          rw [k64] at mk
          exact ⟨I', rfM 2 J, q1, gb_full f0 mk hFz (hz G), q2, lfm_rf lfm_refl, q3⟩
        · rw [show w + r - r = w by omega] at q3
          rw [gb_go f0 mk k64 q2]
          have n1 : lo' ≤ 3 → I2 43 5 = 1 := fun z => by rw [q5, rt, if_pos (by have := hn2; omega)]
          have n2 : 3 < lo' → (I2 43 5 = 0 ∨ t2 ≠ 13) := fun z => Or.inl (by rw [q5, rt, if_neg (by have := hn1; omega)])
          rcases gbs hR hR' hD q3 q4 (s := t) (by rw [if_pos rfl]) (by omega) hF (hz G) (by omega) n1 n2 (by omega) (by omega) how with ⟨I', J', b1, b2, b3, b4, b5⟩ | ⟨i', k', z', r', S', p', t', I', J', b1, b2, b3, b4, b5, b6, b7, b8, b9, b10, b11, b12, b13, b14, b15⟩
          · left
            exact ⟨I', J', q1.trans b1, b2, lfc_trans (lfc_le q7 (Nat.zero_le _)) b3 (Nat.le_refl _), lfm_trans (lfm_le q8 (Nat.zero_le _)) b4 (Nat.le_refl _), b5⟩
          · rw [b2]
            have sS : ∀ j, j < w → S' j = S j := fun j hj => by rw [b5 j (by omega), if_neg (by omega)]
            have sw : S' w = t := by rw [b5 w (by omega), if_pos rfl]
            have ch : ∀ h, HG J' zs (z' + (r' + 1) - zs) h (h + 1) := fun h => by
              have y1 : HG J' zs (z + r - zs) h (h + 1) := HG_fr b12 (by omega) (HG_fr q8 (by omega) (hh h))
              have y2 := b13 (h + 1)
              have ne : ¬ J' 116 (64 + (z' + r')) = 260 := by
                rw [b15]
                exact cd_260 (show 1 ≤ rk t by omega) (show rk t ≠ 3 by omega) (tk_t37 hk)
              have y3 : HG J' (z' + r') 1 (h + 2) (h + 1) := HG_bin b14 ne
              have y4 := HG_app y1 (by rw [show zs + (z + r - zs) = z + r by omega]; exact y2)
              have y5 := HG_app y4 (by rw [show zs + (z + r - zs + (z' + r' - (z + r))) = z' + r' by omega]; exact y3)
              rw [show z + r - zs + (z' + r' - (z + r)) + 1 = z' + (r' + 1) - zs by omega] at y5
              exact y5
            rcases ih i' k' z' (r' + 1) w o z0 zs S' p' t' I' J' (G + 1) b3 b4 (fun j hj => by
                by_cases c2 : j = r'
                · subst c2; rw [show w + (j + 1) - 1 - j = w by omega, sw, rt]; omega
                · have := b6 j (by omega); omega) (nx_r b7 (by omega)) (fun q => by rw [sS (w - 1) (by omega)]; exact hw q) (by omega) hz0 (by omega) how ch (by obtain ⟨a', hk', _⟩ := b3; have := tk_an hk'; have := (tk_pa hk').1; omega) (by omega) with ⟨I3, J3, d1, d2, d3, d4, d5⟩ | ⟨i3, k3, z3, r3, S3, p3, t3, I3, J3, d1, d2, d3, d4, d5, d6, d7, d8, d9, d10, d11, d12, d13⟩
            · left
              exact ⟨I3, J3, (q1.trans b1).trans d1, d2, lfc_trans (lfc_trans (lfc_le q7 (Nat.zero_le _)) (lfc_le b11 (Nat.zero_le _)) (Nat.le_refl _)) d3 (Nat.le_refl _), lfm_trans (lfm_trans (lfm_le q8 (Nat.zero_le _)) (lfm_le b12 (Nat.zero_le _)) (Nat.le_refl _)) d4 (Nat.le_refl _), d5⟩
            · right
              exact ⟨i3, k3, z3, r3, S3, p3, t3, I3, J3, (q1.trans b1).trans d1, d2, d3, d4, fun j hj => (d5 j hj).trans (sS j hj), d6, d7, by omega, by omega, d10, lfc_trans (lfc_trans (lfc_le q7 hzs) (lfc_le b11 (by omega)) (Nat.le_refl _)) d11 (Nat.le_refl _), lfm_trans (lfm_trans (lfm_le q8 (by omega)) (lfm_le b12 (by omega)) (Nat.le_refl _)) d12 (Nat.le_refl _), d13⟩
      · right
        refine ⟨i, k, z, r, S, p, t, I, J, rfl, ?_, hs, h4, fun _ _ => rfl, hp, hNX t S _ _ hx c, Nat.le_refl _, Nat.le_refl _, hzs, lfc_refl, lfm_refl, hh⟩
        rw [loop_s, hb2 _ t _ J tt f0 c]
  intro i k z w o z0 S p t I J hs h4 n1 n2 hw hme hz0
  have how : o ≤ w := by obtain ⟨a, _, hl, _, _⟩ := hs; have := lk_ow hl; omega
  have h700 : n ≤ 700 := by obtain ⟨a, hk, _, _, _⟩ := hs; exact tb_n7 (tk_tb hk)
  rcases hF i k z w o z0 S p t I J hs h4 (fun q => n1 (by omega)) (fun q => n2 (by have := hn1; have := hn2; omega)) (fun q => by have := hw q; omega) hme hz0 with ⟨I', J', b1, b2, b3, b4, b5⟩ | ⟨i', k', z', r', S', p', t', I', J', b1, b2, b3, b4, b5, b6, b7, b8, b9, b10, b11, b12, b13⟩
  · left
    refine ⟨I', J', b1, ?_, b3, b4, b5⟩
    dsimp only
    rw [b2, Option.bind_some, show xF = 999999 + 1 from rfl]
    exact hz _ J' b5.2.2
  · dsimp only
    rw [b2, Option.bind_some]
    rcases core 701 i' k' z' r' w o z0 z S' p' t' I' J' xF b3 b4 (fun j hj => by have := b6 j hj; omega) b7 (fun q => by rw [b5 (w - 1) (by omega)]; exact hw q) (by omega) hz0 b10 how b13 (by omega) (by unfold xF; omega) with ⟨I3, J3, d1, d2, d3, d4, d5⟩ | ⟨i3, k3, z3, r3, S3, p3, t3, I3, J3, d1, d2, d3, d4, d5, d6, d7, d8, d9, d10, d11, d12, d13⟩
    · left
      exact ⟨I3, J3, b1.trans d1, d2, lfc_trans (lfc_le b11 (Nat.zero_le _)) d3 (Nat.le_refl _), lfm_trans (lfm_le b12 (Nat.zero_le _)) d4 (Nat.le_refl _), d5⟩
    · right
      exact ⟨i3, k3, z3, r3, S3, p3, t3, I3, J3, b1.trans d1, d2, d3, d4, fun j hj => (d5 j hj).trans (b5 j hj), d6, d7, by omega, by omega, d10, lfc_trans b11 d11 (Nat.le_refl _), lfm_trans b12 d12 (Nat.le_refl _), d13⟩
