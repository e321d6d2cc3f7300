/-! ===== by hand: fixed ===== -/
noncomputable def fxN (good : Nat → Prop) : Nat → Nat
  | 0 => 0
  | k + 1 => @ite Nat (good k) (Classical.propDecidable _) (fxN good k + 1) (fxN good k)
noncomputable def fxF (good : Nat → Prop) : Nat → Option Nat
  | 0 => none
  | k + 1 => @ite (Option Nat) (good k ∧ fxF good k = none) (Classical.propDecidable _) (some k) (fxF good k)
theorem fxN_y {good : Nat → Prop} {k : Nat} (h : good k) : fxN good (k + 1) = fxN good k + 1 := by rw [fxN, if_pos h]
theorem fxN_n {good : Nat → Prop} {k : Nat} (h : ¬ good k) : fxN good (k + 1) = fxN good k := by rw [fxN, if_neg h]
theorem fxF_y {good : Nat → Prop} {k : Nat} (h : good k) (h1 : fxF good k = none) : fxF good (k + 1) = some k := by rw [fxF, if_pos ⟨h, h1⟩]
theorem fxF_n {good : Nat → Prop} {k : Nat} (h : ¬ (good k ∧ fxF good k = none)) : fxF good (k + 1) = fxF good k := by rw [fxF, if_neg h]
theorem fxN_le {good : Nat → Prop} : ∀ k, fxN good k ≤ k
  | 0 => Nat.le_refl _
  | k + 1 => by
    have := fxN_le (good := good) k
    by_cases c : good k
    · rw [fxN_y c]; omega
    · rw [fxN_n c]; omega
theorem fxF_lt {good : Nat → Prop} : ∀ k q, fxF good k = some q → q < k
  | 0, q, h => by cases h
  | k + 1, q, h => by
    by_cases c : good k ∧ fxF good k = none
    · rw [fxF_y c.1 c.2] at h; have := Option.some.inj h; omega
    · rw [fxF_n c] at h; have := fxF_lt k q h; omega
theorem fxNF {good : Nat → Prop} : ∀ k, fxN good k = 0 ↔ fxF good k = none
  | 0 => ⟨fun _ => rfl, fun _ => rfl⟩
  | k + 1 => by
    have ih := fxNF (good := good) k
    by_cases c : good k
    · rw [fxN_y c]
      refine ⟨fun h => absurd h (by omega), fun h => ?_⟩
      by_cases c2 : fxF good k = none
      · rw [fxF_y c c2] at h; cases h
      · rw [fxF_n (fun z => c2 z.2)] at h; exact absurd h c2
    · rw [fxN_n c, fxF_n (fun z => c z.1)]; exact ih
/-- the boards of a row -/
def fxB (R k r : Nat) : Nat := k / 4 ^ (R - 1 - r) % 4
def fxD (R : Nat) (x : Int32) : Option Nat → Int32
  | none => -5
  | some q => nI (fxB R q x.toNatClampNeg)
theorem fx_bits {R k r : Nat} (h3 : R ≤ 3) (hr : r < R) (hk : k < 64) : ((nI k >>> ((2 * ((nI R - 1) - nI r)) &&& 31)) &&& 3) = nI (fxB R k r) := by
  have g : ∀ j, j < 3 → ((nI k >>> ((2 * nI j) &&& 31)) &&& 3) = nI (k / 4 ^ j % 4) := by
    intro j hj
    rw [pk_shrN (n := k) (by omega) ((2 * nI j) &&& 31) (2 * j) (by rcases (show j = 0 ∨ j = 1 ∨ j = 2 by omega) with rfl | rfl | rfl <;> rfl), pk_andN (n := k / 2 ^ (2 * j)) (by have := Nat.div_le_self k (2 ^ (2 * j)); omega) (m := 3) 2 rfl]
    exact congrArg (fun q => nI (k / q % 4)) (show (2 : Nat) ^ (2 * j) = 4 ^ j by rw [Nat.pow_mul])
  rw [show (nI R - 1) - nI r = nI (R - 1 - r) by rw [show nI R - 1 = nI (R - 1) from pk_sub (b := 1) (by omega), pk_sub (by omega)]]
  exact g _ (by omega)
theorem shl4 {R : Nat} (h : R ≤ 3) : (1 : Int32) <<< ((2 * nI R) &&& 31) = nI (4 ^ R) := by
  rcases (show R = 0 ∨ R = 1 ∨ R = 2 ∨ R = 3 by omega) with rfl | rfl | rfl | rfl <;> rfl
theorem C_fixBoards {R k : Nat} (h1 : 1 ≤ R) (h3 : R ≤ 3) (hk : k < 64) {as : Int32} {sb : Fn} {Q : Int32 → Fn → Prop} (hQ : ∀ sb' : Fn, (∀ r, r < R → sb' r = nI (fxB R k r)) → Q 7 sb') : WX7_fixBoards (nI k) as (nI R) sb Q := by
  have stp : ∀ (n rest i : Nat) (y : Int32) (sb : Fn), i < 3 → rest < 64 → y = nI i + (-1) → WX7_fixBoards_22 (nI R) Q n (nI (rest / 4)) y 7 (upd sb i (nI (rest % 4))) → WX7_fixBoards_22 (nI R) Q (n + 1) (nI rest) (nI i) 7 sb := by
    intro n rest i y sb hi hr hy h
    subst hy
    unfold WX7_fixBoards_22
    refine br_f (nI_pos (by omega)) ?_
    rw [pk_andN (n := rest) (by omega) (m := 3) 2 rfl, pk_shrN (n := rest) (by omega) ((2 : Int32) &&& 31) 2 rfl, nI_clamp (n := i) (by omega)]
    rintro _ rfl
    refine ⟨vp_in_nI hi (by decide), ?_⟩
    rintro _ rfl _ rfl
    exact h
  have fin : ∀ (n : Nat) (x : Int32) (sb : Fn), Q 7 sb → WX7_fixBoards_22 (nI R) Q (n + 1) x (-1) 7 sb := by
    intro n x sb h
    unfold WX7_fixBoards_22
    exact br_t (by decide) h
  unfold WX7_fixBoards
  rintro _ rfl
  rcases (show R = 1 ∨ R = 2 ∨ R = 3 by omega) with rfl | rfl | rfl
  · refine ⟨2, stp 1 k 0 (-1) sb (by decide) hk (by decide) (fin 0 _ _ (hQ _ fun r hr => ?_))⟩
    obtain rfl : r = 0 := by omega
    rw [pk_us]; unfold fxB; rw [Nat.sub_self, Nat.pow_zero, Nat.div_one]
  · refine ⟨3, stp 2 k 1 (nI 0) sb (by decide) hk (by decide) (stp 1 (k / 4) 0 (-1) _ (by decide) (by omega) (by decide) (fin 0 _ _ (hQ _ fun r hr => ?_)))⟩
    rcases (show r = 0 ∨ r = 1 by omega) with rfl | rfl
    · rw [pk_us]; rfl
    · rw [pk_un (by decide), pk_us]
      show nI (k % 4) = nI (k / 4 ^ 0 % 4)
      rw [Nat.pow_zero, Nat.div_one]
  · refine ⟨4, stp 3 k 2 (nI 1) sb (by decide) hk (by decide) (stp 2 (k / 4) 1 (nI 0) _ (by decide) (by omega) (by decide) (stp 1 (k / 4 / 4) 0 (-1) _ (by decide) (by omega) (by decide) (fin 0 _ _ (hQ _ fun r hr => ?_))))⟩
    rcases (show r = 0 ∨ r = 1 ∨ r = 2 by omega) with rfl | rfl | rfl
    · rw [pk_us]
      show nI (k / 4 / 4 % 4) = nI (k / 16 % 4)
      rw [show k / 4 / 4 = k / 16 by omega]
    · rw [pk_un (by decide), pk_us]; rfl
    · rw [pk_un (by decide), pk_un (by decide), pk_us]
      show nI (k % 4) = nI (k / 4 ^ 0 % 4)
      rw [Nat.pow_zero, Nat.div_one]
theorem pow4R {R : Nat} (h : R ≤ 3) : 4 ^ R ≤ 64 := by
  rcases (show R = 0 ∨ R = 1 ∨ R = 2 ∨ R = 3 by omega) with rfl | rfl | rfl | rfl <;> decide
set_option maxHeartbeats 4000000 in
theorem M_fixed {s : Fn} {R : Nat} {good : Nat → Prop} {x ll : Int32} (p1 : s 0 = nI R) (z : 1 ≤ R) (b1 : R ≤ 3) (hx : x = -1 ∨ ∃ j, j < R ∧ x = nI j)
    (hh : ∀ k, k < 64 → ∀ s' : Fn, (∀ q, ¬ (139 ≤ q ∧ q < 142) → s' q = s q) → (∀ r, r < R → s' (139 + r) = nI (fxB R k r)) → (∀ r, R ≤ r → r < 3 → s' (139 + r) = s (139 + r)) → ∀ (Q : Int32 → Int32 → Int32 → Int32 → Int32 → Int32 → Fn → Fn → Fn → Fn → Fn → Prop), (∀ h o d fh fr lv bo wy nx tr, good k → Q 1 h o d fh fr lv bo wy nx tr) → (∀ h o d fh fr lv bo wy nx tr, ¬ good k → Q 0 h o d fh fr lv bo wy nx tr) → ∀ h o d fh fr lv bo wy nx tr, WX11_areHolding h 7 (-1) ll 0 0 o d fh fr s' lv bo wy nx tr Q)
    {Q : Int32 → Int32 → Int32 → Int32 → Int32 → Int32 → Int32 → Fn → Fn → Fn → Fn → Fn → Fn → Fn → Prop} (hQ : ∀ a1 a3 a4 a5 a6 f2 f3 f4 f5 f6 f7, Q (if x = -1 then nI (fxN good (4 ^ R)) else fxD R x (fxF good (4 ^ R))) a1 0 a3 a4 a5 a6 s f2 f3 f4 f5 f6 f7) :
    ∀ h o d fh fr kbo lv bo wy nx tr, WX11_fixed x h 0 (-1) ll 0 0 o d fh fr s kbo lv bo wy nx tr Q := by
  have h64 := pow4R b1
  have f197 : ∀ (x2 x3 h o d fh fr : Int32) (kbo lv bo wy nx tr : Fn), x2 = nI (fxN good (4 ^ R)) → x3 = drI (fxF good (4 ^ R)) → WX11_fixed_197 x (-1) ll 0 0 x2 x3 h 0 o d fh fr s kbo lv bo wy nx tr Q := by
    intro x2 x3 h o d fh fr kbo lv bo wy nx tr h2 h3
    unfold WX11_fixed_197
    have hq := hQ h o d fh fr kbo lv bo wy nx tr
    refine br_c (fun c => ?_) (fun c => ?_)
    · rw [if_pos c, ← h2] at hq; exact hq
    · rw [if_neg c] at hq
      obtain ⟨j, hj, ex⟩ := hx.resolve_left c
      cases hF : fxF good (4 ^ R) with
      | none =>
        rw [hF] at hq h3
        exact br_t h3 hq
      | some q =>
        rw [hF] at hq h3
        have hq64 := fxF_lt _ _ hF
        have e3 : x3 = nI q := h3
        refine br_f (by rw [e3]; have := nI_pos (n := q) (by omega); grind) ?_
        have e : fxD R x (some q) = nI (fxB R q j) := by
          rw [ex]; show nI (fxB R q (nI j).toNatClampNeg) = _; rw [nI_clamp (by omega)]
        rw [e] at hq
        rw [show s (0 : Int32).toNatClampNeg = nI R from p1, e3, ex, fx_bits b1 hj (by omega)]
        exact hq
  have f167 : ∀ (n r : Nat) (s' : Fn) (x2 x3 h o d fh fr : Int32) (kbo lv bo wy nx tr : Fn), r ≤ 3 → 3 < n + r → (∀ q, ¬ (139 ≤ q ∧ q < 142) → s' q = s q) → (∀ j, j < r → s' (139 + j) = s (139 + j)) → (∀ j, j < 3 → kbo j = s (139 + j)) → x2 = nI (fxN good (4 ^ R)) → x3 = drI (fxF good (4 ^ R)) → WX11_fixed_167 x (-1) ll 0 0 Q n x2 x3 (nI r) h 0 o d fh fr s' kbo lv bo wy nx tr := by
    intro n
    induction n with
    | zero => intro r s' x2 x3 h o d fh fr kbo lv bo wy nx tr h1 h2; omega
    | succ n ih =>
      intro r s' x2 x3 h o d fh fr kbo lv bo wy nx tr h1 h2 hA hB hkb e2 e3
      unfold WX11_fixed_167
      by_cases c3 : 3 ≤ r
      · refine br_t (nI_le (a := 3) c3 (by omega)) ?_
        have es : s' = s := by
          funext q
          by_cases c : 139 ≤ q ∧ q < 142
          · have := hB (q - 139) (by omega)
            rwa [show 139 + (q - 139) = q by omega] at this
          · exact hA q c
        rw [es]
        exact f197 _ _ _ _ _ _ _ _ _ _ _ _ _ e2 e3
      · refine br_f (nI_ge (b := 3) (by omega) (by decide)) ⟨vp_in_nI (by omega) (by decide), ?_⟩
        rintro _ rfl
        rw [show (139 : Int32) + nI r = nI (139 + r) by rw [← nI_add]; rfl, nI_clamp (n := 139 + r) (by omega), nI_clamp (n := r) (by omega), nI_1]
        refine ⟨vp_in_nI (by omega) (by decide), ?_⟩
        rintro _ rfl
        refine ih (r + 1) _ _ _ _ _ _ _ _ _ _ _ _ _ _ (by omega) (by omega) (fun q hq => ?_) (fun j hj => ?_) hkb e2 e3
        · rw [pk_un (by omega)]; exact hA q hq
        · by_cases cj : j = r
          · subst cj; rw [pk_us]; exact hkb j (by omega)
          · rw [pk_un (by omega)]; exact hB j (by omega)
  have f68 : ∀ (n k : Nat) (s' : Fn) (x2 x3 h o d fh fr : Int32) (kbo lv bo wy nx tr : Fn), k ≤ 4 ^ R → 4 ^ R < n + k → (∀ q, ¬ (139 ≤ q ∧ q < 142) → s' q = s q) → (∀ j, R ≤ j → j < 3 → s' (139 + j) = s (139 + j)) → (∀ j, j < 3 → kbo j = s (139 + j)) → x2 = nI (fxN good k) → x3 = drI (fxF good k) → WX11_fixed_68 x (-1) ll 0 0 Q n x2 x3 (nI k) h 7 o d fh fr s' kbo lv bo wy nx tr := by
    intro n
    induction n with
    | zero => intro k s' x2 x3 h o d fh fr kbo lv bo wy nx tr h1 h2; omega
    | succ n ih =>
      intro k s' x2 x3 h o d fh fr kbo lv bo wy nx tr hk4 hn hA hB hkb e2 e3
      unfold WX11_fixed_68
      rw [show s' (0 : Int32).toNatClampNeg = nI R from (hA 0 (by omega)).trans p1, shl4 b1]
      by_cases ck : 4 ^ R ≤ k
      · have e : k = 4 ^ R := by omega
        refine br_t (nI_le ck (by omega)) ?_
        rw [e] at e2 e3
        unfold WX11_fixed_159
        exact ⟨4, f167 4 0 _ _ _ _ _ _ _ _ _ _ _ _ _ _ (by decide) (by decide) hA (fun j h => absurd h (Nat.not_lt_zero j)) hkb e2 e3⟩
      · refine br_f (nI_ge (by omega) (by omega)) ?_
        have hk7 : k < 64 := by omega
        suffices g : ∀ (m r : Nat) (s' : Fn), r ≤ R → R < m + r → (∀ q, ¬ (139 ≤ q ∧ q < 142) → s' q = s q) → (∀ j, R ≤ j → j < 3 → s' (139 + j) = s (139 + j)) → (∀ j, j < r → s' (139 + j) = nI (fxB R k j)) → WX11_fixed_86 x (-1) ll 0 0 Q (WX11_fixed_68 x (-1) ll 0 0 Q n) m x2 x3 (nI k) (nI r) h 7 o d fh fr s' kbo lv bo wy nx tr from ⟨5, g 5 0 s' (by omega) (by omega) hA hB (fun j h => absurd h (Nat.not_lt_zero j))⟩
        intro m
        induction m with
        | zero => intro r s' h1 h2; omega
        | succ m ih2 =>
          intro r s' hr hm hA hB hC
          unfold WX11_fixed_86
          rw [show s' (0 : Int32).toNatClampNeg = nI R from (hA 0 (by omega)).trans p1]
          by_cases cr : R ≤ r
          · refine br_t (nI_le cr (by omega)) ?_
            unfold WX11_fixed_132
            have f153 : ∀ (x2 x3 h o d fh fr : Int32) (lv bo wy nx tr : Fn), x2 = nI (fxN good (k + 1)) → x3 = drI (fxF good (k + 1)) → WX11_fixed_153 x (-1) ll 0 0 x2 x3 (nI k) h 7 o d fh fr s' kbo lv bo wy nx tr Q (WX11_fixed_68 x (-1) ll 0 0 Q n) := by
              intro x2 x3 h o d fh fr lv bo wy nx tr e2 e3
              unfold WX11_fixed_153
              rintro _ rfl
              rw [nI_1]
              exact ih (k + 1) _ _ _ _ _ _ _ _ _ _ _ _ _ _ (by omega) (by omega) hA hB hkb e2 e3
            refine hh k hk7 s' hA (fun j hj => hC j (by omega)) hB _ (fun h o d fh fr lv bo wy nx tr hg => br_f (by decide) ?_) (fun h o d fh fr lv bo wy nx tr hg => br_t rfl (f153 _ _ _ _ _ _ _ _ _ _ _ _ ?_ ?_)) _ _ _ _ _ _ _ _ _ _
            · have hN := fxNF (good := good) k
              cases hF : fxF good k with
              | none =>
                have h0 : fxN good k = 0 := hN.mpr hF
                refine br_t (by rw [e2, h0]; rfl) ?_
                unfold WX11_fixed_149
                rintro _ rfl
                refine f153 _ _ _ _ _ _ _ _ _ _ _ _ ?_ ?_
                · rw [e2, nI_1, fxN_y hg]
                · rw [fxF_y hg hF]; rfl
              | some q =>
                have h0 : fxN good k ≠ 0 := fun z => by rw [hN.mp z] at hF; cases hF
                have hle := fxN_le (good := good) k
                refine br_f (by rw [e2]; exact nI_ne0 (by omega) (by omega)) ?_
                unfold WX11_fixed_149
                rintro _ rfl
                refine f153 _ _ _ _ _ _ _ _ _ _ _ _ ?_ ?_
                · rw [e2, nI_1, fxN_y hg]
                · rw [fxF_n (fun zz => by rw [zz.2] at hF; cases hF)]; exact e3
            · rw [fxN_n hg]; exact e2
            · rw [fxF_n (fun zz => hg zz.1)]; exact e3
          · refine br_f (nI_ge (by omega) (by omega)) ?_
            rw [fx_bits (R := R) (k := k) (r := r) b1 (by omega) hk7]
            rintro _ rfl
            rw [show (139 : Int32) + nI r = nI (139 + r) by rw [← nI_add]; rfl, nI_clamp (n := 139 + r) (by omega), nI_1]
            refine ⟨vp_in_nI (by omega) (by decide), ?_⟩
            rintro _ rfl
            refine ih2 (r + 1) _ (by omega) (by omega) (fun q hq => ?_) (fun j h1 h2 => ?_) (fun j hj => ?_)
            · rw [pk_un (by omega)]; exact hA q hq
            · rw [pk_un (by omega)]; exact hB j h1 h2
            · by_cases cj : j = r
              · subst cj; rw [pk_us]
              · rw [pk_un (by omega)]; exact hC j (by omega)
  have f15 : ∀ (h o d fh fr : Int32) (kbo lv bo wy nx tr : Fn), WX11_fixed_15 x (-1) ll 0 0 h 0 o d fh fr s kbo lv bo wy nx tr Q := by
    intro h o d fh fr kbo lv bo wy nx tr
    unfold WX11_fixed_15
    refine M_isRiver p1 b1 (fun z2 => absurd z2 (by omega)) (fun _ => br_f (by decide) ?_)
    suffices g : ∀ (n r : Nat) (kbo : Fn), r ≤ 3 → 3 < n + r → (∀ j, j < r → kbo j = s (139 + j)) → WX11_fixed_27 x (-1) ll 0 0 Q n (nI r) h 0 o d fh fr s kbo lv bo wy nx tr from ⟨4, g 4 0 kbo (by decide) (by decide) (fun j h => absurd h (Nat.not_lt_zero j))⟩
    intro n
    induction n with
    | zero => intro r kbo h1 h2; omega
    | succ n ih =>
      intro r kbo h1 h2 hkb
      unfold WX11_fixed_27
      by_cases c3 : 3 ≤ r
      · refine br_t (nI_le (a := 3) c3 (by omega)) ?_
        unfold WX11_fixed_54
        exact ⟨65, f68 65 0 s _ _ _ _ _ _ _ kbo _ _ _ _ _ (Nat.zero_le _) (by omega) (fun q _ => rfl) (fun j _ _ => rfl) (fun j hj => hkb j (by omega)) rfl rfl⟩
      · refine br_f (nI_ge (b := 3) (by omega) (by decide)) ?_
        rw [show (139 : Int32) + nI r = nI (139 + r) by rw [← nI_add]; rfl, nI_clamp (n := 139 + r) (by omega), nI_clamp (n := r) (by omega), nI_1]
        refine ⟨vp_in_nI (by omega) (by decide), ?_⟩
        rintro _ rfl
        refine ⟨vp_in_nI (by omega) (by decide), ?_⟩
        rintro _ rfl
        refine ih (r + 1) _ (by omega) (by omega) (fun j hj => ?_)
        by_cases cj : j = r
        · subst cj; rw [pk_us]
        · rw [pk_un cj]; exact hkb j (by omega)
  intro h o d fh fr kbo lv bo wy nx tr
  unfold WX11_fixed
  rcases hx with e | ⟨j, hj, e⟩
  · exact br_t e (f15 _ _ _ _ _ _ _ _ _ _ _)
  · exact br_f (by rw [e]; have := nI_pos (n := j) (by omega); grind) (M_isReach p1 b1 (fun c => (no_reach (by omega) hj e c).elim) (fun _ _ _ => br_f (by decide) (f15 _ _ _ _ _ _ _ _ _ _ _)))
set_option maxHeartbeats 4000000 in
theorem C_fixed {x : Int32} {R P S H C : Nat} {I : Nat → Int32} {F : Nat → Fn} {G : Nat → Nat → Option Nat} {ce : Nat → CT} {cin : Nat → Prop} {good : Nat → Prop} (z : 1 ≤ R) (b1 : R ≤ 3) (hx : x = -1 ∨ ∃ j, j < R ∧ x = nI j) {tb tm th tl to tw sl sw : Fn} {tc : Nat → Option Nat}
    (hh : ∀ k, k < 64 → ∀ sb : Fn, (∀ r, r < R → sb r = nI (fxB R k r)) → ∀ (Q : Int32 → Int32 → Int32 → Int32 → Int32 → Int32 → Int32 → Int32 → Fn → Fn → Fn → Fn → Int32 → Int32 → Fn → Fn → Fn → Fn → Int32 → Int32 → Fn → Fn → Fn → Fn → Prop), (∀ fh nh rb s1 s2 s3 s4 b p l w nh2 rb2 bb2 pp2 ll2 ww2 nh3 rb3 bb3 pp3 ll3 ww3, good k → Q 1 fh nh rb s1 s2 s3 s4 b p l w nh2 rb2 bb2 pp2 ll2 ww2 nh3 rb3 bb3 pp3 ll3 ww3) → (∀ fh nh rb s1 s2 s3 s4 b p l w nh2 rb2 bb2 pp2 ll2 ww2 nh3 rb3 bb3 pp3 ll3 ww3, ¬ good k → Q 0 fh nh rb s1 s2 s3 s4 b p l w nh2 rb2 bb2 pp2 ll2 ww2 nh3 rb3 bb3 pp3 ll3 ww3) → ∀ fh nh rb s1 s2 s3 s4 b p l w nh2 rb2 bb2 pp2 ll2 ww2 nh3 rb3 bb3 pp3 ll3 ww3, WX7_isSafe 7 0 fh (nI R) (nI P) (nI S) (nI H) nh rb s1 s2 s3 s4 sb tc sl b p sw tb l w nh2 rb2 bb2 pp2 ll2 ww2 nh3 rb3 bb3 pp3 ll3 ww3 ce cin Q)
    {Q : Int32 → Int32 → Int32 → Int32 → Int32 → Int32 → Int32 → Int32 → Fn → Fn → Fn → Int32 → Fn → Fn → Fn → Int32 → Fn → Fn → Fn → (Nat → Option Nat) → Int32 → Int32 → Int32 → Int32 → Int32 → Int32 → Fn → Fn → Fn → Fn → Int32 → Int32 → Fn → Fn → Fn → Fn → Int32 → Int32 → Fn → Fn → Fn → Fn → Prop} (hQ : ∀ as sb fh nh rb s1 s2 s3 s4 b p l w nh2 rb2 bb2 pp2 ll2 ww2 nh3 rb3 bb3 pp3 ll3 ww3, Q (if x = -1 then nI (fxN good (4 ^ R)) else fxD R x (fxF good (4 ^ R))) as 0 fh (nI R) (nI P) (nI S) (I 7) tb tm th (nI H) tl to tw (nI H) sl sb sw tc nh rb s1 s2 s3 s4 b p l w nh2 rb2 bb2 pp2 ll2 ww2 nh3 rb3 bb3 pp3 ll3 ww3) :
    ∀ sb fh nh rb s1 s2 s3 s4 b p l w nh2 rb2 bb2 pp2 ll2 ww2 nh3 rb3 bb3 pp3 ll3 ww3, ∃ n, WX10_fixed_44 x (nI C) (nI R) (nI P) (nI S) (I 7) (F 1) (F 2) (F 3) (nI H) (F 4) (F 5) (F 6) (G 0) ce cin Q n 0 (-5) 0 0 0 fh (nI R) (nI P) (nI S) (I 7) tb tm th (nI H) tl to tw (nI H) sl sb sw tc nh rb s1 s2 s3 s4 b p l w nh2 rb2 bb2 pp2 ll2 ww2 nh3 rb3 bb3 pp3 ll3 ww3 := by
  intro sb fh nh rb s1 s2 s3 s4 b p l w nh2 rb2 bb2 pp2 ll2 ww2 nh3 rb3 bb3 pp3 ll3 ww3
  have h64 := pow4R b1
  suffices g : ∀ (n k : Nat) (x2 x3 as : Int32) (sb : Fn) (fh nh rb s1 s2 s3 s4 : Int32) (b p l w : Fn) (nh2 rb2 : Int32) (bb2 pp2 ll2 ww2 : Fn) (nh3 rb3 : Int32) (bb3 pp3 ll3 ww3 : Fn), k ≤ 4 ^ R → 4 ^ R < n + k → x2 = nI (fxN good k) → x3 = (if x = -1 then -5 else fxD R x (fxF good k)) → WX10_fixed_44 x (nI C) (nI R) (nI P) (nI S) (I 7) (F 1) (F 2) (F 3) (nI H) (F 4) (F 5) (F 6) (G 0) ce cin Q n x2 x3 (nI k) as 0 fh (nI R) (nI P) (nI S) (I 7) tb tm th (nI H) tl to tw (nI H) sl sb sw tc nh rb s1 s2 s3 s4 b p l w nh2 rb2 bb2 pp2 ll2 ww2 nh3 rb3 bb3 pp3 ll3 ww3 from
    ⟨65, g 65 0 _ _ _ _ _ _ _ _ _ _ _ _ _ _ _ _ _ _ _ _ _ _ _ _ _ _ _ (Nat.zero_le _) (by omega) rfl (by split <;> rfl)⟩
  intro n
  induction n with
  | zero => intro k x2 x3 as sb fh nh rb s1 s2 s3 s4 b p l w nh2 rb2 bb2 pp2 ll2 ww2 nh3 rb3 bb3 pp3 ll3 ww3 h1 h2; omega
  | succ n ih =>
    intro k x2 x3 as sb fh nh rb s1 s2 s3 s4 b p l w nh2 rb2 bb2 pp2 ll2 ww2 nh3 rb3 bb3 pp3 ll3 ww3 hk4 hn e2 e3
    unfold WX10_fixed_44
    rw [shl4 b1]
    by_cases ck : 4 ^ R ≤ k
    · have e : k = 4 ^ R := by omega
      refine br_t (nI_le ck (by omega)) ?_
      rw [e] at e2 e3
      unfold WX10_fixed_115
      have hq := hQ as sb fh nh rb s1 s2 s3 s4 b p l w nh2 rb2 bb2 pp2 ll2 ww2 nh3 rb3 bb3 pp3 ll3 ww3
      refine br_c (fun c => ?_) (fun c => ?_)
      · rw [if_pos c, ← e2] at hq; exact hq
      · rw [if_neg c] at hq e3
        rw [e3]; exact hq
    · have hk7 : k < 64 := by omega
      refine br_f (nI_ge (by omega) (by omega)) (C_fixBoards z b1 hk7 (fun sb' hsb => ?_))
      have f109 : ∀ (x2 x3 : Int32) (fh nh rb s1 s2 s3 s4 : Int32) (b p l w : Fn) (nh2 rb2 : Int32) (bb2 pp2 ll2 ww2 : Fn) (nh3 rb3 : Int32) (bb3 pp3 ll3 ww3 : Fn), x2 = nI (fxN good (k + 1)) → x3 = (if x = -1 then -5 else fxD R x (fxF good (k + 1))) → WX10_fixed_109 x (nI C) (nI R) (nI P) (nI S) (I 7) (F 1) (F 2) (F 3) (nI H) (F 4) (F 5) (F 6) (G 0) ce cin x2 x3 (nI k) 7 0 fh (nI R) (nI P) (nI S) (I 7) tb tm th (nI H) tl to tw (nI H) sl sb' sw tc nh rb s1 s2 s3 s4 b p l w nh2 rb2 bb2 pp2 ll2 ww2 nh3 rb3 bb3 pp3 ll3 ww3 Q (WX10_fixed_44 x (nI C) (nI R) (nI P) (nI S) (I 7) (F 1) (F 2) (F 3) (nI H) (F 4) (F 5) (F 6) (G 0) ce cin Q n) := by
        intro x2 x3 fh nh rb s1 s2 s3 s4 b p l w nh2 rb2 bb2 pp2 ll2 ww2 nh3 rb3 bb3 pp3 ll3 ww3 e2 e3
        unfold WX10_fixed_109
        rintro _ rfl
        rw [nI_1]
        exact ih (k + 1) _ _ _ _ _ _ _ _ _ _ _ _ _ _ _ _ _ _ _ _ _ _ _ _ _ _ _ (by omega) (by omega) e2 e3
      refine hh k hk7 sb' hsb _ (fun fh nh rb s1 s2 s3 s4 b p l w nh2 rb2 bb2 pp2 ll2 ww2 nh3 rb3 bb3 pp3 ll3 ww3 hg => br_f (by decide) ?_) (fun fh nh rb s1 s2 s3 s4 b p l w nh2 rb2 bb2 pp2 ll2 ww2 nh3 rb3 bb3 pp3 ll3 ww3 hg => br_t rfl (f109 _ _ _ _ _ _ _ _ _ _ _ _ _ _ _ _ _ _ _ _ _ _ _ _ _ ?_ ?_)) _ _ _ _ _ _ _ _ _ _ _ _ _ _ _ _ _ _ _ _ _ _ _
      · have f106 : ∀ (x3 : Int32), x3 = (if x = -1 then -5 else fxD R x (fxF good (k + 1))) → WX10_fixed_106 x (nI C) (nI R) (nI P) (nI S) (I 7) (F 1) (F 2) (F 3) (nI H) (F 4) (F 5) (F 6) (G 0) ce cin x2 x3 (nI k) 7 0 fh (nI R) (nI P) (nI S) (I 7) tb tm th (nI H) tl to tw (nI H) sl sb' sw tc nh rb s1 s2 s3 s4 b p l w nh2 rb2 bb2 pp2 ll2 ww2 nh3 rb3 bb3 pp3 ll3 ww3 Q (WX10_fixed_44 x (nI C) (nI R) (nI P) (nI S) (I 7) (F 1) (F 2) (F 3) (nI H) (F 4) (F 5) (F 6) (G 0) ce cin Q n) := by
          intro x3 e3
          unfold WX10_fixed_106
          rintro _ rfl
          exact f109 _ _ _ _ _ _ _ _ _ _ _ _ _ _ _ _ _ _ _ _ _ _ _ _ _ (by rw [e2, nI_1, fxN_y hg]) e3
        have hN := fxNF (good := good) k
        cases hF : fxF good k with
        | none =>
          have h0 : fxN good k = 0 := hN.mpr hF
          refine br_t (by rw [e2, h0]; rfl) ?_
          rcases hx with e | ⟨j, hj, e⟩
          · refine br_t (by rw [e]; decide) (f106 _ ?_)
            rw [if_pos e] at e3 ⊢; exact e3
          · have n1 : ¬ x = -1 := by rw [e]; have := nI_pos (n := j) (by omega); grind
            refine br_f (by rw [e]; exact nI_pos (by omega)) ⟨by rw [e]; exact vp_in_nI (by omega) (by decide), ?_⟩
            rintro _ rfl
            refine f106 _ ?_
            rw [if_neg n1, fxF_y hg hF]
            show _ = nI (fxB R k x.toNatClampNeg)
            rw [e, nI_clamp (by omega)]
            exact hsb j hj
        | some q =>
          have h0 : fxN good k ≠ 0 := fun z => by rw [hN.mp z] at hF; cases hF
          have hle := fxN_le (good := good) k
          refine br_f (by rw [e2]; exact nI_ne0 (by omega) (by omega)) (f106 _ ?_)
          rw [fxF_n (fun zz => by rw [zz.2] at hF; cases hF)]; exact e3
      · rw [fxN_n hg]; exact e2
      · rw [fxF_n (fun zz => hg zz.1)]; exact e3
theorem MWr_frame {ρ : RV} {s s' : Fn} {st lc ll mu hi : Int32} (hR : rR ρ ≤ 3) (h : ∀ q, ¬ (139 ≤ q ∧ q < 142) → s' q = s q) (hw : MWr ρ s st lc ll mu hi) : MWr ρ s' st lc ll mu hi := by
  obtain ⟨a1, a2, a3⟩ := hw
  refine ⟨(h 0 (by omega)).trans a1, a2, fun r hr => ?_⟩
  obtain ⟨b1, b2, b3⟩ := a3 r hr
  rw [h (133 + r) (by omega), h (136 + r) (by omega), h (145 + r) (by omega)]
  refine ⟨b1, b2, ?_⟩
  rcases b3 with c | ⟨c, v, k1, k2, k3, k4, k5⟩
  · exact Or.inl c
  · exact Or.inr ⟨c, v, k1, k2, k3, picM_frame k3 k5.1 (fun k h1 h2 => h k (by omega)) k4, k5⟩
/-- where a row of boards starts -/
def stB (s : Fn) (H R k : Nat) : St := (fun r => s (130 + r), fun r => if r < R then nI (fxB R k r) else s (139 + r), fun r => s (142 + r), H)
set_option maxHeartbeats 4000000 in
theorem S_c14 {L : Nat} {xs : Fn} {x3 : Int32} {I F G ce cin} {K : KT} (hi : INV I F G ce cin) (v1 : vp_in (x3 + 1) L) (hK : ∀ I F G ce cin, INV I F G ce cin → K I F G ce cin) : WL_c14 L xs x3 I F G ce cin K := by
  obtain ⟨R, P, S, O, H, C, N, V, ad, ⟨q1, q2, q3, q4, q5, q6, q7⟩, ⟨p1, p2, p3, p4, p5, p6, p7⟩, ⟨b1, b2, b3, b4, b5, b6, b7, b8⟩, hR, hZ, hN, hV, hH⟩ := NOW hi.1
  obtain ⟨m1, m2, m3, m4⟩ := hi.2.2.1
  unfold WL_c14 WX10_fixed
  generalize xs (x3 + 1).toNatClampNeg = x
  rw [q1, q2, q3, q5, q6]
  refine ⟨v1, ?_⟩
  have hT : ∀ r, r < R → F 3 r = -1 ∨ ∃ c, c < C ∧ F 3 r = nI c := fun r hr => by rw [(hR r hr).1.2.2.2.2.2]; exact (hR r hr).2.2.2.2
  have hok : 1 ≤ R → okR (rvM (F 55) R 7 0 false (fun r => F 55 (145 + r)) V) := fun z => rvM_ok z b1 b7 (fun r hr => (hR r hr).2.2.1) (by decide) hH
  have hσ : ∀ k, okS (rvM (F 55) R 7 0 false (fun r => F 55 (145 + r)) V) (stB (F 55) H R k) 900 := fun k => by
    refine ⟨by show H < 900; omega, fun r hr => ?_⟩
    obtain ⟨-, h1, h2, h3, -⟩ := hR r hr
    replace hr : r < R := hr
    show (0 ≤ F 55 (130 + r) ∧ F 55 (130 + r) ≤ 9) ∧ 0 ≤ (if r < R then nI (fxB R k r) else F 55 (139 + r)) ∧ (if r < R then nI (fxB R k r) else F 55 (139 + r)) ≤ 3
    rw [if_pos hr]
    have h4 : fxB R k r < 4 := Nat.mod_lt _ (by decide)
    exact ⟨⟨h1.1, by grind⟩, nI_pos' (by omega), nI_le (b := 3) (by omega) (by decide)⟩
  have hM : MWr (rvM (F 55) R 7 0 false (fun r => F 55 (145 + r)) V) (F 55) 7 (-1) (I 69) 0 0 := MWr_of p1 b1 b7 ⟨fun _ => rfl, fun _ => rfl⟩ hH (fun c hc => ⟨(hV c hc).2.2.1, left0 (by omega) (hV c hc).2.2.2.2.1⟩)
  obtain ⟨good, eg⟩ : ∃ good : Nat → Prop, good = fun k => Safe (rvM (F 55) R 7 0 false (fun r => F 55 (145 + r)) V) P (stB (F 55) H R k) S := ⟨_, rfl⟩
  -- the program
  have f15 : ∀ (as si fh r' p' s' o' : Int32) (tb tm th : Fn) (h' : Int32) (tl to tw : Fn) (h'' : Int32) (sl sb sw : Fn) (tc : Nat → Option Nat) (nh rb s1 s2 s3 s4 : Int32) (b p l w : Fn) (nh2 rb2 : Int32) (bb2 pp2 ll2 ww2 : Fn) (nh3 rb3 : Int32) (bb3 pp3 ll3 ww3 : Fn) (Q : Int32 → Int32 → Int32 → Int32 → Int32 → Int32 → Int32 → Int32 → Fn → Fn → Fn → Int32 → Fn → Fn → Fn → Int32 → Fn → Fn → Fn → (Nat → Option Nat) → Int32 → Int32 → Int32 → Int32 → Int32 → Int32 → Fn → Fn → Fn → Fn → Int32 → Int32 → Fn → Fn → Fn → Fn → Int32 → Int32 → Fn → Fn → Fn → Fn → Prop), (x = -1 ∨ ∃ j, j < R ∧ x = nI j) → (R = 0 → Q (-3) as si fh r' p' s' o' tb tm th h' tl to tw h'' sl sb sw tc nh rb s1 s2 s3 s4 b p l w nh2 rb2 bb2 pp2 ll2 ww2 nh3 rb3 bb3 pp3 ll3 ww3) → (1 ≤ R → ∀ as tb tm th tl to tw sl sb sw tc fh nh rb s1 s2 s3 s4 b p l w nh2 rb2 bb2 pp2 ll2 ww2 nh3 rb3 bb3 pp3 ll3 ww3, Q (if x = -1 then nI (fxN good (4 ^ R)) else fxD R x (fxF good (4 ^ R))) as 0 fh (nI R) (nI P) (nI S) (I 7) tb tm th (nI H) tl to tw (nI H) sl sb sw tc nh rb s1 s2 s3 s4 b p l w nh2 rb2 bb2 pp2 ll2 ww2 nh3 rb3 bb3 pp3 ll3 ww3) → WX10_fixed_15 x (nI C) (nI R) (nI P) (nI S) (I 7) (F 1) (F 2) (F 3) (nI H) (F 4) (F 5) (F 6) (G 0) ce cin as si fh r' p' s' o' tb tm th h' tl to tw h'' sl sb sw tc nh rb s1 s2 s3 s4 b p l w nh2 rb2 bb2 pp2 ll2 ww2 nh3 rb3 bb3 pp3 ll3 ww3 Q := by
    intro as si fh r' p' s' o' tb tm th h' tl to tw h'' sl sb sw tc nh rb s1 s2 s3 s4 b p l w nh2 rb2 bb2 pp2 ll2 ww2 nh3 rb3 bb3 pp3 ll3 ww3 Q hx h0 h1
    unfold WX10_fixed_15
    refine C_isRiver b1 (fun z => br_t rfl (h0 z)) (fun z => br_f (by decide) ?_)
    refine C_begin b1 b7 hT (fun c hc => ⟨ad c, (hV c hc).1, (hV c hc).2.1⟩) (fun tb tm th tl to tw sl sb sw tc g1 g2 g3 g4 => ?_) _ _ _ _ _ _ _ _ _ _ _ _ _ _ _ _ _ _
    refine C_fixed (P := P) (S := S) (good := good) z b1 hx (fun k hk sb hsb Q hq1 hq0 fh nh rb s1 s2 s3 s4 b p l w nh2 rb2 bb2 pp2 ll2 ww2 nh3 rb3 bb3 pp3 ll3 ww3 => ?_) (fun as sb fh nh rb s1 s2 s3 s4 b p l w nh2 rb2 bb2 pp2 ll2 ww2 nh3 rb3 bb3 pp3 ll3 ww3 => h1 z _ _ _ _ _ _ _ _ _ _ _ _ _ _ _ _ _ _ _ _ _ _ _ _ _ _ _ _ _ _ _ _ _ _) _ _ _ _ _ _ _ _ _ _ _ _ _ _ _ _ _ _ _ _ _ _ _ _
    exact C_isSafe (rvM (F 55) R 7 0 false (fun r => F 55 (145 + r)) V) (hok z) ⟨fun _ => rfl, fun _ => rfl⟩ (fun r hr => by
      replace hr : r < R := hr
      rw [(g1 r (by omega)).1, (hR r hr).1.2.1, rB_0 (hR r hr).2.2.1.2]) (CKr_of b1 b7 hH (fun r hr => by
      obtain ⟨k1, k2⟩ := g3 r hr
      have e := (hR r hr).1.2.2.2.2.2
      exact ⟨fun h => k1 (e.trans h), fun c hc h => ⟨ad c, (k2 c hc (e.trans h)).trans (hV c hc).1, (hV c hc).2.1, (hV c hc).2.2.2.2.2.1⟩⟩)) (stB (F 55) H R k) P S (hσ k) (b3 z) b2 (by omega) (fun r hr => (g2 r (Nat.lt_of_lt_of_le hr b1)).1.trans (hR r hr).1.1) (fun r hr => (hsb r hr).trans (if_pos hr).symm) (fun r hr => (g2 r (Nat.lt_of_lt_of_le hr b1)).2.2.trans (hR r hr).1.2.2.2.2.1) (fun r fh nh rb s1 s2 s3 s4 b p l w nh2 rb2 bb2 pp2 ll2 ww2 nh3 rb3 bb3 pp3 ll3 ww3 hsr => by
        subst eg
        rcases hsr with ⟨rfl, -, hs⟩ | ⟨rfl, n, row, hf, -⟩
        · exact hq1 _ _ _ _ _ _ _ _ _ _ _ _ _ _ _ _ _ _ _ _ _ _ _ hs
        · exact hq0 _ _ _ _ _ _ _ _ _ _ _ _ _ _ _ _ _ _ _ _ _ _ _ (fun hs => Fst_safe hf hs)) _ _ _ _ _ _ _ _ _ _ _ _ _ _ _ _ _ _ _ _ _ _ _
  -- the model
  have mo : 1 ≤ R → (x = -1 ∨ ∃ j, j < R ∧ x = nI j) → ∀ (Q : Int32 → Int32 → Int32 → Int32 → Int32 → Int32 → Int32 → Fn → Fn → Fn → Fn → Fn → Fn → Fn → Prop), (∀ a1 a3 a4 a5 a6 f2 f3 f4 f5 f6 f7, Q (if x = -1 then nI (fxN good (4 ^ R)) else fxD R x (fxF good (4 ^ R))) a1 0 a3 a4 a5 a6 (F 55) f2 f3 f4 f5 f6 f7) → WX11_fixed x (I 66) 0 (-1) (I 69) 0 0 (I 72) (I 73) (I 74) (I 75) (F 55) (F 65) (F 60) (F 61) (F 62) (F 63) (F 64) Q := by
    intro z hx Q hQ
    refine M_fixed (good := good) p1 z b1 hx (fun k hk s' hA hB hC Q hq1 hq0 h o d fh fr lv bo wy nx tr => ?_) hQ _ _ _ _ _ _ _ _ _ _ _
    refine M_hold (MWr_frame b1 hA hM) (hok z) (hσ k) ⟨(hA 4 (by decide)).trans p5, fun r hr => ⟨hA _ (by omega), ?_, hA _ (by omega)⟩⟩ ((hA 2 (by decide)).trans p3) (by omega) ((hA 1 (by decide)).trans p2) b2 (fun r' a1 a2 a3 a4 a5 f1 f2 f3 f4 f5 hr' => by
      subst eg
      rcases hr' with ⟨rfl, -, hs⟩ | ⟨rfl, n, row, hf, -⟩
      · exact hq1 _ _ _ _ _ _ _ _ _ _ hs
      · exact hq0 _ _ _ _ _ _ _ _ _ _ (fun hs => Fst_safe hf hs)) _ _ _ _ _ _ _ _ _ _
    show s' (139 + r) = (if r < R then nI (fxB R k r) else F 55 (139 + r))
    by_cases c : r < R
    · rw [if_pos c]; exact hB r c
    · rw [if_neg c]; exact hC r (by omega) hr
  rw [m1, m2, m3, m4]
  refine br_c (fun c => f15 _ _ _ _ _ _ _ _ _ _ _ _ _ _ _ _ _ _ _ _ _ _ _ _ _ _ _ _ _ _ _ _ _ _ _ _ _ _ _ _ _ _ (Or.inl c) (fun z => ⟨v1, ?_⟩) (fun z as tb tm th tl to tw sl sb sw tc fh nh rb s1 s2 s3 s4 b p l w nh2 rb2 bb2 pp2 ll2 ww2 nh3 rb3 bb3 pp3 ll3 ww3 => ⟨v1, mo z (Or.inl c) _ (fun a1 a3 a4 a5 a6 f2 f3 f4 f5 f6 f7 => same_K rfl (hK _ _ _ _ _ ⟨hi.1, hi.2.1, ⟨rfl, m2, m3, m4⟩, hi.2.2.2⟩))⟩)) (fun c => C_isReach b1 (fun d => br_t rfl ⟨v1, ?_⟩) (fun j hj e => br_f (by decide) (f15 _ _ _ _ _ _ _ _ _ _ _ _ _ _ _ _ _ _ _ _ _ _ _ _ _ _ _ _ _ _ _ _ _ _ _ _ _ _ _ _ _ _ (Or.inr ⟨j, hj, e⟩) (fun z => absurd z (by omega)) (fun z as tb tm th tl to tw sl sb sw tc fh nh rb s1 s2 s3 s4 b p l w nh2 rb2 bb2 pp2 ll2 ww2 nh3 rb3 bb3 pp3 ll3 ww3 => ⟨v1, mo z (Or.inr ⟨j, hj, e⟩) _ (fun a1 a3 a4 a5 a6 f2 f3 f4 f5 f6 f7 => same_K rfl (hK _ _ _ _ _ ⟨hi.1, hi.2.1, ⟨rfl, m2, m3, m4⟩, hi.2.2.2⟩))⟩))))
  · unfold WX11_fixed WX11_fixed_15
    refine br_t c (M_isRiver p1 b1 (fun _ => br_t rfl (same_K rfl (hK _ _ _ _ _ ⟨hi.1, hi.2.1, ⟨rfl, m2, m3, m4⟩, hi.2.2.2⟩))) (fun z2 => absurd z2 (by omega)))
  · unfold WX11_fixed
    exact br_f c (M_isReach p1 b1 (fun _ => br_t rfl (same_K rfl (hK _ _ _ _ _ ⟨hi.1, hi.2.1, ⟨rfl, m2, m3, m4⟩, hi.2.2.2⟩))) (fun j hj e => (no_reach (by omega) hj e d).elim))
