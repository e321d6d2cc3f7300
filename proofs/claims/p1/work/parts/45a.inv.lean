/-! ===== by hand: what holds between two calls ===== -/
def okT (s tape : Fn) (B : Nat) : Prop := ∀ k, k < B → tape k = s (10 + k) ∧ ∃ b, b < 256 ∧ s (10 + k) = nI b
def okR3 (s bank mill hung lev boa way : Fn) (R C : Nat) : Prop := ∀ r, r < R → (lev r = s (130 + r) ∧ bank r = s (133 + r) ∧ mill r = s (136 + r) ∧ boa r = s (139 + r) ∧ way r = s (142 + r) ∧ hung r = s (145 + r)) ∧ (0 ≤ s (130 + r) ∧ s (130 + r) ≤ s (133 + r)) ∧ (0 ≤ s (133 + r) ∧ s (133 + r) ≤ 9) ∧ (0 ≤ s (139 + r) ∧ s (139 + r) ≤ 3) ∧ (s (145 + r) = -1 ∨ ∃ c, c < C ∧ s (145 + r) = nI c)
def okN (s told : Fn) (N : Nat) : Prop := ∀ k, k < N → told k = s (148 + k) ∧ ∃ b, b < 8 ∧ s (148 + k) = nI b
def okC1 (s : Fn) (c : Nat) (oa : Option Nat) (ce : Nat → CT) (cin : Nat → Prop) : Prop := ∃ (a : Nat) (v : CV), oa = some a ∧ cin a ∧ picM s c v ∧ okV v ∧ vLeft v = none ∧ picC v (ce a) ∧ ct_number (ce a) = nI c ∧ ∃ k, k < 7 ∧ vKind v = nI k
def okC (s : Fn) (C : Nat) (cards : Nat → Option Nat) (ce : Nat → CT) (cin : Nat → Prop) : Prop := (∀ c, c < C → okC1 s c (cards c) ce cin) ∧ ∀ i, i < 8 → ∀ y, cards i = some y → cin y
/-- the program's world and the model's row of numbers are of one kind -/
def WR (b c n r p u o h : Int32) (tape bank mill hung lev boa way told : Fn) (cards : Nat → Option Nat) (ce : Nat → CT) (cin : Nat → Prop) (s : Fn) : Prop :=
  ∃ R P S O H C N B : Nat, ((r = nI R ∧ p = nI P ∧ u = nI S ∧ o = nI O ∧ h = nI H ∧ c = nI C ∧ n = nI N ∧ b = nI B) ∧ (s 0 = nI R ∧ s 1 = nI P ∧ s 2 = nI S ∧ s 3 = nI O ∧ s 4 = nI H ∧ s 5 = nI C ∧ s 6 = nI N ∧ s 7 = nI B)) ∧ (R ≤ 3 ∧ P ≤ 3 ∧ (1 ≤ R → 1 ≤ P) ∧ S ≤ 9 ∧ O ≤ 9 ∧ H ≤ 99 ∧ C ≤ 8 ∧ N ≤ 10 ∧ B ≤ 120) ∧ okT s tape B ∧ okR3 s bank mill hung lev boa way R C ∧ (∀ r, R ≤ r → r < 3 → s (130 + r) = 0) ∧ okN s told N ∧ okC s C cards ce cin
def INV (I : Nat → Int32) (F : Nat → Nat → Int32) (G : Nat → Nat → Option Nat) (ce : Nat → CT) (cin : Nat → Prop) : Prop :=
  WR (I 1) (I 2) (I 3) (I 4) (I 5) (I 6) (I 7) (I 8) (F 0) (F 1) (F 2) (F 3) (F 4) (F 5) (F 6) (F 8) (G 0) ce cin (F 55) ∧
  ((I 0 = 0 ∧ I 56 = 0) ∨ (I 0 = 1 ∧ I 56 = 1 ∧ WR (I 10) (I 11) (I 12) (I 13) (I 14) (I 15) (I 16) (I 17) (F 9) (F 10) (F 11) (F 12) (F 13) (F 14) (F 15) (F 17) (G 1) ce cin (F 56))) ∧
  (I 67 = 0 ∧ I 68 = -1 ∧ I 70 = 0 ∧ I 71 = 0) ∧ ∃ n, n < 1000 ∧ I 54 = nI n ∧ I 76 = nI n ∧ ∀ k, k < n → k < 20 → F 54 k = F 67 k
theorem lt_of_nI {x : Int32} {R : Nat} (hR : R < 2 ^ 31) : x < 0 ∨ nI R ≤ x ∨ ∃ j, j < R ∧ x = nI j := by
  by_cases c : x < 0
  · exact Or.inl c
  · obtain ⟨j, hj, rfl⟩ := nI_of c
    by_cases c2 : R ≤ j
    · exact Or.inr (Or.inl (nI_le c2 hj))
    · exact Or.inr (Or.inr ⟨j, by omega, rfl⟩)
theorem C_isReach {x : Int32} {R : Nat} (hR : R ≤ 3) {Q : Int32 → Prop} (h0 : (x < 0 ∨ nI R ≤ x) → Q 0) (h1 : ∀ j, j < R → x = nI j → Q 1) : WX10_isReach x (nI R) Q := by
  unfold WX10_isReach
  rcases lt_of_nI (x := x) (R := R) (by omega) with c | c | ⟨j, hj, rfl⟩
  · exact br_t c (h0 (Or.inl c))
  · exact br_c (fun _ => h0 (Or.inr c)) (fun _ => br_t c (h0 (Or.inr c)))
  · exact br_f (nI_pos (by omega)) (br_f (nI_ge hj (by omega)) (br_f (nI_ge (b := 3) (by omega) (by omega)) (h1 j hj rfl)))
theorem M_in0 {x : Int32} {R : Nat} (hR : R < 1000) {y : Int32} (hy : y = nI R) {Q : Int32 → Prop} (h0 : (x < 0 ∨ nI R ≤ x) → Q 0) (h1 : ∀ j, j < R → x = nI j → Q 1) : WX11_in x 0 (y - 1) Q := by
  subst hy
  unfold WX11_in
  have hR0 : 0 ≤ nI R := nI_pos' (by omega)
  have hR1 : nI R ≤ 1000 := nI_le (b := 1000) (by omega) (by decide)
  rcases lt_of_nI (x := x) (R := R) (by omega) with c | c | ⟨j, hj, rfl⟩
  · exact br_t c (h0 (Or.inl c))
  · exact br_c (fun _ => h0 (Or.inr c)) (fun _ => br_t (by grind) (h0 (Or.inr c)))
  · refine br_f (nI_pos (by omega)) (br_f ?_ (h1 j hj rfl))
    have : nI j < nI R := nI_lt hj (by omega)
    grind
theorem M_isReach {x : Int32} {s : Fn} {R : Nat} (hs : s 0 = nI R) (hR : R ≤ 3) {Q : Int32 → Prop} (h0 : (x < 0 ∨ nI R ≤ x) → Q 0) (h1 : ∀ j, j < R → x = nI j → Q 1) : WX11_isReach x s Q := by
  unfold WX11_isReach
  exact M_in0 (R := R) (by omega) hs (fun c => ⟨isB_0, h0 c⟩) (fun j hj e => ⟨isB_1, h1 j hj e⟩)
theorem M_isCard {x : Int32} {s : Fn} {C : Nat} (hs : s 5 = nI C) (hC : C ≤ 8) {Q : Int32 → Prop} (h0 : (x < 0 ∨ nI C ≤ x) → Q 0) (h1 : ∀ j, j < C → x = nI j → Q 1) : WX11_isCard x s Q := by
  unfold WX11_isCard
  exact M_in0 (R := C) (by omega) hs (fun c => ⟨isB_0, h0 c⟩) (fun j hj e => ⟨isB_1, h1 j hj e⟩)
theorem C_cardOf {x : Int32} {C : Nat} (hC : C ≤ 8) {cards : Nat → Option Nat} {Q : Option Nat → Prop} (h0 : (x < 0 ∨ nI C ≤ x) → Q none) (h1 : ∀ j, j < C → x = nI j → Q (cards j)) : WX9_cardOf x (nI C) cards Q := by
  unfold WX9_cardOf
  rcases lt_of_nI (x := x) (R := C) (by omega) with c | c | ⟨j, hj, rfl⟩
  · exact br_t c (h0 (Or.inl c))
  · exact br_c (fun _ => h0 (Or.inr c)) (fun _ => br_t c (h0 (Or.inr c)))
  · refine br_f (nI_pos (by omega)) (br_f (nI_ge hj (by omega)) (br_t (nI_lt (b := 8) (by omega) (by omega)) ⟨vp_in_nI (by omega) (by decide), ?_⟩))
    rw [nI_clamp (by omega)]
    exact h1 j hj rfl
theorem no_reach {x : Int32} {R j : Nat} (hR : R < 1000) (hj : j < R) (e : x = nI j) (h : x < 0 ∨ nI R ≤ x) : False := by
  subst e
  rcases h with h | h
  · exact nI_pos (by omega) h
  · exact nI_ge hj (by omega) h
theorem M_isRiver {s : Fn} {R : Nat} (hs : s 0 = nI R) (hR : R ≤ 3) {Q : Int32 → Prop} (h0 : R = 0 → Q 0) (h1 : 1 ≤ R → Q 1) : WX11_isRiver s Q := by
  unfold WX11_isRiver
  rw [show s (0 : Int32).toNatClampNeg = nI R from hs]
  by_cases c : R = 0
  · exact br_t (by rw [c]; decide) (h0 c)
  · exact br_f (nI_nle (by omega) (by omega)) (h1 (by omega))
theorem C_isRiver {R : Nat} (hR : R ≤ 3) {Q : Int32 → Prop} (h0 : R = 0 → Q 0) (h1 : 1 ≤ R → Q 1) : WX10_isRiver (nI R) Q := by
  unfold WX10_isRiver
  by_cases c : R = 0
  · exact br_t (by rw [c]; decide) (h0 c)
  · exact br_f (nI_nle (by omega) (by omega)) (h1 (by omega))
theorem same_K {x y : Int32} {A : Prop} (e : x = y) (h : A) : ((x = y → A) ∧ (¬ (x = y) → False)) := ⟨fun _ => h, fun n => n e⟩
/-! the calls that only ask -/
theorem S_c26 {L : Nat} {xs : Fn} {x3 : Int32} {I F G ce cin} {K : KT} (hi : INV I F G ce cin) (v1 : vp_in (x3 + 1) L) (hK : INV I F G ce cin → K I F G ce cin) : WL_c26 L xs x3 I F G ce cin K := by
  obtain ⟨⟨R, P, S, O, H, C, N, B, ⟨e1, e2⟩, -⟩, -, -, n, -, e3, e4, -⟩ := id hi
  unfold WL_c26 WX10_count WX11_count
  have hk := hK hi
  generalize xs (x3 + 1).toNatClampNeg = x
  rw [show F 55 (0 : Int32).toNatClampNeg = I 4 from e2.1.trans e1.1.symm, show F 55 (5 : Int32).toNatClampNeg = I 2 from e2.2.2.2.2.2.1.trans e1.2.2.2.2.2.1.symm, show F 55 (6 : Int32).toNatClampNeg = I 3 from e2.2.2.2.2.2.2.1.trans e1.2.2.2.2.2.2.1.symm, show F 55 (7 : Int32).toNatClampNeg = I 1 from e2.2.2.2.2.2.2.2.trans e1.2.2.2.2.2.2.2.symm, e3, e4]
  refine ⟨v1, ?_⟩
  repeat' (refine br_c (fun _ => ?_) (fun _ => ?_))
  all_goals refine ⟨v1, ?_⟩
  all_goals simp only [*, true_implies, false_implies, not_true_eq_false, not_false_eq_true, and_true, true_and, implies_true, if_true, if_false]
  all_goals grind
theorem S_c3 {L : Nat} {xs : Fn} {x3 : Int32} {I F G ce cin} {K : KT} (hi : INV I F G ce cin) (v1 : vp_in (x3 + 1) L) (v2 : vp_in (x3 + 2) L) (hK : INV I F G ce cin → K I F G ce cin) : WL_c3 L xs x3 I F G ce cin K := by
  obtain ⟨⟨R, P, S, O, H, C, N, B, ⟨e1, e2⟩, bd, -, -, -, -, hC⟩, -⟩ := id hi
  have hk := hK hi
  unfold WL_c3 WX10_told
  generalize xs (x3 + 1).toNatClampNeg = x
  generalize xs (x3 + 2).toNatClampNeg = y
  refine ⟨v1, v2, ?_⟩
  rw [e1.2.2.2.2.2.1]
  have hC8 : C ≤ 8 := bd.2.2.2.2.2.2.1
  refine C_cardOf hC8 (fun c => ⟨fun _ => ⟨v1, v2, ?_⟩, fun a z => by cases z⟩) (fun j hj e => ?_)
  · unfold WX11_told
    exact M_isCard e2.2.2.2.2.2.1 hC8 (fun _ => br_t rfl (same_K rfl hk)) (fun j hj e => (no_reach (by omega) hj e c).elim)
  · obtain ⟨a, v, ea, ha, p1, p2, -, p3, p4, p5⟩ := hC.1 j hj
    refine ⟨fun z => (by rw [ea] at z; cases z), fun a' ha' => ?_⟩
    have : a' = a := by rw [ea] at ha'; exact (Option.some.inj ha').symm
    subst this
    subst e
    have m : ∀ r : Int32, (∀ i : Nat, i < 3 → y = nI i → r = F 55 (158 + 8 * i + j)) → ((∀ i : Nat, i < 3 → y ≠ nI i) → r = -1) → WX11_told (nI j) y (F 55) (fun r6 => ((r = r6 → K I F G ce cin) ∧ (¬ (r = r6) → False))) := by
      intro r hr0 hr1
      unfold WX11_told
      refine M_isCard e2.2.2.2.2.2.1 hC8 (fun c => (no_reach (by omega) hj rfl c).elim) (fun j' hj' e => br_f (by decide) ?_)
      have := M_in0 (x := y) (R := 3) (y := 3) (by decide) rfl (Q := fun r3 => ((r3 = 0 → ((r = -1 → K I F G ce cin) ∧ (¬ (r = -1) → False))) ∧ (¬ (r3 = 0) → vp_in ((158 + (8 * y)) + nI j) 1454 ∧ ((r = (F 55 ((158 + (8 * y)) + nI j).toNatClampNeg) → K I F G ce cin) ∧ (¬ (r = (F 55 ((158 + (8 * y)) + nI j).toNatClampNeg)) → False))))) (fun c => br_t rfl (same_K (hr1 (fun i hi e => no_reach (by decide) hi e c)) hk)) (fun i hi e => br_f (by decide) ?_)
      · exact this
      · subst e
        have b1 : 158 + 8 * i + j < 1454 := by omega
        rw [show (158 : Int32) + 8 * nI i + nI j = nI (158 + 8 * i + j) by rw [← nI_add, ← nI_add, ← pk_mul]; rfl, nI_clamp (by omega)]
        exact ⟨vp_in_nI b1 (by decide), same_K (hr0 i hi rfl) hk⟩
    obtain ⟨q1, q2, q3, -⟩ := p1
    have nn : ∀ i : Nat, i < 3 → ∀ k : Nat, k < 3 → nI i = nI k → i = k := fun i hi k hk h => (nI_eq (by omega) (by omega)).mp h
    refine br_c (fun c1 => ⟨ha, v1, v2, m _ (fun i hi e => ?_) (fun h => absurd c1 (h 0 (by decide)))⟩) (fun c1 => br_c (fun c2 => ⟨ha, v1, v2, m _ (fun i hi e => ?_) (fun h => absurd c2 (h 1 (by decide)))⟩) (fun c2 => br_c (fun c3 => ⟨ha, v1, v2, m _ (fun i hi e => ?_) (fun h => absurd c3 (h 2 (by decide)))⟩) (fun c3 => ⟨v1, v2, m _ (fun i hi e => ?_) (fun _ => rfl)⟩)))
    · have := nn i hi 0 (by decide) (e.symm.trans c1); subst this
      rw [p3.1]; exact q1.symm
    · have := nn i hi 1 (by decide) (e.symm.trans c2); subst this
      rw [p3.2.1]; exact q2.symm
    · have := nn i hi 2 (by decide) (e.symm.trans c3); subst this
      rw [p3.2.2.1]; exact q3.symm
    · rcases (show i = 0 ∨ i = 1 ∨ i = 2 by omega) with rfl | rfl | rfl
      · exact absurd e c1
      · exact absurd e c2
      · exact absurd e c3
