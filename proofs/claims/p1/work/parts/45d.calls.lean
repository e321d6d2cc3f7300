/-! ===== by hand: stream, as, image, undo ===== -/
theorem S_c6 {L : Nat} {xs : Fn} {x3 : Int32} {I F G ce cin} {K : KT} (hi : INV I F G ce cin) (v1 : vp_in (x3 + 1) L) (hK : ∀ I F G ce cin, INV I F G ce cin → K I F G ce cin) : WL_c6 L xs x3 I F G ce cin K := by
  obtain ⟨R, P, S, O, H, C, N, B, ⟨e1, e2⟩, bd, hT, hR, hZ, hN, hC⟩ := hi.1
  obtain ⟨m1, m2, m3, m4⟩ := hi.2.2.1
  have hR3 := bd.1
  unfold WL_c6 WX10_stream
  generalize xs (x3 + 1).toNatClampNeg = x
  obtain ⟨q1, q2, q3, q4, q5, -⟩ := e1
  obtain ⟨p1, p2, p3, p4, p5, -⟩ := e2
  rw [q1, q2, q3, q4, q5, m3, m4]
  have same : ∀ a b c d, K (va_up I 66 a) (va_up (va_up (va_up F 60 b) 61 c) 62 d) G ce cin := fun a b c d => hK _ _ _ _ _ hi
  refine ⟨v1, ?_⟩
  have mo : ∀ r : Int32, (x < 0 ∨ nI 5 ≤ x) → r = -1 → WX11_stream x (I 66) 0 0 (F 55) (F 60) (F 61) (F 62) (fun r4 h l b w => ((r = r4 → K (va_up I 66 h) (va_up (va_up (va_up F 60 l) 61 b) 62 w) G ce cin) ∧ (¬ (r = r4) → False))) := by
    intro r c e
    unfold WX11_stream
    exact M_in0 (R := 5) (y := 5) (by decide) rfl (fun _ => br_t rfl (same_K e (same _ _ _ _))) (fun j hj e => (no_reach (by decide) hj e c).elim)
  have mn : ∀ r : Int32, ∀ i, i < 5 → x = nI i → (R = 0 → r = -3) → (1 ≤ R → (i < 4 → r = F 55 (1 + i)) ∧ (i = 4 → r = if F 55 130 = F 55 133 then 1 else 0)) → WX11_stream x (I 66) 0 0 (F 55) (F 60) (F 61) (F 62) (fun r4 h l b w => ((r = r4 → K (va_up I 66 h) (va_up (va_up (va_up F 60 l) 61 b) 62 w) G ce cin) ∧ (¬ (r = r4) → False))) := by
    intro r i hi5 ei h0 h1
    unfold WX11_stream
    refine M_in0 (R := 5) (y := 5) (by decide) rfl (fun c => (no_reach (by decide) hi5 ei c).elim) (fun j hj e => br_f (by decide) (M_isRiver p1 hR3 (fun z => br_t rfl (same_K (h0 z) (same _ _ _ _))) (fun z => br_f (by decide) ?_)))
    have hM : MS (F 55) (fun r => F 55 (130 + r), fun r => F 55 (139 + r), fun r => F 55 (142 + r), H) := ⟨p5, fun r hr => ⟨rfl, rfl, rfl⟩⟩
    refine M_takes hM (fun l b w hl hb hw => ?_) _ _ _ _
    obtain ⟨g1, g2⟩ := h1 z
    subst ei
    refine br_c (fun c => ?_) (fun c => ?_)
    · have i4 : i = 4 := nI_inj (by omega) (by decide) c
      have hr4 := g2 i4
      unfold WX11_rings WX11_bank
      refine br_t rfl ⟨vp_in_nI (n := 133) (by decide) (by decide), ?_⟩
      have e133 : F 55 ((133 : Int32) + 0).toNatClampNeg = F 55 133 := rfl
      have hb := (hR 0 (by omega)).2.2.1
      have e0 : F 55 133 + 0 = F 55 133 := Int32.add_zero _
      rw [e133, e0]
      refine br_t hb.2 ⟨vp_in_nI (n := 133) (by decide) (by decide), ?_⟩
      have el : l (0 : Int32).toNatClampNeg = F 55 130 := hl 0 (by decide)
      rw [el]
      refine br_c (fun c2 => ?_) (fun c2 => ?_)
      · rw [if_pos c2] at hr4
        exact br_f (by decide) (same_K hr4 (same _ _ _ _))
      · rw [if_neg c2] at hr4
        exact br_t rfl (same_K hr4 (same _ _ _ _))
    · have i4 : i < 4 := by
        rcases Nat.lt_or_ge i 4 with h | h
        · exact h
        · exact absurd (by rw [show i = 4 by omega]; rfl) c
      rw [show (1 : Int32) + nI i = nI (1 + i) by rw [← nI_add]; rfl, nI_clamp (by omega)]
      exact ⟨vp_in_nI (by omega) (by decide), same_K (g1 i4) (same _ _ _ _)⟩
  by_cases c0 : x < 0
  · exact br_t c0 ⟨v1, mo _ (Or.inl c0) rfl⟩
  refine br_f c0 ?_
  by_cases c4 : x ≤ 4
  · obtain ⟨i, hi4, ei⟩ := nI_of2 (x := x) (M := 4) (n := 4) rfl c0 c4
    refine br_t c4 (C_isRiver hR3 (fun z => br_t rfl ⟨v1, mn _ i (by omega) ei (fun _ => rfl) (fun z2 => absurd z2 (by omega))⟩) (fun z => br_f (by decide) ?_))
    obtain ⟨⟨r1, r2, -⟩, -⟩ := hR 0 (by omega)
    have nn : ∀ k : Nat, k < 5 → x = nI k → i = k := fun k hk h => nI_inj (by omega) (by omega) (ei.symm.trans h)
    refine br_c (fun c1 => ⟨v1, mn _ i (by omega) ei (fun z2 => absurd z2 (by omega)) (fun _ => ?_)⟩) (fun c1 => br_c (fun c2 => ⟨v1, mn _ i (by omega) ei (fun z2 => absurd z2 (by omega)) (fun _ => ?_)⟩) (fun c2 => br_c (fun c3 => ⟨v1, mn _ i (by omega) ei (fun z2 => absurd z2 (by omega)) (fun _ => ?_)⟩) (fun c3 => br_c (fun c5 => ⟨v1, mn _ i (by omega) ei (fun z2 => absurd z2 (by omega)) (fun _ => ?_)⟩) (fun c5 => ?_))))
    · have := nn 0 (by decide) c1; subst this; exact ⟨fun _ => p2.symm, fun h => absurd h (by decide)⟩
    · have := nn 1 (by decide) c2; subst this; exact ⟨fun _ => p3.symm, fun h => absurd h (by decide)⟩
    · have := nn 2 (by decide) c3; subst this; exact ⟨fun _ => p4.symm, fun h => absurd h (by decide)⟩
    · have := nn 3 (by decide) c5; subst this; exact ⟨fun _ => p5.symm, fun h => absurd h (by decide)⟩
    · have i4 : i = 4 := by
        have a1 : i ≠ 0 := fun h => c1 (by rw [ei, h]; rfl)
        have a2 : i ≠ 1 := fun h => c2 (by rw [ei, h]; rfl)
        have a3 : i ≠ 2 := fun h => c3 (by rw [ei, h]; rfl)
        have a4 : i ≠ 3 := fun h => c5 (by rw [ei, h]; rfl)
        omega
      have el : F 4 (0 : Int32).toNatClampNeg = F 55 130 := r1
      have eb : F 1 (0 : Int32).toNatClampNeg = F 55 133 := r2
      rw [el, eb]
      refine br_c (fun c6 => ⟨v1, mn _ i (by omega) ei (fun z2 => absurd z2 (by omega)) (fun _ => ⟨fun h => absurd h (by omega), fun _ => ?_⟩)⟩) (fun c6 => ⟨v1, mn _ i (by omega) ei (fun z2 => absurd z2 (by omega)) (fun _ => ⟨fun h => absurd h (by omega), fun _ => ?_⟩)⟩)
      · rw [if_pos c6]
      · rw [if_neg c6]
  · refine br_f c4 ⟨v1, mo _ (Or.inr ?_) rfl⟩
    have e5 : nI 5 = 5 := rfl
    rw [e5]; grind
def abv (u : Int32) : Int32 := if u < 0 then -1 else if u < 7 then tabA u.toNatClampNeg else -1
def undF : Nat → Int32 → Int32 → Bool
  | 0, _, _ => false
  | n + 1, u, x => if u < 0 then false else if u = x then true else undF n (abv u) x
def undM (k x : Int32) : Bool := decide (x = 0) || decide (x = k) || (decide (x = 1) && (decide (k = 2) || decide (k = 3) || decide (k = 4))) || (decide (x = 2) && decide (k = 3)) || (decide (x = 5) && decide (k = 6))
theorem und_eq : ∀ k, k < 7 → ∀ x, x < 7 → undF 7 (nI k) (nI x) = undM (nI k) (nI x) := by decide
theorem C_above {u : Int32} {Q : Int32 → Prop} (h : Q (abv u)) : WX0_above u Q := by
  unfold WX0_above
  unfold abv at h
  refine br_c (fun c => ?_) (fun c => br_c (fun c2 => ⟨?_, ?_⟩) (fun c2 => ?_))
  · rwa [if_pos c] at h
  · obtain ⟨j, hj, rfl⟩ := nI_of c
    exact vp_in_nI ((nI_ltI (b := 7) hj (by decide)).mp c2) (by decide)
  · rwa [if_neg c, if_pos c2] at h
  · rwa [if_neg c, if_neg c2] at h
theorem C_isUnder {o : CT} {x : Int32} {Q : Int32 → Prop} (h : Q (b01 (undF 7 (ct_kind o) x))) : WX0_isUnder x o Q := by
  unfold WX0_isUnder
  rintro _ rfl
  suffices g : ∀ (n m : Nat) (u : Int32), m ≤ 7 → m < n → Q (b01 (undF m u x)) → WX0_isUnder_7 x o Q n u (nI (7 - m)) from ⟨8, g 8 7 _ (by decide) (by decide) h⟩
  intro n
  induction n with
  | zero => intro m u h1 h2; omega
  | succ n ih =>
    intro m u h1 h2 hq
    unfold WX0_isUnder_7
    cases m with
    | zero => exact br_t (nI_le (a := 7) (by decide) (by decide)) hq
    | succ m =>
      unfold undF at hq
      refine br_f (nI_ge (b := 7) (by omega) (by decide)) (br_c (fun c => ?_) (fun c => br_c (fun c2 => ?_) (fun c2 => C_above ?_)))
      · rwa [if_pos c] at hq
      · rwa [if_neg c, if_pos c2] at hq
      · rw [if_neg c, if_neg c2] at hq
        rintro _ rfl
        rw [nI_1, show 7 - (m + 1) + 1 = 7 - m by omega]
        exact ih m _ (by omega) (by omega) hq
theorem M_isUnder {k x : Int32} {Q : Int32 → Prop} (h : Q (b01 (undM k x))) : WX11_isUnder k x Q := by
  unfold WX11_isUnder WX11_isUnder_29 WX11_isUnder_39
  unfold undM at h
  repeat' (refine br_c (fun _ => ?_) (fun _ => ?_))
  all_goals simp_all [b01]
theorem S_c23 {L : Nat} {xs : Fn} {x3 : Int32} {I F G ce cin} {K : KT} (hi : INV I F G ce cin) (v1 : vp_in (x3 + 1) L) (v2 : vp_in (x3 + 2) L) (hK : INV I F G ce cin → K I F G ce cin) : WL_c23 L xs x3 I F G ce cin K := by
  obtain ⟨R, P, S, O, H, C, N, B, ⟨e1, e2⟩, bd, hT, hR, hZ, hN, hC⟩ := hi.1
  have hC8 : C ≤ 8 := bd.2.2.2.2.2.2.1
  have hk := hK hi
  unfold WL_c23 WX10_as
  generalize xs (x3 + 1).toNatClampNeg = x
  generalize xs (x3 + 2).toNatClampNeg = y
  rw [e1.2.2.2.2.2.1]
  refine ⟨v1, v2, C_cardOf hC8 (fun c => ⟨fun _ => ⟨v1, v2, ?_⟩, fun a z => by cases z⟩) (fun j hj e => ?_)⟩
  · unfold WX11_as
    exact M_isCard e2.2.2.2.2.2.1 hC8 (fun _ => br_t rfl (same_K rfl hk)) (fun j hj e => (no_reach (by omega) hj e c).elim)
  · obtain ⟨a, v, ea, ha, p1, p2, -, p3, p4, k, hk7, hkv⟩ := hC.1 j hj
    refine ⟨fun z => (by rw [ea] at z; cases z), fun a' ha' => ?_⟩
    have : a' = a := by rw [ea] at ha'; exact (Option.some.inj ha').symm
    subst this
    subst e
    have m : ∀ r : Int32, ((y < 0 ∨ nI 7 ≤ y) → r = -1) → (∀ i, i < 7 → y = nI i → r = if undM (vKind v) y = true then vV v else -6) → WX11_as (nI j) y (F 55) (fun r6 => ((r = r6 → K I F G ce cin) ∧ (¬ (r = r6) → False))) := by
      intro r h1 h2
      unfold WX11_as
      refine M_isCard e2.2.2.2.2.2.1 hC8 (fun c => (no_reach (by omega) hj rfl c).elim) (fun j' hj' e => br_f (by decide) ?_)
      have b1 : 158 + j < 1454 := by omega
      have b2 : 166 + j < 1454 := by omega
      refine M_in0 (x := y) (R := 7) (y := 7) (by decide) rfl (fun c => br_t rfl (same_K (h1 c) hk)) (fun i hi e => br_f (by decide) ?_)
      rw [show (158 : Int32) + nI j = nI (158 + j) by rw [← nI_add]; rfl, nI_clamp (by omega), p1.1, show (166 : Int32) + nI j = nI (166 + j) by rw [← nI_add]; rfl, nI_clamp (by omega), p1.2.1]
      refine ⟨vp_in_nI b1 (by decide), M_isUnder ?_⟩
      have := h2 i hi e
      cases hb : undM (vKind v) y with
      | false => rw [hb, if_neg (by decide)] at this; exact br_t rfl (same_K this hk)
      | true => rw [hb, if_pos rfl] at this; exact br_f (by decide) ⟨vp_in_nI b2 (by decide), same_K this hk⟩
    refine br_c (fun c => ⟨v1, v2, m _ (fun _ => rfl) (fun i hi e => (no_reach (by decide) hi e (Or.inl c)).elim)⟩) (fun c => br_c (fun c2 => ⟨ha, C_isUnder ?_⟩) (fun c2 => ⟨v1, v2, m _ (fun _ => rfl) (fun i hi e => absurd (by rw [e]; exact nI_lt (b := 7) hi (by decide)) c2)⟩))
    obtain ⟨i, hi', ei⟩ := nI_of c
    have i7 : i < 7 := by rw [ei] at c2; exact (nI_ltI (b := 7) hi' (by decide)).mp c2
    have nob : (y < 0 ∨ nI 7 ≤ y) → False := fun z => no_reach (by decide) i7 ei z
    rw [p3.1, hkv, ei, und_eq k hk7 i i7, ← hkv, ← ei]
    cases hb : undM (vKind v) y with
    | false => exact br_t rfl ⟨v1, v2, m _ (fun z => (nob z).elim) (fun _ _ _ => by rw [hb, if_neg (by decide)])⟩
    | true => refine br_f (by decide) ⟨v1, v2, m _ (fun z => (nob z).elim) (fun _ _ _ => by rw [hb, if_pos rfl]; exact p3.2.1)⟩
