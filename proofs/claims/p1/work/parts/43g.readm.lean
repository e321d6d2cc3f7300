/-! ===== by hand: how the model reads a condition ===== -/
abbrev MF : Type := Int32 → Int32 → Int32 → Int32 → Int32 → Fn → (Int32 → Int32 → Int32 → Fn → Prop) → Prop
/-- what the model's reader must do for a reader of the grammar; behind a fault it does nothing, however deep -/
def SM (tp : Fn) (sz c d : Nat) (s0 : Fn) (F : MF) (f : PS → PS) : Prop := (∀ (t : PS) (s : Fn) (Q : Int32 → Int32 → Int32 → Fn → Prop), pP t ≤ sz → (pB t = false → (pL t).length < pP t) → RM c s0 t s → (∀ s', RM c s0 (f t) s' → Q (nI (pP (f t))) (b01 (pB (f t))) (nI (5 - d)) s') → F (nI c) (nI (pP t)) (nI sz) (b01 (pB t)) (nI (5 - d)) s Q) ∧
  ∀ (p o : Int32) (s : Fn) (Q : Int32 → Int32 → Int32 → Fn → Prop), Q p 1 o s → F (nI c) p (nI sz) 1 o s Q
theorem RM_adv {c : Nat} {s0 s : Fn} {t : PS} (h : RM c s0 t s) : RM c s0 (adv t) s := h
theorem RM_tape {c : Nat} {s0 s : Fn} {t : PS} {tp : Fn} {sz : Nat} (hz : sz ≤ 120) (h : RM c s0 t s) (hT : ∀ k, k < sz → s0 (10 + k) = tp k) : ∀ k, k < sz → s (10 + k) = tp k := fun k hk => (h.1 (10 + k) (by omega) (by omega)).trans (hT k hk)
theorem M_every {tp : Fn} {sz c d : Nat} {s0 : Fn} (hc : c < 8) (hT : ∀ k, k < sz → s0 (10 + k) = tp k) (hz : sz ≤ 120) {F : MF} {f : PS → PS} {need : Nat} (hf : PgF sz need f) (hF : SM tp sz c d s0 F f) : SM tp sz c d s0 (WX11_every F) (bothP tp sz f) := by
  refine ⟨?_, fun p o s Q hq => ?_⟩
  · intro t s Q hp hl hs hq
    unfold WX11_every
    refine hF.1 t s _ hp hl hs fun s hs => ?_
    unfold bothP at hq
    rw [lim_eq] at hq
    have hpos : pB (f t) = false → sz < 120 + pP (f t) := by
      intro b
      cases bt : pB t with
      | true => rw [(hf t).1 bt, bt] at b; cases b
      | false => have := (((hf t).2 bt hp).2.2 b).1; omega
    obtain ⟨hp, hl⟩ := PgF_len hf hp hl
    suffices g : ∀ (n m : Nat) (u : PS) (s : Fn), m < n → pP u ≤ sz → (pB u = false → (pL u).length < pP u) → (pB u = false → sz < m + pP u) → RM c s0 u s → (∀ s', RM c s0 (rep tp sz 38 (-2) f m u) s' → Q (nI (pP (rep tp sz 38 (-2) f m u))) (b01 (pB (rep tp sz 38 (-2) f m u))) (nI (5 - d)) s') → WX11_every_4 (nI c) (nI sz) F Q n (nI (pP u)) (b01 (pB u)) (nI (5 - d)) s from
      ⟨121, g 121 120 (f t) s (by omega) hp hl hpos hs hq⟩
    intro n
    induction n with
    | zero => intro m u s h1; omega
    | succ n ih =>
      intro m u s h2 hp hl hm hs hq
      unfold WX11_every_4
      cases b : pB u with
      | true =>
        rw [rep_bad (by decide) b, b] at hq
        exact br_f (by decide) (hq s hs)
      | false =>
        have hm' := hm b
        obtain ⟨m, rfl⟩ : ∃ m', m = m' + 1 := ⟨m - 1, by omega⟩
        unfold rep at hq
        refine br_t rfl (M_here (RM_tape hz hs hT) hz hp b (br_c (fun e => ?_) (fun e => ?_)))
        · rw [if_pos e] at hq
          have nn := nx_in (tp := tp) (sz := sz) (t := u) (by rw [e]; decide)
          obtain ⟨p1, p2⟩ := PgF_next hf nn.1 nn.2 (hl nn.1)
          rintro _ rfl
          rw [nI_1]
          have g0 := hF.1 (adv u) s
          have eb : pB (adv u) = false := b
          rw [eb] at g0
          refine g0 _ nn.2 (fun _ => Nat.lt_succ_of_lt (hl nn.1)) hs fun s hs => ?_
          refine M_emits hc hs (fun b => by have := p2 b; omega) (fun s hs => ?_)
          obtain ⟨e1, -, e3⟩ := em_P (-2) (f (adv u))
          have eB : pB (em (-2) (f (adv u))) = pB (f (adv u)) := by
            cases z : pB (f (adv u)) with
            | true => rw [em_bad z]; exact z
            | false => rw [em_ok z]
          have g := ((hf (adv u)).2 nn.1 nn.2).1
          have g' : pP u + 1 ≤ pP (f (adv u)) := g
          have := ih m (em (-2) (f (adv u))) s (by omega) (by rw [e1]; exact p1) (fun b => by rw [(e3 b).2, e1]; exact p2 (e3 b).1) (fun b => by rw [e1]; omega) hs hq
          rw [eB, e1] at this
          exact this
        · rw [if_neg e, b] at hq
          exact hq s hs
  · unfold WX11_every
    refine hF.2 _ _ _ _ ⟨1, ?_⟩
    unfold WX11_every_4
    exact br_f (by decide) hq
theorem M_some {tp : Fn} {sz c d : Nat} {s0 : Fn} (hc : c < 8) (hT : ∀ k, k < sz → s0 (10 + k) = tp k) (hz : sz ≤ 120) {F : MF} {f : PS → PS} {need : Nat} (hf : PgF sz need f) (hF : SM tp sz c d s0 F f) : SM tp sz c d s0 (WX11_some F) (eithP tp sz f) := by
  have hF := M_every hc hT hz hf hF
  have hf := PgF_both (tp := tp) hf
  refine ⟨?_, fun p o s Q hq => ?_⟩
  · intro t s Q hp hl hs hq
    unfold WX11_some
    refine hF.1 t s _ hp hl hs fun s hs => ?_
    unfold eithP at hq
    rw [lim_eq] at hq
    have hpos : pB (bothP tp sz f t) = false → sz < 120 + pP (bothP tp sz f t) := by
      intro b
      cases bt : pB t with
      | true => rw [(hf t).1 bt, bt] at b; cases b
      | false => have := (((hf t).2 bt hp).2.2 b).1; omega
    obtain ⟨hp, hl⟩ := PgF_len hf hp hl
    suffices g : ∀ (n m : Nat) (u : PS) (s : Fn), m < n → pP u ≤ sz → (pB u = false → (pL u).length < pP u) → (pB u = false → sz < m + pP u) → RM c s0 u s → (∀ s', RM c s0 (rep tp sz 124 (-3) (bothP tp sz f) m u) s' → Q (nI (pP (rep tp sz 124 (-3) (bothP tp sz f) m u))) (b01 (pB (rep tp sz 124 (-3) (bothP tp sz f) m u))) (nI (5 - d)) s') → WX11_some_4 (nI c) (nI sz) F Q n (nI (pP u)) (b01 (pB u)) (nI (5 - d)) s from
      ⟨121, g 121 120 (bothP tp sz f t) s (by omega) hp hl hpos hs hq⟩
    intro n
    induction n with
    | zero => intro m u s h1; omega
    | succ n ih =>
      intro m u s h2 hp hl hm hs hq
      unfold WX11_some_4
      cases b : pB u with
      | true =>
        rw [rep_bad (by decide) b, b] at hq
        exact br_f (by decide) (hq s hs)
      | false =>
        have hm' := hm b
        obtain ⟨m, rfl⟩ : ∃ m', m = m' + 1 := ⟨m - 1, by omega⟩
        unfold rep at hq
        refine br_t rfl (M_here (RM_tape hz hs hT) hz hp b (br_c (fun e => ?_) (fun e => ?_)))
        · rw [if_pos e] at hq
          have nn := nx_in (tp := tp) (sz := sz) (t := u) (by rw [e]; decide)
          obtain ⟨p1, p2⟩ := PgF_next hf nn.1 nn.2 (hl nn.1)
          rintro _ rfl
          rw [nI_1]
          have g0 := hF.1 (adv u) s
          have eb : pB (adv u) = false := b
          rw [eb] at g0
          refine g0 _ nn.2 (fun _ => Nat.lt_succ_of_lt (hl nn.1)) hs fun s hs => ?_
          refine M_emits hc hs (fun b => by have := p2 b; omega) (fun s hs => ?_)
          obtain ⟨e1, -, e3⟩ := em_P (-3) (bothP tp sz f (adv u))
          have eB : pB (em (-3) (bothP tp sz f (adv u))) = pB (bothP tp sz f (adv u)) := by
            cases z : pB (bothP tp sz f (adv u)) with
            | true => rw [em_bad z]; exact z
            | false => rw [em_ok z]
          have g := ((hf (adv u)).2 nn.1 nn.2).1
          have g' : pP u + 1 ≤ pP (bothP tp sz f (adv u)) := g
          have := ih m (em (-3) (bothP tp sz f (adv u))) s (by omega) (by rw [e1]; exact p1) (fun b => by rw [(e3 b).2, e1]; exact p2 (e3 b).1) (fun b => by rw [e1]; omega) hs hq
          rw [eB, e1] at this
          exact this
        · rw [if_neg e, b] at hq
          exact hq s hs
  · unfold WX11_some
    refine hF.2 _ _ _ _ ⟨1, ?_⟩
    unfold WX11_some_4
    exact br_f (by decide) hq
theorem M_tst169 {tp : Fn} {sz c d : Nat} {s0 s : Fn} (hc : c < 8) (hT : ∀ k, k < sz → s0 (10 + k) = tp k) (hz : sz ≤ 120) {F : MF} {w h : Nat} (hw : w < 4) (hh : h < 3) {t : PS} (hb : pB t = false) (hp : pP t ≤ sz) (hl : (pL t).length + 1 < pP t) (hs : RM c s0 t s) {Q : Int32 → Int32 → Int32 → Fn → Prop} (hq : ∀ s', RM c s0 (tst2 tp sz w h t) s' → Q (nI (pP (tst2 tp sz w h t))) (b01 (pB (tst2 tp sz w h t))) (nI (5 - d)) s') {iw : Int32} : WX11_factor_169 (nI c) (nI sz) F (nI w) (nI h) 0 (nI (pP t)) iw (nI (5 - d)) s Q := by
  unfold WX11_factor_169
  refine ⟨isB_0, ?_⟩
  have g := M_figure (tp := tp) (s := s) (lo := 0) (hi := 9) (t := t) (RM_tape hz hs hT) hz (by decide) (by decide) hp (Q := fun r p w' => WX11_emits ((nI w + (4 * nI h)) + (16 * r)) (nI c) w' s (fun s' => Q p w' (nI (5 - d)) s'))
  rw [hb] at g
  refine g ?_
  unfold dgP
  unfold tst2 at hq
  by_cases e : nI 48 ≤ nx tp sz t ∧ nx tp sz t ≤ nI 57
  · rw [if_pos e] at hq
    rw [if_pos e]
    have n3 := nx_in (tp := tp) (sz := sz) (t := t) (by intro z; rw [z] at e; exact absurd e (by decide))
    obtain ⟨v, -, v1, -, v3, v2⟩ := dig_of (lo := 0) (hi := 9) (by decide) (by decide) e.1 e.2
    rw [v2] at hq
    show WX11_emits ((nI w + (4 * nI h)) + (16 * (nx tp sz t - 48))) (nI c) (b01 (pB (adv t))) s _
    rw [v3, show (nI w + (4 * nI h)) + (16 * nI v) = nI (w + 4 * h + 16 * v) by rw [← nI_add, ← nI_add, ← pk_mul, ← pk_mul]; rfl]
    refine M_emits (t := adv t) hc hs (fun _ => by show (pL t).length < 120; omega) (fun s' hs' => ?_)
    have := hq s' hs'
    obtain ⟨e1, -, -⟩ := em_P (nI (w + 4 * h + 16 * v)) (adv t)
    rw [em_ok (t := adv t) hb] at this
    have eb : pB (adv t) = false := hb
    rw [eb]; exact this
  · rw [if_neg e] at hq
    rw [if_neg e]
    exact M_emits (t := bad t) hc (s0 := s0) ⟨hs.1, fun z => by cases z⟩ (fun z => by cases z) (x := nI w + (4 * nI h) + 16 * 0) (fun s' hs' => hq s' (by rw [em_bad (t := bad t) rfl] at hs'; exact hs'))
/-- a fault in a test: nothing more -/
theorem M_tstBad {c sz : Nat} {s : Fn} {F : MF} {x2 x3 p o iw : Int32} {Q : Int32 → Int32 → Int32 → Fn → Prop} (hq : Q p 1 o s) : WX11_factor_169 (nI c) (nI sz) F x2 x3 1 p iw o s Q := by
  unfold WX11_factor_169
  refine ⟨isB_1, ?_⟩
  unfold WX11_figure
  refine br_f (by decide) ?_
  unfold WX11_figure_26 WX11_figure_31
  refine ⟨isB_1, br_f (by decide) ?_⟩
  unfold WX11_figure_52
  refine br_f (by decide) ?_
  unfold WX11_figure_70
  rintro _ rfl
  unfold WX11_emits
  refine br_f (by decide) ?_
  rw [show p + 0 = p from Int32.add_zero _]
  exact hq
theorem M_tstP {tp : Fn} {sz c d : Nat} {s0 s : Fn} (hc : c < 8) (hT : ∀ k, k < sz → s0 (10 + k) = tp k) (hz : sz ≤ 120) {F : MF} {t : PS} (hb : pB t = false) (hp : pP t ≤ sz) (hl : (pL t).length < pP t) (hs : RM c s0 t s) {Q : Int32 → Int32 → Int32 → Fn → Prop} (hq : ∀ s', RM c s0 (tstP tp sz t) s' → Q (nI (pP (tstP tp sz t))) (b01 (pB (tstP tp sz t))) (nI (5 - d)) s') : WX11_among 5 (nI (pP t)) (nI sz) s (fun r p => ((r = (-1) → WX11_factor_130 (nI c) (nI sz) F r 1 p 0 (nI (5 - d)) s Q) ∧ (¬ (r = (-1)) → WX11_factor_130 (nI c) (nI sz) F r 0 p 0 (nI (5 - d)) s Q))) := by
  have hTs := RM_tape hz hs hT
  have m1 : ∀ w : Nat, w < 1000 → ¬ nI w = (-1 : Int32) := by intro w hw z; have := nI_pos (n := w) (by omega); grind
  unfold tstP at hq
  refine M_among (z := 5) hTs hz (by decide) hp hb (fun e1 => br_t rfl ?_) (fun w e1 => ?_)
  · replace e1 : ixL [108, 104, 119, 99] (nx tp sz t) = none := e1
    rw [e1] at hq
    unfold WX11_factor_130
    refine ⟨isB_1, br_f (by decide) ?_⟩
    unfold WX11_factor_150
    refine br_f (by decide) ?_
    unfold WX11_factor_164
    exact M_tstBad (hq s ⟨hs.1, fun z => by cases z⟩)
  · replace e1 : ixL [108, 104, 119, 99] (nx tp sz t) = some w := e1
    rw [e1] at hq
    replace hq : ∀ s', RM c s0 (tst1 tp sz w (adv t)) s' → Q (nI (pP (tst1 tp sz w (adv t)))) (b01 (pB (tst1 tp sz w (adv t)))) (nI (5 - d)) s' := hq
    obtain ⟨w1, w2⟩ := ixL_some e1
    have w1' : w < 4 := w1
    have n1 := nx_in (tp := tp) (sz := sz) (t := t) (by intro z; rw [z] at w2; exact absurd w2 (by decide))
    refine br_f (m1 w (by omega)) ?_
    unfold WX11_factor_130
    refine ⟨isB_0, br_t rfl ?_⟩
    unfold tst1 at hq
    refine M_among (z := 6) (t := adv t) hTs hz (by decide) n1.2 n1.1 (fun e2 => ?_) (fun h e2 => ?_)
    · replace e2 : ixL [60, 61, 62] (nx tp sz (adv t)) = none := e2
      rw [e2] at hq
      unfold WX11_factor_150
      refine br_t rfl (br_t rfl ?_)
      unfold WX11_factor_164
      exact M_tstBad (hq s ⟨hs.1, fun z => by cases z⟩)
    · replace e2 : ixL [60, 61, 62] (nx tp sz (adv t)) = some h := e2
      rw [e2] at hq
      obtain ⟨h1, h2⟩ := ixL_some e2
      have h1' : h < 3 := h1
      have n2 := nx_in (tp := tp) (sz := sz) (t := adv t) (by intro z; rw [z] at h2; exact absurd h2 (by decide))
      have p2 : pP t + 1 < sz := n2.2
      unfold WX11_factor_150
      refine br_t rfl (br_f (m1 h (by omega)) ?_)
      exact M_tst169 (t := adv (adv t)) hc hT hz w1' h1' hb n2.2 (by show (pL t).length + 1 < pP t + 1 + 1; omega) hs hq
theorem b69 {c sz : Nat} {s : Fn} {F : MF} {x p o o2 : Int32} (hF : ∀ (p o : Int32) (s : Fn) (Q : Int32 → Int32 → Int32 → Fn → Prop), Q p 1 o s → F (nI c) p (nI sz) 1 o s Q) {Q : Int32 → Int32 → Int32 → Fn → Prop} (ho : o + 1 - 1 = o2) (hq : Q p 1 o2 s) : WX11_factor_39 (nI c) (nI sz) F x 1 p 0 o s Q := by
  unfold WX11_factor_39
  refine ⟨isB_1, ?_⟩
  rintro _ rfl
  refine br_f (by decide) ?_
  unfold WX11_factor_69
  rintro _ rfl
  rw [show p + 0 = p from Int32.add_zero _]
  have f : WX11_factor_101 (nI c) (nI sz) F p 1 (o + 1) s Q := by
    unfold WX11_factor_101
    rintro _ rfl
    rw [ho]; exact hq
  refine br_c (fun _ => hF _ _ _ _ ?_) (fun _ => ?_)
  · unfold WX11_emits
    exact br_f (by decide) f
  · unfold WX11_some WX11_every
    refine hF _ _ _ _ ⟨1, ?_⟩
    unfold WX11_every_4
    refine br_f (by decide) ⟨1, ?_⟩
    unfold WX11_some_4
    refine br_f (by decide) ?_
    unfold WX11_must
    refine br_f (by decide) ?_
    unfold WX11_must_16 WX11_must_21
    refine ⟨isB_1, br_f (by decide) ?_⟩
    unfold WX11_must_41
    rintro _ rfl
    rw [show p + 0 = p from Int32.add_zero _]
    exact f
theorem M_factor {tp : Fn} {sz c : Nat} {s0 : Fn} (hc : c < 8) (hT : ∀ k, k < sz → s0 (10 + k) = tp k) (hz : sz ≤ 120) : ∀ (d n : Nat), d ≤ 5 → d < n → SM tp sz c d s0 (WX11_factor (n + 1)) (sgl tp sz d) := by
  have hbad : ∀ (n : Nat) (p o : Int32) (s : Fn) (Q : Int32 → Int32 → Int32 → Fn → Prop), Q p 1 o s → WX11_factor (n + 1) (nI c) p (nI sz) 1 o s Q := by
    intro n p o s Q hq
    unfold WX11_factor WB11_factor
    exact br_f (by decide) hq
  intro d
  induction d with
  | zero =>
    intro n hd hn
    refine ⟨?_, hbad n⟩
    intro t s Q hp hl hs hq
    cases b : pB t with
    | true =>
      have e : sgl tp sz 0 t = t := (PgF_sgl tp sz 0 t).1 b
      rw [e, b] at hq
      exact hbad n _ _ _ _ (hq s hs)
    | false =>
      unfold sgl at hq
      rw [if_neg (by rw [b]; decide)] at hq
      obtain ⟨n, rfl⟩ : ∃ m, n = m + 1 := ⟨n - 1, by omega⟩
      have hTs := RM_tape hz hs hT
      have f25 : ∀ x, ixL [108, 104, 119, 99] (nx tp sz t) = none → WX11_factor_25 (nI c) (nI sz) (WX11_factor (n + 1)) x (nI (pP t)) 0 (nI (5 - 0)) s Q := by
        intro x ex
        unfold WX11_factor_25
        refine br_t rfl (b69 (hbad n) (o2 := nI 5) (by decide) ?_)
        unfold tstP at hq
        rw [ex] at hq
        exact hq s ⟨hs.1, fun z => by cases z⟩
      unfold WX11_factor WB11_factor
      refine br_t rfl (M_here hTs hz hp b (br_c (fun e => f25 _ (by rw [e]; rfl)) (fun e => br_c (fun e2 => f25 _ (by rw [e2]; rfl)) (fun e2 => ?_))))
      exact M_tstP hc hT hz b hp (hl b) hs hq
  | succ d ih =>
    intro n hd hn
    refine ⟨?_, hbad n⟩
    intro t s Q hp hl hs hq
    cases b : pB t with
    | true =>
      have e : sgl tp sz (d + 1) t = t := (PgF_sgl tp sz (d + 1) t).1 b
      rw [e, b] at hq
      exact hbad n _ _ _ _ (hq s hs)
    | false =>
      unfold sgl at hq
      rw [if_neg (by rw [b]; decide)] at hq
      obtain ⟨n, rfl⟩ : ∃ m, n = m + 1 := ⟨n - 1, by omega⟩
      have ih := ih n (by omega) (by omega)
      have hTs := RM_tape hz hs hT
      have ho : nI (5 - (d + 1)) + 1 = nI (5 - d) := by rw [nI_1]; congr 1; omega
      have ho2 : nI (5 - d) - 1 = nI (5 - (d + 1)) := by rw [li_1, pk_sub (by omega)]; congr 1
      have hn5 : ¬ nI (5 - (d + 1)) = 5 := by
        intro z
        have := (nI_eq (a := 5 - (d + 1)) (b := 5) (by omega) (by decide)).mp z
        omega
      have eb : pB (adv t) = false := b
      unfold WX11_factor WB11_factor
      refine br_t rfl (M_here hTs hz hp b (br_c (fun e => ?_) (fun e => br_c (fun e2 => ?_) (fun e2 => ?_))))
      · rw [if_pos e] at hq
        have nn := nx_in (tp := tp) (sz := sz) (t := t) (by rw [e]; decide)
        obtain ⟨p1, p2⟩ := PgF_next (PgF_sgl tp sz d) nn.1 nn.2 (hl nn.1)
        unfold WX11_factor_25
        refine br_f hn5 ?_
        unfold WX11_factor_39
        refine ⟨isB_0, ?_⟩
        rw [ho]
        rintro _ rfl
        refine br_t rfl ?_
        unfold WX11_factor_69
        rw [nI_1]
        rintro _ rfl
        refine br_t e ?_
        have g0 := ih.1 (adv t) s
        rw [eb] at g0
        refine g0 _ nn.2 (fun _ => Nat.lt_succ_of_lt (hl nn.1)) hs fun s hs => ?_
        refine M_emits hc hs (fun b => by have := p2 b; omega) (fun s hs => ?_)
        unfold WX11_factor_101
        rw [ho2]
        rintro _ rfl
        have := hq s hs
        obtain ⟨e1, -, -⟩ := em_P (-1) (sgl tp sz d (adv t))
        have eB : pB (em (-1) (sgl tp sz d (adv t))) = pB (sgl tp sz d (adv t)) := by
          cases z : pB (sgl tp sz d (adv t)) with
          | true => rw [em_bad z]; exact z
          | false => rw [em_ok z]
        rw [eB, e1] at this
        exact this
      · rw [if_neg e, if_pos e2] at hq
        have nn := nx_in (tp := tp) (sz := sz) (t := t) (by rw [e2]; decide)
        have hpe := PgF_eith (tp := tp) (PgF_sgl tp sz d)
        obtain ⟨p1, p2⟩ := PgF_next hpe nn.1 nn.2 (hl nn.1)
        unfold WX11_factor_25
        refine br_f hn5 ?_
        unfold WX11_factor_39
        refine ⟨isB_0, ?_⟩
        rw [ho]
        rintro _ rfl
        refine br_t rfl ?_
        unfold WX11_factor_69
        rw [nI_1]
        rintro _ rfl
        refine br_f e ?_
        have g0 := (M_some hc hT hz (PgF_sgl tp sz d) ih).1 (adv t) s
        rw [eb] at g0
        refine g0 _ nn.2 (fun _ => Nat.lt_succ_of_lt (hl nn.1)) hs fun s hs => ?_
        refine M_must (RM_tape hz hs hT) hz p1 (by decide) ?_
        unfold WX11_factor_101
        rw [ho2]
        rintro _ rfl
        refine hq s ⟨hs.1, fun z => ?_⟩
        unfold nd at z ⊢
        by_cases e3 : nx tp sz (eithP tp sz (sgl tp sz d) (adv t)) = 41
        · rw [if_pos e3] at z ⊢
          exact hs.2 z
        · rw [if_neg e3] at z; cases z
      · rw [if_neg e, if_neg e2] at hq
        exact M_tstP hc hT hz b hp (hl b) hs hq
