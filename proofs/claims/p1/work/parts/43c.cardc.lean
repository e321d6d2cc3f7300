/-! ===== by hand: how the program reads a card ===== -/
/-- the steps that the program has put -/
def RSt (t : PS) (sc : Int32) (steps : Fn) : Prop := pB t = false → sc = nI (pL t).length ∧ ∀ k, k < (pL t).length → steps k = cvs ((pL t).getD k 0)
theorem getD_app_l {l : List Int32} {x : Int32} {k : Nat} (h : k < l.length) : (l ++ [x]).getD k 0 = l.getD k 0 := by
  rw [List.getD_eq_getElem?_getD, List.getD_eq_getElem?_getD, List.getElem?_append_left h]
theorem getD_app_r {l : List Int32} {x : Int32} : (l ++ [x]).getD l.length 0 = x := by
  rw [List.getD_eq_getElem?_getD, List.getElem?_append_right (Nat.le_refl _), Nat.sub_self]; rfl
theorem C_putStep {t : PS} {sc : Int32} {steps : Fn} (hs : RSt t sc steps) (hl : pB t = false → (pL t).length < 120) {x x' : Int32} (hx : pB t = false → x' = cvs x) {Q : Int32 → Fn → Prop} (h : ∀ sc' steps', RSt (em x t) sc' steps' → Q sc' steps') : WX1_putStep x' sc steps Q := by
  unfold WX1_putStep
  cases b : pB t with
  | true =>
    have ht : ∀ sc' steps', Q sc' steps' := fun sc' steps' => h _ _ (by rw [em_bad b]; intro z; rw [b] at z; cases z)
    refine br_c (fun _ => ht _ _) (fun c => br_c (fun c2 => ⟨?_, fun _ _ => ht _ _⟩) (fun _ => ht _ _))
    obtain ⟨j, hj, rfl⟩ := nI_of c
    exact vp_in_nI ((nI_ltI (b := 120) hj (by decide)).mp c2) (by decide)
  | false =>
    obtain ⟨e1, e2⟩ := hs b
    have hl := hl b
    rw [e1, hx b]
    refine br_f (nI_pos (by omega)) (br_t (nI_lt (b := 120) hl (by decide)) ⟨vp_in_nI hl (by decide), ?_⟩)
    rintro _ rfl
    rw [nI_1, nI_clamp (by omega)]
    refine h _ _ ?_
    rw [em_ok b]
    intro _
    refine ⟨by show _ = nI (pL t ++ [x]).length; rw [List.length_append]; rfl, fun k hk => ?_⟩
    replace hk : k < (pL t ++ [x]).length := hk
    rw [List.length_append] at hk
    replace hk : k < (pL t).length + 1 := hk
    show upd steps _ _ k = cvs ((pL t ++ [x]).getD k 0)
    by_cases c : k = (pL t).length
    · rw [c, pk_us, getD_app_r]
    · rw [pk_un c, getD_app_l (by omega)]; exact e2 k (by omega)
/-- what the reader of the program must do for a reader of the grammar -/
def SF (tp : Fn) (sz d : Nat) (tape : Fn) (F : Int32 → Int32 → Int32 → Int32 → Int32 → Fn → Fn → (Int32 → Int32 → Int32 → Fn → Prop) → Prop) (f : PS → PS) : Prop := ∀ (t : PS) (sc : Int32) (steps : Fn) (Q : Int32 → Int32 → Int32 → Fn → Prop), pP t ≤ sz → (pB t = false → (pL t).length < pP t) → RSt t sc steps → (∀ sc' steps', RSt (f t) sc' steps' → Q (nI (pP (f t))) (fl (f t)) sc' steps') → F (nI (5 - d)) (nI sz) (nI (pP t)) (fl t) sc tape steps Q
theorem len_lt {sz need : Nat} {t u : PS} (h : PgA sz need t u) (h1 : pB t = false → (pL t).length < pP t) (ht : pB t = false) : pB u = false → (pL u).length < pP u := by
  intro b
  obtain ⟨-, -, h3⟩ := h
  obtain ⟨a1, seg, a2, a3, -⟩ := h3 b
  have := h1 ht
  rw [a2, List.length_append]; omega
theorem PgF_len {sz need : Nat} {f : PS → PS} (hf : PgF sz need f) {t : PS} (hp : pP t ≤ sz) (h1 : pB t = false → (pL t).length < pP t) : pP (f t) ≤ sz ∧ (pB (f t) = false → (pL (f t)).length < pP (f t)) := by
  cases b : pB t with
  | true => rw [(hf t).1 b]; exact ⟨hp, h1⟩
  | false => exact ⟨((hf t).2 b hp).2.1, len_lt ((hf t).2 b hp) h1 b⟩
/-- one more behind a sign, its step not yet put -/
theorem PgF_next {sz need : Nat} {f : PS → PS} (hf : PgF sz need f) {t : PS} (hb : pB t = false) (hp : pP t < sz) (h1 : (pL t).length < pP t) : pP (f (adv t)) ≤ sz ∧ (pB (f (adv t)) = false → (pL (f (adv t))).length + 1 < pP (f (adv t))) := by
  have g := (hf (adv t)).2 hb hp
  refine ⟨g.2.1, fun b => ?_⟩
  obtain ⟨a1, seg, a2, a3, -⟩ := g.2.2 b
  have a2' : pL (f (adv t)) = pL t ++ seg := a2
  have a3' : seg.length + (pP t + 1) ≤ pP (f (adv t)) := a3
  rw [a2', List.length_append]; omega
theorem em_P (x : Int32) (t : PS) : pP (em x t) = pP t ∧ fl (em x t) = fl t ∧ (pB (em x t) = false → pB t = false ∧ (pL (em x t)).length = (pL t).length + 1) := by
  cases b : pB t with
  | true => rw [em_bad b]; exact ⟨rfl, rfl, fun z => by rw [b] at z; cases z⟩
  | false =>
    rw [em_ok b]
    refine ⟨rfl, ?_, fun _ => ⟨rfl, ?_⟩⟩
    · rw [fl_f b]; exact fl_f rfl
    · show (pL t ++ [x]).length = _
      rw [List.length_append]; rfl
theorem C_both {tp tape : Fn} {sz d : Nat} (hT : ∀ k, k < sz → tape k = tp k) (hz : sz ≤ 120) {F : Int32 → Int32 → Int32 → Int32 → Int32 → Fn → Fn → (Int32 → Int32 → Int32 → Fn → Prop) → Prop} {f : PS → PS} {need : Nat} (hf : PgF sz need f) (hF : SF tp sz d tape F f) : SF tp sz d tape (WX1_readBoth F) (bothP tp sz f) := by
  intro t sc steps Q hp hl hs hq
  unfold WX1_readBoth
  refine hF t sc steps _ hp hl hs fun sc steps hs => ?_
  obtain ⟨hp, hl⟩ := PgF_len hf hp hl
  unfold bothP at hq
  rw [lim_eq] at hq
  suffices g : ∀ (n m i : Nat) (u : PS) (sc : Int32) (steps : Fn), i + m = 120 → m < n → pP u ≤ sz → (pB u = false → (pL u).length < pP u) → RSt u sc steps → (∀ sc' steps', RSt (rep tp sz 38 (-2) f m u) sc' steps' → Q (nI (pP (rep tp sz 38 (-2) f m u))) (fl (rep tp sz 38 (-2) f m u)) sc' steps') → WX1_readBoth_7 (nI (5 - d)) (nI sz) tape F Q n (nI i) (nI (pP u)) (fl u) sc steps from
    ⟨121, g 121 120 0 (f t) sc steps (by omega) (by omega) hp hl hs hq⟩
  intro n
  induction n with
  | zero => intro m i u sc steps h1 h2; omega
  | succ n ih =>
    intro m i u sc steps h1 h2 hp hl hs hq
    unfold WX1_readBoth_7
    cases m with
    | zero => exact br_t (nI_le (a := 120) (by omega) (by omega)) (hq _ _ hs)
    | succ m =>
      unfold rep at hq
      refine br_f (nI_ge (b := 120) (by omega) (by omega)) (C_takes_X1 hT hz hp (fun e => br_f (by decide) ?_) (fun e => br_t rfl ?_))
      · rw [if_pos e] at hq
        have nn := nx_in (tp := tp) (sz := sz) (t := u) (by rw [e]; decide)
        obtain ⟨p1, p2⟩ := PgF_next hf nn.1 nn.2 (hl nn.1)
        have fe : fl u = fl (adv u) := by rw [fl_f nn.1, fl_f (t := adv u) nn.1]
        rw [fe]
        refine hF (adv u) sc steps _ nn.2 (fun b => Nat.lt_succ_of_lt (hl nn.1)) hs fun sc steps hs => ?_
        refine C_putStep (x := -2) hs (fun b => by have := p2 b; omega) (fun _ => rfl) (fun sc steps hs => ?_)
        rintro _ rfl
        rw [nI_1]
        obtain ⟨e1, e2, e3⟩ := em_P (-2) (f (adv u))
        rw [← e1, ← e2]
        refine ih m (i + 1) _ sc steps (by omega) (by omega) (by rw [e1]; exact p1) (fun b => ?_) hs hq
        rw [(e3 b).2, e1]; exact p2 (e3 b).1
      · rw [if_neg e] at hq
        exact hq _ _ hs
theorem C_eith {tp tape : Fn} {sz d : Nat} (hT : ∀ k, k < sz → tape k = tp k) (hz : sz ≤ 120) {F : Int32 → Int32 → Int32 → Int32 → Int32 → Fn → Fn → (Int32 → Int32 → Int32 → Fn → Prop) → Prop} {f : PS → PS} {need : Nat} (hf : PgF sz need f) (hF : SF tp sz d tape F f) : SF tp sz d tape (WX1_readEither F) (eithP tp sz f) := by
  intro t sc steps Q hp hl hs hq
  have hF := C_both hT hz hf hF
  have hf := PgF_both (tp := tp) hf
  unfold WX1_readEither
  refine hF t sc steps _ hp hl hs fun sc steps hs => ?_
  obtain ⟨hp, hl⟩ := PgF_len hf hp hl
  unfold eithP at hq
  rw [lim_eq] at hq
  suffices g : ∀ (n m i : Nat) (u : PS) (sc : Int32) (steps : Fn), i + m = 120 → m < n → pP u ≤ sz → (pB u = false → (pL u).length < pP u) → RSt u sc steps → (∀ sc' steps', RSt (rep tp sz 124 (-3) (bothP tp sz f) m u) sc' steps' → Q (nI (pP (rep tp sz 124 (-3) (bothP tp sz f) m u))) (fl (rep tp sz 124 (-3) (bothP tp sz f) m u)) sc' steps') → WX1_readEither_7 (nI (5 - d)) (nI sz) tape F Q n (nI i) (nI (pP u)) (fl u) sc steps from
    ⟨121, g 121 120 0 (bothP tp sz f t) sc steps (by omega) (by omega) hp hl hs hq⟩
  intro n
  induction n with
  | zero => intro m i u sc steps h1 h2; omega
  | succ n ih =>
    intro m i u sc steps h1 h2 hp hl hs hq
    unfold WX1_readEither_7
    cases m with
    | zero => exact br_t (nI_le (a := 120) (by omega) (by omega)) (hq _ _ hs)
    | succ m =>
      unfold rep at hq
      refine br_f (nI_ge (b := 120) (by omega) (by omega)) (C_takes_X1 hT hz hp (fun e => br_f (by decide) ?_) (fun e => br_t rfl ?_))
      · rw [if_pos e] at hq
        have nn := nx_in (tp := tp) (sz := sz) (t := u) (by rw [e]; decide)
        obtain ⟨p1, p2⟩ := PgF_next hf nn.1 nn.2 (hl nn.1)
        have fe : fl u = fl (adv u) := by rw [fl_f nn.1, fl_f (t := adv u) nn.1]
        rw [fe]
        refine hF (adv u) sc steps _ nn.2 (fun b => Nat.lt_succ_of_lt (hl nn.1)) hs fun sc steps hs => ?_
        refine C_putStep (x := -3) hs (fun b => by have := p2 b; omega) (fun _ => rfl) (fun sc steps hs => ?_)
        rintro _ rfl
        rw [nI_1]
        obtain ⟨e1, e2, e3⟩ := em_P (-3) (bothP tp sz f (adv u))
        rw [← e1, ← e2]
        refine ih m (i + 1) _ sc steps (by omega) (by omega) (by rw [e1]; exact p1) (fun b => ?_) hs hq
        rw [(e3 b).2, e1]; exact p2 (e3 b).1
      · rw [if_neg e] at hq
        exact hq _ _ hs
theorem dgP_bad {tp : Fn} {sz lo hi : Nat} {t : PS} (hlo : 48 + lo < 1000) (h : pB t = true) : dgP tp sz lo hi t = (0, t) := by
  unfold dgP
  rw [nx_bad h, if_neg (fun z => by have := z.1; have := nI_pos (n := 48 + lo) (by omega); grind), bad_eq h]
theorem C_tstB3 {tp tape : Fn} {sz : Nat} (hT : ∀ k, k < sz → tape k = tp k) (hB : ∀ k, k < sz → ∃ b, b < 256 ∧ tp k = nI b) (hz : sz ≤ 120) {t : PS} (hb : pB t = true) (hp : pP t ≤ sz) {x y sc : Int32} {steps : Fn} {Q : Int32 → Int32 → Int32 → Fn → Prop} (hq : ∀ sc' steps', Q (nI (pP t)) (fl t) sc' steps') : WX2_digit_X1 0 9 (nI sz) (nI (pP t)) (fl t) tape (fun r p f => WX1_putStep (((x * 100) + (y * 10)) + r) sc steps (fun sc' steps' => Q p f sc' steps')) := by
  refine C_digit_X1 (lo := 0) (hi := 9) hT hB hz (by decide) (by decide) hp fun r _ => ?_
  rw [dgP_bad (by decide) hb]
  exact C_putStep (t := t) (x := 0) (fun z => by rw [hb] at z; cases z) (fun z => by rw [hb] at z; cases z) (fun z => by rw [hb] at z; cases z) (fun sc' steps' _ => hq sc' steps')
theorem C_tst {tp tape : Fn} {sz : Nat} (hT : ∀ k, k < sz → tape k = tp k) (hB : ∀ k, k < sz → ∃ b, b < 256 ∧ tp k = nI b) (hz : sz ≤ 120) {F : Int32 → Int32 → Int32 → Int32 → Int32 → Fn → Fn → (Int32 → Int32 → Int32 → Fn → Prop) → Prop} {t : PS} {sc : Int32} {steps : Fn} {Q : Int32 → Int32 → Int32 → Fn → Prop} (hp : pP t ≤ sz) (hl : pB t = false → (pL t).length < pP t) (hs : RSt t sc steps) (hq : ∀ sc' steps', RSt (tstP tp sz t) sc' steps' → Q (nI (pP (tstP tp sz t))) (fl (tstP tp sz t)) sc' steps') : WX1_readSingle_75 (nI sz) tape F (nI (pP t)) (fl t) sc steps Q := by
  unfold WX1_readSingle_75
  unfold tstP at hq
  have m1 : ∀ {u : PS}, pB u = true → ixL [60, 61, 62] (nx tp sz u) = none := fun h => by rw [nx_bad h]; rfl
  refine C_oneOf_X1 (z := 5) hT hz (by decide) hp (fun e1 => ?_) (fun w e1 => ?_)
  · replace e1 : ixL [108, 104, 119, 99] (nx tp sz t) = none := e1
    rw [e1] at hq
    refine C_oneOf_X1 (z := 6) (t := bad t) hT hz (by decide) hp (fun e2 => ?_) (fun w e2 => ?_)
    · exact C_tstB3 (t := bad t) hT hB hz rfl hp (fun sc' steps' => hq sc' steps' (fun z => by cases z))
    · replace e2 : ixL [60, 61, 62] (nx tp sz (bad t)) = some w := e2
      rw [m1 rfl] at e2; cases e2
  · replace e1 : ixL [108, 104, 119, 99] (nx tp sz t) = some w := e1
    rw [e1] at hq
    replace hq : ∀ sc' steps', RSt (tst1 tp sz w (adv t)) sc' steps' → Q (nI (pP (tst1 tp sz w (adv t)))) (fl (tst1 tp sz w (adv t))) sc' steps' := hq
    obtain ⟨w1, w2⟩ := ixL_some e1
    have n1 := nx_in (tp := tp) (sz := sz) (t := t) (by intro z; rw [z] at w2; exact absurd w2 (by decide))
    have f1 : fl t = fl (adv t) := by rw [fl_f n1.1, fl_f (t := adv t) n1.1]
    rw [f1]
    unfold tst1 at hq
    refine C_oneOf_X1 (z := 6) (t := adv t) hT hz (by decide) n1.2 (fun e2 => ?_) (fun h e2 => ?_)
    · replace e2 : ixL [60, 61, 62] (nx tp sz (adv t)) = none := e2
      rw [e2] at hq
      exact C_tstB3 (t := bad (adv t)) hT hB hz rfl n1.2 (fun sc' steps' => hq sc' steps' (fun z => by cases z))
    · replace e2 : ixL [60, 61, 62] (nx tp sz (adv t)) = some h := e2
      rw [e2] at hq
      replace hq : ∀ sc' steps', RSt (tst2 tp sz w h (adv (adv t))) sc' steps' → Q (nI (pP (tst2 tp sz w h (adv (adv t))))) (fl (tst2 tp sz w h (adv (adv t)))) sc' steps' := hq
      obtain ⟨h1, h2⟩ := ixL_some e2
      have n2 := nx_in (tp := tp) (sz := sz) (t := adv t) (by intro z; rw [z] at h2; exact absurd h2 (by decide))
      have f2 : fl (adv t) = fl (adv (adv t)) := by rw [fl_f (t := adv t) n2.1, fl_f (t := adv (adv t)) n2.1]
      rw [f2]
      refine C_digit_X1 (lo := 0) (hi := 9) (t := adv (adv t)) hT hB hz (by decide) (by decide) n2.2 fun r hr => ?_
      unfold tst2 at hq
      unfold dgP at hr ⊢
      by_cases c : nI 48 ≤ nx tp sz (adv (adv t)) ∧ nx tp sz (adv (adv t)) ≤ nI 57
      · rw [if_pos c] at hq
        rw [if_pos c] at hr ⊢
        have n3 := nx_in (tp := tp) (sz := sz) (t := adv (adv t)) (by intro z; rw [z] at c; exact absurd c (by decide))
        obtain ⟨v, -, v1, -, v3, v2⟩ := dig_of (lo := 0) (hi := 9) (by decide) (by decide) c.1 c.2
        replace hr := hr n3.1
        rw [v2] at hq
        replace hr : r = nI v := hr.trans v3
        subst hr
        obtain ⟨e1, e2, -⟩ := em_P (nI (w + 4 * h + 16 * v)) (adv (adv (adv t)))
        rw [e1, e2] at hq
        have hlt := hl n1.1
        have hpt : pP t + 1 + 1 < sz := n3.2
        refine C_putStep (t := adv (adv (adv t))) (x := nI (w + 4 * h + 16 * v)) hs (fun _ => by show (pL t).length < 120; omega) (fun _ => ?_) (fun sc' steps' hs' => hq sc' steps' hs')
        have w1' : w < 4 := w1
        have h1' : h < 3 := h1
        unfold cvs
        rw [if_neg (nI_pos (by omega)), nI_clamp (by omega), show ((nI w * 100) + (nI h * 10)) + nI v = nI (w * 100 + h * 10 + v) by rw [← nI_add, ← nI_add, ← pk_mul, ← pk_mul]; rfl]
        congr 1; omega
      · rw [if_neg c] at hq
        rw [if_neg c]
        exact C_putStep (t := bad (adv (adv t))) (x := 0) (fun z => by cases z) (fun z => by cases z) (fun z => by cases z) (fun sc' steps' _ => hq sc' steps' (fun z => by cases z))
theorem C_sgl {tp tape : Fn} {sz : Nat} (hT : ∀ k, k < sz → tape k = tp k) (hB : ∀ k, k < sz → ∃ b, b < 256 ∧ tp k = nI b) (hz : sz ≤ 120) : ∀ (d n : Nat), d ≤ 5 → d < n → SF tp sz d tape (WX1_readSingle n) (sgl tp sz d) := by
  intro d
  induction d with
  | zero =>
    intro n hd hn t sc steps Q hp hl hs hq
    obtain ⟨n, rfl⟩ : ∃ m, n = m + 1 := ⟨n - 1, by omega⟩
    unfold WX1_readSingle WB1_readSingle
    refine br_t (by decide) ?_
    unfold WX1_readSingle_10
    refine br_t rfl ?_
    unfold WX1_readSingle_39
    refine br_t rfl (C_tst hT hB hz hp hl hs ?_)
    unfold sgl at hq
    cases b : pB t with
    | true => rw [if_pos b] at hq; rw [tstP_bad b, bad_eq b]; exact hq
    | false => rw [if_neg (by rw [b]; decide)] at hq; exact hq
  | succ d ih =>
    intro n hd hn t sc steps Q hp hl hs hq
    obtain ⟨n, rfl⟩ : ∃ m, n = m + 1 := ⟨n - 1, by omega⟩
    have ih := ih n (by omega) (by omega)
    have hx1 : nI (5 - (d + 1)) + 1 = nI (5 - d) := by rw [nI_1]; congr 1; omega
    unfold WX1_readSingle WB1_readSingle
    refine br_f (nI_ge (b := 5) (by omega) (by omega)) ?_
    unfold WX1_readSingle_10
    refine br_f (by decide) ?_
    unfold WX1_readSingle_39
    unfold sgl at hq
    have tst : (nx tp sz t ≠ 33) → (nx tp sz t ≠ 40) → WX1_readSingle_75 (nI sz) tape (WX1_readSingle n) (nI (pP t)) (fl t) sc steps Q := by
      intro c1 c2
      refine C_tst hT hB hz hp hl hs ?_
      cases b : pB t with
      | true => rw [if_pos b] at hq; rw [tstP_bad b, bad_eq b]; exact hq
      | false => rw [if_neg (by rw [b]; decide), if_neg c1, if_neg c2] at hq; exact hq
    refine C_takes_X1 hT hz hp (fun e => br_f (by decide) ?_) (fun e => br_t rfl (br_f (by decide) (C_takes_X1 hT hz hp (fun e2 => br_f (by decide) ?_) (fun e2 => br_t rfl (tst e e2)))))
    · have nn := nx_in (tp := tp) (sz := sz) (t := t) (by rw [e]; decide)
      rw [if_neg (by rw [nn.1]; decide), if_pos e] at hq
      have fe : fl t = fl (adv t) := by rw [fl_f nn.1, fl_f (t := adv t) nn.1]
      rw [fe, hx1]
      obtain ⟨p1, p2⟩ := PgF_next (PgF_sgl tp sz d) nn.1 nn.2 (hl nn.1)
      refine ih (adv t) sc steps _ nn.2 (fun b => Nat.lt_succ_of_lt (hl nn.1)) hs fun sc steps hs => ?_
      obtain ⟨e1, e2, -⟩ := em_P (-1) (sgl tp sz d (adv t))
      rw [e1, e2] at hq
      exact C_putStep (x := -1) hs (fun b => by have := p2 b; omega) (fun _ => rfl) (fun sc' steps' hs' => hq sc' steps' hs')
    · have nn := nx_in (tp := tp) (sz := sz) (t := t) (by rw [e2]; decide)
      rw [if_neg (by rw [nn.1]; decide), if_neg e, if_pos e2] at hq
      have fe : fl t = fl (adv t) := by rw [fl_f nn.1, fl_f (t := adv t) nn.1]
      rw [fe, hx1]
      have hpe := PgF_eith (tp := tp) (PgF_sgl tp sz d)
      obtain ⟨p1, p2⟩ := PgF_next hpe nn.1 nn.2 (hl nn.1)
      refine C_eith hT hz (PgF_sgl tp sz d) ih (adv t) sc steps _ nn.2 (fun b => Nat.lt_succ_of_lt (hl nn.1)) hs fun sc steps hs => ?_
      unfold nd at hq
      refine C_takes_X1 hT hz p1 (fun e3 => br_f (by decide) ?_) (fun e3 => br_t rfl (C_fail_X1 (by omega) ?_))
      · rw [if_pos e3] at hq
        have n3 := nx_in (tp := tp) (sz := sz) (t := eithP tp sz (sgl tp sz d) (adv t)) (by rw [e3]; decide)
        have := hq sc steps (fun _ => hs n3.1)
        rw [fl_f (t := adv (eithP tp sz (sgl tp sz d) (adv t))) n3.1] at this
        rw [fl_f n3.1]; exact this
      · rw [if_neg e3] at hq
        exact hq sc steps (fun z => by cases z)
