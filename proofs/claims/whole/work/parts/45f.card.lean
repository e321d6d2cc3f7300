/-! ===== by hand: a card is read ===== -/
/-- the lines that stand, as they were read -/
def goodL (t : PS) (acc : List LN) : Prop := (pL t).length ≤ 120 ∧ ∀ k, k < acc.length → (∃ v, v ≤ 3 ∧ (acc.getD k (0, 0, 0)).1 = nI v) ∧ (acc.getD k (0, 0, 0)).2.1 ≤ (acc.getD k (0, 0, 0)).2.2 ∧ (acc.getD k (0, 0, 0)).2.2 ≤ (pL t).length ∧ okA (fun i => (pL t).getD i 0) ((acc.getD k (0, 0, 0)).2.2 - (acc.getD k (0, 0, 0)).2.1) (acc.getD k (0, 0, 0)).2.1 0 1
theorem okA_cong {f g : Fn} : ∀ (n i d e : Nat), (∀ k, i ≤ k → k < i + n → g k = f k) → okA f n i d e → okA g n i d e := by
  intro n
  induction n with
  | zero => intro i d e _ h; exact h
  | succ n ih =>
    intro i d e hg h
    have h0 := hg i (Nat.le_refl _) (by omega)
    have hr := fun d e h => ih (i + 1) d e (fun k h1 h2 => hg k (by omega) (by omega)) h
    rcases h with ⟨h1, h2, h3⟩ | ⟨h1, h2, h3⟩ | ⟨h1, h2, h3⟩
    · exact Or.inl ⟨h0.trans h1, h2, hr _ _ h3⟩
    · exact Or.inr (Or.inl ⟨by rw [h0]; exact h1, h2, hr _ _ h3⟩)
    · exact Or.inr (Or.inr ⟨by rw [h0]; exact h1, h2, hr _ _ h3⟩)
theorem getD_app {l seg : List Int32} {k : Nat} (h : k < l.length) : (l ++ seg).getD k 0 = l.getD k 0 := by
  rw [List.getD_eq_getElem?_getD, List.getD_eq_getElem?_getD, List.getElem?_append_left h]
theorem getD_app2 {l seg : List Int32} {k : Nat} : (l ++ seg).getD (l.length + k) 0 = seg.getD k 0 := by
  rw [List.getD_eq_getElem?_getD, List.getD_eq_getElem?_getD, List.getElem?_append_right (Nat.le_add_right _ _), Nat.add_sub_cancel_left]
theorem good_line {l seg : List Int32} {dv : Int32} {acc : List LN} {v p1 p2 : Nat} {b1 b2 : Bool} (hdv : dv = nI v) (hv : v ≤ 3) (hlen : (l ++ seg).length ≤ 120) (ho : okL seg 0 1) (h : goodL (p1, b1, l) acc) : goodL (p2, b2, l ++ seg) (acc ++ [(dv, l.length, (l ++ seg).length)]) := by
  obtain ⟨h1, h2⟩ := h
  refine ⟨hlen, fun k hk => ?_⟩
  rw [List.length_append] at hk
  replace hk : k < acc.length + 1 := hk
  by_cases c : k = acc.length
  · subst c
    rw [getLN_r]
    refine ⟨⟨v, hv, hdv⟩, ?_, Nat.le_refl _, ?_⟩
    · show l.length ≤ (l ++ seg).length
      rw [List.length_append]; omega
    · show okA (fun i => (l ++ seg).getD i 0) ((l ++ seg).length - l.length) l.length 0 1
      rw [List.length_append, Nat.add_sub_cancel_left]
      exact okA_of seg _ _ _ ho (fun k _ => getD_app2)
  · have hk' : k < acc.length := by omega
    rw [getLN_l hk']
    obtain ⟨g1, g2, g3, g4⟩ := h2 k hk'
    replace g3 : (acc.getD k (0, 0, 0)).2.2 ≤ l.length := g3
    refine ⟨g1, g2, ?_, okA_cong _ _ _ _ (fun i i1 i2 => ?_) g4⟩
    · show _ ≤ (l ++ seg).length
      rw [List.length_append]; omega
    · exact getD_app (by omega)
theorem lnsP_good {tp : Fn} {sz : Nat} (hz : sz ≤ 120) : ∀ (n : Nat) (t : PS) (acc : List LN), pP t ≤ sz → pB t = false → (pL t).length ≤ pP t → goodL t acc → pB (lnsP tp sz n t acc).1 = false → goodL (lnsP tp sz n t acc).1 (lnsP tp sz n t acc).2 ∧ acc.length ≤ (lnsP tp sz n t acc).2.length ∧ (lnsP tp sz n t acc).2.length ≤ acc.length + n ∧ (1 ≤ n → acc.length < (lnsP tp sz n t acc).2.length) := by
  intro n
  induction n with
  | zero => intro t acc h hb hl hg _; exact ⟨hg, Nat.le_refl _, Nat.le_refl _, fun h => absurd h (by decide)⟩
  | succ n ih =>
    intro t acc h hb hl hg
    obtain ⟨⟨l1, l2, l3⟩, l4, l5, l6, l7⟩ := lnP_ok (tp := tp) h (fun _ => hl)
    have step : pB (lnP tp sz t) = false → goodL (lnP tp sz t) (acc ++ [lnX tp sz t]) := by
      intro b
      obtain ⟨a1, a2, seg, a3, a4⟩ := l7 b
      have hd := dgP_b h a1
      have hdv : ∃ v, v ≤ 3 ∧ (dgP tp sz 0 3 t).1 = nI v := by
        unfold dgP at hd ⊢
        by_cases c : nI (48 + 0) ≤ nx tp sz t ∧ nx tp sz t ≤ nI (48 + 3)
        · rw [if_pos c]
          obtain ⟨v, -, v1, -, v3, -⟩ := dig_of (lo := 0) (hi := 3) (by decide) (by decide) c.1 c.2
          exact ⟨v, v1, v3⟩
        · rw [if_neg c] at hd; cases hd
      obtain ⟨v, hv, ev⟩ := hdv
      have hlen : (pL t ++ seg).length ≤ 120 := by rw [← a3]; exact Nat.le_trans (Nat.le_of_lt a2) (Nat.le_trans l5 hz)
      have := good_line (p1 := pP t) (b1 := pB t) (p2 := pP (lnP tp sz t)) (b2 := pB (lnP tp sz t)) ev hv hlen a4 hg
      rw [← a3] at this
      have ex : lnX tp sz t = ((dgP tp sz 0 3 t).1, (pL t).length, (pL (lnP tp sz t)).length) := by
        show ((dgP tp sz 0 3 t).1, (pL (lnA tp sz t)).length, (pL (lnP tp sz t)).length) = _
        rw [l3]
      rw [ex]
      exact this
    have el : (acc ++ [lnX tp sz t]).length = acc.length + 1 := by rw [List.length_append]; rfl
    unfold lnsP
    by_cases c : n ≠ 0 ∧ nx tp sz (lnP tp sz t) = 59
    · rw [if_pos c]
      have nn := nx_in (tp := tp) (sz := sz) (t := lnP tp sz t) (by rw [c.2]; decide)
      have h1 := (l7 nn.1).2.1
      intro hb'
      obtain ⟨i1, i2, i3, i4⟩ := ih (adv (lnP tp sz t)) (acc ++ [lnX tp sz t]) nn.2 nn.1 (Nat.le_succ_of_le (Nat.le_of_lt h1)) (step nn.1) hb'
      rw [el] at i2 i3 i4
      exact ⟨i1, by omega, by omega, fun _ => by omega⟩
    · rw [if_neg c]
      intro hb'
      refine ⟨step hb', ?_, ?_, fun _ => ?_⟩
      · show acc.length ≤ (acc ++ [lnX tp sz t]).length; omega
      · show (acc ++ [lnX tp sz t]).length ≤ _; omega
      · show acc.length < (acc ++ [lnX tp sz t]).length; omega
theorem cardP_good {tp : Fn} {sz : Nat} (hz : sz ≤ 120) (h : pB (cardP tp sz).1 = false) : goodL (cardP tp sz).1 (cardP tp sz).2 ∧ 1 ≤ (cardP tp sz).2.length ∧ (cardP tp sz).2.length ≤ 6 := by
  have := lnsP_good (tp := tp) hz 6 (0, false, []) [] (Nat.zero_le _) rfl (Nat.le_refl _) ⟨by decide, fun k h => absurd h (Nat.not_lt_zero k)⟩ h
  exact ⟨this.1, this.2.2.2 (by decide), by have := this.2.2.1; rwa [List.length_nil, Nat.zero_add] at this⟩
/-- the card that was read -/
def vOf (k v : Int32) (t : PS) (acc : List LN) : CV := (k, v, acc.length, none, fun j => (acc.getD j (0, 0, 0)).1, fun j => (acc.getD j (0, 0, 0)).2.1, fun j => (acc.getD j (0, 0, 0)).2.2 - (acc.getD j (0, 0, 0)).2.1, fun i => (pL t).getD i 0)
theorem okV_of {kd v : Int32} {t : PS} {acc : List LN} (hv : 0 ≤ v ∧ v ≤ 3) (h1 : 1 ≤ acc.length) (h6 : acc.length ≤ 6) (h : goodL t acc) : okV (vOf kd v t acc) := by
  refine ⟨⟨h1, h6⟩, hv, fun l hl => (by cases hl), fun j hj => ?_⟩
  obtain ⟨⟨w, w1, w2⟩, g2, g3, g4⟩ := h.2 j hj
  refine ⟨?_, ?_, g4⟩
  · show 0 ≤ (acc.getD j (0, 0, 0)).1 ∧ (acc.getD j (0, 0, 0)).1 ≤ 3
    rw [w2]
    exact ⟨nI_pos' (by omega), nI_le (b := 3) w1 (by decide)⟩
  · show (acc.getD j (0, 0, 0)).2.1 + ((acc.getD j (0, 0, 0)).2.2 - (acc.getD j (0, 0, 0)).2.1) ≤ 120
    have := h.1; omega
theorem M_card {x1 x2 : Int32} {s : Fn} {sz C : Nat} {tp : Fn} (hC : C ≤ 8) (hz : sz ≤ 120) (h5 : s 5 = nI C) (h7 : s 7 = nI sz) (hT : ∀ k, k < sz → s (10 + k) = tp k) {a b c d e : Int32} {Q : Int32 → Int32 → Int32 → Int32 → Int32 → Int32 → Fn → Prop} (q1 : (x1 < 0 ∨ nI 7 ≤ x1) → Q (-1) a b c d e s) (q2 : ∀ i, i < 7 → x1 = nI i → (x2 < 0 ∨ nI 4 ≤ x2) → Q (-2) a b c d e s) (q3 : ∀ i j, i < 7 → x1 = nI i → j < 4 → x2 = nI j → C = 8 → Q (-4) a b c d e s)
    (q4 : ∀ i j, i < 7 → x1 = nI i → j < 4 → x2 = nI j → C < 8 → pB (endP sz (cardP tp sz).1) = true → ∀ a b c d e s', s' 7 = 0 → (∀ k, ¬ reg C k → k ≠ 7 → k ≠ 158 + C → k ≠ 166 + C → s' k = s k) → Q (-10 - nI (pP (cardP tp sz).1)) a b c d e s')
    (q5 : ∀ i j, i < 7 → x1 = nI i → j < 4 → x2 = nI j → C < 8 → pB (endP sz (cardP tp sz).1) = false → ∀ a b c d e s0 s', s0 7 = 0 → s0 (158 + C) = x1 → s0 (166 + C) = x2 → (∀ k, ¬ reg C k → k ≠ 7 → k ≠ 158 + C → k ≠ 166 + C → s0 k = s k) → RLk C s0 (cardP tp sz).1 (cardP tp sz).2 s' → Q (nI C) a b c d e (upd s' 5 (nI (C + 1)))) : WX11_card x1 x2 a b c d e s Q := by
  unfold WX11_card
  refine M_in0 (R := 7) (y := 7) (by decide) rfl (fun c => br_t rfl (q1 c)) (fun i hi ei => br_f (by decide) ?_)
  refine M_in0 (R := 4) (y := 4) (by decide) rfl (fun c => br_t rfl (q2 i hi ei c)) (fun j hj ej => br_f (by decide) ?_)
  rw [show s (5 : Int32).toNatClampNeg = nI C from h5]
  by_cases c8 : C = 8
  · exact br_t (by rw [c8]; rfl) (q3 i j hi ei hj ej c8)
  have hC' : C < 8 := by omega
  refine br_f (fun z => c8 ((nI_eq (b := 8) (by omega) (by decide)).mp z)) ?_
  rintro _ rfl
  unfold WX11_starts
  rw [show s (7 : Int32).toNatClampNeg = nI sz from h7, show (7 : Int32).toNatClampNeg = 7 from rfl]
  rintro _ rfl
  have b1 : 158 + C < 1454 := by omega
  have b2 : 166 + C < 1454 := by omega
  have b3 : 174 + C < 1454 := by omega
  have b4 : 326 + C < 1454 := by omega
  rw [show (158 : Int32) + nI C = nI (158 + C) by rw [← nI_add]; rfl, show (166 : Int32) + nI C = nI (166 + C) by rw [← nI_add]; rfl, show (174 : Int32) + nI C = nI (174 + C) by rw [← nI_add]; rfl, show (326 : Int32) + nI C = nI (326 + C) by rw [← nI_add]; rfl, nI_clamp (by omega), nI_clamp (by omega), nI_clamp (by omega), nI_clamp (by omega)]
  refine ⟨vp_in_nI b1 (by decide), vp_in_nI b2 (by decide), vp_in_nI b3 (by decide), vp_in_nI b4 (by decide), ?_⟩
  generalize hs0 : upd (upd (upd (upd (upd s 7 0) (158 + C) x1) (166 + C) x2) (174 + C) 0) (326 + C) 0 = s0
  have fr : ∀ k, ¬ reg C k → k ≠ 7 → k ≠ 158 + C → k ≠ 166 + C → s0 k = s k := by
    intro k k1 k2 k3 k4
    unfold reg at k1
    rw [← hs0, pk_un (by omega), pk_un (by omega), pk_un k4, pk_un k3, pk_un k2]
  have z7 : s0 7 = 0 := by rw [← hs0, pk_un (by omega), pk_un (by omega), pk_un (by omega), pk_un (by omega), pk_us]
  have z158 : s0 (158 + C) = x1 := by rw [← hs0, pk_un (by omega), pk_un (by omega), pk_un (by omega), pk_us]
  have z166 : s0 (166 + C) = x2 := by rw [← hs0, pk_un (by omega), pk_un (by omega), pk_us]
  have z174 : s0 (174 + C) = 0 := by rw [← hs0, pk_un (by omega), pk_us]
  have z326 : s0 (326 + C) = 0 := by rw [← hs0, pk_us]
  have z5 : s0 5 = nI C := (fr 5 (by unfold reg; omega) (by omega) (by omega) (by omega)).trans h5
  have hT0 : ∀ k, k < sz → s0 (10 + k) = tp k := fun k hk => (fr _ (by unfold reg; omega) (by omega) (by omega) (by omega)).trans (hT k hk)
  have hRL : RLk C s0 (0, false, []) [] s0 := ⟨fun _ _ => rfl, fun _ => ⟨z326, fun k h => absurd h (Nat.not_lt_zero k), z174, fun k h => absurd h (Nat.not_lt_zero k)⟩⟩
  have loop := M_cardLoop (tp := tp) (s0 := s0) hC' hT0 hz z5 (Q := Q) (fun hb a' b' d' s' hf => q4 i j hi ei hj ej hC' hb _ _ _ _ _ s' ((hf 7 (by unfold reg; omega)).trans z7) (fun k k1 k2 k3 k4 => (hf k k1).trans (fr k k1 k2 k3 k4))) (fun hb a' b' d' s' hf => q5 i j hi ei hj ej hC' hb _ _ _ _ _ s0 s' z7 z158 z166 fr hf)
  refine M_lineHere (t := (0, false, [])) (acc := []) hC' hT0 hz rfl (Nat.zero_le _) (Nat.le_refl _) (by decide) hRL (fun s' hs' => ?_)
  obtain ⟨-, -, l5, -, l7⟩ := lnP_ok (tp := tp) (sz := sz) (t := (0, false, [])) (Nat.zero_le _) (fun _ => Nat.le_refl _)
  exact ⟨7, loop 7 5 _ _ s' (by decide) rfl l5 (fun b => (l7 b).2.1) hs' rfl⟩
theorem picM_frameC {s s' : Fn} {c C : Nat} {v : CV} (hc : c < C) (hC : C < 8) (hv : okV v) (h : ∀ k, ¬ reg C k → k ≠ 7 → k ≠ 5 → k ≠ 158 + C → k ≠ 166 + C → s' k = s k) (hp : picM s c v) : picM s' c v := by
  obtain ⟨h1, h2, h3, h4⟩ := hp
  have h6 := hv.1.2
  have g : ∀ k, (k = 158 + c ∨ k = 166 + c ∨ k = 174 + c ∨ (182 + 6 * c ≤ k ∧ k < 188 + 6 * c) ∨ (230 + 6 * c ≤ k ∧ k < 236 + 6 * c) ∨ (278 + 6 * c ≤ k ∧ k < 284 + 6 * c) ∨ (334 + 140 * c ≤ k ∧ k < 474 + 140 * c)) → s' k = s k := fun k hk => h k (by unfold reg; omega) (by omega) (by omega) (by omega) (by omega)
  refine ⟨(g _ (by omega)).trans h1, (g _ (by omega)).trans h2, (g _ (by omega)).trans h3, fun j hj => ?_⟩
  obtain ⟨a1, a2, a3, a4⟩ := h4 j hj
  have b := (hv.2.2.2 j hj).2.1
  exact ⟨(g _ (by omega)).trans a1, (g _ (by omega)).trans a2, (g _ (by omega)).trans a3, fun k k1 k2 => (g _ (by omega)).trans (a4 k k1 k2)⟩
theorem card_rest {s s' : Fn} {R C N : Nat} {bank mill hung lev boa way told : Fn} {cards ce cin} (hR3 : R ≤ 3) (hN10 : N ≤ 10) (hC : C < 8) (h : ∀ k, ¬ reg C k → k ≠ 7 → k ≠ 5 → k ≠ 158 + C → k ≠ 166 + C → s' k = s k) (hR : okR3 s bank mill hung lev boa way R C) (hZ : ∀ r, R ≤ r → r < 3 → s (130 + r) = 0) (hN : okN s told N) (hc : okC s C cards ce cin) : okR3 s' bank mill hung lev boa way R C ∧ (∀ r, R ≤ r → r < 3 → s' (130 + r) = 0) ∧ okN s' told N ∧ ∀ c, c < C → okC1 s' c (cards c) ce cin := by
  have g : ∀ k, 10 ≤ k → k < 158 → s' k = s k := fun k h1 h2 => h k (by unfold reg; omega) (by omega) (by omega) (by omega) (by omega)
  refine ⟨fun r hr => ?_, fun r h1 h2 => ?_, fun k hk => ?_, fun c hcC => ?_⟩
  · rw [g _ (by omega) (by omega), g _ (by omega) (by omega), g _ (by omega) (by omega), g _ (by omega) (by omega), g _ (by omega) (by omega), g _ (by omega) (by omega)]
    exact hR r hr
  · rw [g _ (by omega) (by omega)]; exact hZ r h1 h2
  · rw [g _ (by omega) (by omega)]; exact hN k hk
  · obtain ⟨a, v, a1, a2, a3, a4, a5⟩ := hc.1 c hcC
    exact ⟨a, v, a1, a2, picM_frameC hcC hC a4 h a3, a4, a5⟩
theorem okC1_up {s : Fn} {c : Nat} {oa : Option Nat} {ce : Nat → CT} {cin : Nat → Prop} {a : Nat} {x : CT} (ha : ¬ cin a) (h : okC1 s c oa ce cin) : okC1 s c oa (va_up ce a x) (fun q => q = a ∨ cin q) := by
  obtain ⟨b, v, a1, a2, a3, a4, a5, a6, a7, a8⟩ := h
  have hne : b ≠ a := fun z => ha (by rw [← z]; exact a2)
  have e : va_up ce a x b = ce b := by unfold va_up; rw [if_neg hne]
  exact ⟨b, v, a1, Or.inr a2, a3, a4, a5, by rw [e]; exact a6, by rw [e]; exact a7, a8⟩
theorem WR_up {b c n r p u o h : Int32} {tape bank mill hung lev boa way told : Fn} {cards : Nat → Option Nat} {ce : Nat → CT} {cin : Nat → Prop} {s : Fn} {a : Nat} {x : CT} (ha : ¬ cin a) (w : WR b c n r p u o h tape bank mill hung lev boa way told cards ce cin s) : WR b c n r p u o h tape bank mill hung lev boa way told cards (va_up ce a x) (fun q => q = a ∨ cin q) s := by
  obtain ⟨R, P, S, O, H, C, N, B, e, bd, hT, hR, hZ, hN, hC⟩ := w
  exact ⟨R, P, S, O, H, C, N, B, e, bd, hT, hR, hZ, hN, fun c hc => okC1_up ha (hC.1 c hc), fun i hi y hy => Or.inr (hC.2 i hi y hy)⟩
theorem S_c2 {L : Nat} {xs : Fn} {x3 : Int32} {I F G ce cin} {K : KT} (hi : INV I F G ce cin) (v1 : vp_in (x3 + 1) L) (v2 : vp_in (x3 + 2) L) (hK : ∀ I F G ce cin, INV I F G ce cin → K I F G ce cin) : WL_c2 L xs x3 I F G ce cin K := by
  have w := hi.1
  obtain ⟨R, P, S, O, H, C, N, B, ⟨⟨q1, q2, q3, q4, q5, q6, q7, q8⟩, p1, p2, p3, p4, p5, p6, p7, p8⟩, bd, hT, hR, hZ, hN, hC⟩ := hi.1
  have hR3 := bd.1
  have hC8 := bd.2.2.2.2.2.2.1
  have hB := bd.2.2.2.2.2.2.2.2
  unfold WL_c2
  generalize xs (x3 + 1).toNatClampNeg = x
  generalize xs (x3 + 2).toNatClampNeg = y
  refine ⟨v1, v2, ?_⟩
  unfold WX10_card
  -- nothing has changed
  have same : ∀ a b c d e f1 f2 f3 f4 f5 g1 g2 g3 g4 g5, K (va_up (va_up (va_up (va_up (va_up (va_up (va_up (va_up (va_up (va_up (va_up (va_up I 1 (I 1)) 2 (I 2)) 28 a) 29 b) 30 c) 31 d) 32 e) 57 g1) 58 g2) 59 g3) 60 g4) 61 g5) (va_up (va_up (va_up (va_up (va_up (va_up F 26 f1) 27 f2) 28 f3) 30 f4) 29 f5) 55 (F 55)) (va_up G 0 (G 0)) (ceU ce none) (cinU cin none) := fun a b c d e f1 f2 f3 f4 f5 g1 g2 g3 g4 g5 => hK _ _ _ _ _ hi
  have hT' : ∀ k, k < B → F 55 (10 + k) = F 0 k := fun k hk => (hT k hk).1.symm
  have nx1 : ∀ i, i < 7 → x = nI i → (x < 0 ∨ nI 7 ≤ x) → False := fun i hi e c => no_reach (by decide) hi e c
  have nx2 : ∀ i, i < 4 → y = nI i → (y < 0 ∨ nI 4 ≤ y) → False := fun i hi e c => no_reach (by decide) hi e c
  have f1 : (x < 0 ∨ nI 7 ≤ x) → vp_in (x3 + 1) L ∧ vp_in (x3 + 2) L ∧ WX11_card x y (I 57) (I 58) (I 59) (I 60) (I 61) (F 55) (fun r19 g1 g2 g3 g4 g5 s' => ((-1 = r19 → K (va_up (va_up (va_up (va_up (va_up (va_up (va_up (va_up (va_up (va_up (va_up (va_up I 1 (I 1)) 2 (I 2)) 28 (I 28)) 29 (I 29)) 30 (I 30)) 31 (I 31)) 32 (I 32)) 57 g1) 58 g2) 59 g3) 60 g4) 61 g5) (va_up (va_up (va_up (va_up (va_up (va_up F 26 (F 26)) 27 (F 27)) 28 (F 28)) 30 (F 30)) 29 (F 29)) 55 s') (va_up G 0 (G 0)) (ceU ce none) (cinU cin none)) ∧ (¬ (-1 = r19) → False))) :=
    fun c => ⟨v1, v2, M_card hC8 hB p6 p8 hT' (fun _ => same_K rfl (same _ _ _ _ _ _ _ _ _ _ _ _ _ _ _)) (fun i h e _ => (nx1 i h e c).elim) (fun i j h e _ _ _ => (nx1 i h e c).elim) (fun i j h e => (nx1 i h e c).elim) (fun i j h e => (nx1 i h e c).elim)⟩
  have f2 : ∀ i, i < 7 → x = nI i → (y < 0 ∨ nI 4 ≤ y) → vp_in (x3 + 1) L ∧ vp_in (x3 + 2) L ∧ WX11_card x y (I 57) (I 58) (I 59) (I 60) (I 61) (F 55) (fun r19 g1 g2 g3 g4 g5 s' => ((-2 = r19 → K (va_up (va_up (va_up (va_up (va_up (va_up (va_up (va_up (va_up (va_up (va_up (va_up I 1 (I 1)) 2 (I 2)) 28 (I 28)) 29 (I 29)) 30 (I 30)) 31 (I 31)) 32 (I 32)) 57 g1) 58 g2) 59 g3) 60 g4) 61 g5) (va_up (va_up (va_up (va_up (va_up (va_up F 26 (F 26)) 27 (F 27)) 28 (F 28)) 30 (F 30)) 29 (F 29)) 55 s') (va_up G 0 (G 0)) (ceU ce none) (cinU cin none)) ∧ (¬ (-2 = r19) → False))) :=
    fun i h e c => ⟨v1, v2, M_card hC8 hB p6 p8 hT' (fun z => (nx1 i h e z).elim) (fun _ _ _ _ => same_K rfl (same _ _ _ _ _ _ _ _ _ _ _ _ _ _ _)) (fun _ j _ _ h e _ => (nx2 j h e c).elim) (fun _ j _ _ h e => (nx2 j h e c).elim) (fun _ j _ _ h e => (nx2 j h e c).elim)⟩
  by_cases c1 : x < 0
  · exact br_t c1 (f1 (Or.inl c1))
  refine br_f c1 ?_
  by_cases c2 : x < 7
  · obtain ⟨i, hi1, ei⟩ := nI_of c1
    have i7 : i < 7 := by rw [ei] at c2; exact (nI_ltI (b := 7) hi1 (by decide)).mp c2
    refine br_t c2 ?_
    by_cases c3 : y < 0
    · exact br_t c3 (f2 i i7 ei (Or.inl c3))
    refine br_f c3 ?_
    by_cases c4 : y ≤ 3
    · obtain ⟨j, hj1, ej⟩ := nI_of c3
      have j4 : j < 4 := by
        rw [ej] at c4
        have := (nI_leI (b := 3) hj1 (by decide)).mp c4
        omega
      refine br_t c4 ?_
      rw [q6]
      have same6 := same
      rw [q6] at same6
      by_cases c5 : C < 8
      · refine br_t (nI_lt (b := 8) c5 (by decide)) ?_
        rw [q8]
        refine C_readsCard (tp := F 0) (sz := B) (fun _ _ => rfl) (fun k hk => by rw [(hT k hk).1]; exact (hT k hk).2) hB (fun lc sc tape dg bg st en hok => ?_) _ _ _ _ _ _ _ _ _ _
        cases hb : pB (endP B (cardP (F 0) B).1) with
        | true =>
          rw [fl_t hb]
          have eP : pP (endP B (cardP (F 0) B).1) = pP (cardP (F 0) B).1 := by
            unfold endP
            by_cases z : pP (cardP (F 0) B).1 < B
            · rw [if_pos z]; rfl
            · rw [if_neg z]
          have hle := cardP_le (F 0) B
          rw [eP]
          refine br_f (nI_pos (by omega)) ⟨v1, v2, M_card hC8 hB p6 p8 hT' (fun z => (nx1 i i7 ei z).elim) (fun _ _ _ z => (nx2 j j4 ej z).elim) (fun _ _ _ _ _ _ z => absurd z (by omega)) (fun _ _ _ _ _ _ _ _ _ _ _ _ _ s' h7 hf => same_K rfl ?_) (fun _ _ _ _ _ _ _ z => absurd (hb.symm.trans z) (by decide))⟩
          have hf' : ∀ k, ¬ reg C k → k ≠ 7 → k ≠ 5 → k ≠ 158 + C → k ≠ 166 + C → s' k = F 55 k := fun k k1 k2 _ k3 k4 => hf k k1 k2 k3 k4
          obtain ⟨g1, g2, g3, g4⟩ := card_rest hR3 bd.2.2.2.2.2.2.2.1 c5 hf' hR hZ hN hC
          refine hK _ _ _ _ _ ⟨⟨R, P, S, O, H, C, N, 0, ⟨⟨q1, q2, q3, q4, q5, rfl, q7, rfl⟩, (hf 0 (by unfold reg; omega) (by omega) (by omega) (by omega)).trans p1, (hf 1 (by unfold reg; omega) (by omega) (by omega) (by omega)).trans p2, (hf 2 (by unfold reg; omega) (by omega) (by omega) (by omega)).trans p3, (hf 3 (by unfold reg; omega) (by omega) (by omega) (by omega)).trans p4, (hf 4 (by unfold reg; omega) (by omega) (by omega) (by omega)).trans p5, (hf 5 (by unfold reg; omega) (by omega) (by omega) (by omega)).trans p6, (hf 6 (by unfold reg; omega) (by omega) (by omega) (by omega)).trans p7, h7⟩, ?_, fun k hk => absurd hk (Nat.not_lt_zero k), g1, g2, g3, g4, hC.2⟩, hi.2⟩
          obtain ⟨b1, b2, b3, b4, b5, b6, b7, b8, b9⟩ := bd
          exact ⟨b1, b2, b3, b4, b5, b6, b7, b8, by decide⟩
        | false =>
          rw [fl_f hb]
          obtain ⟨hl1, hl2, hl3⟩ := hok hb
          have hbt : pB (cardP (F 0) B).1 = false := by
            unfold endP at hb
            by_cases z : pP (cardP (F 0) B).1 < B
            · rw [if_pos z] at hb; cases hb
            · rw [if_neg z] at hb; exact hb
          obtain ⟨hg, ha1, ha6⟩ := cardP_good hB hbt
          have hl2 := hl2 hbt
          have hl3 := hl3 hbt
          refine br_t (by decide) (fun an han => ?_)
          unfold WX9_putCard
          refine br_f (nI_pos (by omega)) (br_t (nI_lt (b := 8) c5 (by decide)) ⟨vp_in_nI c5 (by decide), Or.inl rfl, ?_⟩)
          rw [nI_1, nI_clamp (by omega)]
          rintro _ rfl
          refine ⟨v1, v2, M_card hC8 hB p6 p8 hT' (fun z => (nx1 i i7 ei z).elim) (fun _ _ _ z => (nx2 j j4 ej z).elim) (fun _ _ _ _ _ _ z => absurd z (by omega)) (fun _ _ _ _ _ _ _ z => absurd (hb.symm.trans z) (by decide)) (fun _ _ _ _ _ _ _ _ _ _ _ _ _ s0 s' z7 z158 z166 hf0 hRL => same_K rfl ?_)⟩
          obtain ⟨r1, r2⟩ := hRL
          obtain ⟨r3, r4, r5, r6⟩ := r2 hbt
          have hf' : ∀ k, ¬ reg C k → k ≠ 7 → k ≠ 5 → k ≠ 158 + C → k ≠ 166 + C → upd s' 5 (nI (C + 1)) k = F 55 k := fun k k1 k2 k5 k3 k4 => by rw [pk_un k5, r1 k k1, hf0 k k1 k2 k3 k4]
          have hf5 : ∀ k, k ≠ 5 → upd s' 5 (nI (C + 1)) k = s' k := fun k hk => pk_un hk
          obtain ⟨g1, g2, g3, g4⟩ := card_rest hR3 bd.2.2.2.2.2.2.2.1 c5 hf' hR hZ hN hC
          have hy : 0 ≤ y ∧ y ≤ 3 := by rw [ej]; exact ⟨nI_pos' (by omega), nI_le (b := 3) (by omega) (by decide)⟩
          have hvv := okV_of (kd := x) hy ha1 ha6 hg
          have hnew : okC1 (upd s' 5 (nI (C + 1))) C (some an) (va_up ce an (nI C, x, y, lc, -1, dg, bg, en, st)) (fun q => q = an ∨ cin q) := by
            have ev : va_up ce an (nI C, x, y, lc, -1, dg, bg, en, st) an = (nI C, x, y, lc, -1, dg, bg, en, st) := by unfold va_up; rw [if_pos rfl]
            refine ⟨an, vOf x y (cardP (F 0) B).1 (cardP (F 0) B).2, rfl, Or.inl rfl, ⟨?_, ?_, ?_, fun k hk => ⟨?_, ?_, ?_, fun q k1 k2 => ?_⟩⟩, hvv, rfl, ?_, by rw [ev], i, i7, ei⟩
            · rw [hf5 _ (by omega), r1 _ (by unfold reg; omega)]; exact z158
            · rw [hf5 _ (by omega), r1 _ (by unfold reg; omega)]; exact z166
            · rw [hf5 _ (by omega)]; exact r5
            · rw [hf5 _ (by omega)]; exact (r6 k hk).1
            · rw [hf5 _ (by omega)]; exact (r6 k hk).2.1
            · rw [hf5 _ (by omega), (r6 k hk).2.2]
              have := (hg.2 k hk).2.1
              show nI _ = nI (((cardP (F 0) B).2.getD k (0, 0, 0)).2.1 + (((cardP (F 0) B).2.getD k (0, 0, 0)).2.2 - ((cardP (F 0) B).2.getD k (0, 0, 0)).2.1))
              congr 1; omega
            · have h1 := (hg.2 k hk).2.1
              have h2 := (hg.2 k hk).2.2.1
              replace k2 : q < ((cardP (F 0) B).2.getD k (0, 0, 0)).2.1 + (((cardP (F 0) B).2.getD k (0, 0, 0)).2.2 - ((cardP (F 0) B).2.getD k (0, 0, 0)).2.1) := k2
              rw [hf5 _ (by omega)]
              exact r4 q (by omega)
            · rw [ev]
              refine ⟨rfl, rfl, hl1, rfl, fun k hk => ?_⟩
              obtain ⟨d1, d2, d3⟩ := hl2 k hk
              have h1 := (hg.2 k hk).2.1
              have h2 := (hg.2 k hk).2.2.1
              refine ⟨d1, d2, d3.trans ?_, fun q k1 k2 => ?_⟩
              · show nI _ = nI (((cardP (F 0) B).2.getD k (0, 0, 0)).2.1 + (((cardP (F 0) B).2.getD k (0, 0, 0)).2.2 - ((cardP (F 0) B).2.getD k (0, 0, 0)).2.1))
                congr 1; omega
              · replace k2 : q < ((cardP (F 0) B).2.getD k (0, 0, 0)).2.1 + (((cardP (F 0) B).2.getD k (0, 0, 0)).2.2 - ((cardP (F 0) B).2.getD k (0, 0, 0)).2.1) := k2
                exact hl3.2 q (by omega)
          refine hK _ _ _ _ _ ⟨⟨R, P, S, O, H, C + 1, N, 0, ⟨⟨q1, q2, q3, q4, q5, rfl, q7, rfl⟩, (hf' 0 (by unfold reg; omega) (by omega) (by omega) (by omega) (by omega)).trans p1, (hf' 1 (by unfold reg; omega) (by omega) (by omega) (by omega) (by omega)).trans p2, (hf' 2 (by unfold reg; omega) (by omega) (by omega) (by omega) (by omega)).trans p3, (hf' 3 (by unfold reg; omega) (by omega) (by omega) (by omega) (by omega)).trans p4, (hf' 4 (by unfold reg; omega) (by omega) (by omega) (by omega) (by omega)).trans p5, (show upd s' 5 (nI (C + 1)) 5 = nI (C + 1) from pk_us), (hf' 6 (by unfold reg; omega) (by omega) (by omega) (by omega) (by omega)).trans p7, ?_⟩, ?_, fun k hk => absurd hk (Nat.not_lt_zero k), fun r hr => ?_, g2, g3, fun c hc => ?_, fun i' hi' y' hy' => ?_⟩, ?_, hi.2.2⟩
          · show upd s' 5 (nI (C + 1)) 7 = nI 0
            rw [hf5 _ (by decide), r1 7 (by unfold reg; omega)]; exact z7
          · obtain ⟨b1, b2, b3, b4, b5, b6, b7, b8, b9⟩ := bd
            exact ⟨b1, b2, b3, b4, b5, b6, by omega, b8, by decide⟩
          · obtain ⟨o1, o2, o3, o4, o5⟩ := g1 r hr
            refine ⟨o1, o2, o3, o4, ?_⟩
            rcases o5 with o5 | ⟨c', o5, o6⟩
            · exact Or.inl o5
            · exact Or.inr ⟨c', by omega, o6⟩
          · show okC1 _ c (va_up (G 0) C (some an) c) _ _
            by_cases cc : c = C
            · subst cc
              have : va_up (G 0) c (some an) c = some an := by unfold va_up; rw [if_pos rfl]
              rw [this]; exact hnew
            · have : va_up (G 0) C (some an) c = G 0 c := by unfold va_up; rw [if_neg cc]
              rw [this]; exact okC1_up han (g4 c (by omega))
          · replace hy' : va_up (G 0) C (some an) i' = some y' := hy'
            show y' = an ∨ cin y'
            by_cases cc : i' = C
            · have : va_up (G 0) C (some an) i' = some an := by unfold va_up; rw [if_pos cc]
              rw [this] at hy'
              exact Or.inl (Option.some.inj hy').symm
            · have : va_up (G 0) C (some an) i' = G 0 i' := by unfold va_up; rw [if_neg cc]
              rw [this] at hy'
              exact Or.inr (hC.2 i' hi' y' hy')
          · rcases hi.2.1 with z | ⟨z1, z2, z3⟩
            · exact Or.inl z
            · exact Or.inr ⟨z1, z2, WR_up han z3⟩
      · refine br_f (nI_nlt (b := 8) (by omega) (by omega)) ⟨v1, v2, M_card hC8 hB p6 p8 hT' (fun z => (nx1 i i7 ei z).elim) (fun _ _ _ z => (nx2 j j4 ej z).elim) (fun _ _ _ _ _ _ _ => same_K rfl (same6 _ _ _ _ _ _ _ _ _ _ _ _ _ _ _)) (fun _ _ _ _ _ _ z => absurd z c5) (fun _ _ _ _ _ _ z => absurd z c5)⟩
    · refine br_f c4 (f2 i i7 ei (Or.inr ?_))
      have e4 : nI 4 = 4 := rfl
      rw [e4]; grind
  · refine br_f c2 (f1 (Or.inr ?_))
    have e7 : nI 7 = 7 := rfl
    rw [e7]; grind
