/-! ===== by hand: the river of both systems ===== -/
/-- the model's row after a river was read -/
def rivS (x : RV5) (s s' : Fn) : Prop := s' 0 = nI (xN x) ∧ s' 1 = clip (xSp x) ∧ s' 2 = xSu x ∧ s' 3 = xOd x ∧ s' 4 = 0 ∧ s' 7 = 0 ∧ (∀ r, r < 3 → s' (133 + r) = (if r < xN x then xBk x r else 0) ∧ s' (136 + r) = (if r < xN x then xMl x r else 0) ∧ s' (130 + r) = (if r < xN x then mnL (xLv x r) (xBk x r) else 0) ∧ s' (139 + r) = 0 ∧ s' (142 + r) = 1 ∧ s' (145 + r) = -1) ∧ ∀ k, 5 ≤ k → k ≠ 7 → ¬ (130 ≤ k ∧ k < 148) → s' k = s k
theorem M_river {s : Fn} {sz : Nat} {tp : Fn} (hz : sz ≤ 120) (h7 : s 7 = nI sz) (hT : ∀ k, k < sz → s (10 + k) = tp k) {Q : Int32 → Int32 → Int32 → Int32 → Int32 → Int32 → Int32 → Int32 → Int32 → Fn → Fn → Fn → Fn → Prop}
    (q0 : (pB (rivP tp sz).1 = true ∨ pP (rivP tp sz).1 < sz ∨ xN (rivP tp sz).2 = 0) → ∀ a b c d e f g h k l m, Q (-10 - nI (pP (rivP tp sz).1)) a b c d e f g h (upd s 7 0) k l m)
    (q1 : pB (rivP tp sz).1 = false → ¬ pP (rivP tp sz).1 < sz → xN (rivP tp sz).2 ≠ 0 → okX (rivP tp sz).2 → ∀ a b c d e f g h k l m s', rivS (rivP tp sz).2 s s' → Q (nI (xN (rivP tp sz).2)) a b c d e f g h s' k l m) (a b c d e f g h : Int32) (k l m : Fn) : WX11_river a b c d e f g h s k l m Q := by
  unfold WX11_river WX11_starts
  rw [show s (7 : Int32).toNatClampNeg = nI sz from h7, show (7 : Int32).toNatClampNeg = 7 from rfl]
  rintro _ rfl
  have hT0 : ∀ k, k < sz → upd s 7 0 (10 + k) = tp k := fun k hk => (pk_un (by omega)).trans (hT k hk)
  have f73 : ∀ mn sp su od bk ml lv, RvM (rivP tp sz).1 (rivP tp sz).2 mn sp su od bk ml lv → (pB (rivP tp sz).1 = false → okX (rivP tp sz).2) → pP (rivP tp sz).1 ≤ sz → WX11_river_73 (nI (pP (rivP tp sz).1)) (nI sz) (b01 (pB (rivP tp sz).1)) 0 mn sp su od (upd s 7 0) bk ml lv Q := by
    intro mn sp su od bk ml lv h1 h2 h3
    generalize rivP tp sz = r at h1 h2 h3 q0 q1 ⊢
    obtain ⟨t, x⟩ := r
    replace h3 : pP t ≤ sz := h3
    replace q0 : (pB t = true ∨ pP t < sz ∨ xN x = 0) → ∀ a b c d e f g h k l m, Q (-10 - nI (pP t)) a b c d e f g h (upd s 7 0) k l m := q0
    unfold WX11_river_73
    show ((b01 (pB t) = 0 → _) ∧ _)
    cases hb : pB t with
    | true => exact br_f (by decide) (q0 (Or.inl hb) _ _ _ _ _ _ _ _ _ _ _)
    | false =>
      refine br_t rfl ?_
      by_cases c1 : pP t < sz
      · exact br_f (fun z => by have := (nI_eq (a := pP t) (b := sz) (by omega) (by omega)).mp z; omega) (q0 (Or.inr (Or.inl c1)) _ _ _ _ _ _ _ _ _ _ _)
      · refine br_t (show nI (pP t) = nI sz by congr 1; omega) ?_
        obtain ⟨k1, k2, k3, k4, k5⟩ := h1 hb
        have hx := h2 hb
        replace hx : okX x := hx
        have x3 := hx.1
        replace k1 : mn = nI (xN x) := k1
        subst k1
        by_cases c2 : xN x = 0
        · exact br_t (by rw [c2]; rfl) (q0 (Or.inr (Or.inr c2)) _ _ _ _ _ _ _ _ _ _ _)
        · refine br_f (fun z => c2 ((nI_eq (b := 0) (by omega) (by decide)).mp z)) ?_
          have f149 : ∀ y, y = clip (xSp x) → WX11_river_149 1 y (nI (pP t)) (nI sz) 0 0 (nI (xN x)) sp su od (upd (upd s 7 0) (0 : Int32).toNatClampNeg (nI (xN x))) bk ml lv Q := by
            rintro _ rfl
            unfold WX11_river_149
            refine ⟨vp_in_nI (n := 1) (by decide) (by decide), ?_⟩
            rw [show (0 : Int32).toNatClampNeg = 0 from rfl, show (1 : Int32).toNatClampNeg = 1 from rfl, show (2 : Int32).toNatClampNeg = 2 from rfl, show (3 : Int32).toNatClampNeg = 3 from rfl, show (4 : Int32).toNatClampNeg = 4 from rfl]
            suffices g : ∀ (n i : Nat) (s' : Fn), i ≤ 3 → 3 < n + i → (s' 0 = nI (xN x) ∧ s' 1 = clip (xSp x) ∧ s' 2 = xSu x ∧ s' 3 = xOd x ∧ s' 4 = 0 ∧ s' 7 = 0) → (∀ r, r < i → s' (133 + r) = (if r < xN x then xBk x r else 0) ∧ s' (136 + r) = (if r < xN x then xMl x r else 0) ∧ s' (130 + r) = (if r < xN x then mnL (xLv x r) (xBk x r) else 0) ∧ s' (139 + r) = 0 ∧ s' (142 + r) = 1 ∧ s' (145 + r) = -1) → (∀ k, 5 ≤ k → k ≠ 7 → ¬ (130 ≤ k ∧ k < 148) → s' k = s k) → WX11_river_179 Q n (nI i) (nI (pP t)) (nI sz) 0 0 (nI (xN x)) sp su od s' bk ml lv from
              ⟨4, g 4 0 _ (by decide) (by decide) ⟨rfl, rfl, k3, k4, rfl, rfl⟩ (fun r h => absurd h (Nat.not_lt_zero r)) (fun k h1 h2 _ => by rw [pk_un (by omega), pk_un (by omega), pk_un (by omega), pk_un (by omega), pk_un (by omega), pk_un h2])⟩
            intro n
            induction n with
            | zero => intro i s' h1 h2; omega
            | succ n ih =>
              intro i s' h1 h2 hs hr hf
              unfold WX11_river_179
              by_cases c3 : 3 ≤ i
              · have e3 : i = 3 := by omega
                subst e3
                exact br_t (nI_le (a := 3) c3 (by decide)) (q1 hb c1 c2 hx _ _ _ _ _ _ _ _ _ _ _ s' ⟨hs.1, hs.2.1, hs.2.2.1, hs.2.2.2.1, hs.2.2.2.2.1, hs.2.2.2.2.2, hr, hf⟩)
              refine br_f (nI_ge (b := 3) (by omega) (by decide)) ?_
              have v3 : vp_in (nI i) 3 := vp_in_nI (by omega) (by decide)
              have l133 : (133 : Int32) + nI i = nI (133 + i) := by rw [← nI_add]; rfl
              have l136 : (136 : Int32) + nI i = nI (136 + i) := by rw [← nI_add]; rfl
              have l130 : (130 : Int32) + nI i = nI (130 + i) := by rw [← nI_add]; rfl
              have l139 : (139 : Int32) + nI i = nI (139 + i) := by rw [← nI_add]; rfl
              have l142 : (142 : Int32) + nI i = nI (142 + i) := by rw [← nI_add]; rfl
              have l145 : (145 : Int32) + nI i = nI (145 + i) := by rw [← nI_add]; rfl
              have vI' : ∀ q, q < 1454 → vp_in (nI q) 1454 := fun q h => vp_in_nI h (by decide)
              -- one reach is put
              have f291 : ∀ B M Lv, B = (if i < xN x then xBk x i else 0) → M = (if i < xN x then xMl x i else 0) → Lv = (if i < xN x then mnL (xLv x i) (xBk x i) else 0) → WX11_river_291 (nI i) (130 + nI i) Lv (nI (pP t)) (nI sz) 0 0 (nI (xN x)) sp su od (upd (upd s' (133 + nI i).toNatClampNeg B) (136 + nI i).toNatClampNeg M) bk ml lv Q (WX11_river_179 Q n) := by
                intro B M Lv eB eM eL
                unfold WX11_river_291
                rw [l133, l136, l130, l139, l142, l145, nI_clamp (by omega), nI_clamp (by omega), nI_clamp (by omega), nI_clamp (by omega), nI_clamp (by omega), nI_clamp (by omega), nI_1]
                refine ⟨vI' _ (by omega), vI' _ (by omega), vI' _ (by omega), vI' _ (by omega), ?_⟩
                rintro _ rfl
                refine ih (i + 1) _ (by omega) (by omega) ?_ (fun r hr' => ?_) (fun k h5 h7 hk => ?_)
                · obtain ⟨s0, s1, s2, s3, s4, s7⟩ := hs
                  refine ⟨?_, ?_, ?_, ?_, ?_, ?_⟩
                  · rw [pk_un (by omega), pk_un (by omega), pk_un (by omega), pk_un (by omega), pk_un (by omega), pk_un (by omega)]; exact s0
                  · rw [pk_un (by omega), pk_un (by omega), pk_un (by omega), pk_un (by omega), pk_un (by omega), pk_un (by omega)]; exact s1
                  · rw [pk_un (by omega), pk_un (by omega), pk_un (by omega), pk_un (by omega), pk_un (by omega), pk_un (by omega)]; exact s2
                  · rw [pk_un (by omega), pk_un (by omega), pk_un (by omega), pk_un (by omega), pk_un (by omega), pk_un (by omega)]; exact s3
                  · rw [pk_un (by omega), pk_un (by omega), pk_un (by omega), pk_un (by omega), pk_un (by omega), pk_un (by omega)]; exact s4
                  · rw [pk_un (by omega), pk_un (by omega), pk_un (by omega), pk_un (by omega), pk_un (by omega), pk_un (by omega)]; exact s7
                · by_cases cr : r = i
                  · subst cr
                    refine ⟨?_, ?_, ?_, ?_, ?_, ?_⟩
                    · rw [pk_un (by omega), pk_un (by omega), pk_un (by omega), pk_un (by omega), pk_un (by omega), pk_us]; exact eB
                    · rw [pk_un (by omega), pk_un (by omega), pk_un (by omega), pk_un (by omega), pk_us]; exact eM
                    · rw [pk_un (by omega), pk_un (by omega), pk_un (by omega), pk_us]; exact eL
                    · rw [pk_un (by omega), pk_un (by omega), pk_us]
                    · rw [pk_un (by omega), pk_us]
                    · rw [pk_us]
                  · obtain ⟨o1, o2, o3, o4, o5, o6⟩ := hr r (by omega)
                    have gg : ∀ q, (q = 133 + r ∨ q = 136 + r ∨ q = 130 + r ∨ q = 139 + r ∨ q = 142 + r ∨ q = 145 + r) → upd (upd (upd (upd (upd (upd s' (133 + i) B) (136 + i) M) (130 + i) Lv) (139 + i) 0) (142 + i) 1) (145 + i) (-1) q = s' q := fun q hq => by
                      rw [pk_un (by omega), pk_un (by omega), pk_un (by omega), pk_un (by omega), pk_un (by omega), pk_un (by omega)]
                    rw [gg _ (by omega), gg _ (by omega), gg _ (by omega), gg _ (by omega), gg _ (by omega), gg _ (by omega)]
                    exact ⟨o1, o2, o3, o4, o5, o6⟩
                · rw [pk_un (by omega), pk_un (by omega), pk_un (by omega), pk_un (by omega), pk_un (by omega), pk_un (by omega)]; exact hf k h5 h7 hk
              have w133 : vp_in (133 + nI i) 1454 := by rw [l133]; exact vI' _ (by omega)
              have w136 : vp_in (136 + nI i) 1454 := by rw [l136]; exact vI' _ (by omega)
              have ci : (nI i).toNatClampNeg = i := nI_clamp (by omega)
              by_cases cx : i < xN x
              · obtain ⟨kb, km, kl⟩ := k5 i cx
                replace kb : bk i = xBk x i := kb
                replace km : ml i = xMl x i := km
                replace kl : lv i = xLv x i := kl
                refine br_f (nI_ge cx (by omega)) ⟨v3, ?_⟩
                unfold WX11_river_211
                refine ⟨w133, br_f (nI_ge cx (by omega)) ⟨v3, ?_⟩⟩
                unfold WX11_river_239
                refine ⟨w136, br_f (nI_ge cx (by omega)) ⟨v3, v3, ?_⟩⟩
                rw [ci, kb, km, kl]
                refine br_c (fun cl => ⟨v3, f291 _ _ _ (by rw [if_pos cx]) (by rw [if_pos cx]) (by rw [if_pos cx]; unfold mnL; rw [if_pos cl])⟩) (fun cl => ⟨v3, f291 _ _ _ (by rw [if_pos cx]) (by rw [if_pos cx]) (by rw [if_pos cx]; unfold mnL; rw [if_neg cl])⟩)
              · refine br_t (nI_le (by omega) (by omega)) ?_
                unfold WX11_river_211
                refine ⟨w133, br_t (nI_le (by omega) (by omega)) ?_⟩
                unfold WX11_river_239
                exact ⟨w136, br_t (nI_le (by omega) (by omega)) (f291 _ _ _ (by rw [if_neg cx]) (by rw [if_neg cx]) (by rw [if_neg cx]))⟩
          replace k2 : sp = xSp x := k2
          subst k2
          refine br_c (fun d1 => br_c (fun d2 => f149 _ ?_) (fun d2 => f149 _ ?_)) (fun d1 => f149 _ ?_)
          all_goals unfold clip
          all_goals grind
  have loop : ∀ (n m : Nat) (t : PS) (x : RV5) mn sp su od bk ml lv, m ≤ 11 → m < n → pP t ≤ sz → (pB t = false → okX x) → RvM t x mn sp su od bk ml lv → (@ite (PS × RV5) (m ≠ 0 ∧ nx tp sz t = 59) (Classical.propDecidable _) (clsP tp sz m (adv t) x) (t, x)) = rivP tp sz → WX11_river_31 Q n (nI (12 - m)) (nI (pP t)) (nI sz) (b01 (pB t)) 0 mn sp su od (upd s 7 0) bk ml lv := by
    intro n
    induction n with
    | zero => intro m t x mn sp su od bk ml lv h0 h1; omega
    | succ n ih =>
      intro m t x mn sp su od bk ml lv h0 h1 hp hx hr he
      have fin : (t, x) = rivP tp sz → WX11_river_73 (nI (pP t)) (nI sz) (b01 (pB t)) 0 mn sp su od (upd s 7 0) bk ml lv Q := by
        intro e
        have f := f73 mn sp su od bk ml lv
        rw [← e] at f
        exact f hr hx hp
      unfold WX11_river_31
      cases b : pB t with
      | true =>
        have f := fin (by rw [← he, if_neg (fun z => by have := z.2; rw [nx_bad b] at this; exact absurd this (by decide))])
        rw [b] at f
        exact br_f (by decide) f
      | false =>
        refine br_t rfl ?_
        by_cases cm : m = 0
        · have f := fin (by rw [← he, if_neg (fun z => z.1 cm)])
          rw [b] at f
          exact br_t (nI_le (a := 12) (by omega) (by omega)) f
        · refine br_f (nI_ge (b := 12) (by omega) (by decide)) (M_here hT0 hz hp b (br_c (fun e => ?_) (fun e => ?_)))
          · rw [if_pos ⟨cm, e⟩] at he
            have nn := nx_in (tp := tp) (sz := sz) (t := t) (by rw [e]; decide)
            obtain ⟨m, rfl⟩ : ∃ m', m = m' + 1 := ⟨m - 1, by omega⟩
            rintro _ rfl
            rw [nI_1]
            obtain ⟨k1, k2⟩ := clP_ok (tp := tp) (t := adv t) nn.2 b (hx b)
            refine M_clause (t := adv t) hT0 hz nn.2 b (hx b) hr fun mn sp su od bk ml lv hr' => ?_
            rintro _ rfl
            rw [nI_1, show 12 - (m + 1) + 1 = 12 - m by omega]
            exact ih m _ _ _ _ _ _ _ _ _ (by omega) (by omega) k1 k2 hr' he
          · have f := fin (by rw [← he, if_neg (fun z => e z.2)])
            rw [b] at f
            exact f
  have hx0 : okX x00 := ⟨by decide, ⟨3, by decide, rfl⟩, ⟨9, by decide, rfl⟩, ⟨5, by decide, rfl⟩, fun r h => absurd h (Nat.not_lt_zero r)⟩
  obtain ⟨k1, k2⟩ := clP_ok (tp := tp) (sz := sz) (t := (0, false, [])) (Nat.zero_le _) rfl hx0
  refine M_clause (t := (0, false, [])) (x := x00) hT0 hz (Nat.zero_le _) rfl hx0 (fun _ => ⟨rfl, rfl, rfl, rfl, fun r h => absurd h (Nat.not_lt_zero r)⟩) fun mn sp su od bk ml lv hr => ?_
  exact ⟨13, loop 13 11 _ _ _ _ _ _ _ _ _ (by decide) (by decide) k1 k2 hr rfl⟩
