/-! ===== by hand: an hour of the model ===== -/
/-- the model's rows show a river and its keepers -/
def MWr (ρ : RV) (s : Fn) (st lc ll mu hi : Int32) : Prop :=
  s 0 = nI (rR ρ) ∧ (mu = 0 ↔ rU ρ = false) ∧ ∀ r, r < rR ρ → rB ρ r = (if s (133 + r) + hi ≤ 9 then s (133 + r) + hi else 9) ∧ rM ρ r = s (136 + r) ∧
    (((s (145 + r) = -1 ∨ ((st >>> (nI r &&& 31)) &&& 1) = 1) ∧ ∀ lv h wy bl w, rK ρ r lv h wy bl w = w) ∨
      ∃ c v, s (145 + r) = nI c ∧ ¬ ((st >>> (nI r &&& 31)) &&& 1) = 1 ∧ c < 8 ∧ picM s c v ∧ okV v ∧ leftM c v lc ll ∧ ∀ lv (h : Nat) wy bl w, h < 1000 → rK ρ r lv (nI h) wy bl w = kpr v lv h wy bl w)
theorem M_bank {ρ : RV} {s : Fn} {st lc ll mu hi : Int32} (hw : MWr ρ s st lc ll mu hi) (hR : rR ρ ≤ 3) {r : Nat} (hr : r < rR ρ) {Q : Int32 → Prop} (h : Q (rB ρ r)) : WX11_bank (nI r) hi s Q := by
  have e := (hw.2.2 r hr).1
  have b1 : 133 + r < 1454 := by omega
  unfold WX11_bank
  simp (disch := omega) only [li_133, nI_add, vI, b1, true_and, nI_clamp]
  rw [e] at h
  refine br_c (fun c => ?_) (fun c => ?_)
  · rwa [if_pos c] at h
  · rwa [if_neg c] at h
theorem M_rings {ρ : RV} {σ : St} {s : Fn} {st lc ll mu hi : Int32} (hw : MWr ρ s st lc ll mu hi) (hR : okR ρ) {levels : Fn} (hl : levels 0 = sL σ 0) {Q : Int32 → Prop} (h : Q (hBell ρ σ)) : WX11_rings mu hi levels s Q := by
  unfold WX11_rings
  unfold hBell at h
  refine br_c (fun c => M_bank hw hR.2.1 (r := 0) hR.1 ?_) (fun c => ?_)
  · have e0 : levels (0 : Int32).toNatClampNeg = sL σ 0 := hl
    have := hw.2.1.mp c
    rw [e0]
    refine br_c (fun c2 => ?_) (fun c2 => ?_)
    · rwa [if_pos ⟨this, c2⟩] at h
    · rwa [if_neg (fun z => c2 z.2)] at h
  · rwa [if_neg (fun z => c (hw.2.1.mpr z.1))] at h
theorem bell01 (ρ : RV) (σ : St) : hBell ρ σ = 0 ∨ hBell ρ σ = 1 := by unfold hBell; split; exact Or.inr rfl; exact Or.inl rfl
theorem M_boardsOf {ρ : RV} {σ : St} {s : Fn} {st lc ll mu hi : Int32} (hw : MWr ρ s st lc ll mu hi) (hR : okR ρ) (hh : sH σ < 1000) {levels bo ways : Fn} (hl : ∀ r, r < rR ρ → levels r = sL σ r) (hb : ∀ r, r < rR ρ → bo r = sB σ r) (hy : ∀ r, r < rR ρ → ways r = sW σ r) {r : Nat} (hr : r < rR ρ) {Q : Int32 → Fn → Prop} (h : ∀ tr, Q (hNB ρ σ r) tr) (tr : Fn) : WX11_boardsOf (nI r) (nI (sH σ)) st lc ll mu hi s bo tr levels ways Q := by
  have hR3 := hR.2.1
  have b1 : 145 + r < 1454 := by omega
  have hr3 : r < 3 := by omega
  obtain ⟨-, -, hk⟩ := hw.2.2 r hr
  unfold WX11_boardsOf
  simp (disch := omega) only [li_145, nI_add, vI, b1, true_and, nI_clamp, hb r hr, hr3]
  rintro _ rfl
  unfold hNB at h
  rcases hk with ⟨c, k⟩ | ⟨c, v, k1, k2, k3, k4, k5, k6, k7⟩
  · have hq := h tr
    rw [k] at hq
    refine br_c (fun _ => hq) (fun c1 => br_c (fun _ => hq) (fun c2 => ?_))
    exact absurd c (by rintro (c | c); exact c1 c; exact c2 c)
  · rw [k1]
    refine br_f ?_ (br_f k2 (M_boardsBy k3 k4 k5 k6 hr3 (by omega) (hl r hr) (hy r hr) (hb r hr) (bell01 ρ σ) (fun Q h => M_rings hw hR (hl 0 hR.1) h) (fun tr => ?_) tr))
    · have := nI_pos (n := c) (by omega); grind
    · have hq := h tr
      rwa [k7 _ _ _ _ _ hh] at hq
/-- the model's rows show a start -/
def MS (s : Fn) (σ : St) : Prop := s 4 = nI (sH σ) ∧ ∀ r, r < 3 → s (130 + r) = sL σ r ∧ s (139 + r) = sB σ r ∧ s (142 + r) = sW σ r
theorem M_takes {s : Fn} {σ : St} (hs : MS s σ) {Q : Int32 → Fn → Fn → Fn → Prop} (h : ∀ l b w : Fn, (∀ r, r < 3 → l r = sL σ r) → (∀ r, r < 3 → b r = sB σ r) → (∀ r, r < 3 → w r = sW σ r) → Q (nI (sH σ)) l b w) (t : Int32) (l b w : Fn) : WX11_takes t s l b w Q := by
  suffices g : ∀ (n r : Nat) (l b w : Fn), r ≤ 3 → 3 < n + r → (∀ k, k < r → l k = sL σ k) → (∀ k, k < r → b k = sB σ k) → (∀ k, k < r → w k = sW σ k) → WX11_takes_2 s Q n (nI r) t l b w from ⟨4, g 4 0 l b w (by omega) (by omega) (fun k h => absurd h (Nat.not_lt_zero k)) (fun k h => absurd h (Nat.not_lt_zero k)) (fun k h => absurd h (Nat.not_lt_zero k))⟩
  intro n
  induction n with
  | zero => intro r l b w h1 h2; omega
  | succ n ih =>
    intro r l b w h1 h2 hl hb hw
    unfold WX11_takes_2
    by_cases c : 3 ≤ r
    · have e : r = 3 := by omega
      subst e
      refine br_t (nI_le (a := 3) (by omega) (by omega)) ?_
      unfold WX11_takes_61
      rintro _ rfl
      show Q (s 4) l b w
      rw [hs.1]
      exact h l b w hl hb hw
    · obtain ⟨e1, e2, e3⟩ := hs.2 r (by omega)
      have b0 : r < 3 := by omega
      have b1 : 130 + r < 1454 := by omega
      have b2 : 139 + r < 1454 := by omega
      have b3 : 142 + r < 1454 := by omega
      refine br_f (nI_ge (b := 3) (by omega) (by omega)) ?_
      simp (disch := omega) only [li_130, li_139, li_142, li_1, nI_add, vI, b0, b1, b2, b3, true_and, nI_clamp, e1, e2, e3, forall_eq]
      exact ih (r + 1) _ _ _ (by omega) (by omega) (upL hl rfl) (upL hb rfl) (upL hw rfl)
theorem M_hourGoes {ρ : RV} {σ : St} {a : Int32} {s : Fn} {st lc ll mu hi : Int32} (hw : MWr ρ s st lc ll mu hi) (hR : okR ρ) (hh : sH σ < 1000) {levels bo ways : Fn} (hl : ∀ r, r < rR ρ → levels r = sL σ r) (hb : ∀ r, r < rR ρ → bo r = sB σ r) (hy : ∀ r, r < rR ρ → ways r = sW σ r) {Q : Int32 → Int32 → Int32 → Fn → Fn → Fn → Fn → Fn → Prop}
    (hQ : ∀ nx wy lv bo tr : Fn, (∀ r, r < rR ρ → lv r = hLv ρ σ a r) → (∀ r, r < rR ρ → bo r = hNB ρ σ r) → (∀ r, r < rR ρ → wy r = hWy ρ σ a r) → (∀ r, rR ρ ≤ r → lv r = levels r) → Q (nI (sH σ + 1)) (hOv ρ σ a (rR ρ)) (hDr ρ σ a (rR ρ)) nx wy lv bo tr) (ov dy : Int32) (nx tr : Fn) : WX11_hourGoes a (nI (sH σ)) st lc ll mu hi ov dy s nx ways levels bo tr Q := by
  have hR3 := hR.2.1
  have hR0 : s (0 : Int32).toNatClampNeg = nI (rR ρ) := hw.1
  -- the last loop
  have l3 : ∀ (n r : Nat) (o d : Int32) (nx wy lv bo tr : Fn), r ≤ rR ρ → rR ρ < n + r → o = hOv ρ σ a r → d = hDr ρ σ a r → (∀ k, k < rR ρ → nx k = hNx ρ σ a k) → (∀ k, k < r → lv k = hLv ρ σ a k) → (∀ k, r ≤ k → lv k = levels k) → (∀ k, k < rR ρ → bo k = hNB ρ σ k) → (∀ k, k < r → wy k = hWy ρ σ a k) → WX11_hourGoes_131 st lc ll mu hi s Q n (nI r) (nI (sH σ)) o d nx wy lv bo tr := by
    intro n
    induction n with
    | zero => intro r o d nx wy lv bo tr h1 h2; omega
    | succ n ih =>
      intro r o d nx wy lv bo' tr h1 h2 ho hd hnx hlv hlv2 hbo hwy
      unfold WX11_hourGoes_131
      rw [hR0]
      by_cases c : rR ρ ≤ r
      · have e : r = rR ρ := by omega
        subst e
        refine br_t (nI_le c (by omega)) ?_
        unfold WX11_hourGoes_283
        rintro _ rfl
        rw [nI_1, ho, hd]
        exact hQ _ _ _ _ _ hlv hbo hwy hlv2
      · have hr : r < rR ρ := by omega
        have hr3 : r < 3 := by omega
        have e1 := hnx r hr
        have e2 := hlv2 r (Nat.le_refl _)
        rw [hl r hr] at e2
        obtain ⟨eb, em, -⟩ := hw.2.2 r hr
        have b1 : 136 + r < 1454 := by omega
        refine br_f (nI_ge (by omega) (by omega)) ⟨vp_in_nI hr3 (by decide), M_bank hw hR3 hr ?_⟩
        rw [nI_clamp (by omega), e1]
        have f4 : ∀ s1 s2 o', o' = hOv ρ σ a (r + 1) → s1 ||| s2 = hDr ρ σ a (r + 1) → WX11_hourGoes_228 st lc ll mu hi s (nI r) (hLv ρ σ a r) s1 s2 (nI (sH σ)) o' d nx wy lv bo' tr Q (WX11_hourGoes_131 st lc ll mu hi s Q n) := by
          intro s1 s2 o' e3 e4
          unfold WX11_hourGoes_228
          rw [e4]
          rintro _ rfl
          refine ⟨vp_in_nI hr3 (by decide), ?_⟩
          rw [nI_clamp (by omega), e2]
          have f5 : ∀ x, x = hWy ρ σ a r → WX11_hourGoes_268 st lc ll mu hi s (nI r) (hLv ρ σ a r) (nI r) x (nI (sH σ)) o' (hDr ρ σ a (r + 1)) nx wy lv bo' tr Q (WX11_hourGoes_131 st lc ll mu hi s Q n) := by
            intro x ex
            unfold WX11_hourGoes_268
            refine ⟨vp_in_nI hr3 (by decide), vp_in_nI hr3 (by decide), ?_⟩
            rw [nI_clamp (by omega), nI_1]
            rintro _ rfl
            refine ih (r + 1) _ _ _ _ _ _ _ (by omega) (by omega) e3 rfl hnx (upL hlv rfl) (fun k hk => ?_) hbo (upL hwy ex)
            rw [pk_un (by omega)]
            exact hlv2 k (by omega)
          refine br_c (fun c1 => ⟨vp_in_nI hr3 (by decide), br_c (fun c2 => f5 _ ?_) (fun c2 => f5 _ ?_)⟩) (fun c1 => f5 _ ?_)
          all_goals unfold hWy
          · rw [if_neg (by grind), if_pos c2]
          · rw [if_neg (by grind), if_neg c2]
          · rw [if_pos (by grind)]
        have f3 : ∀ o', o' = hOv ρ σ a (r + 1) → WX11_hourGoes_199 st lc ll mu hi s (nI r) (hLv ρ σ a r) (nI (sH σ)) o' d nx wy lv bo' tr Q (WX11_hourGoes_131 st lc ll mu hi s Q n) := by
          intro o' e3
          unfold WX11_hourGoes_199
          simp (disch := omega) only [li_136, nI_add, vI, b1, true_and, nI_clamp]
          rw [← em]
          refine br_c (fun c1 => f4 _ _ _ e3 ?_) (fun c1 => f4 _ _ _ e3 ?_)
          · rw [hDr, if_neg (by grind), hd, Int32.or_zero]
          · rw [hDr, if_pos (by grind), hd]
        have f2 : ∀ x, o ||| x = hOv ρ σ a (r + 1) → WX11_hourGoes_167 st lc ll mu hi s (nI r) o x (nI (sH σ)) o d nx wy lv bo' tr Q (WX11_hourGoes_131 st lc ll mu hi s Q n) := by
          intro x ex
          unfold WX11_hourGoes_167
          rw [ex]
          rintro _ rfl
          refine ⟨vp_in_nI hr3 (by decide), M_bank hw hR3 hr ?_⟩
          rw [nI_clamp (by omega), e1]
          refine br_c (fun c1 => ⟨vp_in_nI hr3 (by decide), ?_⟩) (fun c1 => M_bank hw hR3 hr ?_)
          · have := f3 _ rfl
            rwa [show hLv ρ σ a r = hNx ρ σ a r by unfold hLv; rw [if_pos c1]] at this
          · have := f3 _ rfl
            rwa [show hLv ρ σ a r = rB ρ r by unfold hLv; rw [if_neg c1]] at this
        refine br_c (fun c1 => f2 _ ?_) (fun c1 => f2 _ ?_)
        · rw [hOv, if_pos c1, ho, Int32.or_zero]
        · rw [hOv, if_neg c1, ho]
  -- the middle loop
  have l2 : ∀ (n r : Nat) (inn : Int32) (nx bo' tr : Fn), r ≤ rR ρ → rR ρ < n + r → inn = hIn ρ σ r → (∀ k, k < r → nx k = hNx ρ σ a k) → (∀ k, r ≤ k → k < rR ρ → nx k = hNB ρ σ k) → (∀ k, k < r → bo' k = hNB ρ σ k) → WX11_hourGoes_43 a st lc ll mu hi s Q n inn (nI r) (nI (sH σ)) 0 0 nx ways levels bo' tr := by
    intro n
    induction n with
    | zero => intro r inn nx bo' tr h1 h2; omega
    | succ n ih =>
      intro r inn nx bo' tr h1 h2 hi' hnx hnx2 hbo
      unfold WX11_hourGoes_43
      rw [hR0]
      by_cases c : rR ρ ≤ r
      · have e : r = rR ρ := by omega
        subst e
        refine br_t (nI_le c (by omega)) ?_
        unfold WX11_hourGoes_129
        exact ⟨4, l3 4 0 _ _ _ _ _ _ _ (by omega) (by omega) rfl rfl hnx (fun k h => absurd h (Nat.not_lt_zero k)) (fun k _ => rfl) hbo (fun k h => absurd h (Nat.not_lt_zero k))⟩
      · have hr : r < rR ρ := by omega
        have hr3 : r < 3 := by omega
        have e1 := hnx2 r (Nat.le_refl _) hr
        refine br_f (nI_ge (by omega) (by omega)) ?_
        simp (disch := omega) only [vI, nI_clamp, hr3, true_and, e1, forall_eq, pk_us, hl r hr]
        have fin : ∀ x, x = hOut ρ σ r → WX11_hourGoes_95 a st lc ll mu hi s inn (nI r) x (nI (sH σ)) 0 0 nx ways levels (upd bo' r (hNB ρ σ r)) tr Q (WX11_hourGoes_43 a st lc ll mu hi s Q n) := by
          rintro _ rfl
          unfold WX11_hourGoes_95
          simp (disch := omega) only [vI, nI_clamp, hr3, true_and, forall_eq, hl r hr, nI_1]
          refine ih (r + 1) _ _ _ _ (by omega) (by omega) rfl (upL hnx ?_) (fun k hk hk2 => ?_) (upL hbo rfl)
          · rw [hi']; rfl
          · rw [pk_un (by omega)]; exact hnx2 k (by omega) hk2
        refine br_c (fun c1 => fin _ ?_) (fun c1 => fin _ ?_)
        · unfold hOut; rw [if_pos c1]
        · unfold hOut; rw [if_neg c1]
  -- the first loop
  suffices l1 : ∀ (n r : Nat) (nx tr : Fn), r ≤ rR ρ → rR ρ < n + r → (∀ k, k < r → nx k = hNB ρ σ k) → WX11_hourGoes_12 a st lc ll mu hi s Q n (nI r) (nI (sH σ)) 0 0 nx ways levels bo tr from ⟨4, l1 4 0 nx tr (by omega) (by omega) (fun k h => absurd h (Nat.not_lt_zero k))⟩
  intro n
  induction n with
  | zero => intro r nx tr h1 h2; omega
  | succ n ih =>
    intro r nx tr h1 h2 hnx
    unfold WX11_hourGoes_12
    rw [hR0]
    by_cases c : rR ρ ≤ r
    · have e : r = rR ρ := by omega
      subst e
      refine br_t (nI_le c (by omega)) ?_
      unfold WX11_hourGoes_39
      exact ⟨4, l2 4 0 _ _ _ _ (by omega) (by omega) rfl (fun k h => absurd h (Nat.not_lt_zero k)) (fun k _ h => hnx k h) (fun k h => absurd h (Nat.not_lt_zero k))⟩
    · have hr : r < rR ρ := by omega
      refine br_f (nI_ge (by omega) (by omega)) (M_boardsOf hw hR hh hl hb hy hr (fun tr => ?_) tr)
      refine ⟨vp_in_nI (by omega) (by decide), ?_⟩
      rw [nI_clamp (by omega), nI_1]
      rintro _ rfl
      exact ih (r + 1) _ _ (by omega) (by omega) (upL hnx rfl)
