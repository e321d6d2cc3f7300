/-! ===== by hand: how the model reads ===== -/
theorem isB_b01 (b : Bool) : isB (b01 b) := by cases b; exact isB_0; exact isB_1
theorem M_here {tp s : Fn} {sz : Nat} (hT : ∀ k, k < sz → s (10 + k) = tp k) (hz : sz ≤ 120) {t : PS} (hp : pP t ≤ sz) (hb : pB t = false) {Q : Int32 → Prop} (h : Q (nx tp sz t)) : WX11_here (nI (pP t)) (nI sz) s Q := by
  unfold WX11_here
  unfold nx at h
  by_cases c : pP t < sz
  · rw [if_pos ⟨hb, c⟩] at h
    have b1 : 10 + pP t < 1454 := by omega
    refine br_f (nI_ge c (by omega)) ?_
    simp (disch := omega) only [li_10, nI_add, vI, b1, true_and, nI_clamp]
    rw [hT _ c]; exact h
  · rw [if_neg (fun z => c z.2)] at h
    exact br_t (nI_le (by omega) (by omega)) h
theorem M_must {tp s : Fn} {sz : Nat} (hT : ∀ k, k < sz → s (10 + k) = tp k) (hz : sz ≤ 120) {t : PS} (hp : pP t ≤ sz) {c : Int32} (hc : c ≠ -1) {Q : Int32 → Int32 → Prop} (h : Q (nI (pP (nd tp sz c t))) (b01 (pB (nd tp sz c t)))) : WX11_must c (nI (pP t)) (nI sz) (b01 (pB t)) s Q := by
  unfold WX11_must
  have f16 : nx tp sz t ≠ c → WX11_must_16 (nI sz) s (nI (pP t)) (b01 (pB t)) Q := by
    intro e
    unfold nd at h
    rw [if_neg e] at h
    unfold WX11_must_16 WX11_must_21
    refine ⟨isB_1, br_f (by decide) ?_⟩
    unfold WX11_must_41
    rintro _ rfl
    rw [show nI (pP t) + 0 = nI (pP t) from Int32.add_zero _]
    exact h
  cases b : pB t with
  | true =>
    have := f16 (by rw [nx_bad b]; exact fun z => hc z.symm)
    rw [b] at this
    exact br_f (by decide) this
  | false =>
    refine br_t rfl (M_here hT hz hp b (br_c (fun e => ?_) (fun e => ?_)))
    · unfold nd at h
      rw [if_pos e] at h
      unfold WX11_must_21
      refine ⟨isB_0, br_t rfl ?_⟩
      unfold WX11_must_41
      rintro _ rfl
      rw [nI_1]
      have eb : pB (adv t) = false := b
      rw [eb] at h
      exact h
    · have := f16 e
      rw [b] at this; exact this
theorem M_spells {tp s : Fn} {sz : Nat} (hT : ∀ k, k < sz → s (10 + k) = tp k) (hz : sz ≤ 120) {z : Nat} (hz9 : z < 9) (hm : ∀ c, c ∈ bytJS.getD z [] → c ≠ -1) {t : PS} (hp : pP t ≤ sz) {Q : Int32 → Int32 → Prop} (h : Q (nI (pP (nds tp sz (bytJS.getD z []) t))) (b01 (pB (nds tp sz (bytJS.getD z []) t)))) : WX11_spells z (nI (pP t)) (nI sz) (b01 (pB t)) s Q := by
  obtain ⟨⟨b1, b2⟩, b3⟩ := byt_ok z hz9
  suffices g : ∀ (n i : Nat) (t : PS), i ≤ lenJS.getD z 0 → lenJS.getD z 0 < n + i → pP t ≤ sz → Q (nI (pP (nds tp sz ((bytJS.getD z []).drop i) t))) (b01 (pB (nds tp sz ((bytJS.getD z []).drop i) t))) → WX11_spells_2 z (nI sz) s Q n (nI i) (nI (pP t)) (b01 (pB t)) from ⟨200, g 200 0 t (by omega) (by omega) hp h⟩
  intro n
  induction n with
  | zero => intro i t h1 h2; omega
  | succ n ih =>
    intro i t h1 h2 hp hq
    unfold WX11_spells_2
    refine C_len hz9 ?_
    by_cases c : lenJS.getD z 0 ≤ i
    · have e : (bytJS.getD z []).drop i = [] := List.drop_eq_nil_of_le (by omega)
      rw [e] at hq
      exact br_t (nI_le c (by omega)) hq
    · have hi : i < (bytJS.getD z []).length := by omega
      have e := (dropD hi).1
      rw [e] at hq
      have hc : (bytJS.getD z []).getD i 0 ≠ -1 := hm _ (dropD hi).2
      obtain ⟨m1, m2, -⟩ := nd_mono (tp := tp) hc hp
      refine br_f (nI_ge (by omega) (by omega)) (C_char hz9 (by omega) (M_must hT hz hp hc ?_))
      rintro _ rfl
      rw [nI_1]
      exact ih (i + 1) _ (by omega) (by omega) m2 hq
theorem M_figure {tp s : Fn} {sz : Nat} (hT : ∀ k, k < sz → s (10 + k) = tp k) (hz : sz ≤ 120) {lo hi : Nat} (hlo : lo ≤ hi) (hhi : hi < 10) {t : PS} (hp : pP t ≤ sz) {Q : Int32 → Int32 → Int32 → Prop} (h : Q (dgP tp sz lo hi t).1 (nI (pP (dgP tp sz lo hi t).2)) (b01 (pB (dgP tp sz lo hi t).2))) : WX11_figure (nI lo) (nI hi) (nI (pP t)) (nI sz) (b01 (pB t)) s Q := by
  unfold WX11_figure
  have f26 : ¬ (nI (48 + lo) ≤ nx tp sz t ∧ nx tp sz t ≤ nI (48 + hi)) → WX11_figure_26 (nI sz) s (nI (pP t)) (b01 (pB t)) Q := by
    intro e
    unfold dgP at h
    rw [if_neg e] at h
    unfold WX11_figure_26 WX11_figure_31
    refine ⟨isB_1, br_f (by decide) ?_⟩
    unfold WX11_figure_52
    refine br_f (by decide) ?_
    unfold WX11_figure_70
    rintro _ rfl
    rw [show nI (pP t) + 0 = nI (pP t) from Int32.add_zero _]
    exact h
  cases b : pB t with
  | true =>
    have := f26 (by rw [nx_bad b]; exact fun z => by have := z.1; have := nI_pos (n := 48 + lo) (by omega); grind)
    rw [b] at this
    exact br_f (by decide) this
  | false =>
    refine br_t rfl (M_here hT hz hp b ?_)
    unfold WX11_in
    rw [show (48 : Int32) + nI lo = nI (48 + lo) by rw [← nI_add]; rfl, show (48 : Int32) + nI hi = nI (48 + hi) by rw [← nI_add]; rfl]
    have f0 : ¬ (nI (48 + lo) ≤ nx tp sz t ∧ nx tp sz t ≤ nI (48 + hi)) → WX11_figure_26 (nI sz) s (nI (pP t)) 0 Q := by
      intro e; have := f26 e; rw [b] at this; exact this
    refine br_c (fun c1 => br_t rfl (f0 (by grind))) (fun c1 => br_c (fun c2 => br_t rfl (f0 (by grind))) (fun c2 => br_f (by decide) ?_))
    have c : nI (48 + lo) ≤ nx tp sz t ∧ nx tp sz t ≤ nI (48 + hi) := by constructor <;> grind
    unfold dgP at h
    rw [if_pos c] at h
    unfold WX11_figure_31
    refine ⟨isB_0, br_t rfl (M_here hT hz hp b ?_)⟩
    unfold WX11_figure_52
    refine br_t rfl ?_
    unfold WX11_figure_70
    rintro _ rfl
    rw [nI_1]
    have eb : pB (adv t) = false := b
    replace h : Q (nx tp sz t - 48) (nI (pP (adv t))) (b01 (pB (adv t))) := h
    rw [eb] at h
    exact h
theorem M_among {tp s : Fn} {sz : Nat} (hT : ∀ k, k < sz → s (10 + k) = tp k) (hz : sz ≤ 120) {z : Nat} (hz9 : z < 9) {t : PS} (hp : pP t ≤ sz) (hb : pB t = false) {Q : Int32 → Int32 → Prop} (h0 : ixL (bytJS.getD z []) (nx tp sz t) = none → Q (-1) (nI (pP t))) (h1 : ∀ w, ixL (bytJS.getD z []) (nx tp sz t) = some w → Q (nI w) (nI (pP (adv t)))) : WX11_among z (nI (pP t)) (nI sz) s Q := by
  obtain ⟨⟨b1, b2⟩, b3⟩ := byt_ok z hz9
  suffices g : ∀ (n i : Nat), i ≤ lenJS.getD z 0 → lenJS.getD z 0 < n + i → ixL (bytJS.getD z []) (nx tp sz t) = (ixL ((bytJS.getD z []).drop i) (nx tp sz t)).map (· + i) → WX11_among_2 z (nI sz) s Q n (nI i) (nI (pP t)) from ⟨200, g 200 0 (by omega) (by omega) (by
    rw [List.drop_zero]
    cases ixL (bytJS.getD z []) (nx tp sz t) <;> rfl)⟩
  intro n
  induction n with
  | zero => intro i h1 h2; omega
  | succ n ih =>
    intro i h2 h3 he
    unfold WX11_among_2
    refine C_len hz9 ?_
    by_cases c : lenJS.getD z 0 ≤ i
    · have e : (bytJS.getD z []).drop i = [] := List.drop_eq_nil_of_le (by omega)
      rw [e] at he
      exact br_t (nI_le c (by omega)) (h0 he)
    · have hi : i < (bytJS.getD z []).length := by omega
      have e := (dropD hi).1
      rw [e, ixL_cons] at he
      refine br_f (nI_ge (by omega) (by omega)) (M_here hT hz hp hb (C_char hz9 (by omega) (br_c (fun c1 => ?_) (fun c1 => ?_))))
      · rw [if_pos c1.symm] at he
        unfold WX11_among_22
        rintro _ rfl
        rw [nI_1]
        exact h1 i (by rw [he]; show some (0 + i) = some i; rw [Nat.zero_add])
      · rw [if_neg (fun z => c1 z.symm)] at he
        rintro _ rfl
        rw [nI_1]
        refine ih (i + 1) (by omega) (by omega) ?_
        rw [he]
        cases ixL ((bytJS.getD z []).drop (i + 1)) (nx tp sz t) with
        | none => rfl
        | some w => show some (w + 1 + i) = some (w + (i + 1)); congr 1; omega
/-- the model's rows while a condition of card c is read -/
def RM (c : Nat) (s0 : Fn) (t : PS) (s : Fn) : Prop := (∀ k, k ≠ 326 + c → ¬ (334 + 140 * c ≤ k ∧ k < 474 + 140 * c) → s k = s0 k) ∧ (pB t = false → s (326 + c) = nI (pL t).length ∧ ∀ k, k < (pL t).length → s (334 + 140 * c + k) = (pL t).getD k 0)
theorem M_emits {c : Nat} (hc : c < 8) {s0 s : Fn} {t : PS} (hs : RM c s0 t s) (hl : pB t = false → (pL t).length < 120) {x : Int32} {Q : Fn → Prop} (h : ∀ s', RM c s0 (em x t) s' → Q s') : WX11_emits x (nI c) (b01 (pB t)) s Q := by
  unfold WX11_emits
  cases b : pB t with
  | true =>
    refine br_f (by decide) (h s ?_)
    rw [em_bad b]; exact hs
  | false =>
    obtain ⟨r1, r2⟩ := hs
    obtain ⟨r3, r4⟩ := r2 b
    have hl := hl b
    have b1 : 326 + c < 1454 := by omega
    have b2 : 334 + 140 * c + (pL t).length < 1454 := by omega
    refine br_t rfl ?_
    simp (disch := omega) only [li_326, li_334, li_140, li_1, nI_add, pk_mul, vI, b1, b2, true_and, nI_clamp, r3, forall_eq]
    rw [pk_un (by omega), r3, nI_add]
    refine h _ ?_
    rw [em_ok b]
    refine ⟨fun k k1 k2 => ?_, fun _ => ⟨?_, fun k hk => ?_⟩⟩
    · rw [pk_un k1, pk_un (by omega)]; exact r1 k k1 k2
    · rw [pk_us]; show _ = nI (pL t ++ [x]).length; rw [List.length_append]; rfl
    · replace hk : k < (pL t ++ [x]).length := hk
      rw [List.length_append] at hk
      replace hk : k < (pL t).length + 1 := hk
      show _ = (pL t ++ [x]).getD k 0
      rw [pk_un (by omega)]
      by_cases ck : k = (pL t).length
      · rw [ck, pk_us, getD_app_r]
      · rw [pk_un (by omega), getD_app_l (by omega)]; exact r4 k (by omega)
