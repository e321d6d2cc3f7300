/-! ===== by hand: an hour of the program ===== -/
theorem C_letFall (ρ : RV) (σ : St) (a : Int32) {bR bk pl : Fn} {Q : Int32 → Fn → Fn → Prop} (hR : rR ρ ≤ 3) (h1 : ∀ r, r < rR ρ → bR r = hPre ρ σ r) (h2 : ∀ r, r < rR ρ → bk r = rB ρ r) (h3 : ∀ r, r < rR ρ → pl r = sL σ r)
    (hQ : ∀ l w : Fn, (∀ r, r < rR ρ → l r = hLv ρ σ a r) → (∀ r, r < rR ρ → w r = hWy ρ σ a r) → Q (hOv ρ σ a (rR ρ)) l w) (l w : Fn) : WX7_letFall a (nI (rR ρ)) bR bk pl l w Q := by
  unfold WX7_letFall
  refine ⟨4, ?_⟩
  suffices h : ∀ (n r : Nat) (acc : Int32) (l w : Fn), r ≤ rR ρ → rR ρ < n + r → acc = hOv ρ σ a r → (∀ k, k < r → l k = hLv ρ σ a k) → (∀ k, k < r → w k = hWy ρ σ a k) → WX7_letFall_6 a (nI (rR ρ)) bR bk pl Q n acc (nI r) l w from h 4 0 _ l w (by omega) (by omega) rfl (fun k h => absurd h (Nat.not_lt_zero k)) (fun k h => absurd h (Nat.not_lt_zero k))
  intro n
  induction n with
  | zero => intro r acc l w h1 h2; omega
  | succ n ih =>
    intro r acc l w hr hn hacc hl hw
    unfold WX7_letFall_6
    by_cases hlt : rR ρ ≤ r
    · have e : r = rR ρ := by omega
      subst e
      refine br_t (nI_le hlt (by omega)) ?_
      rw [hacc]
      exact hQ l w hl hw
    · have hb := h1 r (by omega)
      have hk := h2 r (by omega)
      have hp := h3 r (by omega)
      have h3' : r < 3 := by omega
      have h3'' : ¬ 3 ≤ r := by omega
      simp (disch := omega) only [li_0, li_1, li_2, li_3, li_4, li_5, li_6, li_7, li_8, li_9, li_10, nI_leI, nI_ltI, nI_eq, nI_add, vI, nI_clamp, forall_eq, true_and, and_true, true_implies, not_true_eq_false, not_false_eq_true, false_implies, implies_true, WX7_letFall_76, WX7_letFall_123, hlt, h3', h3'', hb, hk, hp]
      simp only [← li_0, ← li_1, ← li_2]
      repeat' (refine br_c (fun _ => ?_) (fun _ => ?_))
      all_goals refine ih (r + 1) _ _ _ (by omega) (by omega) ?_ (upL hl ?_) (upL hw ?_)
      all_goals simp only [hOv, hWy, hLv, hNx]
      all_goals grind
/-- what the keepers of the program do -/
def CKr (ρ : RV) (asleep : Int32) (cards : Nat → Option Nat) (ce : Nat → CT) (cin : Nat → Prop) : Prop := ∀ r, r < rR ρ → (cards r = none → ∀ lv h wy bl w, rK ρ r lv h wy bl w = w) ∧
  (∀ a, cards r = some a → (((asleep >>> (nI r &&& 31)) &&& 1) = 0 → cin a ∧ ∀ (lv : Int32) (h : Nat) (wy bl w : Int32) (Q : Int32 → Prop), h < 1000 → 0 ≤ w → w ≤ 3 → Q (rK ρ r lv (nI h) wy bl w) → WX0_boardsBy w (ce a) lv (nI h) wy bl Q) ∧
    (¬ ((asleep >>> (nI r &&& 31)) &&& 1) = 0 → ∀ lv h wy bl w, rK ρ r lv h wy bl w = w))
def okR (ρ : RV) : Prop := 1 ≤ rR ρ ∧ rR ρ ≤ 3 ∧ ∀ r, r < rR ρ → (0 ≤ rB ρ r ∧ rB ρ r ≤ 9) ∧ ∀ (lv : Int32) (h : Nat) (wy bl w : Int32), 0 ≤ w → w ≤ 3 → 0 ≤ rK ρ r lv (nI h) wy bl w ∧ rK ρ r lv (nI h) wy bl w ≤ 3
def okS (ρ : RV) (σ : St) (N : Nat) : Prop := sH σ < N ∧ ∀ r, r < rR ρ → (0 ≤ sL σ r ∧ sL σ r ≤ 9) ∧ 0 ≤ sB σ r ∧ sB σ r ≤ 3
theorem and1 (x : Int32) : x &&& 1 = 0 ∨ x &&& 1 = 1 := by
  obtain ⟨j, hj, e⟩ := pk_andE x (m := 1) 1 rfl
  rw [e]
  rcases (show j = 0 ∨ j = 1 by omega) with rfl | rfl
  · exact Or.inl rfl
  · exact Or.inr rfl
theorem hNB_ok {ρ : RV} {σ : St} {N : Nat} (h1 : okR ρ) (h2 : okS ρ σ N) {r : Nat} (hr : r < rR ρ) : 0 ≤ hNB ρ σ r ∧ hNB ρ σ r ≤ 3 := (h1.2.2 r hr).2 _ _ _ _ _ (h2.2 r hr).2.1 (h2.2 r hr).2.2
theorem hOut_ok {ρ : RV} {σ : St} {N : Nat} (h1 : okR ρ) (h2 : okS ρ σ N) {r : Nat} (hr : r < rR ρ) : 0 ≤ hOut ρ σ r ∧ hOut ρ σ r ≤ 3 ∧ hOut ρ σ r ≤ sL σ r := by
  have := hNB_ok h1 h2 hr
  have := (h2.2 r hr).1
  unfold hOut
  grind
theorem hPre_ok {ρ : RV} {σ : St} {N : Nat} (h1 : okR ρ) (h2 : okS ρ σ N) {r : Nat} (hr : r < rR ρ) : 0 ≤ hPre ρ σ r ∧ hPre ρ σ r ≤ 12 := by
  have := hOut_ok h1 h2 hr
  have := (h2.2 r hr).1
  unfold hPre
  cases r with
  | zero => simp only [hIn]; grind
  | succ r =>
    have := hOut_ok h1 h2 (r := r) (by omega)
    simp only [hIn]; grind
theorem okS_go {ρ : RV} {σ : St} {N : Nat} (h1 : okR ρ) (h2 : okS ρ σ N) (a : Int32) : okS ρ (hGo ρ σ a) (N + 1) := by
  refine ⟨Nat.succ_lt_succ h2.1, fun r hr => ⟨?_, hNB_ok h1 h2 hr⟩⟩
  have hb := (h1.2.2 r hr).1
  have hp := hPre_ok h1 h2 hr
  have h01 := and1 (a >>> (nI r &&& 31))
  show 0 ≤ hLv ρ σ a r ∧ hLv ρ σ a r ≤ 9
  unfold hLv hNx
  grind
theorem C_setBoards (ρ : RV) (σ : St) {asleep silent : Int32} {bk pl pb pw : Fn} {cards : Nat → Option Nat} {ce : Nat → CT} {cin : Nat → Prop} {Q : Int32 → Int32 → Int32 → Int32 → Int32 → Fn → Fn → Prop}
    (hR : okR ρ) (hS : okS ρ σ 1000) (hU : silent = 0 ↔ rU ρ = false) (h1 : ∀ r, r < rR ρ → bk r = rB ρ r) (h2 : ∀ r, r < rR ρ → pl r = sL σ r) (h3 : ∀ r, r < rR ρ → pb r = sB σ r) (h4 : ∀ r, r < rR ρ → pw r = sW σ r) (hC : CKr ρ asleep cards ce cin)
    (hQ : ∀ s1 s2 s3 s4 (b p : Fn), (∀ r, r < rR ρ → b r = hNB ρ σ r) → (∀ r, r < rR ρ → p r = hPre ρ σ r) → Q s1 s2 s3 s4 (nI (sH σ + 1)) b p) (sl sh sw sb : Int32) (ph : Int32) (b p : Fn) : WX7_setBoards asleep silent sl sh sw sb (nI (sH σ)) (nI (rR ρ)) ph pb cards pl b p pw bk ce cin Q := by
  obtain ⟨hR1, hR3, hRk⟩ := hR
  have loop : ∀ (n r : Nat) (acc s1 s3 : Int32) (b p : Fn), r ≤ rR ρ → rR ρ < n + r → acc = hIn ρ σ r → (∀ k, k < r → b k = hNB ρ σ k) → (∀ k, k < r → p k = hPre ρ σ k) → WX7_setBoards_53 asleep silent (nI (sH σ)) (nI (rR ρ)) pb cards pl pw bk ce cin Q n acc (nI r) s1 (nI (sH σ)) s3 (hBell ρ σ) ph b p := by
    intro n
    induction n with
    | zero => intro r acc s1 s3 b p h1 h2; omega
    | succ n ih =>
      intro r acc s1 s3 b p hr hn hacc hb hp
      unfold WX7_setBoards_53
      by_cases hlt : rR ρ ≤ r
      · have e : r = rR ρ := by omega
        subst e
        refine br_t (nI_le hlt (by omega)) ?_
        unfold WX7_setBoards_198
        rintro _ rfl
        rw [nI_1]
        exact hQ _ _ _ _ b p hb hp
      · have e1 := h1 r (by omega)
        have e2 := h2 r (by omega)
        have e3 := h3 r (by omega)
        have e4 := h4 r (by omega)
        have h3' : r < 3 := by omega
        have h3'' : ¬ 3 ≤ r := by omega
        obtain ⟨k1, k2⟩ := hC r (by omega)
        have fin : ∀ s1 s3 x5, x5 = hNB ρ σ r → WX7_setBoards_147 asleep silent (nI (sH σ)) (nI (rR ρ)) pb cards pl pw bk ce cin acc (nI r) x5 s1 (nI (sH σ)) s3 (hBell ρ σ) ph b p Q (WX7_setBoards_53 asleep silent (nI (sH σ)) (nI (rR ρ)) pb cards pl pw bk ce cin Q n) := by
          intro s1 s3 x5 e5
          unfold WX7_setBoards_147
          simp (disch := omega) only [li_0, li_1, li_2, li_3, li_4, li_5, li_6, li_7, li_8, li_9, li_10, nI_leI, nI_ltI, nI_eq, nI_add, vI, nI_clamp, forall_eq, true_and, and_true, true_implies, not_true_eq_false, not_false_eq_true, false_implies, implies_true, e2, h3']
          have e : (if x5 < sL σ r then x5 else sL σ r) = hOut ρ σ r := by rw [e5]; unfold hOut; grind
          refine ih (r + 1) _ _ _ _ _ (by omega) (by omega) e (upL hb e5) (upL hp ?_)
          rw [e, hacc]; rfl
        simp (disch := omega) only [li_0, li_1, li_2, li_3, li_4, li_5, li_6, li_7, li_8, li_9, li_10, nI_leI, nI_ltI, nI_eq, nI_add, vI, nI_clamp, forall_eq, true_and, and_true, true_implies, not_true_eq_false, not_false_eq_true, false_implies, implies_true, hlt, h3', h3'', e2, e3, e4]
        refine ⟨fun hn => fin _ _ _ ?_, fun a ha => br_c (fun c => ?_) (fun c => fin _ _ _ ?_)⟩
        · unfold hNB; rw [k1 hn]
        · obtain ⟨c1, c2⟩ := (k2 a ha).1 c
          refine ⟨c1, c2 _ _ _ _ _ _ hS.1 (hS.2 r (by omega)).2.1 (hS.2 r (by omega)).2.2 (fin _ _ _ rfl)⟩
        · unfold hNB; rw [(k2 a ha).2 c]
  have fin : ∀ sb', sb' = hBell ρ σ → WX7_setBoards_45 asleep silent (nI (sH σ)) (nI (rR ρ)) pb cards pl pw bk ce cin sb' sl (nI (sH σ)) sw sb ph b p Q := by
    intro sb' e
    subst e
    exact ⟨4, loop 4 0 0 _ _ b p (by omega) (by omega) rfl (fun k h => absurd h (Nat.not_lt_zero k)) (fun k h => absurd h (Nat.not_lt_zero k))⟩
  unfold WX7_setBoards WX7_setBoards_44
  have e1 := h1 0 (by omega)
  have e2 := h2 0 (by omega)
  simp (disch := omega) only [li_0, li_1, li_2, li_3, li_4, li_5, li_6, li_7, li_8, li_9, li_10, nI_leI, nI_ltI, nI_eq, nI_add, vI, nI_clamp, forall_eq, true_and, and_true, true_implies, not_true_eq_false, not_false_eq_true, false_implies, implies_true, e1, e2]
  repeat' (refine br_c (fun _ => ?_) (fun _ => ?_))
  all_goals refine fin _ ?_
  all_goals unfold hBell
  all_goals simp only [← li_0, ← li_1] at *
  all_goals grind
theorem okS_mono {ρ : RV} {σ : St} {N M : Nat} (h : okS ρ σ N) (hM : N ≤ M) : okS ρ σ M := ⟨Nat.lt_of_lt_of_le h.1 hM, h.2⟩
theorem orBit : ∀ r, r < 3 → ∀ j, j < 2 ^ r → nI j ||| ((1 : Int32) <<< (nI r &&& 31)) = nI (j + 2 ^ r) := by decide
theorem hOv_bits (ρ : RV) (σ : St) (a : Int32) : ∀ r, r ≤ 3 → (hOv ρ σ a r = 0 ↔ ∀ k, k < r → hNx ρ σ a k ≤ rB ρ k) ∧ ∃ j, j < 2 ^ r ∧ hOv ρ σ a r = nI j := by
  intro r
  induction r with
  | zero => intro _; exact ⟨⟨fun _ k h => absurd h (Nat.not_lt_zero k), fun _ => rfl⟩, 0, by decide, rfl⟩
  | succ r ih =>
    intro hr
    obtain ⟨i1, j, hj, i2⟩ := ih (by omega)
    have h8 : 2 ^ r ≤ 2 ^ 2 := Nat.pow_le_pow_right (by decide) (by omega)
    have hp : 0 < 2 ^ r := Nat.two_pow_pos r
    have e : (2 : Nat) ^ (r + 1) = 2 * 2 ^ r := by rw [Nat.pow_succ]; omega
    unfold hOv
    by_cases c : hNx ρ σ a r ≤ rB ρ r
    · rw [if_pos c]
      refine ⟨⟨fun h k hk => ?_, fun h => i1.mpr fun k hk => h k (by omega)⟩, j, by omega, i2⟩
      by_cases ck : k = r
      · subst ck; exact c
      · exact i1.mp h k (by omega)
    · rw [if_neg c, i2, orBit r (by omega) j hj]
      refine ⟨⟨fun h => ?_, fun h => absurd (h r (by omega)) c⟩, _, by omega, rfl⟩
      rw [li_0, nI_eq (by omega) (by omega)] at h
      omega
def dr (k : Nat) : Nat := k % 2 + k / 2 % 2 + k / 4 % 2
theorem bitCount_ok (k : Nat) (hk : k < 8) {Q : Int32 → Prop} (h : Q (nI (dr k))) : WX6_bitCount_0f7a4 (nI k) Q := by
  unfold WX6_bitCount_0f7a4
  rcases (show k = 0 ∨ k = 1 ∨ k = 2 ∨ k = 3 ∨ k = 4 ∨ k = 5 ∨ k = 6 ∨ k = 7 by omega) with rfl | rfl | rfl | rfl | rfl | rfl | rfl | rfl
  all_goals
    rintro _ rfl _ rfl _ rfl _ rfl _ rfl
    exact h
theorem bit_k : ∀ k, k < 8 → ∀ r, r < 3 → ((nI k >>> (nI r &&& 31)) &&& 1) = nI (k / 2 ^ r % 2) := by decide
theorem shl1 : ∀ r, r ≤ 3 → (1 : Int32) <<< (nI r &&& 31) = nI (2 ^ r) := by
  intro r hr
  rcases (show r = 0 ∨ r = 1 ∨ r = 2 ∨ r = 3 by omega) with rfl | rfl | rfl | rfl <;> rfl
theorem noOver {ρ : RV} {σ : St} {N : Nat} (h1 : okR ρ) (h2 : okS ρ σ N) {left k : Nat} (hk : k < 8) (hd : dr k ≤ left) (h : ∀ r, r < rR ρ → hPre ρ σ r + (if left = 0 then 0 else 1) ≤ rB ρ r) : hOv ρ σ (nI k) (rR ρ) = 0 := by
  refine (hOv_bits ρ σ (nI k) _ h1.2.1).1.mpr fun r hr => ?_
  have hp := hPre_ok h1 h2 hr
  have hb := h r hr
  have h3 := h1.2.1
  unfold hNx
  rw [bit_k k hk r (by omega)]
  by_cases c : left = 0
  · rw [if_pos c] at hb
    have e : k = 0 := by unfold dr at hd; omega
    subst e
    have e0 : 0 / 2 ^ r % 2 = 0 := by rw [Nat.zero_div]
    rw [e0]
    exact hb
  · rw [if_neg c] at hb
    rcases (show k / 2 ^ r % 2 = 0 ∨ k / 2 ^ r % 2 = 1 by omega) with e | e
    · rw [e]; simp only [← li_0] at *; grind
    · rw [e]; exact hb
theorem C_mayGoOver (ρ : RV) (σ : St) (left : Nat) {bR bk : Fn} {Q : Int32 → Prop} (hl : left < 100) (hR : rR ρ ≤ 3) (h1 : ∀ r, r < rR ρ → bR r = hPre ρ σ r) (h2 : ∀ r, r < rR ρ → bk r = rB ρ r)
    (q0 : (∀ r, r < rR ρ → hPre ρ σ r + (if left = 0 then 0 else 1) ≤ rB ρ r) → Q 0) (q1 : Q 1) : WX7_mayGoOver (nI left) (nI (rR ρ)) bR bk Q := by
  have fin : ∀ s, s = (if left = 0 then (0 : Int32) else 1) → WX7_mayGoOver_9 (nI (rR ρ)) bR bk s Q := by
    rintro _ rfl
    refine ⟨4, ?_⟩
    suffices h : ∀ n r, r ≤ rR ρ → rR ρ < n + r → (∀ k, k < r → hPre ρ σ k + (if left = 0 then 0 else 1) ≤ rB ρ k) → WX7_mayGoOver_13 (nI (rR ρ)) bR bk Q n (if left = 0 then (0 : Int32) else 1) (nI r) from h 4 0 (by omega) (by omega) (fun k h => absurd h (Nat.not_lt_zero k))
    intro n
    induction n with
    | zero => intro r h1 h2; omega
    | succ n ih =>
      intro r hr hn hh
      unfold WX7_mayGoOver_13
      by_cases hlt : rR ρ ≤ r
      · have e : r = rR ρ := by omega
        subst e
        exact br_t (nI_le hlt (by omega)) (q0 hh)
      · have e1 := h1 r (by omega)
        have e2 := h2 r (by omega)
        have h3' : r < 3 := by omega
        have h3'' : ¬ 3 ≤ r := by omega
        simp (disch := omega) only [li_0, li_1, li_2, li_3, li_4, li_5, li_6, li_7, li_8, li_9, li_10, nI_leI, nI_ltI, nI_eq, nI_add, vI, nI_clamp, forall_eq, true_and, and_true, true_implies, not_true_eq_false, not_false_eq_true, false_implies, implies_true, hlt, h3', h3'', e1, e2]
        simp only [← li_0, ← li_1]
        refine br_c (fun c => ih (r + 1) (by omega) (by omega) fun k hk => ?_) (fun c => q1)
        by_cases ck : k = r
        · subst ck; exact c
        · exact hh k (by omega)
  unfold WX7_mayGoOver
  by_cases c : left = 0
  · refine br_t ?_ (fin _ (by rw [if_pos c]))
    subst c; decide
  · refine br_f ?_ (fin _ (by rw [if_neg c]))
    rw [li_0, nI_leI (by omega) (by omega)]; omega
