/-! ===== by hand: the search of the program, depth first ===== -/
def pwr (ρ : RV) (n : Nat) : Nat := (2 ^ rR ρ) ^ n
/-- a bank is gone over in the last hour of a row of rains within what is left -/
def FB (ρ : RV) : Nat → St → Nat → Nat → Prop
  | 0, _, _, _ => False
  | n + 1, σ, left, row => dr (row / pwr ρ n) ≤ left ∧ ((n = 0 ∧ hOv ρ σ (nI (row / pwr ρ n)) (rR ρ) ≠ 0) ∨ (0 < n ∧ FB ρ n (hGo ρ σ (nI (row / pwr ρ n))) (left - dr (row / pwr ρ n)) (row % pwr ρ n)))
theorem pwr_pos (ρ : RV) (n : Nat) : 0 < pwr ρ n := Nat.pow_pos (Nat.two_pow_pos _)
theorem pwr_s (ρ : RV) (n : Nat) : pwr ρ (n + 1) = 2 ^ rR ρ * pwr ρ n := by unfold pwr; rw [Nat.pow_succ, Nat.mul_comm]
theorem pwr_0 (ρ : RV) : pwr ρ 0 = 1 := rfl
theorem row_div {ρ : RV} {m k t : Nat} (ht : t < pwr ρ m) : (k * pwr ρ m + t) / pwr ρ m = k ∧ (k * pwr ρ m + t) % pwr ρ m = t := by
  rw [Nat.mul_comm]
  exact ⟨by rw [Nat.mul_add_div (pwr_pos ρ m), Nat.div_eq_of_lt ht, Nat.add_zero], by rw [Nat.mul_add_mod, Nat.mod_eq_of_lt ht]⟩
theorem FB_at {ρ : RV} {σ : St} {m k t left : Nat} (ht : t < pwr ρ m) : FB ρ (m + 1) σ left (k * pwr ρ m + t) ↔ dr k ≤ left ∧ ((m = 0 ∧ hOv ρ σ (nI k) (rR ρ) ≠ 0) ∨ (0 < m ∧ FB ρ m (hGo ρ σ (nI k)) (left - dr k) t)) := by
  show dr _ ≤ left ∧ _ ↔ _
  rw [(row_div ht).1, (row_div ht).2]
theorem FB_rows {ρ : RV} {σ : St} {m k left : Nat} (h : ∀ row, row < k * pwr ρ m → ¬ FB ρ (m + 1) σ left row) (h2 : ∀ t, t < pwr ρ m → ¬ FB ρ (m + 1) σ left (k * pwr ρ m + t)) : ∀ row, row < (k + 1) * pwr ρ m → ¬ FB ρ (m + 1) σ left row := by
  intro row hr
  by_cases c : row < k * pwr ρ m
  · exact h row c
  · have e : row = k * pwr ρ m + (row - k * pwr ρ m) := by omega
    rw [e]
    rw [Nat.add_mul, Nat.one_mul] at hr
    exact h2 _ (by omega)
theorem dig_lo {ρ : RV} {k t m j : Nat} (hj : j < m) : (k * pwr ρ m + t) / pwr ρ j % 2 ^ rR ρ = t / pwr ρ j % 2 ^ rR ρ := by
  obtain ⟨d, rfl⟩ : ∃ d, m = j + (d + 1) := ⟨m - j - 1, by omega⟩
  have e : k * pwr ρ (j + (d + 1)) + t = pwr ρ j * (2 ^ rR ρ * (k * pwr ρ d)) + t := by
    have : pwr ρ (j + (d + 1)) = pwr ρ j * (2 ^ rR ρ * pwr ρ d) := by
      rw [← pwr_s]; unfold pwr; rw [Nat.pow_add]
    rw [this]
    congr 1
    rw [Nat.mul_left_comm k, Nat.mul_left_comm k]
  rw [e, Nat.mul_add_div (pwr_pos ρ j), Nat.mul_add_mod]
/-- the answer of a search of m + 1 hours, and the rains that it found -/
def GR (ρ : RV) (m : Nat) (σ : St) (left : Nat) (r : Int32) (ch : Nat → Int32) : Prop :=
  (r = 0 ∧ ∀ row, row < pwr ρ (m + 1) → ¬ FB ρ (m + 1) σ left row) ∨ (r = 1 ∧ ∃ row, row < pwr ρ (m + 1) ∧ FB ρ (m + 1) σ left row ∧ (∀ j, j < row → ¬ FB ρ (m + 1) σ left j) ∧ ∀ i, i ≤ m → ch i = nI (row / pwr ρ (m - i) % 2 ^ rR ρ))
theorem P8 {ρ : RV} (h : rR ρ ≤ 3) : 2 ^ rR ρ ≤ 8 := Nat.pow_le_pow_right (n := 2) (by decide) h
theorem GR_one {ρ : RV} {σ : St} {left k : Nat} {ch : Nat → Int32} (hk : k < 2 ^ rR ρ) (hd : dr k ≤ left) (ho : hOv ρ σ (nI k) (rR ρ) ≠ 0) (hrows : ∀ row, row < k * pwr ρ 0 → ¬ FB ρ 1 σ left row) (hc : ch 0 = nI k) : GR ρ 0 σ left 1 ch := by
  refine Or.inr ⟨rfl, k, ?_, ?_, ?_, ?_⟩
  · rw [pwr_s, pwr_0]; omega
  · have := (FB_at (ρ := ρ) (σ := σ) (m := 0) (k := k) (t := 0) (left := left) (pwr_pos ρ 0)).mpr ⟨hd, Or.inl ⟨rfl, ho⟩⟩
    rwa [pwr_0, Nat.mul_one, Nat.add_zero] at this
  · intro j hj; exact hrows j (by rw [pwr_0]; omega)
  · intro i hi
    have : i = 0 := by omega
    subst this
    rw [hc, pwr_0, Nat.div_one, Nat.mod_eq_of_lt hk]
theorem GR_more {ρ : RV} {σ : St} {left k m : Nat} {ch ch' : Nat → Int32} (hk : k < 2 ^ rR ρ) (hd : dr k ≤ left) (hrows : ∀ row, row < k * pwr ρ (m + 1) → ¬ FB ρ (m + 2) σ left row) (hg : GR ρ m (hGo ρ σ (nI k)) (left - dr k) 1 ch') (hc : ch 0 = nI k) (hs : ∀ i, i ≤ m → ch (i + 1) = ch' i) : GR ρ (m + 1) σ left 1 ch := by
  rcases hg with ⟨h, -⟩ | ⟨-, row, h1, h2, h3, h4⟩
  · exact absurd h (by decide)
  refine Or.inr ⟨rfl, k * pwr ρ (m + 1) + row, ?_, ?_, ?_, ?_⟩
  · rw [pwr_s ρ (m + 1)]
    have : (k + 1) * pwr ρ (m + 1) ≤ 2 ^ rR ρ * pwr ρ (m + 1) := Nat.mul_le_mul_right _ hk
    rw [Nat.add_mul, Nat.one_mul] at this
    omega
  · exact (FB_at h1).mpr ⟨hd, Or.inr ⟨by omega, h2⟩⟩
  · intro j hj
    by_cases c : j < k * pwr ρ (m + 1)
    · exact hrows j c
    · have e : j = k * pwr ρ (m + 1) + (j - k * pwr ρ (m + 1)) := by omega
      rw [e]
      intro hf
      rcases ((FB_at (by omega)).mp hf).2 with ⟨h, -⟩ | ⟨-, h⟩
      · omega
      · exact h3 _ (by omega) h
  · intro i hi
    cases i with
    | zero => rw [hc, Nat.sub_zero, (row_div h1).1, Nat.mod_eq_of_lt hk]
    | succ i =>
      rw [hs i (by omega), h4 i (by omega), dig_lo (by omega)]
      congr 4; omega
theorem GR_none {ρ : RV} {σ : St} {left m : Nat} {ch : Nat → Int32} (h : ∀ row, row < 2 ^ rR ρ * pwr ρ m → ¬ FB ρ (m + 1) σ left row) : GR ρ m σ left 0 ch := Or.inl ⟨rfl, by rw [pwr_s]; exact h⟩

set_option maxHeartbeats 4000000 in
theorem C_over1 (ρ : RV) {asleep silent : Int32} {bk : Fn} {cards : Nat → Option Nat} {ce : Nat → CT} {cin : Nat → Prop} (hR : okR ρ) (hU : silent = 0 ↔ rU ρ = false) (hB : ∀ r, r < rR ρ → bk r = rB ρ r) (hC : CKr ρ asleep cards ce cin) (σ : St) (N m left : Nat) (hS : okS ρ σ N) (hN : N + m < 1000) (hm : m < 1) (hl : left < 100)
    {pb pl pw : Fn} {Q : Int32 → Int32 → Int32 → Int32 → Int32 → Int32 → Int32 → Fn → Fn → Fn → Fn → Prop} (h2 : ∀ r, r < rR ρ → pl r = sL σ r) (h3 : ∀ r, r < rR ρ → pb r = sB σ r) (h4 : ∀ r, r < rR ρ → pw r = sW σ r)
    (hQ : ∀ (r : Int32) (nh : Int32) (rb : Int32) (s1 : Int32) (s2 : Int32) (s3 : Int32) (s4 : Int32) (b : Fn) (p : Fn) (l : Fn) (w : Fn), GR ρ m σ left r (fun i => rb) → Q r nh rb s1 s2 s3 s4 b p l w) (nh : Int32) (rb : Int32) (s1 : Int32) (s2 : Int32) (s3 : Int32) (s4 : Int32) (b : Fn) (p : Fn) (l : Fn) (w : Fn) : WX7_goesOver_d1 (nI (m + 1)) (nI left) (nI (sH σ)) nh rb asleep silent s1 s2 s3 s4 (nI (rR ρ)) pb cards pl b p pw bk l w ce cin Q := by
  have hR3 := hR.2.1
  have hP8 := P8 hR3
  have hS' := okS_mono hS (M := 1000) (by omega)
  have loop : ∀ (n k : Nat) (nh : Int32) (rb : Int32) (s1 : Int32) (s2 : Int32) (s3 : Int32) (s4 : Int32) (b : Fn) (p : Fn) (l : Fn) (w : Fn), k ≤ 2 ^ rR ρ → 2 ^ rR ρ < n + k → (∀ row, row < k * pwr ρ m → ¬ FB ρ (m + 1) σ left row) → nh = nI (sH σ + 1) → (∀ r, r < rR ρ → b r = hNB ρ σ r) → (∀ r, r < rR ρ → p r = hPre ρ σ r) → WX7_goesOver_d1_45 (nI (m + 1)) (nI left) (nI (sH σ)) asleep silent (nI (rR ρ)) pb cards pl pw bk ce cin Q n (nI k) nh rb s1 s2 s3 s4 b p l w := by
    intro n
    induction n with
    | zero => intro k nh rb s1 s2 s3 s4 b p l w h1 h2; omega
    | succ n ih =>
      intro k nh rb s1 s2 s3 s4 b p l w hk hn hrows hnh hb hp
      subst hnh
      unfold WX7_goesOver_d1_45
      rw [shl1 _ hR3]
      by_cases hlt : 2 ^ rR ρ ≤ k
      · have e : k = 2 ^ rR ρ := by omega
        subst e
        exact br_t (nI_le hlt (by omega)) (hQ 0 _ _ _ _ _ _ _ _ _ _ (GR_none hrows))
      refine br_f (nI_ge (by omega) (by omega)) (bitCount_ok k (by omega) ?_)
      have next : ∀ (nh : Int32) (rb : Int32) (s1 : Int32) (s2 : Int32) (s3 : Int32) (s4 : Int32) (b : Fn) (p : Fn) (l : Fn) (w : Fn), (∀ t, t < pwr ρ m → ¬ FB ρ (m + 1) σ left (k * pwr ρ m + t)) → nh = nI (sH σ + 1) → (∀ r, r < rR ρ → b r = hNB ρ σ r) → (∀ r, r < rR ρ → p r = hPre ρ σ r) → WX7_goesOver_d1_124 (nI (m + 1)) (nI left) (nI (sH σ)) asleep silent (nI (rR ρ)) pb cards pl pw bk ce cin (nI k) nh rb s1 s2 s3 s4 b p l w Q (WX7_goesOver_d1_45 (nI (m + 1)) (nI left) (nI (sH σ)) asleep silent (nI (rR ρ)) pb cards pl pw bk ce cin Q n) := by
        intro nh rb s1 s2 s3 s4 b p l w ht e1 e2 e3
        unfold WX7_goesOver_d1_124
        rintro _ rfl
        rw [nI_1]
        exact ih (k + 1) _ _ _ _ _ _ _ _ _ _ (by omega) (by omega) (FB_rows hrows ht) e1 e2 e3
      by_cases hd : dr k ≤ left
      · refine br_t (nI_le hd (by omega)) (C_letFall ρ σ (nI k) hR3 hp hB h2 (fun l' w' hl' hw' => ?_) l w)
        by_cases c : m = 0
        · subst c
          refine br_t rfl ?_
          by_cases co : hOv ρ σ (nI k) (rR ρ) = 0
          · refine br_t co (next _ _ _ _ _ _ _ _ _ _ (fun t ht hf => ?_) rfl hb hp)
            rcases ((FB_at ht).mp hf).2 with h | h
            · exact h.2 co
            · exact absurd h.1 (by omega)
          · refine br_f co ?_
            unfold WX7_goesOver_d1_96 WX7_goesOver_d1_115
            exact hQ 1 _ _ _ _ _ _ _ _ _ _ (GR_one (by omega) hd co hrows rfl)
        · refine br_f (fun h => c (by
            have := (nI_eq (a := m + 1) (b := 1) (by omega) (by omega)).mp h
            omega)) ?_
          omega
      · refine br_f (nI_ge (by omega) (by unfold dr; omega)) (next _ _ _ _ _ _ _ _ _ _ (fun t ht hf => hd ((FB_at ht).mp hf).1) rfl hb hp)
  have go : ∀ (nh : Int32) (rb : Int32) (s1 : Int32) (s2 : Int32) (s3 : Int32) (s4 : Int32) (b : Fn) (p : Fn) (l : Fn) (w : Fn), nh = nI (sH σ + 1) → (∀ r, r < rR ρ → b r = hNB ρ σ r) → (∀ r, r < rR ρ → p r = hPre ρ σ r) → WX7_goesOver_d1_42 (nI (m + 1)) (nI left) (nI (sH σ)) asleep silent (nI (rR ρ)) pb cards pl pw bk ce cin nh rb s1 s2 s3 s4 b p l w Q := by
    intro nh rb s1 s2 s3 s4 b p l w e1 e2 e3
    unfold WX7_goesOver_d1_42
    exact ⟨9, loop 9 0 _ _ _ _ _ _ _ _ _ _ (Nat.zero_le _) (by omega) (fun row h => absurd h (by rw [Nat.zero_mul]; exact Nat.not_lt_zero _)) e1 e2 e3⟩
  unfold WX7_goesOver_d1
  refine br_t (nI_le (a := 1) (by omega) (by omega)) (C_setBoards ρ σ hR hS' hU hB h2 h3 h4 hC (fun s1' s2' s3' s4' b' p' hb hp => ?_) s1 s2 s3 s4 nh b p)
  by_cases c : m = 0
  · subst c
    refine br_t rfl (C_mayGoOver ρ σ left hl hR3 hp hB (fun hz => br_t rfl (hQ 0 _ _ _ _ _ _ _ _ _ _ (GR_none fun row hr hf => ?_))) (br_f (by decide) (go _ _ _ _ _ _ _ _ _ _ rfl hb hp)))
    rw [pwr_0, Nat.mul_one] at hr
    rw [show row = row * pwr ρ 0 + 0 by rw [pwr_0]; omega] at hf
    have hf := (FB_at (pwr_pos ρ 0)).mp hf
    rcases hf.2 with h | h
    · exact h.2 (noOver hR hS (by omega) hf.1 hz)
    · exact absurd h.1 (by omega)
  · refine br_f (fun h => c (by
      have := (nI_eq (a := m + 1) (b := 1) (by omega) (by omega)).mp h
      omega)) (go _ _ _ _ _ _ _ _ _ _ rfl hb hp)

set_option maxHeartbeats 4000000 in
theorem C_over2 (ρ : RV) {asleep silent : Int32} {bk : Fn} {cards : Nat → Option Nat} {ce : Nat → CT} {cin : Nat → Prop} (hR : okR ρ) (hU : silent = 0 ↔ rU ρ = false) (hB : ∀ r, r < rR ρ → bk r = rB ρ r) (hC : CKr ρ asleep cards ce cin) (σ : St) (N m left : Nat) (hS : okS ρ σ N) (hN : N + m < 1000) (hm : m < 2) (hl : left < 100)
    {pb pl pw : Fn} {Q : Int32 → Int32 → Int32 → Int32 → Int32 → Int32 → Int32 → Fn → Fn → Fn → Fn → Int32 → Int32 → Fn → Fn → Fn → Fn → Prop} (h2 : ∀ r, r < rR ρ → pl r = sL σ r) (h3 : ∀ r, r < rR ρ → pb r = sB σ r) (h4 : ∀ r, r < rR ρ → pw r = sW σ r)
    (hQ : ∀ (r : Int32) (nh : Int32) (rb : Int32) (s1 : Int32) (s2 : Int32) (s3 : Int32) (s4 : Int32) (b : Fn) (p : Fn) (l : Fn) (w : Fn) (nh2 : Int32) (rb2 : Int32) (b2 : Fn) (p2 : Fn) (l2 : Fn) (w2 : Fn), GR ρ m σ left r (fun i => if i = 0 then rb else rb2) → Q r nh rb s1 s2 s3 s4 b p l w nh2 rb2 b2 p2 l2 w2) (nh : Int32) (rb : Int32) (s1 : Int32) (s2 : Int32) (s3 : Int32) (s4 : Int32) (b : Fn) (p : Fn) (l : Fn) (w : Fn) (nh2 : Int32) (rb2 : Int32) (b2 : Fn) (p2 : Fn) (l2 : Fn) (w2 : Fn) : WX7_goesOver_d2 (nI (m + 1)) (nI left) (nI (sH σ)) nh rb asleep silent s1 s2 s3 s4 (nI (rR ρ)) pb cards pl b p pw bk l w nh2 rb2 b2 p2 l2 w2 ce cin Q := by
  have hR3 := hR.2.1
  have hP8 := P8 hR3
  have hS' := okS_mono hS (M := 1000) (by omega)
  have loop : ∀ (n k : Nat) (nh : Int32) (rb : Int32) (s1 : Int32) (s2 : Int32) (s3 : Int32) (s4 : Int32) (b : Fn) (p : Fn) (l : Fn) (w : Fn) (nh2 : Int32) (rb2 : Int32) (b2 : Fn) (p2 : Fn) (l2 : Fn) (w2 : Fn), k ≤ 2 ^ rR ρ → 2 ^ rR ρ < n + k → (∀ row, row < k * pwr ρ m → ¬ FB ρ (m + 1) σ left row) → nh = nI (sH σ + 1) → (∀ r, r < rR ρ → b r = hNB ρ σ r) → (∀ r, r < rR ρ → p r = hPre ρ σ r) → WX7_goesOver_d2_45 (nI (m + 1)) (nI left) (nI (sH σ)) asleep silent (nI (rR ρ)) pb cards pl pw bk ce cin Q n (nI k) nh rb s1 s2 s3 s4 b p l w nh2 rb2 b2 p2 l2 w2 := by
    intro n
    induction n with
    | zero => intro k nh rb s1 s2 s3 s4 b p l w nh2 rb2 b2 p2 l2 w2 h1 h2; omega
    | succ n ih =>
      intro k nh rb s1 s2 s3 s4 b p l w nh2 rb2 b2 p2 l2 w2 hk hn hrows hnh hb hp
      subst hnh
      unfold WX7_goesOver_d2_45
      rw [shl1 _ hR3]
      by_cases hlt : 2 ^ rR ρ ≤ k
      · have e : k = 2 ^ rR ρ := by omega
        subst e
        exact br_t (nI_le hlt (by omega)) (hQ 0 _ _ _ _ _ _ _ _ _ _ _ _ _ _ _ _ (GR_none hrows))
      refine br_f (nI_ge (by omega) (by omega)) (bitCount_ok k (by omega) ?_)
      have next : ∀ (nh : Int32) (rb : Int32) (s1 : Int32) (s2 : Int32) (s3 : Int32) (s4 : Int32) (b : Fn) (p : Fn) (l : Fn) (w : Fn) (nh2 : Int32) (rb2 : Int32) (b2 : Fn) (p2 : Fn) (l2 : Fn) (w2 : Fn), (∀ t, t < pwr ρ m → ¬ FB ρ (m + 1) σ left (k * pwr ρ m + t)) → nh = nI (sH σ + 1) → (∀ r, r < rR ρ → b r = hNB ρ σ r) → (∀ r, r < rR ρ → p r = hPre ρ σ r) → WX7_goesOver_d2_124 (nI (m + 1)) (nI left) (nI (sH σ)) asleep silent (nI (rR ρ)) pb cards pl pw bk ce cin (nI k) nh rb s1 s2 s3 s4 b p l w nh2 rb2 b2 p2 l2 w2 Q (WX7_goesOver_d2_45 (nI (m + 1)) (nI left) (nI (sH σ)) asleep silent (nI (rR ρ)) pb cards pl pw bk ce cin Q n) := by
        intro nh rb s1 s2 s3 s4 b p l w nh2 rb2 b2 p2 l2 w2 ht e1 e2 e3
        unfold WX7_goesOver_d2_124
        rintro _ rfl
        rw [nI_1]
        exact ih (k + 1) _ _ _ _ _ _ _ _ _ _ _ _ _ _ _ _ (by omega) (by omega) (FB_rows hrows ht) e1 e2 e3
      by_cases hd : dr k ≤ left
      · refine br_t (nI_le hd (by omega)) (C_letFall ρ σ (nI k) hR3 hp hB h2 (fun l' w' hl' hw' => ?_) l w)
        by_cases c : m = 0
        · subst c
          refine br_t rfl ?_
          by_cases co : hOv ρ σ (nI k) (rR ρ) = 0
          · refine br_t co (next _ _ _ _ _ _ _ _ _ _ _ _ _ _ _ _ (fun t ht hf => ?_) rfl hb hp)
            rcases ((FB_at ht).mp hf).2 with h | h
            · exact h.2 co
            · exact absurd h.1 (by omega)
          · refine br_f co ?_
            unfold WX7_goesOver_d2_96 WX7_goesOver_d2_115
            exact hQ 1 _ _ _ _ _ _ _ _ _ _ _ _ _ _ _ _ (GR_one (by omega) hd co hrows rfl)
        · refine br_f (fun h => c (by
            have := (nI_eq (a := m + 1) (b := 1) (by omega) (by omega)).mp h
            omega)) ?_
          obtain ⟨m, rfl⟩ : ∃ m', m = m' + 1 := ⟨m - 1, by omega⟩
          rw [nI_pred, pk_sub hd]
          refine C_over1 ρ hR hU hB hC (hGo ρ σ (nI k)) (N + 1) m (left - dr k) (okS_go hR hS _) (by omega) (by omega) (by omega) hl' hb hw' (fun r nhi rbi s1i s2i s3i s4i bi pi li wi hg => ?_) _ _ _ _ _ _ _ _ _ _
          rcases hg with ⟨rfl, hno⟩ | hg
          · refine br_t rfl (next _ _ _ _ _ _ _ _ _ _ _ _ _ _ _ _ (fun t ht hf => ?_) rfl hb hp)
            rcases ((FB_at ht).mp hf).2 with h | h
            · exact absurd h.1 (by omega)
            · exact hno t ht h.2
          · obtain ⟨rfl, hg'⟩ := hg
            refine br_f (by decide) ?_
            unfold WX7_goesOver_d2_115
            exact hQ 1 _ _ _ _ _ _ _ _ _ _ _ _ _ _ _ _ (GR_more (by omega) hd hrows (Or.inr ⟨rfl, hg'⟩) rfl (fun i hi => rfl))
      · refine br_f (nI_ge (by omega) (by unfold dr; omega)) (next _ _ _ _ _ _ _ _ _ _ _ _ _ _ _ _ (fun t ht hf => hd ((FB_at ht).mp hf).1) rfl hb hp)
  have go : ∀ (nh : Int32) (rb : Int32) (s1 : Int32) (s2 : Int32) (s3 : Int32) (s4 : Int32) (b : Fn) (p : Fn) (l : Fn) (w : Fn) (nh2 : Int32) (rb2 : Int32) (b2 : Fn) (p2 : Fn) (l2 : Fn) (w2 : Fn), nh = nI (sH σ + 1) → (∀ r, r < rR ρ → b r = hNB ρ σ r) → (∀ r, r < rR ρ → p r = hPre ρ σ r) → WX7_goesOver_d2_42 (nI (m + 1)) (nI left) (nI (sH σ)) asleep silent (nI (rR ρ)) pb cards pl pw bk ce cin nh rb s1 s2 s3 s4 b p l w nh2 rb2 b2 p2 l2 w2 Q := by
    intro nh rb s1 s2 s3 s4 b p l w nh2 rb2 b2 p2 l2 w2 e1 e2 e3
    unfold WX7_goesOver_d2_42
    exact ⟨9, loop 9 0 _ _ _ _ _ _ _ _ _ _ _ _ _ _ _ _ (Nat.zero_le _) (by omega) (fun row h => absurd h (by rw [Nat.zero_mul]; exact Nat.not_lt_zero _)) e1 e2 e3⟩
  unfold WX7_goesOver_d2
  refine br_t (nI_le (a := 1) (by omega) (by omega)) (C_setBoards ρ σ hR hS' hU hB h2 h3 h4 hC (fun s1' s2' s3' s4' b' p' hb hp => ?_) s1 s2 s3 s4 nh b p)
  by_cases c : m = 0
  · subst c
    refine br_t rfl (C_mayGoOver ρ σ left hl hR3 hp hB (fun hz => br_t rfl (hQ 0 _ _ _ _ _ _ _ _ _ _ _ _ _ _ _ _ (GR_none fun row hr hf => ?_))) (br_f (by decide) (go _ _ _ _ _ _ _ _ _ _ _ _ _ _ _ _ rfl hb hp)))
    rw [pwr_0, Nat.mul_one] at hr
    rw [show row = row * pwr ρ 0 + 0 by rw [pwr_0]; omega] at hf
    have hf := (FB_at (pwr_pos ρ 0)).mp hf
    rcases hf.2 with h | h
    · exact h.2 (noOver hR hS (by omega) hf.1 hz)
    · exact absurd h.1 (by omega)
  · refine br_f (fun h => c (by
      have := (nI_eq (a := m + 1) (b := 1) (by omega) (by omega)).mp h
      omega)) (go _ _ _ _ _ _ _ _ _ _ _ _ _ _ _ _ rfl hb hp)

set_option maxHeartbeats 4000000 in
theorem C_over3 (ρ : RV) {asleep silent : Int32} {bk : Fn} {cards : Nat → Option Nat} {ce : Nat → CT} {cin : Nat → Prop} (hR : okR ρ) (hU : silent = 0 ↔ rU ρ = false) (hB : ∀ r, r < rR ρ → bk r = rB ρ r) (hC : CKr ρ asleep cards ce cin) (σ : St) (N m left : Nat) (hS : okS ρ σ N) (hN : N + m < 1000) (hm : m < 3) (hl : left < 100)
    {pb pl pw : Fn} {Q : Int32 → Int32 → Int32 → Int32 → Int32 → Int32 → Int32 → Fn → Fn → Fn → Fn → Int32 → Int32 → Fn → Fn → Fn → Fn → Int32 → Int32 → Fn → Fn → Fn → Fn → Prop} (h2 : ∀ r, r < rR ρ → pl r = sL σ r) (h3 : ∀ r, r < rR ρ → pb r = sB σ r) (h4 : ∀ r, r < rR ρ → pw r = sW σ r)
    (hQ : ∀ (r : Int32) (nh : Int32) (rb : Int32) (s1 : Int32) (s2 : Int32) (s3 : Int32) (s4 : Int32) (b : Fn) (p : Fn) (l : Fn) (w : Fn) (nh2 : Int32) (rb2 : Int32) (b2 : Fn) (p2 : Fn) (l2 : Fn) (w2 : Fn) (nh3 : Int32) (rb3 : Int32) (b3 : Fn) (p3 : Fn) (l3 : Fn) (w3 : Fn), GR ρ m σ left r (fun i => if i = 0 then rb else if i = 1 then rb2 else rb3) → Q r nh rb s1 s2 s3 s4 b p l w nh2 rb2 b2 p2 l2 w2 nh3 rb3 b3 p3 l3 w3) (nh : Int32) (rb : Int32) (s1 : Int32) (s2 : Int32) (s3 : Int32) (s4 : Int32) (b : Fn) (p : Fn) (l : Fn) (w : Fn) (nh2 : Int32) (rb2 : Int32) (b2 : Fn) (p2 : Fn) (l2 : Fn) (w2 : Fn) (nh3 : Int32) (rb3 : Int32) (b3 : Fn) (p3 : Fn) (l3 : Fn) (w3 : Fn) : WX7_goesOver_d3 (nI (m + 1)) (nI left) (nI (sH σ)) nh rb asleep silent s1 s2 s3 s4 (nI (rR ρ)) pb cards pl b p pw bk l w nh2 rb2 b2 p2 l2 w2 nh3 rb3 b3 p3 l3 w3 ce cin Q := by
  have hR3 := hR.2.1
  have hP8 := P8 hR3
  have hS' := okS_mono hS (M := 1000) (by omega)
  have loop : ∀ (n k : Nat) (nh : Int32) (rb : Int32) (s1 : Int32) (s2 : Int32) (s3 : Int32) (s4 : Int32) (b : Fn) (p : Fn) (l : Fn) (w : Fn) (nh2 : Int32) (rb2 : Int32) (b2 : Fn) (p2 : Fn) (l2 : Fn) (w2 : Fn) (nh3 : Int32) (rb3 : Int32) (b3 : Fn) (p3 : Fn) (l3 : Fn) (w3 : Fn), k ≤ 2 ^ rR ρ → 2 ^ rR ρ < n + k → (∀ row, row < k * pwr ρ m → ¬ FB ρ (m + 1) σ left row) → nh = nI (sH σ + 1) → (∀ r, r < rR ρ → b r = hNB ρ σ r) → (∀ r, r < rR ρ → p r = hPre ρ σ r) → WX7_goesOver_d3_45 (nI (m + 1)) (nI left) (nI (sH σ)) asleep silent (nI (rR ρ)) pb cards pl pw bk ce cin Q n (nI k) nh rb s1 s2 s3 s4 b p l w nh2 rb2 b2 p2 l2 w2 nh3 rb3 b3 p3 l3 w3 := by
    intro n
    induction n with
    | zero => intro k nh rb s1 s2 s3 s4 b p l w nh2 rb2 b2 p2 l2 w2 nh3 rb3 b3 p3 l3 w3 h1 h2; omega
    | succ n ih =>
      intro k nh rb s1 s2 s3 s4 b p l w nh2 rb2 b2 p2 l2 w2 nh3 rb3 b3 p3 l3 w3 hk hn hrows hnh hb hp
      subst hnh
      unfold WX7_goesOver_d3_45
      rw [shl1 _ hR3]
      by_cases hlt : 2 ^ rR ρ ≤ k
      · have e : k = 2 ^ rR ρ := by omega
        subst e
        exact br_t (nI_le hlt (by omega)) (hQ 0 _ _ _ _ _ _ _ _ _ _ _ _ _ _ _ _ _ _ _ _ _ _ (GR_none hrows))
      refine br_f (nI_ge (by omega) (by omega)) (bitCount_ok k (by omega) ?_)
      have next : ∀ (nh : Int32) (rb : Int32) (s1 : Int32) (s2 : Int32) (s3 : Int32) (s4 : Int32) (b : Fn) (p : Fn) (l : Fn) (w : Fn) (nh2 : Int32) (rb2 : Int32) (b2 : Fn) (p2 : Fn) (l2 : Fn) (w2 : Fn) (nh3 : Int32) (rb3 : Int32) (b3 : Fn) (p3 : Fn) (l3 : Fn) (w3 : Fn), (∀ t, t < pwr ρ m → ¬ FB ρ (m + 1) σ left (k * pwr ρ m + t)) → nh = nI (sH σ + 1) → (∀ r, r < rR ρ → b r = hNB ρ σ r) → (∀ r, r < rR ρ → p r = hPre ρ σ r) → WX7_goesOver_d3_124 (nI (m + 1)) (nI left) (nI (sH σ)) asleep silent (nI (rR ρ)) pb cards pl pw bk ce cin (nI k) nh rb s1 s2 s3 s4 b p l w nh2 rb2 b2 p2 l2 w2 nh3 rb3 b3 p3 l3 w3 Q (WX7_goesOver_d3_45 (nI (m + 1)) (nI left) (nI (sH σ)) asleep silent (nI (rR ρ)) pb cards pl pw bk ce cin Q n) := by
        intro nh rb s1 s2 s3 s4 b p l w nh2 rb2 b2 p2 l2 w2 nh3 rb3 b3 p3 l3 w3 ht e1 e2 e3
        unfold WX7_goesOver_d3_124
        rintro _ rfl
        rw [nI_1]
        exact ih (k + 1) _ _ _ _ _ _ _ _ _ _ _ _ _ _ _ _ _ _ _ _ _ _ (by omega) (by omega) (FB_rows hrows ht) e1 e2 e3
      by_cases hd : dr k ≤ left
      · refine br_t (nI_le hd (by omega)) (C_letFall ρ σ (nI k) hR3 hp hB h2 (fun l' w' hl' hw' => ?_) l w)
        by_cases c : m = 0
        · subst c
          refine br_t rfl ?_
          by_cases co : hOv ρ σ (nI k) (rR ρ) = 0
          · refine br_t co (next _ _ _ _ _ _ _ _ _ _ _ _ _ _ _ _ _ _ _ _ _ _ (fun t ht hf => ?_) rfl hb hp)
            rcases ((FB_at ht).mp hf).2 with h | h
            · exact h.2 co
            · exact absurd h.1 (by omega)
          · refine br_f co ?_
            unfold WX7_goesOver_d3_96 WX7_goesOver_d3_115
            exact hQ 1 _ _ _ _ _ _ _ _ _ _ _ _ _ _ _ _ _ _ _ _ _ _ (GR_one (by omega) hd co hrows rfl)
        · refine br_f (fun h => c (by
            have := (nI_eq (a := m + 1) (b := 1) (by omega) (by omega)).mp h
            omega)) ?_
          obtain ⟨m, rfl⟩ : ∃ m', m = m' + 1 := ⟨m - 1, by omega⟩
          rw [nI_pred, pk_sub hd]
          refine C_over2 ρ hR hU hB hC (hGo ρ σ (nI k)) (N + 1) m (left - dr k) (okS_go hR hS _) (by omega) (by omega) (by omega) hl' hb hw' (fun r nhi rbi s1i s2i s3i s4i bi pi li wi nh2i rb2i b2i p2i l2i w2i hg => ?_) _ _ _ _ _ _ _ _ _ _ _ _ _ _ _ _
          rcases hg with ⟨rfl, hno⟩ | hg
          · refine br_t rfl (next _ _ _ _ _ _ _ _ _ _ _ _ _ _ _ _ _ _ _ _ _ _ (fun t ht hf => ?_) rfl hb hp)
            rcases ((FB_at ht).mp hf).2 with h | h
            · exact absurd h.1 (by omega)
            · exact hno t ht h.2
          · obtain ⟨rfl, hg'⟩ := hg
            refine br_f (by decide) ?_
            unfold WX7_goesOver_d3_115
            exact hQ 1 _ _ _ _ _ _ _ _ _ _ _ _ _ _ _ _ _ _ _ _ _ _ (GR_more (by omega) hd hrows (Or.inr ⟨rfl, hg'⟩) rfl (fun i hi => by rcases (show i = 0 ∨ i = 1 by omega) with rfl | rfl <;> rfl))
      · refine br_f (nI_ge (by omega) (by unfold dr; omega)) (next _ _ _ _ _ _ _ _ _ _ _ _ _ _ _ _ _ _ _ _ _ _ (fun t ht hf => hd ((FB_at ht).mp hf).1) rfl hb hp)
  have go : ∀ (nh : Int32) (rb : Int32) (s1 : Int32) (s2 : Int32) (s3 : Int32) (s4 : Int32) (b : Fn) (p : Fn) (l : Fn) (w : Fn) (nh2 : Int32) (rb2 : Int32) (b2 : Fn) (p2 : Fn) (l2 : Fn) (w2 : Fn) (nh3 : Int32) (rb3 : Int32) (b3 : Fn) (p3 : Fn) (l3 : Fn) (w3 : Fn), nh = nI (sH σ + 1) → (∀ r, r < rR ρ → b r = hNB ρ σ r) → (∀ r, r < rR ρ → p r = hPre ρ σ r) → WX7_goesOver_d3_42 (nI (m + 1)) (nI left) (nI (sH σ)) asleep silent (nI (rR ρ)) pb cards pl pw bk ce cin nh rb s1 s2 s3 s4 b p l w nh2 rb2 b2 p2 l2 w2 nh3 rb3 b3 p3 l3 w3 Q := by
    intro nh rb s1 s2 s3 s4 b p l w nh2 rb2 b2 p2 l2 w2 nh3 rb3 b3 p3 l3 w3 e1 e2 e3
    unfold WX7_goesOver_d3_42
    exact ⟨9, loop 9 0 _ _ _ _ _ _ _ _ _ _ _ _ _ _ _ _ _ _ _ _ _ _ (Nat.zero_le _) (by omega) (fun row h => absurd h (by rw [Nat.zero_mul]; exact Nat.not_lt_zero _)) e1 e2 e3⟩
  unfold WX7_goesOver_d3
  refine br_t (nI_le (a := 1) (by omega) (by omega)) (C_setBoards ρ σ hR hS' hU hB h2 h3 h4 hC (fun s1' s2' s3' s4' b' p' hb hp => ?_) s1 s2 s3 s4 nh b p)
  by_cases c : m = 0
  · subst c
    refine br_t rfl (C_mayGoOver ρ σ left hl hR3 hp hB (fun hz => br_t rfl (hQ 0 _ _ _ _ _ _ _ _ _ _ _ _ _ _ _ _ _ _ _ _ _ _ (GR_none fun row hr hf => ?_))) (br_f (by decide) (go _ _ _ _ _ _ _ _ _ _ _ _ _ _ _ _ _ _ _ _ _ _ rfl hb hp)))
    rw [pwr_0, Nat.mul_one] at hr
    rw [show row = row * pwr ρ 0 + 0 by rw [pwr_0]; omega] at hf
    have hf := (FB_at (pwr_pos ρ 0)).mp hf
    rcases hf.2 with h | h
    · exact h.2 (noOver hR hS (by omega) hf.1 hz)
    · exact absurd h.1 (by omega)
  · refine br_f (fun h => c (by
      have := (nI_eq (a := m + 1) (b := 1) (by omega) (by omega)).mp h
      omega)) (go _ _ _ _ _ _ _ _ _ _ _ _ _ _ _ _ _ _ _ _ _ _ rfl hb hp)

/-- the shortest rain by which a river fails -/
def Fst (ρ : RV) (sp : Nat) (σ : St) (sum n row : Nat) : Prop := 1 ≤ n ∧ n ≤ sp ∧ row < pwr ρ n ∧ FB ρ n σ sum row ∧ (∀ j, j < row → ¬ FB ρ n σ sum j) ∧ ∀ m, 1 ≤ m → m < n → ∀ j, j < pwr ρ m → ¬ FB ρ m σ sum j
def Safe (ρ : RV) (sp : Nat) (σ : St) (sum : Nat) : Prop := ∀ n, 1 ≤ n → n ≤ sp → ∀ row, row < pwr ρ n → ¬ FB ρ n σ sum row
theorem Fst_one {ρ : RV} {sp : Nat} {σ : St} {sum n row n' row' : Nat} (h : Fst ρ sp σ sum n row) (h' : Fst ρ sp σ sum n' row') : n = n' ∧ row = row' := by
  obtain ⟨a1, a2, a3, a4, a5, a6⟩ := h
  obtain ⟨b1, b2, b3, b4, b5, b6⟩ := h'
  have e : n = n' := by
    rcases Nat.lt_trichotomy n n' with h | h | h
    · exact absurd a4 (b6 n a1 h row a3)
    · exact h
    · exact absurd b4 (a6 n' b1 h row' b3)
  subst e
  refine ⟨rfl, ?_⟩
  rcases Nat.lt_trichotomy row row' with h | h | h
  · exact absurd a4 (b5 row h)
  · exact h
  · exact absurd b4 (a5 row' h)
theorem Fst_safe {ρ : RV} {sp : Nat} {σ : St} {sum n row : Nat} (h : Fst ρ sp σ sum n row) (h' : Safe ρ sp σ sum) : False := h' n h.1 h.2.1 row h.2.2.1 h.2.2.2.1
/-- what a search gives: safe, or the shortest rain that is first -/
def SR (ρ : RV) (sp : Nat) (σ : St) (sum : Nat) (r fh : Int32) (ch : Nat → Int32) : Prop := (r = 1 ∧ fh = 0 ∧ Safe ρ sp σ sum) ∨ (r = 0 ∧ ∃ n row, Fst ρ sp σ sum n row ∧ fh = nI n ∧ ∀ i, i < n → ch i = nI (row / pwr ρ (n - 1 - i) % 2 ^ rR ρ))
set_option maxHeartbeats 4000000 in
theorem C_isSafe (ρ : RV) {asleep silent : Int32} {bk : Fn} {cards : Nat → Option Nat} {ce : Nat → CT} {cin : Nat → Prop} (hR : okR ρ) (hU : silent = 0 ↔ rU ρ = false) (hB : ∀ r, r < rR ρ → bk r = rB ρ r) (hC : CKr ρ asleep cards ce cin) (σ : St) (sp sum : Nat) (hS : okS ρ σ 900) (hp1 : 1 ≤ sp) (hp3 : sp ≤ 3) (hl : sum < 100)
    {pb pl pw : Fn} {Q : Int32 → Int32 → Int32 → Int32 → Int32 → Int32 → Int32 → Int32 → Fn → Fn → Fn → Fn → Int32 → Int32 → Fn → Fn → Fn → Fn → Int32 → Int32 → Fn → Fn → Fn → Fn → Prop} (h2 : ∀ r, r < rR ρ → pl r = sL σ r) (h3 : ∀ r, r < rR ρ → pb r = sB σ r) (h4 : ∀ r, r < rR ρ → pw r = sW σ r)
    (hQ : ∀ (r fh : Int32) (nh : Int32) (rb : Int32) (s1 : Int32) (s2 : Int32) (s3 : Int32) (s4 : Int32) (b : Fn) (p : Fn) (l : Fn) (w : Fn) (nh2 : Int32) (rb2 : Int32) (b2 : Fn) (p2 : Fn) (l2 : Fn) (w2 : Fn) (nh3 : Int32) (rb3 : Int32) (b3 : Fn) (p3 : Fn) (l3 : Fn) (w3 : Fn), SR ρ sp σ sum r fh (fun i => if i = 0 then rb else if i = 1 then rb2 else rb3) → Q r fh nh rb s1 s2 s3 s4 b p l w nh2 rb2 b2 p2 l2 w2 nh3 rb3 b3 p3 l3 w3) (fh : Int32) (nh : Int32) (rb : Int32) (s1 : Int32) (s2 : Int32) (s3 : Int32) (s4 : Int32) (b : Fn) (p : Fn) (l : Fn) (w : Fn) (nh2 : Int32) (rb2 : Int32) (b2 : Fn) (p2 : Fn) (l2 : Fn) (w2 : Fn) (nh3 : Int32) (rb3 : Int32) (b3 : Fn) (p3 : Fn) (l3 : Fn) (w3 : Fn) : WX7_isSafe asleep silent fh (nI (rR ρ)) (nI sp) (nI sum) (nI (sH σ)) nh rb s1 s2 s3 s4 pb cards pl b p pw bk l w nh2 rb2 b2 p2 l2 w2 nh3 rb3 b3 p3 l3 w3 ce cin Q := by
  refine ⟨4, ?_⟩
  suffices h : ∀ (n k : Nat) (fh : Int32) (nh : Int32) (rb : Int32) (s1 : Int32) (s2 : Int32) (s3 : Int32) (s4 : Int32) (b : Fn) (p : Fn) (l : Fn) (w : Fn) (nh2 : Int32) (rb2 : Int32) (b2 : Fn) (p2 : Fn) (l2 : Fn) (w2 : Fn) (nh3 : Int32) (rb3 : Int32) (b3 : Fn) (p3 : Fn) (l3 : Fn) (w3 : Fn), 1 ≤ k → k ≤ sp + 1 → sp + 1 < n + k → (∀ m, 1 ≤ m → m < k → ∀ j, j < pwr ρ m → ¬ FB ρ m σ sum j) → WX7_isSafe_2 asleep silent (nI (rR ρ)) (nI sp) (nI sum) (nI (sH σ)) pb cards pl pw bk ce cin Q n (nI k) fh nh rb s1 s2 s3 s4 b p l w nh2 rb2 b2 p2 l2 w2 nh3 rb3 b3 p3 l3 w3 from h 4 1 fh _ _ _ _ _ _ _ _ _ _ _ _ _ _ _ _ _ _ _ _ _ _ (by omega) (by omega) (by omega) (fun m h1 h2 => absurd h2 (by omega))
  intro n
  induction n with
  | zero => intro k fh nh rb s1 s2 s3 s4 b p l w nh2 rb2 b2 p2 l2 w2 nh3 rb3 b3 p3 l3 w3 h0 h1 h2; omega
  | succ n ih =>
    intro k fh nh rb s1 s2 s3 s4 b p l w nh2 rb2 b2 p2 l2 w2 nh3 rb3 b3 p3 l3 w3 hk0 hk hn hrows
    unfold WX7_isSafe_2
    by_cases hlt : sp < k
    · refine br_t (nI_lt hlt (by omega)) ?_
      unfold WX7_isSafe_50
      exact hQ 1 0 _ _ _ _ _ _ _ _ _ _ _ _ _ _ _ _ _ _ _ _ _ _ (Or.inl ⟨rfl, rfl, fun m h1 h2 => hrows m h1 (by omega)⟩)
    refine br_f (nI_nlt (by omega) (by omega)) (br_f (nI_nlt (a := 3) (by omega) (by omega)) ?_)
    obtain ⟨m, rfl⟩ : ∃ m, k = m + 1 := ⟨k - 1, by omega⟩
    refine C_over3 ρ hR hU hB hC σ 900 m sum hS (by omega) (by omega) hl h2 h3 h4 (fun r nh' rb' s1' s2' s3' s4' b' p' l' w' nh2' rb2' b2' p2' l2' w2' nh3' rb3' b3' p3' l3' w3' hg => ?_) _ _ _ _ _ _ _ _ _ _ _ _ _ _ _ _ _ _ _ _ _ _
    rcases hg with ⟨rfl, hno⟩ | ⟨rfl, row, g1, g2, g3, g4⟩
    · refine br_t rfl ?_
      rintro _ rfl
      rw [nI_1]
      refine ih (m + 1 + 1) _ _ _ _ _ _ _ _ _ _ _ _ _ _ _ _ _ _ _ _ _ _ _ (by omega) (by omega) (by omega) fun m' h1 h2 => ?_
      by_cases c : m' = m + 1
      · subst c; exact hno
      · exact hrows m' h1 (by omega)
    · refine br_f (by decide) (hQ 0 _ _ _ _ _ _ _ _ _ _ _ _ _ _ _ _ _ _ _ _ _ _ _ (Or.inr ⟨rfl, m + 1, row, ⟨hk0, by omega, g1, g2, g3, hrows⟩, rfl, fun i hi => ?_⟩))
      rw [g4 i (by omega)]
      congr 4
