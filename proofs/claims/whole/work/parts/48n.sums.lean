/-! ===== by hand: sums over rows of rains ===== -/
def smN (f : Nat → Nat) : Nat → Nat
  | 0 => 0
  | n + 1 => smN f n + f n
theorem smN_ext {f g : Nat → Nat} : ∀ n, (∀ k, k < n → f k = g k) → smN f n = smN g n
  | 0, _ => rfl
  | n + 1, h => by rw [smN, smN, smN_ext n (fun k hk => h k (by omega)), h n (by omega)]
theorem smN_mul (c : Nat) (f : Nat → Nat) : ∀ n, smN (fun k => c * f k) n = c * smN f n
  | 0 => rfl
  | n + 1 => by rw [smN, smN, smN_mul c f n, Nat.mul_add]
theorem smN_plus (f : Nat → Nat) (a : Nat) : ∀ b, smN f (a + b) = smN f a + smN (fun t => f (a + t)) b
  | 0 => rfl
  | b + 1 => by rw [← Nat.add_assoc, smN, smN_plus f a b, smN, Nat.add_assoc]
theorem smN_two (f : Nat → Nat) (b : Nat) : ∀ a, smN f (a * b) = smN (fun k => smN (fun t => f (k * b + t)) b) a
  | 0 => by rw [Nat.zero_mul]; rfl
  | a + 1 => by rw [Nat.succ_mul, smN_plus, smN_two f b a]; rfl
theorem smN_le {f g : Nat → Nat} (h : ∀ k, f k ≤ g k) : ∀ n, smN f n ≤ smN g n
  | 0 => Nat.le_refl _
  | n + 1 => Nat.add_le_add (smN_le h n) (h n)
/-- how often of ten for each reach a rain falls -/
def wtA (O k : Nat) : Nat → Nat
  | 0 => 1
  | r + 1 => wtA O k r * (if k / 2 ^ r % 2 = 1 then O else 10 - O)
theorem wt_sum : ∀ O, O < 10 → ∀ R, R < 4 → smN (fun k => wtA O k R) (2 ^ R) = 10 ^ R := by decide +kernel
noncomputable def pI (p : Prop) (a b : Nat) : Nat := @ite Nat p (Classical.propDecidable p) a b
theorem pI_t {p : Prop} {a b : Nat} (h : p) : pI p a b = a := by unfold pI; rw [if_pos h]
theorem pI_f {p : Prop} {a b : Nat} (h : ¬ p) : pI p a b = b := by unfold pI; rw [if_neg h]
noncomputable def WG (ρ : RV) (O : Nat) (co : St → Nat → Prop) : Nat → St → Nat
  | 0, _ => 0
  | m + 1, σ => smN (fun k => wtA O k (rR ρ) * pI (co σ k) (10 ^ (rR ρ * m)) (WG ρ O co m (hGo ρ σ (nI k)))) (2 ^ rR ρ)
def IS (ρ : RV) (co : St → Nat → Prop) : Nat → St → Nat → Prop
  | 0, _, _ => False
  | m + 1, σ, row => co σ (row / pwr ρ m) ∨ IS ρ co m (hGo ρ σ (nI (row / pwr ρ m))) (row % pwr ρ m)
def OF (ρ : RV) (O : Nat) : Nat → Nat → Nat
  | 0, _ => 1
  | m + 1, row => wtA O (row / pwr ρ m) (rR ρ) * OF ρ O m (row % pwr ρ m)
theorem OF_at {ρ : RV} {O m k t : Nat} (ht : t < pwr ρ m) : OF ρ O (m + 1) (k * pwr ρ m + t) = wtA O k (rR ρ) * OF ρ O m t := by
  show wtA O ((k * pwr ρ m + t) / pwr ρ m) (rR ρ) * OF ρ O m ((k * pwr ρ m + t) % pwr ρ m) = _
  rw [(row_div ht).1, (row_div ht).2]
theorem IS_at {ρ : RV} {co : St → Nat → Prop} {σ : St} {m k t : Nat} (ht : t < pwr ρ m) : IS ρ co (m + 1) σ (k * pwr ρ m + t) ↔ co σ k ∨ IS ρ co m (hGo ρ σ (nI k)) t := by
  show co σ ((k * pwr ρ m + t) / pwr ρ m) ∨ IS ρ co m (hGo ρ σ (nI ((k * pwr ρ m + t) / pwr ρ m))) ((k * pwr ρ m + t) % pwr ρ m) ↔ _
  rw [(row_div ht).1, (row_div ht).2]
theorem OF_sum {ρ : RV} {O : Nat} (hO : O < 10) (hR : rR ρ ≤ 3) : ∀ m, smN (OF ρ O m) (pwr ρ m) = 10 ^ (rR ρ * m)
  | 0 => by rw [pwr_0]; rfl
  | m + 1 => by
    rw [pwr_s, smN_two]
    have e : smN (fun k => smN (fun t => OF ρ O (m + 1) (k * pwr ρ m + t)) (pwr ρ m)) (2 ^ rR ρ) = smN (fun k => 10 ^ (rR ρ * m) * wtA O k (rR ρ)) (2 ^ rR ρ) := smN_ext _ (fun k _ => by
      show smN (fun t => OF ρ O (m + 1) (k * pwr ρ m + t)) (pwr ρ m) = 10 ^ (rR ρ * m) * wtA O k (rR ρ)
      rw [smN_ext (g := fun t => wtA O k (rR ρ) * OF ρ O m t) (pwr ρ m) (fun t ht => OF_at ht), smN_mul, OF_sum hO hR m, Nat.mul_comm])
    rw [e, smN_mul, wt_sum O hO _ (by omega), Nat.mul_add, Nat.mul_one, Nat.pow_add]
theorem WG_sum {ρ : RV} {O : Nat} {co : St → Nat → Prop} (hO : O < 10) (hR : rR ρ ≤ 3) : ∀ (m : Nat) (σ : St), smN (fun row => pI (IS ρ co m σ row) (OF ρ O m row) 0) (pwr ρ m) = WG ρ O co m σ
  | 0, σ => by
    rw [pwr_0]
    show 0 + pI False 1 0 = 0
    rw [pI_f (fun h => h)]
  | m + 1, σ => by
    rw [pwr_s, smN_two]
    refine smN_ext _ (fun k _ => ?_)
    show smN (fun t => pI (IS ρ co (m + 1) σ (k * pwr ρ m + t)) (OF ρ O (m + 1) (k * pwr ρ m + t)) 0) (pwr ρ m) = wtA O k (rR ρ) * pI (co σ k) (10 ^ (rR ρ * m)) (WG ρ O co m (hGo ρ σ (nI k)))
    by_cases c : co σ k
    · rw [pI_t c, smN_ext (g := fun t => wtA O k (rR ρ) * OF ρ O m t) (pwr ρ m) (fun t ht => by rw [pI_t ((IS_at ht).mpr (Or.inl c)), OF_at ht]), smN_mul, OF_sum hO hR m]
    · rw [pI_f c, smN_ext (g := fun t => wtA O k (rR ρ) * pI (IS ρ co m (hGo ρ σ (nI k)) t) (OF ρ O m t) 0) (pwr ρ m) (fun t ht => by
        by_cases c2 : IS ρ co m (hGo ρ σ (nI k)) t
        · rw [pI_t ((IS_at ht).mpr (Or.inr c2)), pI_t c2, OF_at ht]
        · rw [pI_f (fun z => ((IS_at ht).mp z).elim c c2), pI_f c2, Nat.mul_zero]), smN_mul, WG_sum hO hR m]
theorem row_at {ρ : RV} {row m : Nat} (h : row < pwr ρ (m + 1)) : ∃ a t, a < 2 ^ rR ρ ∧ t < pwr ρ m ∧ row = a * pwr ρ m + t := by
  refine ⟨row / pwr ρ m, row % pwr ρ m, ?_, Nat.mod_lt _ (pwr_pos _ _), ?_⟩
  · rw [pwr_s] at h
    exact Nat.div_lt_of_lt_mul (by rwa [Nat.mul_comm] at h)
  · rw [Nat.mul_comm]; exact (Nat.div_add_mod _ _).symm
/-- the model's order -/
def OFk (ρ : RV) (O row n : Nat) : Nat → Nat
  | 0 => 1
  | k + 1 => OFk ρ O row n k * wtA O (row / pwr ρ (n - 1 - k) % 2 ^ rR ρ) (rR ρ)
theorem OFk_shift {ρ : RV} {O a t m : Nat} (ha : a < 2 ^ rR ρ) (ht : t < pwr ρ m) : ∀ k, k ≤ m → OFk ρ O (a * pwr ρ m + t) (m + 1) (k + 1) = wtA O a (rR ρ) * OFk ρ O t m k := by
  intro k
  induction k with
  | zero =>
    intro _
    show 1 * wtA O ((a * pwr ρ m + t) / pwr ρ (m + 1 - 1 - 0) % 2 ^ rR ρ) (rR ρ) = wtA O a (rR ρ) * 1
    rw [show m + 1 - 1 - 0 = m by omega, dig_hi ha ht, Nat.mul_comm]
  | succ k ih =>
    intro hk
    have e : (a * pwr ρ m + t) / pwr ρ (m + 1 - 1 - (k + 1)) % 2 ^ rR ρ = t / pwr ρ (m - 1 - k) % 2 ^ rR ρ := by
      rw [show m + 1 - 1 - (k + 1) = m - 1 - k by omega]
      exact dig_lo (by omega)
    show OFk ρ O (a * pwr ρ m + t) (m + 1) (k + 1) * wtA O ((a * pwr ρ m + t) / pwr ρ (m + 1 - 1 - (k + 1)) % 2 ^ rR ρ) (rR ρ) = wtA O a (rR ρ) * (OFk ρ O t m k * wtA O (t / pwr ρ (m - 1 - k) % 2 ^ rR ρ) (rR ρ))
    rw [ih (by omega), e, Nat.mul_assoc]
theorem OFk_OF {ρ : RV} {O : Nat} : ∀ (m row : Nat), row < pwr ρ m → OFk ρ O row m m = OF ρ O m row
  | 0, _, _ => rfl
  | m + 1, row, h => by
    obtain ⟨a, t, ha, ht, rfl⟩ := row_at h
    rw [OFk_shift ha ht m (Nat.le_refl _), OFk_OF m t ht, OF_at ht]
theorem IS_RS {ρ : RV} {co : St → Nat → Prop} : ∀ (m : Nat) (σ : St) (row : Nat), row < pwr ρ m → (IS ρ co m σ row ↔ ∃ j, j < m ∧ co (RS ρ σ row m j) (row / pwr ρ (m - 1 - j) % 2 ^ rR ρ)) := by
  intro m
  induction m with
  | zero => intro σ row _; exact ⟨fun h => h.elim, fun ⟨j, h, _⟩ => absurd h (Nat.not_lt_zero j)⟩
  | succ m ih =>
    intro σ row h
    obtain ⟨a, t, ha, ht, rfl⟩ := row_at h
    rw [IS_at ht, ih _ t ht]
    have e0 : (a * pwr ρ m + t) / pwr ρ (m + 1 - 1 - 0) % 2 ^ rR ρ = a := by rw [show m + 1 - 1 - 0 = m by omega]; exact dig_hi ha ht
    have es : ∀ j, j < m → RS ρ σ (a * pwr ρ m + t) (m + 1) (j + 1) = RS ρ (hGo ρ σ (nI a)) t m j ∧ (a * pwr ρ m + t) / pwr ρ (m + 1 - 1 - (j + 1)) % 2 ^ rR ρ = t / pwr ρ (m - 1 - j) % 2 ^ rR ρ := by
      intro j hj
      obtain ⟨m', rfl⟩ : ∃ m', m = m' + 1 := ⟨m - 1, by omega⟩
      exact ⟨(RS_shift ha ht j (by omega)).1, by rw [show m' + 1 + 1 - 1 - (j + 1) = m' + 1 - 1 - j by omega]; exact dig_lo (by omega)⟩
    constructor
    · rintro (h1 | ⟨j, h1, h2⟩)
      · exact ⟨0, by omega, by rw [e0]; exact h1⟩
      · refine ⟨j + 1, by omega, ?_⟩
        rw [(es j h1).1, (es j h1).2]; exact h2
    · rintro ⟨j, h1, h2⟩
      cases j with
      | zero => rw [e0] at h2; exact Or.inl h2
      | succ j => rw [(es j (by omega)).1, (es j (by omega)).2] at h2; exact Or.inr ⟨j, by omega, h2⟩
theorem pow10 {R n : Nat} (hR : R ≤ 3) (hn : n ≤ 3) : 1 ≤ 10 ^ (R * n) ∧ 10 ^ (R * n) ≤ 1000000000 := by
  rcases (show R = 0 ∨ R = 1 ∨ R = 2 ∨ R = 3 by omega) with rfl | rfl | rfl | rfl <;> rcases (show n = 0 ∨ n = 1 ∨ n = 2 ∨ n = 3 by omega) with rfl | rfl | rfl | rfl <;> decide +kernel
theorem WG_le {ρ : RV} {O : Nat} {co : St → Nat → Prop} (hO : O < 10) (hR : rR ρ ≤ 3) (m : Nat) (σ : St) : WG ρ O co m σ ≤ 10 ^ (rR ρ * m) := by
  rw [← WG_sum hO hR m σ, ← OF_sum hO hR m]
  refine smN_le (fun k => ?_) _
  by_cases c : IS ρ co m σ k
  · rw [pI_t c]; exact Nat.le_refl _
  · rw [pI_f c]; exact Nat.zero_le _
/-! the greatest common divisor -/
theorem gcd_st (a b : Nat) : Nat.gcd b (a % b) = Nat.gcd a b := by rw [Nat.gcd_comm b, ← Nat.gcd_rec, Nat.gcd_comm]
theorem mod_half {b r e : Nat} (hr : 0 < r) (hrb : r < b) (hb : b < 2 ^ (e + 1)) : b % r < 2 ^ e := by
  have h := Nat.div_add_mod b r
  have h1 : 1 ≤ b / r := Nat.div_pos (by omega) hr
  have h2 : r * 1 ≤ r * (b / r) := Nat.mul_le_mul_left _ h1
  have h3 := Nat.mod_lt b hr
  rw [Nat.mul_one] at h2
  rw [Nat.pow_succ] at hb
  omega
theorem cmp0 {b : Nat} (hb : b < 2 ^ 62) : lg_cmp (lN b) 0 = 0 ↔ b = 0 := by
  rw [lg_cmp_eq, show (0 : Int64) = lN 0 from rfl, pk_lEQ (by omega) (by decide)]
theorem ne0 {b : Nat} (hb : b < 2 ^ 62) (h : b ≠ 0) : ¬ lN b = 0 := by
  rw [show (0 : Int64) = lN 0 from rfl, pk_lEQ (by omega) (by decide)]; exact h
theorem C_gcd {Q : Int64 → Prop} : ∀ (e b a i n : Nat), b < 2 ^ e → e ≤ 40 → a < 2 ^ 62 → i + 2 * e < 100 → 2 * e < n → Q (lN (Nat.gcd a b)) → WX10_commonDivisor_9 Q n (lN a) (lN b) (nI i) := by
  have fin : ∀ (n a i : Nat), Q (lN a) → WX10_commonDivisor_9 Q (n + 1) (lN a) (lN 0) (nI i) := by
    intro n a i h
    unfold WX10_commonDivisor_9
    exact br_c (fun _ => h) (fun _ => br_t ((cmp0 (by decide)).mpr rfl) h)
  have stp : ∀ (n a b i : Nat), 0 < b → b < 2 ^ 62 → a < 2 ^ 62 → i < 100 → WX10_commonDivisor_9 Q n (lN b) (lN (a % b)) (nI (i + 1)) → WX10_commonDivisor_9 Q (n + 1) (lN a) (lN b) (nI i) := by
    intro n a b i h0 hb ha hi h
    unfold WX10_commonDivisor_9
    refine br_f (nI_ge (b := 100) hi (by decide)) (br_f (fun z => by have := (cmp0 hb).mp z; omega) ⟨ne0 hb (by omega), ?_⟩)
    rw [pk_lRem (by omega) h0 (by omega), nI_1]
    rintro _ rfl _ rfl
    exact h
  intro e
  induction e with
  | zero =>
    intro b a i n hb _ ha hi hn hQ
    obtain rfl : b = 0 := by omega
    obtain ⟨n, rfl⟩ : ∃ n', n = n' + 1 := ⟨n - 1, by omega⟩
    rw [Nat.gcd_zero_right] at hQ
    exact fin _ _ _ hQ
  | succ e ih =>
    intro b a i n hb he ha hi hn hQ
    have hb62 : b < 2 ^ 62 := Nat.lt_of_lt_of_le hb (Nat.pow_le_pow_right (by decide) (by omega))
    obtain ⟨n, rfl⟩ : ∃ n', n = n' + 1 + 1 := ⟨n - 2, by omega⟩
    by_cases c : b = 0
    · subst c
      rw [Nat.gcd_zero_right] at hQ
      exact fin _ _ _ hQ
    · rw [← gcd_st] at hQ
      refine stp _ _ _ _ (by omega) hb62 ha (by omega) ?_
      have hr := Nat.mod_lt a (show 0 < b by omega)
      by_cases c2 : a % b = 0
      · rw [c2, Nat.gcd_zero_right] at hQ
        rw [c2]
        exact fin _ _ _ hQ
      · rw [← gcd_st] at hQ
        refine stp _ _ _ _ (by omega) (by omega) hb62 (by omega) ?_
        exact ih _ _ _ _ (mod_half (by omega) hr hb) (by omega) (by omega) (by omega) (by omega) hQ
theorem M_gcd {Q : Int64 → Prop} : ∀ (e b a n : Nat), b < 2 ^ e → e ≤ 40 → a < 2 ^ 62 → 2 * e < n → Q (lN (Nat.gcd a b)) → WX11_divisor_6 Q n (lN a) (lN b) := by
  have fin : ∀ (n a : Nat), Q (lN a) → WX11_divisor_6 Q (n + 1) (lN a) (lN 0) := by
    intro n a h
    unfold WX11_divisor_6
    exact br_t ((cmp0 (by decide)).mpr rfl) h
  have stp : ∀ (n a b : Nat), 0 < b → b < 2 ^ 62 → a < 2 ^ 62 → WX11_divisor_6 Q n (lN b) (lN (a % b)) → WX11_divisor_6 Q (n + 1) (lN a) (lN b) := by
    intro n a b h0 hb ha h
    unfold WX11_divisor_6
    refine br_f (fun z => by have := (cmp0 hb).mp z; omega) ⟨ne0 hb (by omega), ?_⟩
    rw [pk_lRem (by omega) h0 (by omega)]
    rintro _ rfl
    exact h
  intro e
  induction e with
  | zero =>
    intro b a n hb _ ha hn hQ
    obtain rfl : b = 0 := by omega
    obtain ⟨n, rfl⟩ : ∃ n', n = n' + 1 := ⟨n - 1, by omega⟩
    rw [Nat.gcd_zero_right] at hQ
    exact fin _ _ hQ
  | succ e ih =>
    intro b a n hb he ha hn hQ
    have hb62 : b < 2 ^ 62 := Nat.lt_of_lt_of_le hb (Nat.pow_le_pow_right (by decide) (by omega))
    obtain ⟨n, rfl⟩ : ∃ n', n = n' + 1 + 1 := ⟨n - 2, by omega⟩
    by_cases c : b = 0
    · subst c
      rw [Nat.gcd_zero_right] at hQ
      exact fin _ _ hQ
    · rw [← gcd_st] at hQ
      refine stp _ _ _ (by omega) hb62 ha ?_
      have hr := Nat.mod_lt a (show 0 < b by omega)
      by_cases c2 : a % b = 0
      · rw [c2, Nat.gcd_zero_right] at hQ
        rw [c2]
        exact fin _ _ hQ
      · rw [← gcd_st] at hQ
        refine stp _ _ _ (by omega) (by omega) hb62 ?_
        exact ih _ _ _ (mod_half (by omega) hr hb) (by omega) (by omega) (by omega) hQ
theorem C_pow {e : Nat} (he : e ≤ 9) {Q : Int64 → Prop} (h : Q (lN (10 ^ e))) : WX10_powerOfTen (nI e) Q := by
  suffices g : ∀ (n k : Nat), k ≤ e → e < n + k → WX10_powerOfTen_4 (nI e) Q n (lN (10 ^ k)) (nI k) from ⟨10, g 10 0 (Nat.zero_le _) (by omega)⟩
  intro n
  induction n with
  | zero => intro k h1 h2; omega
  | succ n ih =>
    intro k h1 h2
    unfold WX10_powerOfTen_4
    by_cases c : e ≤ k
    · have : k = e := by omega
      subst this
      exact br_t (nI_le c (by omega)) h
    · refine br_f (nI_ge (by omega) (by omega)) ?_
      rw [show (10 : Int64) = lN 10 from rfl, lN_mul, nI_1, ← Nat.pow_succ]
      rintro _ rfl _ rfl
      exact ih (k + 1) (by omega) (by omega)
theorem C_weightOf {k R O : Nat} (hk : k < 8) (hR : R ≤ 3) (hO : O < 10) {Q : Int64 → Prop} (h : Q (lN (wtA O k R))) : WX7_weightOf (nI k) (nI R) (nI O) Q := by
  suffices g : ∀ (n r : Nat), r ≤ R → R < n + r → WX7_weightOf_5 (nI k) (nI R) (nI O) Q n (lN (wtA O k r)) (nI r) from ⟨4, g 4 0 (Nat.zero_le _) (by omega)⟩
  intro n
  induction n with
  | zero => intro r h1 h2; omega
  | succ n ih =>
    intro r h1 h2
    unfold WX7_weightOf_5
    by_cases c : R ≤ r
    · have : r = R := by omega
      subst this
      exact br_t (nI_le c (by omega)) h
    · refine br_f (nI_ge (by omega) (by omega)) ?_
      rw [bit_k k hk r (by omega), nI_l (n := O) (by omega), show (10 : Int32) - nI O = nI (10 - O) from pk_sub (a := 10) (by omega), nI_l (n := 10 - O) (by omega)]
      have f : ∀ q, q = (if k / 2 ^ r % 2 = 1 then O else 10 - O) → WX7_weightOf_50 (nI k) (nI R) (nI O) (nI r) (lN (wtA O k r)) (lN q) Q (WX7_weightOf_5 (nI k) (nI R) (nI O) Q n) := by
        intro q hq
        unfold WX7_weightOf_50
        rw [lN_mul, nI_1]
        rintro _ rfl _ rfl
        have := ih (r + 1) (by omega) (by omega)
        rw [wtA, ← hq] at this
        exact this
      by_cases c2 : k / 2 ^ r % 2 = 1
      · exact br_t (by rw [c2]; rfl) (f _ (if_pos c2).symm)
      · refine br_f (fun z => c2 ?_) (f _ (if_neg c2).symm)
        exact nI_inj (b := 1) (by omega) (by decide) z
