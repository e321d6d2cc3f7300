/-! ===== by hand: rows of rains of the model ===== -/
theorem M_power {ρ : RV} {s : Fn} (hs : s 0 = nI (rR ρ)) (hR : rR ρ ≤ 3) {n : Nat} (hn : n ≤ 3) {Q : Int32 → Prop} (h : Q (nI (pwr ρ n))) : WX11_power (nI n) s Q := by
  suffices g : ∀ (m k : Nat), k ≤ n → n < m + k → WX11_power_4 (nI n) s Q m (nI (pwr ρ k)) (nI k) from ⟨5, g 5 0 (by omega) (by omega)⟩
  intro m
  induction m with
  | zero => intro k h1 h2; omega
  | succ m ih =>
    intro k h1 h2
    unfold WX11_power_4
    rw [show s (0 : Int32).toNatClampNeg = nI (rR ρ) from hs, shl1 _ hR, pk_mul, nI_1]
    by_cases c : n ≤ k
    · have e : k = n := by omega
      subst e
      exact br_t (nI_le c (by omega)) h
    · refine br_f (nI_ge (by omega) (by omega)) ?_
      rintro _ rfl _ rfl
      rw [Nat.mul_comm, ← pwr_s]
      exact ih (k + 1) (by omega) (by omega)
theorem pwr_512 {ρ : RV} (hR : rR ρ ≤ 3) {n : Nat} (hn : n ≤ 3) : pwr ρ n ≤ 512 := by
  have h1 : pwr ρ n ≤ 8 ^ n := Nat.pow_le_pow_left (P8 hR) n
  have h2 : 8 ^ n ≤ 8 ^ 3 := Nat.pow_le_pow_right (by decide) hn
  omega
theorem M_rainOf {ρ : RV} {s : Fn} (hs : s 0 = nI (rR ρ)) (hR : rR ρ ≤ 3) {row n k : Nat} (hn : n ≤ 3) (hk : k < n) (hrow : row < 1000) {Q : Int32 → Prop} (h : Q (nI (row / pwr ρ (n - 1 - k) % 2 ^ rR ρ))) : WX11_rainOf (nI row) (nI n) (nI k) s Q := by
  have hP8 := P8 hR
  unfold WX11_rainOf
  rw [show nI n - 1 = nI (n - 1) from pk_sub (b := 1) (by omega)]
  rintro _ rfl
  suffices g : ∀ (m i : Nat), k ≤ i → i ≤ n - 1 → i < m + k → WX11_rainOf_8 (nI k) s Q m (nI (row / pwr ρ (n - 1 - i))) (nI i) by
    have := g 5 (n - 1) (by omega) (by omega) (by omega)
    rw [Nat.sub_self, pwr_0, Nat.div_one] at this
    exact ⟨5, this⟩
  intro m
  induction m with
  | zero => intro i h0 h1 h2; omega
  | succ m ih =>
    intro i h0 h1 h2
    have hlt : row / pwr ρ (n - 1 - i) ≤ row := Nat.div_le_self _ _
    have hsh : ∀ x, x < 1000 → nI x >>> (nI (rR ρ) &&& 31) = nI (x / 2 ^ rR ρ) := by
      intro x hx
      refine pk_shrN (by omega) _ _ ?_
      rcases (show rR ρ = 0 ∨ rR ρ = 1 ∨ rR ρ = 2 ∨ rR ρ = 3 by omega) with e | e | e | e <;> rw [e] <;> rfl
    have hm : (nI (2 ^ rR ρ) - 1).toBitVec.toNat = 2 ^ rR ρ - 1 := by
      rcases (show rR ρ = 0 ∨ rR ρ = 1 ∨ rR ρ = 2 ∨ rR ρ = 3 by omega) with e | e | e | e <;> rw [e] <;> rfl
    unfold WX11_rainOf_8 WX11_rainOf_31
    rw [show s (0 : Int32).toNatClampNeg = nI (rR ρ) from hs, shl1 _ hR, pk_andN (by omega) _ hm, hsh _ (by omega)]
    by_cases c : i ≤ k
    · have e : i = k := by omega
      subst e
      exact br_t (nI_le c (by omega)) h
    · refine br_f (nI_ge (by omega) (by omega)) ?_
      rintro _ rfl _ rfl
      obtain ⟨i, rfl⟩ : ∃ i', i = i' + 1 := ⟨i - 1, by omega⟩
      rw [pk_m1, Nat.div_div_eq_div_mul, Nat.mul_comm (pwr ρ _), ← pwr_s, show n - 1 - (i + 1) + 1 = n - 1 - i by omega]
      exact ih i (by omega) (by omega) (by omega)
theorem M_drops {k : Nat} (hk : k < 8) {Q : Int32 → Prop} (h : Q (nI (dr k))) : WX11_drops (nI k) Q := by
  unfold WX11_drops
  rcases (show k = 0 ∨ k = 1 ∨ k = 2 ∨ k = 3 ∨ k = 4 ∨ k = 5 ∨ k = 6 ∨ k = 7 by omega) with rfl | rfl | rfl | rfl | rfl | rfl | rfl | rfl <;> exact h
/-- the state after k hours of a row of n hours, drops gone -/
def RS (ρ : RV) (σ : St) (row n : Nat) : Nat → St
  | 0 => σ
  | k + 1 => hGo ρ (RS ρ σ row n k) (nI (row / pwr ρ (n - 1 - k) % 2 ^ rR ρ))
def RD (ρ : RV) (row n : Nat) : Nat → Nat
  | 0 => 0
  | k + 1 => RD ρ row n k + dr (row / pwr ρ (n - 1 - k) % 2 ^ rR ρ)
theorem RS_ok {ρ : RV} {σ : St} {N : Nat} (h1 : okR ρ) (h2 : okS ρ σ N) (row n : Nat) : ∀ k, okS ρ (RS ρ σ row n k) (N + k)
  | 0 => h2
  | k + 1 => okS_go h1 (RS_ok h1 h2 row n k) _
theorem RS_H (ρ : RV) (σ : St) (row n : Nat) : ∀ k, sH (RS ρ σ row n k) = sH σ + k
  | 0 => rfl
  | k + 1 => by show sH (RS ρ σ row n k) + 1 = _; rw [RS_H]; omega
theorem dig_hi {ρ : RV} {a t m : Nat} (ha : a < 2 ^ rR ρ) (ht : t < pwr ρ m) : (a * pwr ρ m + t) / pwr ρ m % 2 ^ rR ρ = a := by
  rw [(row_div ht).1, Nat.mod_eq_of_lt ha]
theorem RS_shift {ρ : RV} {σ : St} {a t m : Nat} (ha : a < 2 ^ rR ρ) (ht : t < pwr ρ (m + 1)) : ∀ k, k ≤ m + 1 → RS ρ σ (a * pwr ρ (m + 1) + t) (m + 2) (k + 1) = RS ρ (hGo ρ σ (nI a)) t (m + 1) k ∧ RD ρ (a * pwr ρ (m + 1) + t) (m + 2) (k + 1) = dr a + RD ρ t (m + 1) k := by
  intro k
  induction k with
  | zero =>
    intro _
    constructor
    · show hGo ρ σ _ = hGo ρ σ _
      rw [show m + 2 - 1 - 0 = m + 1 by omega, dig_hi ha ht]
    · show 0 + dr _ = dr a + 0
      rw [show m + 2 - 1 - 0 = m + 1 by omega, dig_hi ha ht]; omega
  | succ k ih =>
    intro hk
    obtain ⟨i1, i2⟩ := ih (by omega)
    have e : (a * pwr ρ (m + 1) + t) / pwr ρ (m + 2 - 1 - (k + 1)) % 2 ^ rR ρ = t / pwr ρ (m + 1 - 1 - k) % 2 ^ rR ρ := by
      rw [show m + 2 - 1 - (k + 1) = m + 1 - 1 - k by omega, dig_lo (by omega)]
    constructor
    · show hGo ρ (RS ρ σ (a * pwr ρ (m + 1) + t) (m + 2) (k + 1)) _ = hGo ρ (RS ρ (hGo ρ σ (nI a)) t (m + 1) k) _
      rw [i1, e]
    · show RD ρ (a * pwr ρ (m + 1) + t) (m + 2) (k + 1) + dr _ = dr a + (RD ρ t (m + 1) k + dr _)
      rw [i2, e]; omega
/-- the last hour of a row, and what is within the sum -/
theorem FB_RS {ρ : RV} : ∀ (m : Nat) (σ : St) (left row : Nat), row < pwr ρ (m + 1) → (FB ρ (m + 1) σ left row ↔ RD ρ row (m + 1) (m + 1) ≤ left ∧ hOv ρ (RS ρ σ row (m + 1) m) (nI (row / pwr ρ 0 % 2 ^ rR ρ)) (rR ρ) ≠ 0) := by
  intro m
  induction m with
  | zero =>
    intro σ left row h
    rw [pwr_s, pwr_0, Nat.mul_one] at h
    have e : row / pwr ρ 0 % 2 ^ rR ρ = row := by rw [pwr_0, Nat.div_one, Nat.mod_eq_of_lt h]
    show dr (row / pwr ρ 0) ≤ left ∧ _ ↔ 0 + dr (row / pwr ρ 0 % 2 ^ rR ρ) ≤ left ∧ hOv ρ σ _ _ ≠ 0
    rw [e, pwr_0, Nat.div_one, Nat.zero_add]
    constructor
    · rintro ⟨h1, h2 | h2⟩
      · exact ⟨h1, h2.2⟩
      · exact absurd h2.1 (Nat.lt_irrefl 0)
    · exact fun h => ⟨h.1, Or.inl ⟨rfl, h.2⟩⟩
  | succ m ih =>
    intro σ left row h
    obtain ⟨a, t, ha, ht, rfl⟩ : ∃ a t, a < 2 ^ rR ρ ∧ t < pwr ρ (m + 1) ∧ row = a * pwr ρ (m + 1) + t := by
      refine ⟨row / pwr ρ (m + 1), row % pwr ρ (m + 1), ?_, Nat.mod_lt _ (pwr_pos _ _), ?_⟩
      · rw [pwr_s] at h
        exact Nat.div_lt_of_lt_mul (by rwa [Nat.mul_comm] at h)
      · rw [Nat.mul_comm]; exact (Nat.div_add_mod _ _).symm
    obtain ⟨s1, s2⟩ := RS_shift (σ := σ) ha ht (m + 1) (Nat.le_refl _)
    obtain ⟨s3, -⟩ := RS_shift (σ := σ) ha ht m (by omega)
    rw [FB_at ht, s2, s3, ih (hGo ρ σ (nI a)) (left - dr a) t ht, dig_lo (by omega)]
    constructor
    · rintro ⟨h1, h2 | h2⟩
      · exact absurd h2.1 (by omega)
      · exact ⟨by omega, h2.2.2⟩
    · rintro ⟨h1, h2⟩
      exact ⟨by omega, Or.inr ⟨by omega, by omega, h2⟩⟩
theorem dr_le (k : Nat) : dr k ≤ 3 := by unfold dr; omega
theorem RD_le (ρ : RV) (row n : Nat) : ∀ k, RD ρ row n k ≤ 3 * k
  | 0 => Nat.le_refl _
  | k + 1 => by have := RD_le ρ row n k; have := dr_le (row / pwr ρ (n - 1 - k) % 2 ^ rR ρ); rw [RD]; omega
theorem M_failsBy {ρ : RV} {σ : St} {s : Fn} {st lc ll mu hi : Int32} (hw : MWr ρ s st lc ll mu hi) (hR : okR ρ) (hS : okS ρ σ 900) (hM : MS s σ) {sum m row : Nat} (hsum : s 2 = nI sum) (hs1 : sum < 100) (hm : m < 3) (hrow : row < pwr ρ (m + 1)) {Q : Int32 → Int32 → Int32 → Int32 → Fn → Fn → Fn → Fn → Fn → Prop}
    (hQ : ∀ (r h o d : Int32) (lv bo wy nx tr : Fn), (r = 1 ∧ FB ρ (m + 1) σ sum row) ∨ (r = 0 ∧ ¬ FB ρ (m + 1) σ sum row) → Q r h o d lv bo wy nx tr) (h o d : Int32) (lv bo wy nx tr : Fn) : WX11_failsBy (nI row) (nI (m + 1)) h st lc ll mu hi o d s lv bo wy nx tr Q := by
  have hR3 := hR.2.1
  have h512 := pwr_512 hR3 (n := m + 1) (by omega)
  have hP8 := P8 hR3
  unfold WX11_failsBy
  refine M_takes hM (fun l b w hl hb hy => ?_) h lv bo wy
  rintro _ rfl
  rw [show s (2 : Int32).toNatClampNeg = nI sum from hsum]
  suffices g : ∀ (n k : Nat) (x o d : Int32) (lv bo wy nx tr : Fn), k ≤ m + 1 → m + 1 < n + k → x = nI sum - nI (RD ρ row (m + 1) k) → (∀ k', k = k' + 1 → o = hOv ρ (RS ρ σ row (m + 1) k') (nI (row / pwr ρ (m + 1 - 1 - k') % 2 ^ rR ρ)) (rR ρ)) → (∀ r, r < rR ρ → lv r = sL (RS ρ σ row (m + 1) k) r) → (∀ r, r < rR ρ → bo r = sB (RS ρ σ row (m + 1) k) r) → (∀ r, r < rR ρ → wy r = sW (RS ρ σ row (m + 1) k) r) → WX11_failsBy_14 (nI row) (nI (m + 1)) st lc ll mu hi s Q n x (nI k) (nI (sH (RS ρ σ row (m + 1) k))) o d lv bo wy nx tr by
    refine ⟨5, g 5 0 _ _ _ _ _ _ _ _ (by omega) (by omega) ?_ (fun k' h => absurd h (by omega)) (fun r h => hl r (by omega)) (fun r h => hb r (by omega)) (fun r h => hy r (by omega))⟩
    show nI sum = nI sum - nI 0
    rw [pk_sub (Nat.zero_le _)]; rfl
  intro n
  induction n with
  | zero => intro k x o d lv bo wy nx tr h1 h2; omega
  | succ n ih =>
    intro k x o d lv bo wy nx tr h1 h2 hx ho hl hb hy
    unfold WX11_failsBy_14
    have hrd := RD_le ρ row (m + 1) k
    by_cases c : m + 1 ≤ k
    · have e : k = m + 1 := by omega
      subst e
      refine br_t (nI_le c (by omega)) ?_
      unfold WX11_failsBy_50
      have hfb := FB_RS m σ sum row hrow
      have ho' := ho m rfl
      rw [show m + 1 - 1 - m = 0 by omega] at ho'
      rw [← ho'] at hfb
      refine br_c (fun c0 => hQ _ _ _ _ _ _ _ _ _ (Or.inr ⟨rfl, fun hf => (hfb.mp hf).2 c0⟩)) (fun c0 => ?_)
      by_cases c1 : RD ρ row (m + 1) (m + 1) ≤ sum
      · refine br_f ?_ (hQ _ _ _ _ _ _ _ _ _ (Or.inl ⟨rfl, hfb.mpr ⟨c1, c0⟩⟩))
        rw [hx, pk_sub c1]; exact nI_pos (by omega)
      · refine br_t ?_ (hQ _ _ _ _ _ _ _ _ _ (Or.inr ⟨rfl, fun hf => c1 (hfb.mp hf).1⟩))
        rw [hx]; exact pk_sneg (by omega) (by omega)
    · refine br_f (nI_ge (by omega) (by omega)) (M_rainOf hw.1 hR3 (by omega) (by omega) (by omega) ?_)
      have hd8 : row / pwr ρ (m + 1 - 1 - k) % 2 ^ rR ρ < 8 := by
        have := Nat.mod_lt (row / pwr ρ (m + 1 - 1 - k)) (Nat.two_pow_pos (rR ρ)); omega
      refine M_drops hd8 ?_
      rintro _ rfl
      have hH : sH (RS ρ σ row (m + 1) k) < 1000 := by rw [RS_H]; have := hS.1; omega
      refine M_hourGoes hw hR hH hl hb hy (fun nx' wy' lv' bo' tr' a1 a2 a3 _ => ?_) _ _ _ _
      rintro _ rfl
      rw [nI_1]
      refine ih (k + 1) _ _ _ _ _ _ _ _ (by omega) (by omega) ?_ (fun k' e => ?_) a1 a2 a3
      · rw [hx, RD, ← nI_add]; grind
      · have : k' = k := by omega
        subst this; rfl
/-- what the model's search gives -/
def HR (ρ : RV) (sp : Nat) (σ : St) (sum : Nat) (r fh fr : Int32) : Prop := (r = 1 ∧ fh = -5 ∧ Safe ρ sp σ sum) ∨ (r = 0 ∧ ∃ n row, Fst ρ sp σ sum n row ∧ fh = nI n ∧ fr = nI row)
theorem M_hold {ρ : RV} {σ : St} {s : Fn} {st lc ll mu hi : Int32} (hw : MWr ρ s st lc ll mu hi) (hR : okR ρ) (hS : okS ρ σ 900) (hM : MS s σ) {sum sp : Nat} (hsum : s 2 = nI sum) (hs1 : sum < 100) (hsp : s 1 = nI sp) (hp3 : sp ≤ 3) {Q : Int32 → Int32 → Int32 → Int32 → Int32 → Int32 → Fn → Fn → Fn → Fn → Fn → Prop}
    (hQ : ∀ (r h o d fh fr : Int32) (lv bo wy nx tr : Fn), HR ρ sp σ sum r fh fr → Q r h o d fh fr lv bo wy nx tr) (h o d fh fr : Int32) (lv bo wy nx tr : Fn) : WX11_areHolding h st lc ll mu hi o d fh fr s lv bo wy nx tr Q := by
  have hR3 := hR.2.1
  have hm5 : ∀ n, n < 1000 → nI n ≠ -5 := by intro n h1 h2; have := nI_pos (n := n) (by omega); grind
  suffices g : ∀ (n k : Nat) (h o d fh fr : Int32) (lv bo wy nx tr : Fn), 1 ≤ k → k ≤ sp + 1 → sp + 1 < n + k → ((fh = -5 ∧ ∀ m, 1 ≤ m → m < k → ∀ j, j < pwr ρ m → ¬ FB ρ m σ sum j) ∨ ∃ n' row, fh = nI n' ∧ fr = nI row ∧ Fst ρ sp σ sum n' row) → WX11_areHolding_8 st lc ll mu hi s Q n (nI k) h o d fh fr lv bo wy nx tr from
    ⟨5, g 5 1 _ _ _ _ _ _ _ _ _ _ (by omega) (by omega) (by omega) (Or.inl ⟨rfl, fun m h1 h2 => absurd h2 (by omega)⟩)⟩
  have f78 : ∀ (h o d fh fr : Int32) (lv bo wy nx tr : Fn), ((fh = -5 ∧ Safe ρ sp σ sum) ∨ ∃ n' row, fh = nI n' ∧ fr = nI row ∧ Fst ρ sp σ sum n' row) → WX11_areHolding_78 st lc ll mu hi s h o d fh fr lv bo wy nx tr Q := by
    intro h o d fh fr lv bo wy nx tr hc
    unfold WX11_areHolding_78
    rcases hc with ⟨rfl, h2⟩ | ⟨n', row, rfl, rfl, h3⟩
    · exact br_t rfl (hQ _ _ _ _ _ _ _ _ _ _ _ (Or.inl ⟨rfl, rfl, h2⟩))
    · have := h3.2.1
      exact br_f (hm5 n' (by omega)) (hQ _ _ _ _ _ _ _ _ _ _ _ (Or.inr ⟨rfl, n', row, h3, rfl, rfl⟩))
  intro n
  induction n with
  | zero => intro k h o d fh fr lv bo wy nx tr h0 h1 h2; omega
  | succ n ih =>
    intro k h o d fh fr lv bo wy nx tr h0 h1 h2 hc
    unfold WX11_areHolding_8
    rw [show s (1 : Int32).toNatClampNeg = nI sp from hsp]
    by_cases c : sp < k
    · refine br_t (nI_lt c (by omega)) (f78 _ _ _ _ _ _ _ _ _ _ ?_)
      rcases hc with ⟨e, hc⟩ | hc
      · exact Or.inl ⟨e, fun m h1 h2 => hc m h1 (by omega)⟩
      · exact Or.inr hc
    refine br_f (nI_nlt (by omega) (by omega)) ?_
    rcases hc with ⟨rfl, hc⟩ | hc
    · refine br_t rfl ?_
      obtain ⟨m, rfl⟩ : ∃ m, k = m + 1 := ⟨k - 1, by omega⟩
      have h512 := pwr_512 hR3 (n := m + 1) (by omega)
      have f72 : ∀ (h o d fh fr : Int32) (lv bo wy nx tr : Fn), ((fh = -5 ∧ ∀ j, j < pwr ρ (m + 1) → ¬ FB ρ (m + 1) σ sum j) ∨ ∃ n' row, fh = nI n' ∧ fr = nI row ∧ Fst ρ sp σ sum n' row) → WX11_areHolding_72 st lc ll mu hi s (nI (m + 1)) h o d fh fr lv bo wy nx tr Q (WX11_areHolding_8 st lc ll mu hi s Q n) := by
        intro h o d fh fr lv bo wy nx tr hc2
        unfold WX11_areHolding_72
        rintro _ rfl
        rw [nI_1]
        refine ih (m + 1 + 1) _ _ _ _ _ _ _ _ _ _ (by omega) (by omega) (by omega) ?_
        rcases hc2 with ⟨e, hc2⟩ | hc2
        · refine Or.inl ⟨e, fun m' h1 h2 => ?_⟩
          by_cases c3 : m' = m + 1
          · subst c3; exact hc2
          · exact hc m' h1 (by omega)
        · exact Or.inr hc2
      suffices g2 : ∀ (n2 j : Nat) (h o d fh fr : Int32) (lv bo wy nx tr : Fn), j ≤ pwr ρ (m + 1) → pwr ρ (m + 1) < n2 + j → ((fh = -5 ∧ ∀ i, i < j → ¬ FB ρ (m + 1) σ sum i) ∨ ∃ n' row, fh = nI n' ∧ fr = nI row ∧ Fst ρ sp σ sum n' row) → WX11_areHolding_29 st lc ll mu hi s Q (WX11_areHolding_8 st lc ll mu hi s Q n) n2 (nI (m + 1)) (nI j) h o d fh fr lv bo wy nx tr from
        ⟨600, g2 600 0 _ _ _ _ _ _ _ _ _ _ (Nat.zero_le _) (by omega) (Or.inl ⟨rfl, fun i h => absurd h (Nat.not_lt_zero i)⟩)⟩
      intro n2
      induction n2 with
      | zero => intro j h o d fh fr lv bo wy nx tr h1 h2; omega
      | succ n2 ih2 =>
        intro j h o d fh fr lv bo wy nx tr h1 h2 hc2
        unfold WX11_areHolding_29
        refine M_power hw.1 hR3 (by omega) ?_
        by_cases c1 : pwr ρ (m + 1) ≤ j
        · refine br_t (nI_le c1 (by omega)) (f72 _ _ _ _ _ _ _ _ _ _ ?_)
          rcases hc2 with ⟨e, hc2⟩ | hc2
          · exact Or.inl ⟨e, fun i hi => hc2 i (by omega)⟩
          · exact Or.inr hc2
        refine br_f (nI_ge (by omega) (by omega)) ?_
        rcases hc2 with ⟨rfl, hc2⟩ | hc2
        · refine br_t rfl (M_failsBy hw hR hS hM hsum hs1 (by omega) (by omega) (fun r h o d lv bo wy nx tr hr => ?_) _ _ _ _ _ _ _ _)
          have f66 : ∀ fh fr, ((fh = -5 ∧ ∀ i, i < j + 1 → ¬ FB ρ (m + 1) σ sum i) ∨ ∃ n' row, fh = nI n' ∧ fr = nI row ∧ Fst ρ sp σ sum n' row) → WX11_areHolding_66 st lc ll mu hi s (nI (m + 1)) (nI j) h o d fh fr lv bo wy nx tr Q (WX11_areHolding_8 st lc ll mu hi s Q n) (WX11_areHolding_29 st lc ll mu hi s Q (WX11_areHolding_8 st lc ll mu hi s Q n) n2) := by
            intro fh fr hc3
            unfold WX11_areHolding_66
            rintro _ rfl
            rw [nI_1]
            exact ih2 (j + 1) _ _ _ _ _ _ _ _ _ _ (by omega) (by omega) hc3
          rcases hr with ⟨rfl, hr⟩ | ⟨rfl, hr⟩
          · exact br_f (by decide) (f66 _ _ (Or.inr ⟨m + 1, j, rfl, rfl, by omega, by omega, by omega, hr, hc2, hc⟩))
          · refine br_t rfl (f66 _ _ (Or.inl ⟨rfl, fun i hi => ?_⟩))
            by_cases c3 : i = j
            · subst c3; exact hr
            · exact hc2 i (by omega)
        · obtain ⟨n', row, e1, e2, e3⟩ := hc2
          have := e3.2.1
          exact br_f (by rw [e1]; exact hm5 n' (by omega)) (f72 _ _ _ _ _ _ _ _ _ _ (Or.inr ⟨n', row, e1, e2, e3⟩))
    · obtain ⟨n', row, e1, e2, e3⟩ := hc
      have := e3.2.1
      exact br_f (by rw [e1]; exact hm5 n' (by omega)) (f78 _ _ _ _ _ _ _ _ _ _ (Or.inr ⟨n', row, e1, e2, e3⟩))
