/-! ===== by hand: the model's mean ===== -/
theorem M_often {ρ : RV} {s : Fn} {O row n : Nat} (hs : s 0 = nI (rR ρ)) (hs3 : s 3 = nI O) (hO : O < 10) (hR : rR ρ ≤ 3) (hn : n ≤ 3) (hrow : row < 1000) {Q : Int64 → Prop} (h : Q (lN (OFk ρ O row n n))) : WX11_often (nI row) (nI n) s Q := by
  have hP8 := P8 hR
  suffices g : ∀ (m k : Nat), k ≤ n → n < m + k → WX11_often_5 (nI row) (nI n) s Q m (lN (OFk ρ O row n k)) (nI k) from ⟨4, g 4 0 (Nat.zero_le _) (by omega)⟩
  intro m
  induction m with
  | zero => intro k h1 h2; omega
  | succ m ih =>
    intro k h1 h2
    unfold WX11_often_5
    by_cases c : n ≤ k
    · have : k = n := by omega
      subst this
      exact br_t (nI_le c (by omega)) h
    · refine br_f (nI_ge (by omega) (by omega)) (M_rainOf hs hR hn (by omega) hrow ?_)
      have hd8 : row / pwr ρ (n - 1 - k) % 2 ^ rR ρ < 8 := by
        have := Nat.mod_lt (row / pwr ρ (n - 1 - k)) (Nat.two_pow_pos (rR ρ)); omega
      suffices g2 : ∀ (m2 r : Nat), r ≤ rR ρ → rR ρ < m2 + r → WX11_often_24 (nI row) (nI n) s Q (WX11_often_5 (nI row) (nI n) s Q m) m2 (lN (OFk ρ O row n k * wtA O (row / pwr ρ (n - 1 - k) % 2 ^ rR ρ) r)) (nI k) (nI (row / pwr ρ (n - 1 - k) % 2 ^ rR ρ)) (nI r) from ⟨4, by
        have := g2 4 0 (Nat.zero_le _) (by omega)
        rw [wtA, Nat.mul_one] at this
        exact this⟩
      intro m2
      induction m2 with
      | zero => intro r h1 h2; omega
      | succ m2 ih2 =>
        intro r hr hm2
        unfold WX11_often_24
        rw [show s (0 : Int32).toNatClampNeg = nI (rR ρ) from hs, show s (3 : Int32).toNatClampNeg = nI O from hs3]
        by_cases cr : rR ρ ≤ r
        · have e : r = rR ρ := by omega
          refine br_t (nI_le cr (by omega)) ?_
          unfold WX11_often_75
          rw [nI_1, e]
          rintro _ rfl
          exact ih (k + 1) (by omega) (by omega)
        · refine br_f (nI_ge (by omega) (by omega)) ?_
          rw [bit_k _ hd8 r (by omega), nI_l (n := O) (by omega), show (10 : Int32) - nI O = nI (10 - O) from pk_sub (a := 10) (by omega), nI_l (n := 10 - O) (by omega)]
          have f : ∀ q, q = (if row / pwr ρ (n - 1 - k) % 2 ^ rR ρ / 2 ^ r % 2 = 1 then O else 10 - O) → WX11_often_67 (nI row) (nI n) s (nI k) (nI (row / pwr ρ (n - 1 - k) % 2 ^ rR ρ)) (nI r) (lN (OFk ρ O row n k * wtA O (row / pwr ρ (n - 1 - k) % 2 ^ rR ρ) r)) (lN q) Q (WX11_often_5 (nI row) (nI n) s Q m) (WX11_often_24 (nI row) (nI n) s Q (WX11_often_5 (nI row) (nI n) s Q m) m2) := by
            intro q hq
            unfold WX11_often_67
            rw [lN_mul, nI_1, Nat.mul_assoc]
            rintro _ rfl _ rfl
            have := ih2 (r + 1) (by omega) (by omega)
            rw [wtA, ← hq] at this
            exact this
          by_cases c2 : row / pwr ρ (n - 1 - k) % 2 ^ rR ρ / 2 ^ r % 2 = 1
          · exact br_t (by rw [c2]; rfl) (f _ (if_pos c2).symm)
          · refine br_f (fun z => c2 ?_) (f _ (if_neg c2).symm)
            exact nI_inj (b := 1) (by omega) (by decide) z
set_option maxHeartbeats 4000000 in
theorem M_mean {ρ : RV} {σ : St} {s : Fn} {ll : Int32} {O n : Nat} {co : St → Nat → Prop} {x2 x3 : Int32} (hw : MWr ρ s 0 (-1) ll 0 0) (hR : okR ρ) (hS : okS ρ σ 900) (hM : MS s σ) (hs3 : s 3 = nI O) (hO : O < 10) (hn1 : 1 ≤ n) (hn : n ≤ 3) (hco : (x2 = 0 ∧ ∀ σ k, co σ k ↔ hOv ρ σ (nI k) (rR ρ) ≠ 0) ∨ (x2 ≠ 0 ∧ ∀ σ k, co σ k ↔ hDr ρ σ (nI k) (rR ρ) ≠ 0))
    {Q : Int64 → Int32 → Int32 → Int32 → Fn → Fn → Fn → Fn → Fn → Prop} (hQ : ∀ h o d lv bo wy nx tr, Q (if x3 = 0 then lN (WG ρ O co n σ) / lN (Nat.gcd (WG ρ O co n σ) (10 ^ (rR ρ * n))) else lN (10 ^ (rR ρ * n)) / lN (Nat.gcd (WG ρ O co n σ) (10 ^ (rR ρ * n)))) h o d lv bo wy nx tr) :
    ∀ h o d lv bo wy nx tr, ∃ k, WX11_mean_47 (nI n) x2 x3 0 (-1) ll 0 0 s Q k 0 0 0 h o d lv bo wy nx tr := by
  intro h o d lv bo wy nx tr
  have hR3 := hR.2.1
  have h512 := pwr_512 hR3 (n := n) hn
  have hP8 := P8 hR3
  obtain ⟨hd1, hd9⟩ := pow10 hR3 hn
  have hu := WG_le (co := co) hO hR3 n σ
  have f160 : ∀ h o d lv bo wy nx tr, WX11_mean_160 x3 0 (-1) ll 0 0 s (lN (WG ρ O co n σ)) (lN (10 ^ (rR ρ * n))) h o d lv bo wy nx tr Q := by
    intro h o d lv bo wy nx tr
    unfold WX11_mean_160 WX11_mean_171
    have hq := hQ h o d lv bo wy nx tr
    obtain ⟨D, eD⟩ : ∃ D, D = 10 ^ (rR ρ * n) := ⟨_, rfl⟩
    rw [← eD] at hq hd1 hd9 hu ⊢
    obtain ⟨A, eA⟩ : ∃ A, A = WG ρ O co n σ := ⟨_, rfl⟩
    rw [← eA] at hq hu ⊢
    have hg : Nat.gcd A D ≤ D := Nat.gcd_le_right _ (by omega)
    have hg1 : 0 < Nat.gcd A D := Nat.gcd_pos_of_pos_right _ (by omega)
    have fin : ∀ y, Q (y / lN (Nat.gcd A D)) h o d lv bo wy nx tr → WX11_divisor (lN A) (lN D) (fun r12 => ¬ r12 = 0 ∧ Q (y / r12) h o d lv bo wy nx tr) := fun y hy => ⟨61, M_gcd 30 _ _ 61 (by omega) (by decide) (by omega) (by decide) ⟨ne0 (by omega) (by omega), hy⟩⟩
    exact br_c (fun c => fin _ (by rw [if_pos c] at hq; exact hq)) (fun c => fin _ (by rw [if_neg c] at hq; exact hq))
  suffices g : ∀ (m j : Nat) (x4 x6 : Int64) (h o d : Int32) (lv bo wy nx tr : Fn), j ≤ pwr ρ n → pwr ρ n < m + j → x4 = lN (smN (fun row => pI (IS ρ co n σ row) (OF ρ O n row) 0) j) → x6 = lN (smN (OF ρ O n) j) → WX11_mean_47 (nI n) x2 x3 0 (-1) ll 0 0 s Q m x4 x6 (nI j) h o d lv bo wy nx tr from
    ⟨600, g 600 0 _ _ _ _ _ _ _ _ _ _ (Nat.zero_le _) (by omega) rfl rfl⟩
  intro m
  induction m with
  | zero => intro j x4 x6 h o d lv bo wy nx tr h1 h2; omega
  | succ m ih =>
    intro j x4 x6 h o d lv bo wy nx tr hj hm e4 e6
    unfold WX11_mean_47
    refine M_power hw.1 hR3 hn ?_
    by_cases cj : pwr ρ n ≤ j
    · have e : j = pwr ρ n := by omega
      refine br_t (nI_le cj (by omega)) ?_
      rw [e4, e6, e, WG_sum hO hR3, OF_sum hO hR3]
      exact f160 _ _ _ _ _ _ _ _
    · refine br_f (nI_ge (by omega) (by omega)) (M_takes hM (fun l b w hl hb hy => ?_) h lv bo wy)
      suffices g2 : ∀ (m2 k : Nat) (x9 o d : Int32) (lv bo wy nx tr : Fn), k ≤ n → n < m2 + k → ((x9 = 0 ∧ ∀ i, i < k → ¬ co (RS ρ σ j n i) (j / pwr ρ (n - 1 - i) % 2 ^ rR ρ)) ∨ (x9 = 1 ∧ ∃ i, i < k ∧ co (RS ρ σ j n i) (j / pwr ρ (n - 1 - i) % 2 ^ rR ρ))) → (∀ r, r < rR ρ → lv r = sL (RS ρ σ j n k) r) → (∀ r, r < rR ρ → bo r = sB (RS ρ σ j n k) r) → (∀ r, r < rR ρ → wy r = sW (RS ρ σ j n k) r) → WX11_mean_67 (nI n) x2 x3 0 (-1) ll 0 0 s Q (WX11_mean_47 (nI n) x2 x3 0 (-1) ll 0 0 s Q m) m2 x4 x6 (nI j) x9 (nI k) (nI (sH (RS ρ σ j n k))) o d lv bo wy nx tr from
        ⟨5, g2 5 0 _ _ _ _ _ _ _ _ (by omega) (by omega) (Or.inl ⟨rfl, fun i h => absurd h (Nat.not_lt_zero i)⟩) (fun r h => hl r (by omega)) (fun r h => hb r (by omega)) (fun r h => hy r (by omega))⟩
      intro m2
      induction m2 with
      | zero => intro k x9 o d lv bo wy nx tr h1 h2; omega
      | succ m2 ih2 =>
        intro k x9 o d lv bo wy nx tr hk hm2 h9 hl hb hy
        unfold WX11_mean_67
        by_cases ck : n ≤ k
        · have e : k = n := by omega
          rw [e] at h9
          refine br_t (nI_le ck (by omega)) ?_
          unfold WX11_mean_122
          refine M_often hw.1 hs3 hO hR3 hn (by omega) ?_
          rw [OFk_OF n j (by omega)]
          have f144 : ∀ s1, s1 = lN (pI (IS ρ co n σ j) (OF ρ O n j) 0) → WX11_mean_144 (nI n) x2 x3 0 (-1) ll 0 0 s x6 (nI j) (lN (OF ρ O n j)) x4 s1 (nI (sH (RS ρ σ j n k))) o d lv bo wy nx tr Q (WX11_mean_47 (nI n) x2 x3 0 (-1) ll 0 0 s Q m) := by
            intro s1 e1
            unfold WX11_mean_144
            rw [e1, e4, e6, lN_add, lN_add, nI_1]
            rintro _ rfl _ rfl _ rfl
            exact ih (j + 1) _ _ _ _ _ _ _ _ _ _ (by omega) (by omega) rfl rfl
          rcases h9 with ⟨rfl, h9⟩ | ⟨rfl, h9⟩
          · refine br_t rfl (f144 _ ?_)
            have nis : ¬ IS ρ co n σ j := fun z => by
              obtain ⟨i, i1, i2⟩ := (IS_RS n σ j (by omega)).mp z
              exact h9 i i1 i2
            rw [pI_f nis]; rfl
          · refine br_f (by decide) (f144 _ ?_)
            rw [pI_t ((IS_RS n σ j (by omega)).mpr h9)]
        · refine br_f (nI_ge (by omega) (by omega)) (M_rainOf hw.1 hR3 hn (by omega) (by omega) ?_)
          have hH : sH (RS ρ σ j n k) < 1000 := by rw [RS_H]; have := hS.1; omega
          refine M_hourGoes hw hR hH hl hb hy (fun nx' wy' lv' bo' tr' a1 a2 a3 _ => ?_) _ _ _ _
          have f114 : ∀ x9 : Int32, ((x9 = 0 ∧ ∀ i, i < k + 1 → ¬ co (RS ρ σ j n i) (j / pwr ρ (n - 1 - i) % 2 ^ rR ρ)) ∨ (x9 = 1 ∧ ∃ i, i < k + 1 ∧ co (RS ρ σ j n i) (j / pwr ρ (n - 1 - i) % 2 ^ rR ρ))) → WX11_mean_114 (nI n) x2 x3 0 (-1) ll 0 0 s x4 x6 (nI j) (nI k) x9 (nI (sH (RS ρ σ j n k) + 1)) (hOv ρ (RS ρ σ j n k) (nI (j / pwr ρ (n - 1 - k) % 2 ^ rR ρ)) (rR ρ)) (hDr ρ (RS ρ σ j n k) (nI (j / pwr ρ (n - 1 - k) % 2 ^ rR ρ)) (rR ρ)) lv' bo' wy' nx' tr' Q (WX11_mean_47 (nI n) x2 x3 0 (-1) ll 0 0 s Q m) (WX11_mean_67 (nI n) x2 x3 0 (-1) ll 0 0 s Q (WX11_mean_47 (nI n) x2 x3 0 (-1) ll 0 0 s Q m) m2) := by
            intro x9 h0
            unfold WX11_mean_114
            rintro _ rfl
            rw [nI_1]
            exact ih2 (k + 1) _ _ _ _ _ _ _ _ (by omega) (by omega) h0 a1 a2 a3
          rcases h9 with ⟨rfl, h9⟩ | ⟨rfl, i, i1, i2⟩
          · have f106 : ∀ s0 : Int32, (s0 ≠ 0 ↔ co (RS ρ σ j n k) (j / pwr ρ (n - 1 - k) % 2 ^ rR ρ)) → WX11_mean_106 (nI n) x2 x3 0 (-1) ll 0 0 s x4 x6 (nI j) (nI k) s0 (nI (sH (RS ρ σ j n k) + 1)) (hOv ρ (RS ρ σ j n k) (nI (j / pwr ρ (n - 1 - k) % 2 ^ rR ρ)) (rR ρ)) (hDr ρ (RS ρ σ j n k) (nI (j / pwr ρ (n - 1 - k) % 2 ^ rR ρ)) (rR ρ)) lv' bo' wy' nx' tr' Q (WX11_mean_47 (nI n) x2 x3 0 (-1) ll 0 0 s Q m) (WX11_mean_67 (nI n) x2 x3 0 (-1) ll 0 0 s Q (WX11_mean_47 (nI n) x2 x3 0 (-1) ll 0 0 s Q m) m2) := by
              intro s0 hs
              unfold WX11_mean_106 WX11_mean_109
              refine br_c (fun c => f114 _ (Or.inl ⟨rfl, fun i hi => ?_⟩)) (fun c => f114 _ (Or.inr ⟨rfl, k, by omega, hs.mp c⟩))
              by_cases ci : i = k
              · subst ci; exact fun z => hs.mpr z c
              · exact h9 i (by omega)
            refine br_t rfl ?_
            rcases hco with ⟨e, hco⟩ | ⟨e, hco⟩
            · exact br_t e (f106 _ (hco _ _).symm)
            · exact br_f e (f106 _ (hco _ _).symm)
          · refine br_f (by decide) ?_
            unfold WX11_mean_109
            exact f114 _ (Or.inr ⟨rfl, i, by omega, i2⟩)
