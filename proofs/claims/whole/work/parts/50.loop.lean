/-! ===== by hand: every call keeps the two systems alike ===== -/
theorem S_loop {L : Nat} (hL : L ≤ 256) {xs : Fn} : ∀ (n j : Nat) (I : Nat → Int32) (F : Nat → Fn) (G : Nat → Nat → Option Nat) (ce : Nat → CT) (cin : Nat → Prop), 4 * j ≤ L → L < 4 * (n + j) → INV I F G ce cin → WL L xs n (nI (4 * j)) I F G ce cin := by
  intro n
  induction n with
  | zero => intro j I F G ce cin h1 h2; omega
  | succ n ih =>
    intro j I F G ce cin h1 h2 hi
    unfold WL
    intro hc
    have h4 : 4 * j + 4 ≤ L := by
      rcases Nat.lt_or_ge L (4 * j + 4) with h | h
      · exfalso
        apply hc
        rw [show (4 : Int32) = nI 4 from rfl]
        by_cases c : 4 ≤ L
        · rw [pk_sub c]; exact nI_lt (by omega) (by omega)
        · have a1 : nI L - nI 4 < 0 := pk_sneg (by decide) (by omega)
          have a2 := nI_pos' (n := 4 * j) (by omega)
          grind
      · exact h
    have v0 : vp_in (nI (4 * j)) L := vp_in_nI (by omega) (by omega)
    have v1 : vp_in (nI (4 * j) + 1) L := by rw [nI_1]; exact vp_in_nI (by omega) (by omega)
    have v2 : vp_in (nI (4 * j) + 2) L := by rw [show (2 : Int32) = nI 2 from rfl, nI_add]; exact vp_in_nI (by omega) (by omega)
    have v3 : vp_in (nI (4 * j) + 3) L := by rw [show (3 : Int32) = nI 3 from rfl, nI_add]; exact vp_in_nI (by omega) (by omega)
    have hk : ∀ (I : Nat → Int32) (F : Nat → Fn) (G : Nat → Nat → Option Nat) (ce : Nat → CT) (cin : Nat → Prop), INV I F G ce cin → WL L xs n (nI (4 * j) + 4) I F G ce cin := by
      intro I F G ce cin hi
      rw [show (4 : Int32) = nI 4 from rfl, nI_add, show 4 * j + 4 = 4 * (j + 1) by omega]
      exact ih (j + 1) I F G ce cin (by omega) (by omega) hi
    refine ⟨v0, fun y _ => ?_⟩
    exact br_c (fun _ => S_c0 hi v1 v2 v3 hk) (fun _ => br_c (fun _ => S_c1 hi hk) (fun _ => br_c (fun _ => S_c2 hi v1 v2 hk) (fun _ => br_c (fun _ => S_c3 hi v1 v2 (fun h => hk I F G ce cin h)) (fun _ => br_c (fun _ => S_c4 hi v1 v2 hk) (fun _ => br_c (fun _ => S_c5 hi v1 v2 (fun h => hk I F G ce cin h)) (fun _ => br_c (fun _ => S_c6 hi v1 hk) (fun _ => br_c (fun _ => S_c7 hi v1 v2 hk) (fun _ => br_c (fun _ => S_c8 hi v1 hk) (fun _ => br_c (fun _ => S_c9 hi v1 hk) (fun _ => br_c (fun _ => S_c10 hi v1 hk) (fun _ => br_c (fun _ => S_c11 hi v1 hk) (fun _ => br_c (fun _ => S_c12 hi hk) (fun _ => br_c (fun _ => S_c13 hi v1 hk) (fun _ => br_c (fun _ => S_c14 hi v1 hk) (fun _ => br_c (fun _ => S_c15 hi v1 hk) (fun _ => br_c (fun _ => S_c16 hi v1 hk) (fun _ => br_c (fun _ => S_c17 hi v1 hk) (fun _ => br_c (fun _ => S_c18 hi hk) (fun _ => br_c (fun _ => S_c19 hi v1 v2 v3 hk) (fun _ => br_c (fun _ => S_c20 hi v1 hk) (fun _ => br_c (fun _ => S_c21 hi v1 v2 v3 hk) (fun _ => br_c (fun _ => S_c22 hi v1 (fun h => hk I F G ce cin h)) (fun _ => br_c (fun _ => S_c23 hi v1 v2 (fun h => hk I F G ce cin h)) (fun _ => br_c (fun _ => S_c24 hi hk) (fun _ => br_c (fun _ => S_c25 hi hk) (fun _ => br_c (fun _ => S_c26 hi v1 (fun h => hk I F G ce cin h)) (fun _ => hk I F G ce cin hi)))))))))))))))))))))))))))
theorem INV_0 {I : Nat → Int32} {F : Nat → Fn} {G : Nat → Nat → Option Nat} {ce : Nat → CT} {cin : Nat → Prop} (hI : ∀ k, k ∈ [0, 1, 2, 3, 4, 5, 6, 7, 8, 54, 56, 67, 70, 71, 76] → I k = 0) (h68 : I 68 = -1) (hF : ∀ k, F 55 k = 0) (hG : ∀ k, G 0 k = none) : INV I F G ce cin := by
  refine ⟨⟨0, 0, 0, 0, 0, 0, 0, 0, ⟨⟨hI 4 (by decide), hI 5 (by decide), hI 6 (by decide), hI 7 (by decide), hI 8 (by decide), hI 2 (by decide), hI 3 (by decide), hI 1 (by decide)⟩, hF 0, hF 1, hF 2, hF 3, hF 4, hF 5, hF 6, hF 7⟩, ⟨by decide, by decide, fun h => absurd h (by decide), by decide, by decide, by decide, by decide, by decide, by decide⟩, fun k h => absurd h (Nat.not_lt_zero k), fun k h => absurd h (Nat.not_lt_zero k), fun r _ _ => hF _, fun k h => absurd h (Nat.not_lt_zero k), fun k h => absurd h (Nat.not_lt_zero k), fun i _ y h => ?_⟩, Or.inl ⟨hI 0 (by decide), hI 56 (by decide)⟩, ⟨hI 67 (by decide), h68, hI 70 (by decide), hI 71 (by decide)⟩, 0, by decide, hI 54 (by decide), hI 76 (by decide), fun k h => absurd h (Nat.not_lt_zero k)⟩
  rw [hG] at h; cases h
