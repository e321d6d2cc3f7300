/-! ===== by hand: image, undo, feed ===== -/
theorem WR_copy {b c n r p u o h : Int32} {tape bank mill hung lev boa way told : Fn} {cards : Nat → Option Nat} {ce : Nat → CT} {cin : Nat → Prop} {s : Fn} (w : WR b c n r p u o h tape bank mill hung lev boa way told cards ce cin s) {tape' bank' mill' hung' lev' boa' way' told' : Fn} {cards' : Nat → Option Nat} {s' : Fn} (h1 : ∀ k, k < 120 → tape' k = tape k) (h2 : ∀ k, k < 3 → bank' k = bank k ∧ mill' k = mill k ∧ hung' k = hung k ∧ lev' k = lev k ∧ boa' k = boa k ∧ way' k = way k) (h3 : ∀ k, k < 10 → told' k = told k) (h4 : ∀ k, k < 8 → cards' k = cards k) (hs : ∀ k, k < 1454 → s' k = s k) : WR b c n r p u o h tape' bank' mill' hung' lev' boa' way' told' cards' ce cin s' := by
  obtain ⟨R, P, S, O, H, C, N, B, ⟨⟨q1, q2, q3, q4, q5, q6, q7, q8⟩, p1, p2, p3, p4, p5, p6, p7, p8⟩, ⟨b1, b2, b3, b4, b5, b6, b7, b8, b9⟩, hT, hR, hZ, hN, hC⟩ := w
  refine ⟨R, P, S, O, H, C, N, B, ⟨⟨q1, q2, q3, q4, q5, q6, q7, q8⟩, (hs 0 (by decide)).trans p1, (hs 1 (by decide)).trans p2, (hs 2 (by decide)).trans p3, (hs 3 (by decide)).trans p4, (hs 4 (by decide)).trans p5, (hs 5 (by decide)).trans p6, (hs 6 (by decide)).trans p7, (hs 7 (by decide)).trans p8⟩, ⟨b1, b2, b3, b4, b5, b6, b7, b8, b9⟩, fun k hk => ?_, fun k hk => ?_, fun k h5 h6 => ?_, fun k hk => ?_, ?_⟩
  · rw [h1 k (by omega), hs _ (by omega)]; exact hT k hk
  · obtain ⟨a1, a2, a3, a4, a5, a6⟩ := h2 k (by omega)
    rw [a1, a2, a3, a4, a5, a6, hs _ (by omega), hs _ (by omega), hs _ (by omega), hs _ (by omega), hs _ (by omega), hs _ (by omega)]
    exact hR k hk
  · rw [hs _ (by omega)]; exact hZ k h5 h6
  · rw [h3 k (by omega), hs _ (by omega)]; exact hN k hk
  · have := okC_frame (s' := s') b7 (fun k _ hk => hs k hk) hC
    refine ⟨fun i hi => ?_, fun i hi => ?_⟩
    · rw [h4 i (by omega)]; exact this.1 i hi
    · rw [h4 i hi]; exact this.2 i hi
theorem C_becomes {b c n r p u o h b' c' n' r' p' u' o' h' : Int32} {tape bank mill hung lev boa way told tape' bank' mill' hung' lev' boa' way' told' : Fn} {cards cards' : Nat → Option Nat} {ce : Nat → CT} {cin : Nat → Prop} (hc : ∀ i, i < 8 → ∀ y, cards i = some y → cin y) {Q : Int32 → Int32 → Int32 → Fn → Int32 → Int32 → Int32 → Int32 → Fn → Fn → Fn → Int32 → Fn → Fn → Fn → (Nat → Option Nat) → Fn → Prop}
    (hQ : ∀ tape' bank' mill' hung' lev' boa' way' told' cards', (∀ k, k < 120 → tape' k = tape k) → (∀ k, k < 3 → bank' k = bank k ∧ mill' k = mill k ∧ hung' k = hung k ∧ lev' k = lev k ∧ boa' k = boa k ∧ way' k = way k) → (∀ k, k < 10 → told' k = told k) → (∀ k, k < 8 → cards' k = cards k) → Q b c n tape' r p u o bank' mill' hung' h lev' boa' way' cards' told') : WX9_becomes b c n tape b' c' n' tape' r' p' u' o' r p u o bank bank' mill mill' hung hung' h' h lev lev' boa boa' way way' cards cards' told told' ce cin Q := by
  unfold WX9_becomes
  refine C_copy 120 (by decide) fun tape' h1 _ => ?_
  unfold WX3_becomes WX8_becomes
  refine C_copy 3 (by decide) fun bank' h2 _ => C_copy 3 (by decide) fun mill' h3 _ => C_copy 3 (by decide) fun hung' h4 _ => C_copy 3 (by decide) fun lev' h5 _ => C_copy 3 (by decide) fun boa' h6 _ => C_copy 3 (by decide) fun way' h7 _ => ?_
  have e8 : (if (8 : Int32) < (8 : Int32) then (8 : Int32) else (8 : Int32)) = nI 8 := rfl
  rw [e8, nI_clamp (by decide), show (0 : Int32).toNatClampNeg = 0 from rfl]
  refine ⟨nI_pos (by decide), by decide, by decide, fun i hi y hy => ?_, C_copy 10 (by decide) fun told' h8 _ => hQ _ _ _ _ _ _ _ _ _ h1 (fun k hk => ⟨h2 k hk, h3 k hk, h4 k hk, h5 k hk, h6 k hk, h7 k hk⟩) h8 (fun k hk => ?_)⟩
  · rw [Nat.zero_add] at hy; exact hc i hi y hy
  · rw [pk_cpy_in (by omega) (by omega)]; congr 1; omega
theorem S_c24 {L : Nat} {xs : Fn} {x3 : Int32} {I F G ce cin} {K : KT} (hi : INV I F G ce cin) (hK : ∀ I F G ce cin, INV I F G ce cin → K I F G ce cin) : WL_c24 L xs x3 I F G ce cin K := by
  have w := hi.1
  obtain ⟨R, P, S, O, H, C, N, B, ⟨e1, e2⟩, bd, hT, hR, hZ, hN, hC⟩ := hi.1
  unfold WL_c24 WX10_image
  refine C_becomes hC.2 fun tape' bank' mill' hung' lev' boa' way' told' cards' h1 h2 h3 h4 => ?_
  unfold WX11_image
  suffices g : ∀ (n k : Nat) (f : Fn), k ≤ 1454 → 1454 < n + k → (∀ i, i < k → f i = F 55 i) → WX11_image_2 (F 55) (fun r20 i_M_hasImage_21 f_M_image_22 => ((I 2 = r20 → K (va_up (va_up (va_up (va_up (va_up (va_up (va_up (va_up (va_up (va_up I 0 1) 10 (I 1)) 11 (I 2)) 12 (I 3)) 13 (I 4)) 14 (I 5)) 15 (I 6)) 16 (I 7)) 17 (I 8)) 56 i_M_hasImage_21) (va_up (va_up (va_up (va_up (va_up (va_up (va_up (va_up (va_up F 9 tape') 10 bank') 11 mill') 12 hung') 13 lev') 14 boa') 15 way') 17 told') 56 f_M_image_22) (va_up G 1 cards') ce cin) ∧ (¬ (I 2 = r20) → False))) n (nI k) (I 56) f from ⟨1455, g 1455 0 _ (by omega) (by omega) (fun i h => absurd h (Nat.not_lt_zero i))⟩
  intro n
  induction n with
  | zero => intro k f h1 h2; omega
  | succ n ih =>
    intro k f hk hn hf
    unfold WX11_image_2
    by_cases c : 1454 ≤ k
    · refine br_t (nI_le (a := 1454) c (by omega)) ?_
      unfold WX11_image_27
      refine same_K (e1.2.2.2.2.2.1.trans e2.2.2.2.2.2.1.symm) (hK _ _ _ _ _ ⟨w, Or.inr ⟨rfl, rfl, ?_⟩, hi.2.2⟩)
      exact WR_copy w h1 h2 h3 h4 (fun k hk => hf k (by omega))
    · refine br_f (nI_ge (b := 1454) (by omega) (by decide)) ⟨vp_in_nI (by omega) (by decide), ?_⟩
      rw [nI_clamp (by omega), nI_1]
      rintro _ rfl
      refine ⟨vp_in_nI (by omega) (by decide), ?_⟩
      rintro _ rfl
      exact ih (k + 1) _ (by omega) (by omega) (upL hf rfl)
theorem S_c25 {L : Nat} {xs : Fn} {x3 : Int32} {I F G ce cin} {K : KT} (hi : INV I F G ce cin) (hK : ∀ I F G ce cin, INV I F G ce cin → K I F G ce cin) : WL_c25 L xs x3 I F G ce cin K := by
  unfold WL_c25 WX10_undo
  rcases hi.2.1 with ⟨i0, i1⟩ | ⟨i0, i1, w⟩
  · refine br_t i0 ?_
    unfold WX11_undo
    exact br_t i1 (same_K rfl (hK _ _ _ _ _ hi))
  · obtain ⟨R, P, S, O, H, C, N, B, ⟨e1, e2⟩, bd, hT, hR, hZ, hN, hC⟩ := id w
    refine br_f (by rw [i0]; decide) (C_becomes hC.2 fun tape' bank' mill' hung' lev' boa' way' told' cards' h1 h2 h3 h4 => ?_)
    unfold WX11_undo
    refine br_f (by rw [i1]; decide) ?_
    suffices g : ∀ (n k : Nat) (f : Fn), k ≤ 1454 → 1454 < n + k → (∀ i, i < k → f i = F 56 i) → WX11_undo_12 (I 56) (F 56) (fun r19 f_M_s_20 => ((I 11 = r19 → K (va_up (va_up (va_up (va_up (va_up (va_up (va_up (va_up I 1 (I 10)) 2 (I 11)) 3 (I 12)) 4 (I 13)) 5 (I 14)) 6 (I 15)) 7 (I 16)) 8 (I 17)) (va_up (va_up (va_up (va_up (va_up (va_up (va_up (va_up (va_up F 0 tape') 1 bank') 2 mill') 3 hung') 4 lev') 5 boa') 6 way') 8 told') 55 f_M_s_20) (va_up G 0 cards') ce cin) ∧ (¬ (I 11 = r19) → False))) n (nI k) f from ⟨1455, g 1455 0 _ (by omega) (by omega) (fun i h => absurd h (Nat.not_lt_zero i))⟩
    intro n
    induction n with
    | zero => intro k f h1 h2; omega
    | succ n ih =>
      intro k f hk hn hf
      unfold WX11_undo_12
      by_cases c : 1454 ≤ k
      · refine br_t (nI_le (a := 1454) c (by omega)) ?_
        have e5 : f (5 : Int32).toNatClampNeg = F 56 5 := hf 5 (by omega)
        rw [e5]
        refine same_K (e1.2.2.2.2.2.1.trans e2.2.2.2.2.2.1.symm) (hK _ _ _ _ _ ⟨?_, Or.inr ⟨i0, i1, w⟩, hi.2.2⟩)
        exact WR_copy w h1 h2 h3 h4 (fun k hk => hf k (by omega))
      · refine br_f (nI_ge (b := 1454) (by omega) (by decide)) ⟨vp_in_nI (by omega) (by decide), ?_⟩
        rw [nI_clamp (by omega), nI_1]
        rintro _ rfl
        refine ⟨vp_in_nI (by omega) (by decide), ?_⟩
        rintro _ rfl
        exact ih (k + 1) _ (by omega) (by omega) (upL hf rfl)
/-! feed -/
theorem and255 (x : Int32) : ∃ b, b < 256 ∧ x &&& 255 = nI b := by
  obtain ⟨j, hj, e⟩ := pk_andE x (m := 255) 8 rfl
  exact ⟨j, hj, e⟩
theorem feed_byte (w : Int64) (k : Nat) (hk : k < 8) : ((((w.toUInt64 >>> ((8 * nI k).toInt64.toUInt64 &&& Int64.toUInt64 63)).toInt64).toInt32) &&& 255) = (((w >>> ((8 * nI k).toInt64 &&& 63)) &&& 255).toInt32) := by
  sorry
