/-! ===== by hand: image, undo, feed ===== -/
theorem WR_copy {b c n r p u o h : Int32} {tape bank mill hung lev boa way told : Fn} {cards : Nat → Option Nat} {ce : Nat → CT} {cin : Nat → Prop} {s : Fn} (w : WR b c n r p u o h tape bank mill hung lev boa way told cards ce cin s) {tape' bank' mill' hung' lev' boa' way' told' : Fn} {cards' : Nat → Option Nat} {s' : Fn} (h1 : ∀ k, k < 120 → tape' k = tape k) (h2 : ∀ k, k < 3 → bank' k = bank k ∧ mill' k = mill k ∧ hung' k = hung k ∧ lev' k = lev k ∧ boa' k = boa k ∧ way' k = way k) (h3 : ∀ k, k < 10 → told' k = told k) (h4 : ∀ k, k < 8 → cards' k = cards k) (hs : ∀ k, k < 1454 → s' k = s k) : WR b c n r p u o h tape' bank' mill' hung' lev' boa' way' told' cards' ce cin s' := by
  obtain ⟨R, P, S, O, H, C, N, B, ⟨⟨q1, q2, q3, q4, q5, q6, q7, q8⟩, p1, p2, p3, p4, p5, p6, p7, p8⟩, ⟨b1, b2, b3, b4, b5, b6, b7, b8, b9⟩, hT, hR, hZ, hN, hC⟩ := w
  refine ⟨R, P, S, O, H, C, N, B, ⟨⟨q1, q2, q3, q4, q5, q6, q7, q8⟩, (hs 0 (by decide)).trans p1, (hs 1 (by decide)).trans p2, (hs 2 (by decide)).trans p3, (hs 3 (by decide)).trans p4, (hs 4 (by decide)).trans p5, (hs 5 (by decide)).trans p6, (hs 6 (by decide)).trans p7, (hs 7 (by decide)).trans p8⟩, ⟨b1, b2, b3, b4, b5, b6, b7, b8, b9⟩, fun k hk => ?_, fun k hk => ?_, fun k h5 h6 => ?_, fun k hk => ?_, ?_⟩
  · rw [h1 k (by omega), hs _ (by omega)]; exact hT k hk
  · obtain ⟨a1, a2, a3, a4, a5, a6⟩ := h2 k (by omega)
    rw [a1, a2, a3, a4, a5, a6, hs _ (by omega), hs _ (by omega), hs _ (by omega), hs _ (by omega), hs _ (by omega), hs _ (by omega)]
    exact hR k hk
  · rw [hs _ (by omega)]; exact hZ k h5 h6
  · rw [h3 k (by omega), hs _ (by omega)]; exact hN k hk
  · have := okC_frame (s' := s') b7 (fun k _ hk => hs k hk) hC
    refine ⟨fun i hi => ?_, fun i hi => ?_⟩
    · rw [h4 i (by omega)]; exact this.1 i hi
    · rw [h4 i hi]; exact this.2 i hi
theorem uO_s {f : Nat → Option Nat} {k : Nat} {x : Option Nat} : va_up f k x k = x := if_pos rfl
theorem uO_n {f : Nat → Option Nat} {k j : Nat} {x : Option Nat} (h : j ≠ k) : va_up f k x j = f j := if_neg h
theorem uO_L {f g : Nat → Option Nat} {r : Nat} {x : Option Nat} (h : ∀ k, k < r → f k = g k) (e : x = g r) : ∀ k, k < r + 1 → va_up f r x k = g k := by
  intro k hk
  by_cases c : k = r
  · subst c; rw [uO_s]; exact e
  · rw [uO_n c]; exact h k (by omega)
theorem C_becomes {b c n r p u o h b' c' n' r' p' u' o' h' : Int32} {tape bank mill hung lev boa way told tape' bank' mill' hung' lev' boa' way' told' : Fn} {cards cards' : Nat → Option Nat} {ce : Nat → CT} {cin : Nat → Prop} (hc : ∀ i, i < 8 → ∀ y, cards i = some y → cin y) {Q : Int32 → Int32 → Int32 → Fn → Int32 → Int32 → Int32 → Int32 → Fn → Fn → Fn → Int32 → Fn → Fn → Fn → Fn → (Nat → Option Nat) → Prop}
    (hQ : ∀ tape' bank' mill' hung' lev' boa' way' told' cards', (∀ k, k < 120 → tape' k = tape k) → (∀ k, k < 3 → bank' k = bank k ∧ mill' k = mill k ∧ hung' k = hung k ∧ lev' k = lev k ∧ boa' k = boa k ∧ way' k = way k) → (∀ k, k < 10 → told' k = told k) → (∀ k, k < 8 → cards' k = cards k) → Q b c n tape' r p u o bank' mill' hung' h lev' boa' way' told' cards') : WX9_becomes b c n tape b' c' n' tape' r' p' u' o' r p u o bank bank' mill mill' hung hung' h' h lev lev' boa boa' way way' cards told told' cards' ce cin Q := by
  unfold WX9_becomes
  refine C_copy 120 (by decide) fun tape' h1 _ => ?_
  unfold WX3_becomes WX8_becomes
  refine C_copy 3 (by decide) fun bank' h2 _ => C_copy 3 (by decide) fun mill' h3 _ => C_copy 3 (by decide) fun hung' h4 _ => C_copy 3 (by decide) fun lev' h5 _ => C_copy 3 (by decide) fun boa' h6 _ => C_copy 3 (by decide) fun way' h7 _ => ?_
  suffices g : ∀ (m k : Nat) (f : Nat → Option Nat), k ≤ 8 → 8 < m + k → (∀ i, i < k → f i = cards i) → WX9_becomes_32 b c n tape r p u o bank mill hung h lev boa way cards told ce cin Q m (nI k) b c' n' tape' r p u o bank' mill' hung' h lev' boa' way' told' f from ⟨9, g 9 0 cards' (by omega) (by omega) (fun i h => absurd h (Nat.not_lt_zero i))⟩
  intro m
  induction m with
  | zero => intro k f a1 a2; omega
  | succ m ih =>
    intro k f hk hm hf
    unfold WX9_becomes_32
    by_cases q : 8 ≤ k
    · refine br_t (nI_le (a := 8) q (by omega)) ?_
      unfold WX9_becomes_68
      exact C_copy 10 (by decide) fun told' h8 _ => hQ _ _ _ _ _ _ _ _ _ h1 (fun k hk => ⟨h2 k hk, h3 k hk, h4 k hk, h5 k hk, h6 k hk, h7 k hk⟩) h8 (fun i hi => hf i (by omega))
    · refine br_f (nI_ge (b := 8) (by omega) (by decide)) (br_f (nI_ge (b := 8) (by omega) (by decide)) ⟨vp_in_nI (by omega) (by decide), ?_, ?_⟩)
      · rw [nI_clamp (by omega), nI_1]
        intro e
        refine ⟨vp_in_nI (by omega) (by decide), ?_⟩
        rintro _ rfl
        exact ih (k + 1) _ (by omega) (by omega) (uO_L hf e.symm)
      · rw [nI_clamp (by omega), nI_1]
        intro a e
        refine ⟨vp_in_nI (by omega) (by decide), hc k (by omega) a e, ?_⟩
        rintro _ rfl
        exact ih (k + 1) _ (by omega) (by omega) (uO_L hf e.symm)
theorem S_c24 {L : Nat} {xs : Fn} {x3 : Int32} {I F G ce cin} {K : KT} (hi : INV I F G ce cin) (hK : ∀ I F G ce cin, INV I F G ce cin → K I F G ce cin) : WL_c24 L xs x3 I F G ce cin K := by
  have w := hi.1
  obtain ⟨R, P, S, O, H, C, N, B, ⟨e1, e2⟩, bd, hT, hR, hZ, hN, hC⟩ := hi.1
  unfold WL_c24 WX10_image
  refine C_becomes hC.2 fun tape' bank' mill' hung' lev' boa' way' told' cards' h1 h2 h3 h4 => ?_
  unfold WX11_image
  suffices g : ∀ (n k : Nat) (f : Fn), k ≤ 1454 → 1454 < n + k → (∀ i, i < k → f i = F 55 i) → WX11_image_2 (F 55) (fun r20 i_M_hasImage_21 f_M_image_22 => ((I 2 = r20 → K (va_up (va_up (va_up (va_up (va_up (va_up (va_up (va_up (va_up (va_up I 0 1) 10 (I 1)) 11 (I 2)) 12 (I 3)) 13 (I 4)) 14 (I 5)) 15 (I 6)) 16 (I 7)) 17 (I 8)) 56 i_M_hasImage_21) (va_up (va_up (va_up (va_up (va_up (va_up (va_up (va_up (va_up F 9 tape') 10 bank') 11 mill') 12 hung') 13 lev') 14 boa') 15 way') 17 told') 56 f_M_image_22) (va_up G 1 cards') ce cin) ∧ (¬ (I 2 = r20) → False))) n (nI k) (I 56) f from ⟨1455, g 1455 0 _ (by omega) (by omega) (fun i h => absurd h (Nat.not_lt_zero i))⟩
  intro n
  induction n with
  | zero => intro k f h1 h2; omega
  | succ n ih =>
    intro k f hk hn hf
    unfold WX11_image_2
    by_cases c : 1454 ≤ k
    · refine br_t (nI_le (a := 1454) c (by omega)) ?_
      unfold WX11_image_27
      refine same_K (e1.2.2.2.2.2.1.trans e2.2.2.2.2.2.1.symm) (hK _ _ _ _ _ ⟨w, Or.inr ⟨rfl, rfl, ?_⟩, hi.2.2⟩)
      exact WR_copy w h1 h2 h3 h4 (fun k hk => hf k (by omega))
    · refine br_f (nI_ge (b := 1454) (by omega) (by decide)) ⟨vp_in_nI (by omega) (by decide), ?_⟩
      rw [nI_clamp (by omega), nI_1]
      rintro _ rfl
      refine ⟨vp_in_nI (by omega) (by decide), ?_⟩
      rintro _ rfl
      exact ih (k + 1) _ (by omega) (by omega) (upL hf rfl)
theorem S_c25 {L : Nat} {xs : Fn} {x3 : Int32} {I F G ce cin} {K : KT} (hi : INV I F G ce cin) (hK : ∀ I F G ce cin, INV I F G ce cin → K I F G ce cin) : WL_c25 L xs x3 I F G ce cin K := by
  unfold WL_c25 WX10_undo
  rcases hi.2.1 with ⟨i0, i1⟩ | ⟨i0, i1, w⟩
  · refine br_t i0 ?_
    unfold WX11_undo
    exact br_t i1 (same_K rfl (hK _ _ _ _ _ hi))
  · obtain ⟨R, P, S, O, H, C, N, B, ⟨e1, e2⟩, bd, hT, hR, hZ, hN, hC⟩ := id w
    refine br_f (by rw [i0]; decide) (C_becomes hC.2 fun tape' bank' mill' hung' lev' boa' way' told' cards' h1 h2 h3 h4 => ?_)
    unfold WX11_undo
    refine br_f (by rw [i1]; decide) ?_
    suffices g : ∀ (n k : Nat) (f : Fn), k ≤ 1454 → 1454 < n + k → (∀ i, i < k → f i = F 56 i) → WX11_undo_12 (I 56) (F 56) (fun r19 f_M_s_20 => ((I 11 = r19 → K (va_up (va_up (va_up (va_up (va_up (va_up (va_up (va_up I 1 (I 10)) 2 (I 11)) 3 (I 12)) 4 (I 13)) 5 (I 14)) 6 (I 15)) 7 (I 16)) 8 (I 17)) (va_up (va_up (va_up (va_up (va_up (va_up (va_up (va_up (va_up F 0 tape') 1 bank') 2 mill') 3 hung') 4 lev') 5 boa') 6 way') 8 told') 55 f_M_s_20) (va_up G 0 cards') ce cin) ∧ (¬ (I 11 = r19) → False))) n (nI k) f from ⟨1455, g 1455 0 _ (by omega) (by omega) (fun i h => absurd h (Nat.not_lt_zero i))⟩
    intro n
    induction n with
    | zero => intro k f h1 h2; omega
    | succ n ih =>
      intro k f hk hn hf
      unfold WX11_undo_12
      by_cases c : 1454 ≤ k
      · refine br_t (nI_le (a := 1454) c (by omega)) ?_
        have e5 : f (5 : Int32).toNatClampNeg = F 56 5 := hf 5 (by omega)
        rw [e5]
        refine same_K (e1.2.2.2.2.2.1.trans e2.2.2.2.2.2.1.symm) (hK _ _ _ _ _ ⟨?_, Or.inr ⟨i0, i1, w⟩, hi.2.2⟩)
        exact WR_copy w h1 h2 h3 h4 (fun k hk => hf k (by omega))
      · refine br_f (nI_ge (b := 1454) (by omega) (by decide)) ⟨vp_in_nI (by omega) (by decide), ?_⟩
        rw [nI_clamp (by omega), nI_1]
        rintro _ rfl
        refine ⟨vp_in_nI (by omega) (by decide), ?_⟩
        rintro _ rfl
        exact ih (k + 1) _ (by omega) (by omega) (upL hf rfl)
/-! feed -/
theorem and255 (x : Int32) : ∃ b, b < 256 ∧ x &&& 255 = nI b := by
  obtain ⟨j, hj, e⟩ := pk_andE x (m := 255) 8 rfl
  exact ⟨j, hj, e⟩
theorem fb_u : ∀ k, k < 8 → ((8 * nI k).toInt64.toUInt64 &&& Int64.toUInt64 63) = UInt64.ofNat (8 * k) := by decide
theorem fb_s : ∀ k, k < 8 → ((8 * nI k).toInt64 &&& 63) = Int64.ofNat (8 * k) := by decide
theorem fb_u2 : ∀ k, k < 8 → ((UInt64.ofNat (8 * k)).toBitVec % 64).toNat = 8 * k := by decide
theorem fb_s2 : ∀ k, k < 8 → ((Int64.ofNat (8 * k)).toBitVec.smod 64).toNat = 8 * k := by decide
theorem fb_255 : ∀ i, i < 32 → (255 : Int32).toBitVec.getLsbD i = decide (i < 8) := by decide
theorem fb_255L : ∀ i, i < 32 → (255 : Int64).toBitVec.getLsbD i = decide (i < 8) := by decide
theorem fb_s3 : ∀ k, k < 8 → ((8#64 * BitVec.ofNat 64 k).smod 64#64).toNat = 8 * k := by decide
theorem feed_byte (w : Int64) (k : Nat) (hk : k < 8) : ((((w.toUInt64 >>> ((8 * nI k).toInt64.toUInt64 &&& Int64.toUInt64 63)).toInt64).toInt32) &&& 255) = (((w >>> ((8 * nI k).toInt64 &&& 63)) &&& 255).toInt32) := by
  rw [fb_u k hk, fb_s k hk]
  apply Int32.toBitVec_inj.mp
  apply BitVec.eq_of_getLsbD_eq
  intro i hi
  have h1 := fb_255 i hi
  have h2 := fb_255L i hi
  have h3 := fb_u2 k hk
  have h4 := fb_s2 k hk
  simp [h1, h2, h3, h4]
  have e1 : 8 * k % 64 = 8 * k := by omega
  have e2 := fb_s3 k hk
  have e3 := fb_255 i hi
  replace e3 : (255#32).getLsbD i = decide (i < 8) := e3
  rw [e1, e2, e3]
  by_cases c : i < 8
  · have c2 : 8 * k + i < 64 := by omega
    have c3 : i < 64 := by omega
    have c4 : i < 32 := by omega
    rw [BitVec.getLsbD_signExtend, BitVec.getLsbD_signExtend, BitVec.getLsbD_ushiftRight, BitVec.getLsbD_sshiftRight]
    have c5 : ¬ 64 ≤ i := by omega
    simp [c2, c3, c5]
  · simp [c]
theorem C_feed {w : Int64} {x : Int32} {B : Nat} (hB : B ≤ 120) {f : Fn} {Q : Int32 → Int32 → Fn → Prop} (h0 : (x < 1 ∨ 8 < x) → Q (-2) (nI B) f) (h1 : ∀ n, 1 ≤ n → n ≤ 8 → x = nI n → 120 < B + n → Q (-4) (nI B) f) (h2 : ∀ n, 1 ≤ n → n ≤ 8 → x = nI n → B + n ≤ 120 → ∀ f' : Fn, (∀ k, k < B → f' k = f k) → (∀ i, i < n → f' (B + i) = ((w >>> ((8 * nI (n - 1 - i)).toInt64 &&& 63)) &&& 255).toInt32) → Q (nI (B + n)) (nI (B + n)) f') : WX10_feed w x (nI B) f Q := by
  unfold WX10_feed
  by_cases c1 : x < 1
  · exact br_t c1 (h0 (Or.inl c1))
  refine br_f c1 ?_
  by_cases c2 : x ≤ 8
  · obtain ⟨n, hn8, e⟩ := nI_of2 (x := x) (M := 8) (n := 8) rfl (by grind) c2
    have hn1 : 1 ≤ n := by
      rcases Nat.eq_zero_or_pos n with z | z
      · exfalso; apply c1; rw [e, z]; decide
      · exact z
    refine br_t c2 ?_
    subst e
    rw [nI_add]
    by_cases c3 : B + n ≤ 120
    · refine br_t (nI_le (b := 120) c3 (by decide)) ?_
      rw [show nI n - 1 = nI (n - 1) from pk_sub (b := 1) hn1]
      rintro _ rfl
      suffices g : ∀ (m i : Nat) (f' : Fn), i ≤ n → n < m + i → (∀ k, k < B → f' k = f k) → (∀ j, j < i → f' (B + j) = ((w >>> ((8 * nI (n - 1 - j)).toInt64 &&& 63)) &&& 255).toInt32) → ∀ z, z + nI i = nI n - 1 → WX10_feed_36 w Q m z (nI (B + i)) f' by
        refine ⟨10, g 10 0 f (by omega) (by omega) (fun _ _ => rfl) (fun j h => absurd h (Nat.not_lt_zero j)) _ ?_⟩
        rw [show nI n - 1 = nI (n - 1) from pk_sub (b := 1) hn1, nI_add, Nat.add_zero]
      intro m
      induction m with
      | zero => intro i f' h1 h2; omega
      | succ m ih =>
        intro i f' hi hm hf1 hf2 z hz
        unfold WX10_feed_36
        by_cases ci : i = n
        · subst ci
          refine br_t (by grind) ?_
          exact h2 i hn1 hn8 rfl c3 f' hf1 hf2
        · have ez : z = nI (n - 1 - i) := by
            have a1 : nI (n - 1 - i) + nI i = nI (n - 1) := by rw [nI_add]; congr 1; omega
            have a2 : nI n - 1 = nI (n - 1) := pk_sub (b := 1) hn1
            grind
          subst ez
          refine br_f (nI_pos (by omega)) ?_
          unfold WX9_putByte
          refine br_f (nI_pos (by omega)) (br_t (nI_lt (b := 120) (by omega) (by decide)) ⟨vp_in_nI (by omega) (by decide), ?_⟩)
          rw [nI_1, nI_clamp (by omega), feed_byte w (n - 1 - i) (by omega)]
          rintro _ rfl _ rfl
          refine ih (i + 1) _ (by omega) (by omega) (fun k hk => ?_) (fun j hj => ?_) _ ?_
          · rw [pk_un (by omega)]; exact hf1 k hk
          · by_cases cj : j = i
            · subst cj; rw [pk_us]
            · rw [pk_un (by omega)]; exact hf2 j (by omega)
          · rw [← nI_1]; grind
    · exact br_f (nI_ge (a := 120) (by omega) (by omega)) (h1 n hn1 hn8 rfl (by omega))
  · exact br_f c2 (h0 (Or.inr (by grind)))
theorem M_feed {w : Int64} {x : Int32} {B : Nat} (hB : B ≤ 120) {s : Fn} (hs : s 7 = nI B) {Q : Int32 → Fn → Prop} (h0 : (x < 1 ∨ 8 < x) → Q (-2) s) (h1 : ∀ n, 1 ≤ n → n ≤ 8 → x = nI n → 120 < B + n → Q (-4) s) (h2 : ∀ n, 1 ≤ n → n ≤ 8 → x = nI n → B + n ≤ 120 → ∀ s' : Fn, s' 7 = nI (B + n) → (∀ k, k ≠ 7 → ¬ (10 + B ≤ k ∧ k < 10 + B + n) → s' k = s k) → (∀ i, i < n → s' (10 + B + i) = ((w >>> ((8 * nI (n - 1 - i)).toInt64 &&& 63)) &&& 255).toInt32) → Q (nI (B + n)) s') : WX11_feed w x s Q := by
  unfold WX11_feed WX11_in
  have e7 : s (7 : Int32).toNatClampNeg = nI B := hs
  by_cases c1 : x < 1
  · exact br_t c1 (br_t rfl (h0 (Or.inl c1)))
  refine br_f c1 ?_
  by_cases c2 : 8 < x
  · exact br_t c2 (br_t rfl (h0 (Or.inr c2)))
  refine br_f c2 (br_f (by decide) ?_)
  obtain ⟨n, hn8, e⟩ := nI_of2 (x := x) (M := 8) (n := 8) rfl (by grind) (by grind)
  have hn1 : 1 ≤ n := by
    rcases Nat.eq_zero_or_pos n with z | z
    · exfalso; apply c1; rw [e, z]; decide
    · exact z
  subst e
  rw [e7, nI_add]
  by_cases c3 : B + n ≤ 120
  · refine br_t (nI_le (b := 120) c3 (by decide)) ?_
    rintro _ rfl
    suffices g : ∀ (m i : Nat) (s' : Fn), i ≤ n → n < m + i → s' 7 = nI (B + i) → (∀ k, k ≠ 7 → ¬ (10 + B ≤ k ∧ k < 10 + B + i) → s' k = s k) → (∀ j, j < i → s' (10 + B + j) = ((w >>> ((8 * nI (n - 1 - j)).toInt64 &&& 63)) &&& 255).toInt32) → ∀ z, z + nI i = nI n - 1 → WX11_feed_35 w Q m z s' by
      refine ⟨10, g 10 0 s (by omega) (by omega) hs (fun _ _ _ => rfl) (fun j h => absurd h (Nat.not_lt_zero j)) _ ?_⟩
      exact Int32.add_zero _
    intro m
    induction m with
    | zero => intro i f' h1 h2; omega
    | succ m ih =>
      intro i s' hi hm h7 hf1 hf2 z hz
      unfold WX11_feed_35
      have e7' : s' (7 : Int32).toNatClampNeg = nI (B + i) := h7
      rw [e7']
      by_cases ci : i = n
      · subst ci
        refine br_t (by grind) ?_
        exact h2 i hn1 hn8 rfl c3 s' h7 hf1 hf2
      · have ez : z = nI (n - 1 - i) := by
          have a1 : nI (n - 1 - i) + nI i = nI (n - 1) := by rw [nI_add]; congr 1; omega
          have a2 : nI n - 1 = nI (n - 1) := pk_sub (b := 1) hn1
          grind
        subst ez
        refine br_f (nI_pos (by omega)) ?_
        rintro _ rfl
        rw [show (10 : Int32) + nI (B + i) = nI (10 + B + i) by rw [li_10, nI_add]; congr 1; omega, nI_clamp (by omega), show (7 : Int32).toNatClampNeg = 7 from rfl, pk_un (by omega), h7, nI_1]
        refine ⟨vp_in_nI (by omega) (by decide), ?_⟩
        rintro _ rfl _ rfl
        refine ih (i + 1) _ (by omega) (by omega) pk_us (fun k k1 k2 => ?_) (fun j hj => ?_) _ ?_
        · rw [pk_un k1, pk_un (by omega)]; exact hf1 k k1 (by omega)
        · rw [pk_un (by omega)]
          by_cases cj : j = i
          · subst cj; rw [pk_us]
          · rw [pk_un (by omega)]; exact hf2 j (by omega)
        · rw [← nI_1]; grind
  · exact br_f (nI_ge (a := 120) (by omega) (by omega)) (h1 n hn1 hn8 rfl (by omega))
theorem byte_lt (w y : Int64) : ∃ b, b < 256 ∧ ((w >>> y) &&& 255).toInt32 = nI b := by
  have e : ((w >>> y) &&& 255).toInt32 = (w >>> y).toInt32 &&& 255 := by
    apply Int32.toBitVec_inj.mp
    apply BitVec.eq_of_getLsbD_eq
    intro i hi
    have h1 := fb_255 i hi
    have h2 := fb_255L i hi
    simp
  rw [e]; exact and255 _
theorem S_c0 {L : Nat} {xs : Fn} {x3 : Int32} {I F G ce cin} {K : KT} (hi : INV I F G ce cin) (v1 : vp_in (x3 + 1) L) (v2 : vp_in (x3 + 2) L) (v3 : vp_in (x3 + 3) L) (hK : ∀ I F G ce cin, INV I F G ce cin → K I F G ce cin) : WL_c0 L xs x3 I F G ce cin K := by
  obtain ⟨R, P, S, O, H, C, N, B, ⟨⟨q1, q2, q3, q4, q5, q6, q7, q8⟩, p1, p2, p3, p4, p5, p6, p7, p8⟩, bd, hT, hR, hZ, hN, hC⟩ := hi.1
  have hR3 := bd.1
  have hC8 := bd.2.2.2.2.2.2.1
  have hB := bd.2.2.2.2.2.2.2.2
  unfold WL_c0
  generalize ((((xs (x3 + 1).toNatClampNeg).toInt64) <<< ((32 : Int32).toInt64 &&& 63)) ||| (((xs (x3 + 2).toNatClampNeg).toInt64) &&& 4294967295)) = w
  generalize xs (x3 + 3).toNatClampNeg = x
  rw [q8]
  have same : K (va_up I 1 (nI B)) (va_up (va_up F 0 (F 0)) 55 (F 55)) G ce cin := hK _ _ _ _ _ ⟨⟨R, P, S, O, H, C, N, B, ⟨⟨q1, q2, q3, q4, q5, q6, q7, rfl⟩, p1, p2, p3, p4, p5, p6, p7, p8⟩, bd, hT, hR, hZ, hN, hC⟩, hi.2⟩
  have no8 : ∀ n : Nat, 1 ≤ n → n ≤ 8 → x = nI n → (x < 1 ∨ 8 < x) → False := by
    intro n n1 n8 e c
    subst e
    rcases c with h | h
    · exact nI_nlt (b := 1) n1 (by omega) h
    · exact nI_nlt (a := 8) n8 (by decide) h
  refine ⟨v1, v2, v3, C_feed hB (fun c => ⟨v1, v2, v3, ?_⟩) (fun n n1 n8 e c => ⟨v1, v2, v3, ?_⟩) (fun n n1 n8 e c f' f1 f2 => ⟨v1, v2, v3, ?_⟩)⟩
  · exact M_feed hB p8 (fun _ => same_K rfl same) (fun n n1 n8 e _ => (no8 n n1 n8 e c).elim) (fun n n1 n8 e _ => (no8 n n1 n8 e c).elim)
  · refine M_feed hB p8 (fun z => (no8 n n1 n8 e z).elim) (fun _ _ _ _ _ => same_K rfl same) (fun n' _ _ e' z => ?_)
    have := nI_inj (by omega) (by omega) (e'.symm.trans e); omega
  · refine M_feed hB p8 (fun z => (no8 n n1 n8 e z).elim) (fun n' _ _ e' z => ?_) (fun n' _ _ e' _ s' g1 g2 g3 => ?_)
    · have := nI_inj (by omega) (by omega) (e'.symm.trans e); omega
    · have := nI_inj (by omega) (by omega) (e'.symm.trans e)
      subst this
      refine same_K rfl (hK _ _ _ _ _ ⟨⟨R, P, S, O, H, C, N, B + n', ⟨⟨q1, q2, q3, q4, q5, q6, q7, rfl⟩, (g2 0 (by decide) (by omega)).trans p1, (g2 1 (by decide) (by omega)).trans p2, (g2 2 (by decide) (by omega)).trans p3, (g2 3 (by decide) (by omega)).trans p4, (g2 4 (by decide) (by omega)).trans p5, (g2 5 (by decide) (by omega)).trans p6, (g2 6 (by decide) (by omega)).trans p7, g1⟩, ?_, fun k hk => ?_, fun r hr => ?_, fun r h1 h2 => ?_, fun k hk => ?_, okC_frame hC8 (fun k hk _ => g2 k (by omega) (by omega)) hC⟩, hi.2⟩)
      · obtain ⟨b1, b2, b3, b4, b5, b6, b7, b8, b9⟩ := bd
        exact ⟨b1, b2, b3, b4, b5, b6, b7, b8, c⟩
      · show f' k = s' (10 + k) ∧ ∃ b, b < 256 ∧ s' (10 + k) = nI b
        by_cases ck : k < B
        · rw [f1 k ck, g2 _ (by omega) (by omega)]; exact hT k ck
        · obtain ⟨i, rfl⟩ : ∃ i, k = B + i := ⟨k - B, by omega⟩
          rw [f2 i (by omega), ← Nat.add_assoc, g3 i (by omega)]
          exact ⟨rfl, byte_lt _ _⟩
      · show (F 4 r = s' (130 + r) ∧ F 1 r = s' (133 + r) ∧ F 2 r = s' (136 + r) ∧ F 5 r = s' (139 + r) ∧ F 6 r = s' (142 + r) ∧ F 3 r = s' (145 + r)) ∧ (0 ≤ s' (130 + r) ∧ s' (130 + r) ≤ s' (133 + r)) ∧ (0 ≤ s' (133 + r) ∧ s' (133 + r) ≤ 9) ∧ (0 ≤ s' (139 + r) ∧ s' (139 + r) ≤ 3) ∧ (s' (145 + r) = -1 ∨ ∃ c, c < C ∧ s' (145 + r) = nI c)
        rw [g2 _ (by omega) (by omega), g2 _ (by omega) (by omega), g2 _ (by omega) (by omega), g2 _ (by omega) (by omega), g2 _ (by omega) (by omega), g2 _ (by omega) (by omega)]
        exact hR r hr
      · show s' (130 + r) = 0
        rw [g2 _ (by omega) (by omega)]; exact hZ r h1 h2
      · show F 8 k = s' (148 + k) ∧ ∃ b, b < 8 ∧ s' (148 + k) = nI b
        rw [g2 _ (by omega) (by omega)]; exact hN k hk
