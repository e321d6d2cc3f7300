/-! ===== by hand: same ===== -/
noncomputable def saS (good : Nat → Prop) : Nat → Int32
  | 0 => 0
  | k + 1 => @ite Int32 (good k) (Classical.propDecidable _) (saS good k ||| ((1 : Int32) <<< (nI k &&& 31))) (saS good k)
theorem saS_y {good : Nat → Prop} {k : Nat} (h : good k) : saS good (k + 1) = saS good k ||| ((1 : Int32) <<< (nI k &&& 31)) := by rw [saS, if_pos h]
theorem saS_n {good : Nat → Prop} {k : Nat} (h : ¬ good k) : saS good (k + 1) = saS good k := by rw [saS, if_neg h]
def BZ (g0 g1 : Prop) (r : Int32) : Prop := (g0 ∧ g1 ∧ r = 0) ∨ (g0 ∧ ¬ g1 ∧ r = 1) ∨ (¬ g0 ∧ r = -5)
theorem BZ_one {g0 g1 : Prop} {r r' : Int32} (h : BZ g0 g1 r) (h' : BZ g0 g1 r') : r = r' := by
  rcases h with ⟨a, b, c⟩ | ⟨a, b, c⟩ | ⟨a, c⟩ <;> rcases h' with ⟨a', b', c'⟩ | ⟨a', b', c'⟩ | ⟨a', c'⟩
  · rw [c, c']
  · exact absurd b b'
  · exact absurd a a'
  · exact absurd b' b
  · rw [c, c']
  · exact absurd a a'
  · exact absurd a' a
  · exact absurd a' a
  · rw [c, c']
theorem C_hangAll {a : Nat} {tc : Nat → Option Nat} {ce : Nat → CT} {cin : Nat → Prop} {Q : (Nat → Option Nat) → Prop} (ha : cin a) (hQ : ∀ tc' : Nat → Option Nat, (∀ r, r < 3 → tc' r = some a) → Q tc') : WX7_hangAll (some a) tc ce cin Q := by
  refine ⟨fun z => (by cases z), fun b e => ?_⟩
  obtain rfl := Option.some.inj e
  suffices g : ∀ (n i : Nat) (t : Nat → Option Nat), i ≤ 3 → 3 < n + i → (∀ r, r < i → t r = some a) → WX7_hangAll_2_2 ce cin Q n a (nI i) t from ⟨4, g 4 0 tc (by decide) (by decide) (fun r h => absurd h (Nat.not_lt_zero r))⟩
  intro n
  induction n with
  | zero => intro i t h1 h2; omega
  | succ n ih =>
    intro i t hi hn ht
    unfold WX7_hangAll_2_2
    by_cases c3 : 3 ≤ i
    · exact br_t (nI_le (a := 3) c3 (by omega)) (hQ t (fun r hr => ht r (by omega)))
    · refine br_f (nI_ge (b := 3) (by omega) (by decide)) ⟨vp_in_nI (by omega) (by decide), ha, ?_⟩
      rintro _ rfl
      rw [nI_1, nI_clamp (n := i) (by omega)]
      refine ih (i + 1) _ (by omega) (by omega) (fun r hr => ?_)
      by_cases cr : r = i
      · subst cr; exact if_pos rfl
      · exact (if_neg cr).trans (ht r (by omega))
set_option maxHeartbeats 4000000 in
theorem M_same0 {s : Fn} {R C : Nat} {good : Nat → Prop} {x ll : Int32} (hx1 : ¬ x < 0) (hx2 : x ≤ 1) (hx3 : ¬ x = 1) (p1 : s 0 = nI R) (z : 1 ≤ R) (b1 : R ≤ 3) (p6 : s 5 = nI C) (b7 : C ≤ 8)
    (hh : ∀ k, k < C → ∀ s' : Fn, (∀ q, ¬ (145 ≤ q ∧ q < 148) → s' q = s q) → (∀ r, r < R → s' (145 + r) = nI k) → ∀ (Q : Int32 → Int32 → Int32 → Int32 → Int32 → Int32 → Fn → Fn → Fn → Fn → Fn → Prop), (∀ h o d fh fr lv bo wy nx tr, good k → Q 1 h o d fh fr lv bo wy nx tr) → (∀ h o d fh fr lv bo wy nx tr, ¬ good k → Q 0 h o d fh fr lv bo wy nx tr) → ∀ h o d fh fr lv bo wy nx tr, WX11_areHolding h 0 (-1) ll 0 0 o d fh fr s' lv bo wy nx tr Q)
    {Q : Int32 → Int32 → Int32 → Int32 → Int32 → Int32 → Int32 → Fn → Fn → Fn → Fn → Fn → Fn → Fn → Prop} (hQ : ∀ a1 a3 a4 a5 a6 f2 f3 f4 f5 f6 f7, Q (saS good C) a1 0 a3 a4 a5 a6 s f2 f3 f4 f5 f6 f7) :
    ∀ h o d fh fr kh lv bo wy nx tr, WX11_same x h 0 (-1) ll 0 0 o d fh fr s kh lv bo wy nx tr Q := by
  have f165 : ∀ (n r : Nat) (s' : Fn) (x2 h o d fh fr : Int32) (kh lv bo wy nx tr : Fn), r ≤ 3 → 3 < n + r → (∀ q, ¬ (145 ≤ q ∧ q < 148) → s' q = s q) → (∀ j, j < r → s' (145 + j) = s (145 + j)) → (∀ j, j < 3 → kh j = s (145 + j)) → x2 = saS good C → WX11_same_165 0 (-1) ll 0 Q n x2 (nI r) h 0 o d fh fr s' kh lv bo wy nx tr := by
    intro n
    induction n with
    | zero => intro r s' x2 h o d fh fr kh lv bo wy nx tr h1 h2; omega
    | succ n ih =>
      intro r s' x2 h o d fh fr kh lv bo wy nx tr h1 h2 hA hB hkb e2
      unfold WX11_same_165
      by_cases c3 : 3 ≤ r
      · refine br_t (nI_le (a := 3) c3 (by omega)) ?_
        have es : s' = s := by
          funext q
          by_cases c : 145 ≤ q ∧ q < 148
          · have := hB (q - 145) (by omega)
            rwa [show 145 + (q - 145) = q by omega] at this
          · exact hA q c
        rw [es, e2]
        exact hQ _ _ _ _ _ _ _ _ _ _ _
      · refine br_f (nI_ge (b := 3) (by omega) (by decide)) ⟨vp_in_nI (by omega) (by decide), ?_⟩
        rintro _ rfl
        rw [show (145 : Int32) + nI r = nI (145 + r) by rw [← nI_add]; rfl, nI_clamp (n := 145 + r) (by omega), nI_clamp (n := r) (by omega), nI_1]
        refine ⟨vp_in_nI (by omega) (by decide), ?_⟩
        rintro _ rfl
        refine ih (r + 1) _ _ _ _ _ _ _ _ _ _ _ _ _ (by omega) (by omega) (fun q hq => ?_) (fun j hj => ?_) hkb e2
        · rw [pk_un (by omega)]; exact hA q hq
        · by_cases cj : j = r
          · subst cj; rw [pk_us]; exact hkb j (by omega)
          · rw [pk_un (by omega)]; exact hB j (by omega)
  have f98 : ∀ (n k : Nat) (s' : Fn) (x2 h o d fh fr : Int32) (kh lv bo wy nx tr : Fn), k ≤ C → C < n + k → (∀ q, ¬ (145 ≤ q ∧ q < 148) → s' q = s q) → (∀ j, R ≤ j → j < 3 → s' (145 + j) = s (145 + j)) → (∀ j, j < 3 → kh j = s (145 + j)) → x2 = saS good k → WX11_same_98 0 (-1) ll 0 Q n x2 (nI k) h 0 o d fh fr s' kh lv bo wy nx tr := by
    intro n
    induction n with
    | zero => intro k s' x2 h o d fh fr kh lv bo wy nx tr h1 h2; omega
    | succ n ih =>
      intro k s' x2 h o d fh fr kh lv bo wy nx tr hk4 hn hA hB hkb e2
      unfold WX11_same_98
      rw [show s' (5 : Int32).toNatClampNeg = nI C from (hA 5 (by omega)).trans p6]
      by_cases ck : C ≤ k
      · have e : k = C := by omega
        refine br_t (nI_le ck (by omega)) ?_
        rw [e] at e2
        unfold WX11_same_163
        exact ⟨4, f165 4 0 _ _ _ _ _ _ _ _ _ _ _ _ _ (by decide) (by decide) hA (fun j h => absurd h (Nat.not_lt_zero j)) hkb e2⟩
      · refine br_f (nI_ge (by omega) (by omega)) ?_
        have hk7 : k < C := by omega
        suffices g : ∀ (m r : Nat) (s' : Fn), r ≤ R → R < m + r → (∀ q, ¬ (145 ≤ q ∧ q < 148) → s' q = s q) → (∀ j, R ≤ j → j < 3 → s' (145 + j) = s (145 + j)) → (∀ j, j < r → s' (145 + j) = nI k) → WX11_same_111 0 (-1) ll 0 Q (WX11_same_98 0 (-1) ll 0 Q n) m x2 (nI k) (nI r) h 0 o d fh fr s' kh lv bo wy nx tr from ⟨5, g 5 0 s' (by omega) (by omega) hA hB (fun j h => absurd h (Nat.not_lt_zero j))⟩
        intro m
        induction m with
        | zero => intro r s' h1 h2; omega
        | succ m ih2 =>
          intro r s' hr hm hA hB hC
          unfold WX11_same_111
          rw [show s' (0 : Int32).toNatClampNeg = nI R from (hA 0 (by omega)).trans p1]
          by_cases cr : R ≤ r
          · refine br_t (nI_le cr (by omega)) ?_
            unfold WX11_same_140
            have f155 : ∀ (s1 h o d fh fr : Int32) (lv bo wy nx tr : Fn), x2 ||| s1 = saS good (k + 1) → WX11_same_155 0 (-1) ll 0 (nI k) x2 s1 h 0 o d fh fr s' kh lv bo wy nx tr Q (WX11_same_98 0 (-1) ll 0 Q n) := by
              intro s1 h o d fh fr lv bo wy nx tr e2
              unfold WX11_same_155
              rintro _ rfl _ rfl
              rw [nI_1, e2]
              exact ih (k + 1) _ _ _ _ _ _ _ _ _ _ _ _ _ (by omega) (by omega) hA hB hkb rfl
            refine hh k hk7 s' hA (fun j hj => hC j (by omega)) _ (fun h o d fh fr lv bo wy nx tr gd => br_f (by decide) (f155 _ _ _ _ _ _ _ _ _ _ _ ?_)) (fun h o d fh fr lv bo wy nx tr gd => br_t rfl (f155 _ _ _ _ _ _ _ _ _ _ _ ?_)) _ _ _ _ _ _ _ _ _ _
            · rw [saS_y gd, e2]
            · rw [saS_n gd, e2, Int32.or_zero]
          · refine br_f (nI_ge (by omega) (by omega)) ?_
            rw [show (145 : Int32) + nI r = nI (145 + r) by rw [← nI_add]; rfl, nI_clamp (n := 145 + r) (by omega), nI_1]
            refine ⟨vp_in_nI (by omega) (by decide), ?_⟩
            rintro _ rfl
            refine ih2 (r + 1) _ (by omega) (by omega) (fun q hq => ?_) (fun j h1 h2 => ?_) (fun j hj => ?_)
            · rw [pk_un (by omega)]; exact hA q hq
            · rw [pk_un (by omega)]; exact hB j h1 h2
            · by_cases cj : j = r
              · subst cj; rw [pk_us]
              · rw [pk_un (by omega)]; exact hC j (by omega)
  intro h o d fh fr kh lv bo wy nx tr
  unfold WX11_same WX11_in
  refine br_f hx1 (br_f (by grind) (br_f (by decide) (M_isRiver p1 b1 (fun z2 => absurd z2 (by omega)) (fun _ => br_f (by decide) (br_f hx3 ?_)))))
  suffices g : ∀ (n r : Nat) (kh : Fn), r ≤ 3 → 3 < n + r → (∀ j, j < r → kh j = s (145 + j)) → WX11_same_67 0 (-1) ll 0 Q n (nI r) h 0 o d fh fr s kh lv bo wy nx tr from ⟨4, g 4 0 kh (by decide) (by decide) (fun j h => absurd h (Nat.not_lt_zero j))⟩
  intro n
  induction n with
  | zero => intro r kh h1 h2; omega
  | succ n ih =>
    intro r kh h1 h2 hkb
    unfold WX11_same_67
    by_cases c3 : 3 ≤ r
    · refine br_t (nI_le (a := 3) c3 (by omega)) ?_
      unfold WX11_same_94
      exact ⟨9, f98 9 0 s _ _ _ _ _ _ kh _ _ _ _ _ (Nat.zero_le _) (by omega) (fun q _ => rfl) (fun j _ _ => rfl) (fun j hj => hkb j (by omega)) rfl⟩
    · refine br_f (nI_ge (b := 3) (by omega) (by decide)) ?_
      rw [show (145 : Int32) + nI r = nI (145 + r) by rw [← nI_add]; rfl, nI_clamp (n := 145 + r) (by omega), nI_clamp (n := r) (by omega), nI_1]
      refine ⟨vp_in_nI (by omega) (by decide), ?_⟩
      rintro _ rfl
      refine ⟨vp_in_nI (by omega) (by decide), ?_⟩
      rintro _ rfl
      refine ih (r + 1) _ (by omega) (by omega) (fun j hj => ?_)
      by_cases cj : j = r
      · subst cj; rw [pk_us]
      · rw [pk_un cj]; exact hkb j (by omega)
set_option maxHeartbeats 4000000 in
theorem M_bell {s : Fn} {R : Nat} {g0 g1 : Prop} {ll : Int32} (p1 : s 0 = nI R) (z : 1 ≤ R) (b1 : R ≤ 3)
    (hh0 : ∀ (Q : Int32 → Int32 → Int32 → Int32 → Int32 → Int32 → Fn → Fn → Fn → Fn → Fn → Prop), (∀ h o d fh fr lv bo wy nx tr, g0 → Q 1 h o d fh fr lv bo wy nx tr) → (∀ h o d fh fr lv bo wy nx tr, ¬ g0 → Q 0 h o d fh fr lv bo wy nx tr) → ∀ h o d fh fr lv bo wy nx tr, WX11_areHolding h 0 (-1) ll 0 0 o d fh fr s lv bo wy nx tr Q)
    (hh1 : ∀ (Q : Int32 → Int32 → Int32 → Int32 → Int32 → Int32 → Fn → Fn → Fn → Fn → Fn → Prop), (∀ h o d fh fr lv bo wy nx tr, g1 → Q 1 h o d fh fr lv bo wy nx tr) → (∀ h o d fh fr lv bo wy nx tr, ¬ g1 → Q 0 h o d fh fr lv bo wy nx tr) → ∀ h o d fh fr lv bo wy nx tr, WX11_areHolding h 0 (-1) ll 1 0 o d fh fr s lv bo wy nx tr Q)
    {Q : Int32 → Int32 → Int32 → Int32 → Int32 → Int32 → Int32 → Fn → Fn → Fn → Fn → Fn → Fn → Fn → Prop} (hQ : ∀ r a1 a3 a4 a5 a6 f2 f3 f4 f5 f6 f7, BZ g0 g1 r → Q r a1 0 a3 a4 a5 a6 s f2 f3 f4 f5 f6 f7) :
    ∀ h o d fh fr kh lv bo wy nx tr, WX11_same 1 h 0 (-1) ll 0 0 o d fh fr s kh lv bo wy nx tr Q := by
  intro h o d fh fr kh lv bo wy nx tr
  unfold WX11_same WX11_in
  refine br_f (by decide) (br_f (by decide) (br_f (by decide) (M_isRiver p1 b1 (fun z2 => absurd z2 (by omega)) (fun _ => br_f (by decide) (br_t rfl ?_)))))
  refine hh0 _ (fun h o d fh fr lv bo wy nx tr gd => ?_) (fun h o d fh fr lv bo wy nx tr gd => ?_) _ _ _ _ _ _ _ _ _ _
  · refine hh1 _ (fun h o d fh fr lv bo wy nx tr gd1 => ?_) (fun h o d fh fr lv bo wy nx tr gd1 => ?_) _ _ _ _ _ _ _ _ _ _
    · exact br_f (by decide) (br_f (by decide) (hQ _ _ _ _ _ _ _ _ _ _ _ _ (Or.inl ⟨gd, gd1, rfl⟩)))
    · exact br_f (by decide) (br_t rfl (hQ _ _ _ _ _ _ _ _ _ _ _ _ (Or.inr (Or.inl ⟨gd, gd1, rfl⟩))))
  · refine hh1 _ (fun h o d fh fr lv bo wy nx tr gd1 => ?_) (fun h o d fh fr lv bo wy nx tr gd1 => ?_) _ _ _ _ _ _ _ _ _ _
    · exact br_t rfl (hQ _ _ _ _ _ _ _ _ _ _ _ _ (Or.inr (Or.inr ⟨gd, rfl⟩)))
    · exact br_t rfl (hQ _ _ _ _ _ _ _ _ _ _ _ _ (Or.inr (Or.inr ⟨gd, rfl⟩)))
set_option maxHeartbeats 4000000 in
theorem C_same0 {R P S H C : Nat} {I : Nat → Int32} {F : Nat → Fn} {G : Nat → Nat → Option Nat} {ce : Nat → CT} {cin : Nat → Prop} {ad : Nat → Nat} {good : Nat → Prop} (b7 : C ≤ 8) (had : ∀ q, q < C → G 0 q = some (ad q) ∧ cin (ad q)) {tb tm th tl to tw sl sb sw : Fn}
    (hh : ∀ k, k < C → ∀ (tc : Nat → Option Nat), (∀ r, r < 3 → tc r = some (ad k)) → ∀ (Q : Int32 → Int32 → Int32 → Int32 → Int32 → Int32 → Int32 → Int32 → Fn → Fn → Fn → Fn → Int32 → Int32 → Fn → Fn → Fn → Fn → Int32 → Int32 → Fn → Fn → Fn → Fn → Prop), (∀ fh nh rb s1 s2 s3 s4 b p l w nh2 rb2 bb2 pp2 ll2 ww2 nh3 rb3 bb3 pp3 ll3 ww3, good k → Q 1 fh nh rb s1 s2 s3 s4 b p l w nh2 rb2 bb2 pp2 ll2 ww2 nh3 rb3 bb3 pp3 ll3 ww3) → (∀ fh nh rb s1 s2 s3 s4 b p l w nh2 rb2 bb2 pp2 ll2 ww2 nh3 rb3 bb3 pp3 ll3 ww3, ¬ good k → Q 0 fh nh rb s1 s2 s3 s4 b p l w nh2 rb2 bb2 pp2 ll2 ww2 nh3 rb3 bb3 pp3 ll3 ww3) → ∀ fh nh rb s1 s2 s3 s4 b p l w nh2 rb2 bb2 pp2 ll2 ww2 nh3 rb3 bb3 pp3 ll3 ww3, WX7_isSafe 0 0 fh (nI R) (nI P) (nI S) (nI H) nh rb s1 s2 s3 s4 sb tc sl b p sw tb l w nh2 rb2 bb2 pp2 ll2 ww2 nh3 rb3 bb3 pp3 ll3 ww3 ce cin Q)
    {Q : Int32 → Int32 → Int32 → Int32 → Int32 → Int32 → Int32 → Int32 → Fn → Fn → Fn → Int32 → Fn → Fn → Fn → Int32 → Fn → Fn → Fn → (Nat → Option Nat) → Int32 → Int32 → Int32 → Int32 → Int32 → Int32 → Fn → Fn → Fn → Fn → Int32 → Int32 → Fn → Fn → Fn → Fn → Int32 → Int32 → Fn → Fn → Fn → Fn → Prop} (hQ : ∀ tc fh nh rb s1 s2 s3 s4 b p l w nh2 rb2 bb2 pp2 ll2 ww2 nh3 rb3 bb3 pp3 ll3 ww3, Q (saS good C) 0 0 fh (nI R) (nI P) (nI S) (I 7) tb tm th (nI H) tl to tw (nI H) sl sb sw tc nh rb s1 s2 s3 s4 b p l w nh2 rb2 bb2 pp2 ll2 ww2 nh3 rb3 bb3 pp3 ll3 ww3) :
    ∀ tc fh nh rb s1 s2 s3 s4 b p l w nh2 rb2 bb2 pp2 ll2 ww2 nh3 rb3 bb3 pp3 ll3 ww3, ∃ n, WX10_same_78 (nI C) (nI R) (nI P) (nI S) (I 7) (F 1) (F 2) (F 3) (nI H) (F 4) (F 5) (F 6) (G 0) ce cin Q n 0 0 0 0 fh (nI R) (nI P) (nI S) (I 7) tb tm th (nI H) tl to tw (nI H) sl sb sw tc nh rb s1 s2 s3 s4 b p l w nh2 rb2 bb2 pp2 ll2 ww2 nh3 rb3 bb3 pp3 ll3 ww3 := by
  intro tc fh nh rb s1 s2 s3 s4 b p l w nh2 rb2 bb2 pp2 ll2 ww2 nh3 rb3 bb3 pp3 ll3 ww3
  suffices g : ∀ (n k : Nat) (x2 : Int32) (tc : Nat → Option Nat) (fh nh rb s1 s2 s3 s4 : Int32) (b p l w : Fn) (nh2 rb2 : Int32) (bb2 pp2 ll2 ww2 : Fn) (nh3 rb3 : Int32) (bb3 pp3 ll3 ww3 : Fn), k ≤ C → C < n + k → x2 = saS good k → WX10_same_78 (nI C) (nI R) (nI P) (nI S) (I 7) (F 1) (F 2) (F 3) (nI H) (F 4) (F 5) (F 6) (G 0) ce cin Q n x2 (nI k) 0 0 fh (nI R) (nI P) (nI S) (I 7) tb tm th (nI H) tl to tw (nI H) sl sb sw tc nh rb s1 s2 s3 s4 b p l w nh2 rb2 bb2 pp2 ll2 ww2 nh3 rb3 bb3 pp3 ll3 ww3 from
    ⟨9, g 9 0 _ _ _ _ _ _ _ _ _ _ _ _ _ _ _ _ _ _ _ _ _ _ _ _ _ (Nat.zero_le _) (by omega) rfl⟩
  intro n
  induction n with
  | zero => intro k x2 tc fh nh rb s1 s2 s3 s4 b p l w nh2 rb2 bb2 pp2 ll2 ww2 nh3 rb3 bb3 pp3 ll3 ww3 h1 h2; omega
  | succ n ih =>
    intro k x2 tc fh nh rb s1 s2 s3 s4 b p l w nh2 rb2 bb2 pp2 ll2 ww2 nh3 rb3 bb3 pp3 ll3 ww3 hk hn e2
    unfold WX10_same_78
    by_cases ck : C ≤ k
    · have e : k = C := by omega
      refine br_t (nI_le ck (by omega)) ?_
      rw [e2, e]; exact hQ tc fh nh rb s1 s2 s3 s4 b p l w nh2 rb2 bb2 pp2 ll2 ww2 nh3 rb3 bb3 pp3 ll3 ww3
    · have hk7 : k < C := by omega
      refine br_f (nI_ge (by omega) (by omega)) (C_cardOf b7 (fun w => (no_reach (by omega) hk7 rfl w).elim) (fun j hj e => ?_))
      obtain rfl : k = j := nI_inj (by omega) (by omega) e
      rw [(had k hj).1]
      have f120 : ∀ (x2 : Int32) (tc : Nat → Option Nat) (fh nh rb s1 s2 s3 s4 : Int32) (b p l w : Fn) (nh2 rb2 : Int32) (bb2 pp2 ll2 ww2 : Fn) (nh3 rb3 : Int32) (bb3 pp3 ll3 ww3 : Fn), x2 = saS good (k + 1) → WX10_same_120 (nI C) (nI R) (nI P) (nI S) (I 7) (F 1) (F 2) (F 3) (nI H) (F 4) (F 5) (F 6) (G 0) ce cin x2 (nI k) 0 0 fh (nI R) (nI P) (nI S) (I 7) tb tm th (nI H) tl to tw (nI H) sl sb sw tc nh rb s1 s2 s3 s4 b p l w nh2 rb2 bb2 pp2 ll2 ww2 nh3 rb3 bb3 pp3 ll3 ww3 Q (WX10_same_78 (nI C) (nI R) (nI P) (nI S) (I 7) (F 1) (F 2) (F 3) (nI H) (F 4) (F 5) (F 6) (G 0) ce cin Q n) := by
        intro x2 tc fh nh rb s1 s2 s3 s4 b p l w nh2 rb2 bb2 pp2 ll2 ww2 nh3 rb3 bb3 pp3 ll3 ww3 e2
        unfold WX10_same_120
        rintro _ rfl
        rw [nI_1]
        exact ih (k + 1) _ _ _ _ _ _ _ _ _ _ _ _ _ _ _ _ _ _ _ _ _ _ _ _ _ (by omega) (by omega) e2
      refine C_hangAll (had k hj).2 (fun tc' htc => hh k hj tc' htc _ (fun fh nh rb s1 s2 s3 s4 b p l w nh2 rb2 bb2 pp2 ll2 ww2 nh3 rb3 bb3 pp3 ll3 ww3 gd => br_f (by decide) ?_) (fun fh nh rb s1 s2 s3 s4 b p l w nh2 rb2 bb2 pp2 ll2 ww2 nh3 rb3 bb3 pp3 ll3 ww3 gd => br_t rfl (f120 _ _ _ _ _ _ _ _ _ _ _ _ _ _ _ _ _ _ _ _ _ _ _ _ _ (by rw [saS_n gd]; exact e2))) _ _ _ _ _ _ _ _ _ _ _ _ _ _ _ _ _ _ _ _ _ _ _)
      rintro _ rfl
      exact f120 _ _ _ _ _ _ _ _ _ _ _ _ _ _ _ _ _ _ _ _ _ _ _ _ _ (by rw [saS_y gd, e2])
set_option maxHeartbeats 4000000 in
theorem S_c20 {L : Nat} {xs : Fn} {x3 : Int32} {I F G ce cin} {K : KT} (hi : INV I F G ce cin) (v1 : vp_in (x3 + 1) L) (hK : ∀ I F G ce cin, INV I F G ce cin → K I F G ce cin) : WL_c20 L xs x3 I F G ce cin K := by
  obtain ⟨R, P, S, O, H, C, N, V, ad, ⟨q1, q2, q3, q4, q5, q6, q7⟩, ⟨p1, p2, p3, p4, p5, p6, p7⟩, ⟨b1, b2, b3, b4, b5, b6, b7, b8⟩, hR, hZ, hN, hV, hH⟩ := NOW hi.1
  obtain ⟨m1, m2, m3, m4⟩ := hi.2.2.1
  unfold WL_c20 WX10_same
  generalize xs (x3 + 1).toNatClampNeg = x
  rw [q1, q2, q3, q5, q6]
  refine ⟨v1, ?_⟩
  have hT : ∀ r, r < R → F 3 r = -1 ∨ ∃ c, c < C ∧ F 3 r = nI c := fun r hr => by rw [(hR r hr).1.2.2.2.2.2]; exact (hR r hr).2.2.2.2
  have hT' : ∀ r, r < R → F 55 (145 + r) = -1 ∨ ∃ c, c < C ∧ F 55 (145 + r) = nI c := fun r hr => (hR r hr).2.2.2.2
  have had : ∀ q, q < C → cin (ad q) ∧ ct_number (ce (ad q)) = nI q := fun q hq => ⟨(hV q hq).2.1, (hV q hq).2.2.2.2.2.2⟩
  have hVc : ∀ q, q < C → cin (ad q) ∧ picC (V q) (ce (ad q)) := fun q hq => ⟨(hV q hq).2.1, (hV q hq).2.2.2.2.2.1⟩
  have hok : 1 ≤ R → ∀ W, okH R C (fun r => F 55 (145 + r)) W → okR (rvM (F 55) R 0 0 false (fun r => F 55 (145 + r)) W) := fun z W hW => rvM_ok z b1 b7 (fun r hr => (hR r hr).2.2.1) (by decide) hW
  have hσ : ∀ W, okS (rvM (F 55) R 0 0 false (fun r => F 55 (145 + r)) W) (stM (F 55) H) 900 := fun W => stM_ok rfl b6 hR
  have hbk : ∀ (tb tm : Fn) (W : Nat → CV), (∀ k, k < 3 → tb k = F 1 k ∧ tm k = F 2 k) → ∀ r, r < R → tb r = rB (rvM (F 55) R 0 0 false (fun r => F 55 (145 + r)) W) r := fun tb tm W g1 r hr => by rw [(g1 r (by omega)).1, (hR r hr).1.2.1, rB_0 (hR r hr).2.2.1.2]
  have hu : ((0 : Int32) = 0 ↔ false = false) := ⟨fun _ => rfl, fun _ => rfl⟩
  by_cases d1 : x < 0
  · refine br_t d1 ⟨v1, ?_⟩
    unfold WX11_same WX11_in
    exact br_t d1 (br_t rfl (same_K rfl (hK _ _ _ _ _ hi)))
  refine br_f d1 ?_
  by_cases d2 : x ≤ 1
  · refine br_t d2 (C_isRiver b1 (fun z => br_t rfl ⟨v1, ?_⟩) (fun z => br_f (by decide) ?_))
    · unfold WX11_same WX11_in
      exact br_f d1 (br_f (by grind) (br_f (by decide) (M_isRiver p1 b1 (fun _ => br_t rfl (same_K rfl (hK _ _ _ _ _ hi))) (fun z2 => absurd z2 (by omega)))))
    rw [m1, m2, m3, m4]
    refine C_begin b1 b7 hT (fun c hc => ⟨ad c, (hV c hc).1, (hV c hc).2.1⟩) (fun tb tm th tl to tw sl sb sw tc g1 g2 g3 g4 => ?_) _ _ _ _ _ _ _ _ _ _ _ _ _ _ _ _ _ _
    have g3' : ∀ r, r < R → (F 55 (145 + r) = -1 → tc r = none) ∧ ∀ q, q < C → F 55 (145 + r) = nI q → tc r = some (ad q) := fun r hr => by
      obtain ⟨k1, k2⟩ := g3 r hr
      have e := (hR r hr).1.2.2.2.2.2
      exact ⟨fun h => k1 (e.trans h), fun q hq h => (k2 q hq (e.trans h)).trans (hV q hq).1⟩
    have w1 : ∀ r, r < R → sl r = F 55 (130 + r) := fun r hr => (g2 r (Nat.lt_of_lt_of_le hr b1)).1.trans (hR r hr).1.1
    have w2 : ∀ r, r < R → sb r = F 55 (139 + r) := fun r hr => (g2 r (Nat.lt_of_lt_of_le hr b1)).2.1.trans (hR r hr).1.2.2.2.1
    have w3 : ∀ r, r < R → sw r = F 55 (142 + r) := fun r hr => (g2 r (Nat.lt_of_lt_of_le hr b1)).2.2.trans (hR r hr).1.2.2.2.2.1
    refine br_c (fun c => ?_) (fun c => ?_)
    · subst c
      obtain ⟨g0, eg0⟩ : ∃ g0 : Prop, g0 = Safe (rvM (F 55) R 0 0 false (fun r => F 55 (145 + r)) V) P (stM (F 55) H) S := ⟨_, rfl⟩
      obtain ⟨g1', eg1⟩ : ∃ g1' : Prop, g1' = Safe (rvM (F 55) R 0 0 true (fun r => F 55 (145 + r)) V) P (stM (F 55) H) S := ⟨_, rfl⟩
      have hok1 : okR (rvM (F 55) R 0 0 true (fun r => F 55 (145 + r)) V) := rvM_ok z b1 b7 (fun r hr => (hR r hr).2.2.1) (by decide) hH
      have hσ1 : okS (rvM (F 55) R 0 0 true (fun r => F 55 (145 + r)) V) (stM (F 55) H) 900 := stM_ok rfl b6 hR
      have mo : ∀ (Q : Int32 → Int32 → Int32 → Int32 → Int32 → Int32 → Int32 → Fn → Fn → Fn → Fn → Fn → Fn → Fn → Prop), (∀ r a1 a3 a4 a5 a6 f2 f3 f4 f5 f6 f7, BZ g0 g1' r → Q r a1 0 a3 a4 a5 a6 (F 55) f2 f3 f4 f5 f6 f7) → WX11_same 1 (I 66) 0 (-1) (I 69) 0 0 (I 72) (I 73) (I 74) (I 75) (F 55) (F 66) (F 60) (F 61) (F 62) (F 63) (F 64) Q := by
        intro Q hQ
        refine M_bell (g0 := g0) (g1 := g1') p1 z b1 (fun Q hq1 hq0 h o d fh fr lv bo wy nx tr => ?_) (fun Q hq1 hq0 h o d fh fr lv bo wy nx tr => ?_) hQ _ _ _ _ _ _ _ _ _ _ _
        · refine M_hold (MWr_of p1 b1 b7 hu hH (fun c hc => ⟨(hV c hc).2.2.1, left0 (by omega) (hV c hc).2.2.2.2.1⟩)) (hok z _ hH) (hσ _) (stM_MS p5) p3 (by omega) p2 b2 (fun r' a1 a2 a3 a4 a5 f1 f2 f3 f4 f5 hr' => ?_) _ _ _ _ _ _ _ _ _ _
          subst eg0
          rcases hr' with ⟨rfl, -, hs⟩ | ⟨rfl, n, row, hf, -⟩
          · exact hq1 _ _ _ _ _ _ _ _ _ _ hs
          · exact hq0 _ _ _ _ _ _ _ _ _ _ (fun hs => Fst_safe hf hs)
        · refine M_hold (MWr_of (m := true) p1 b1 b7 ⟨fun w => absurd w (by decide), fun w => absurd w (by decide)⟩ hH (fun c hc => ⟨(hV c hc).2.2.1, left0 (by omega) (hV c hc).2.2.2.2.1⟩)) hok1 hσ1 (stM_MS p5) p3 (by omega) p2 b2 (fun r' a1 a2 a3 a4 a5 f1 f2 f3 f4 f5 hr' => ?_) _ _ _ _ _ _ _ _ _ _
          subst eg1
          rcases hr' with ⟨rfl, -, hs⟩ | ⟨rfl, n, row, hf, -⟩
          · exact hq1 _ _ _ _ _ _ _ _ _ _ hs
          · exact hq0 _ _ _ _ _ _ _ _ _ _ (fun hs => Fst_safe hf hs)
      have hu1 : ((1 : Int32) = 0 ↔ true = false) := ⟨fun w => absurd w (by decide), fun w => absurd w (by decide)⟩
      have hck : ∀ m, CKr (rvM (F 55) R 0 0 m (fun r => F 55 (145 + r)) V) 0 tc ce cin := fun m => CKr_of b1 b7 hH (fun r hr => ⟨(g3' r hr).1, fun q hq h => ⟨ad q, (g3' r hr).2 q hq h, hVc q hq⟩⟩)
      refine C_isSafe (rvM (F 55) R 0 0 false (fun r => F 55 (145 + r)) V) (hok z _ hH) hu (hbk tb tm V g1) (hck _) (stM (F 55) H) P S (hσ _) (b3 z) b2 (by omega) w1 w2 w3 (fun r fh nh rb s1 s2 s3 s4 b p l w nh2 rb2 bb2 pp2 ll2 ww2 nh3 rb3 bb3 pp3 ll3 ww3 hsr => ?_) _ _ _ _ _ _ _ _ _ _ _ _ _ _ _ _ _ _ _ _ _ _ _
      rcases hsr with ⟨rfl, -, hs⟩ | ⟨rfl, n, row, hf, -⟩
      · have gd : g0 := by rw [eg0]; exact hs
        refine br_f (by decide) (C_isSafe (rvM (F 55) R 0 0 true (fun r => F 55 (145 + r)) V) hok1 hu1 (hbk tb tm V g1) (hck _) (stM (F 55) H) P S hσ1 (b3 z) b2 (by omega) w1 w2 w3 (fun r fh nh rb s1 s2 s3 s4 b p l w nh2 rb2 bb2 pp2 ll2 ww2 nh3 rb3 bb3 pp3 ll3 ww3 hsr => ?_) _ _ _ _ _ _ _ _ _ _ _ _ _ _ _ _ _ _ _ _ _ _ _)
        rcases hsr with ⟨rfl, -, hs1⟩ | ⟨rfl, n, row, hf, -⟩
        · have gd1 : g1' := by rw [eg1]; exact hs1
          exact br_f (by decide) ⟨v1, mo _ (fun r' a1 a3 a4 a5 a6 f2 f3 f4 f5 f6 f7 hr' => same_K (BZ_one (Or.inl ⟨gd, gd1, rfl⟩) hr') (hK _ _ _ _ _ ⟨hi.1, hi.2.1, ⟨m1, m2, rfl, m4⟩, hi.2.2.2⟩))⟩
        · have gd1 : ¬ g1' := by rw [eg1]; exact fun hs => Fst_safe hf hs
          exact br_t rfl ⟨v1, mo _ (fun r' a1 a3 a4 a5 a6 f2 f3 f4 f5 f6 f7 hr' => same_K (BZ_one (Or.inr (Or.inl ⟨gd, gd1, rfl⟩)) hr') (hK _ _ _ _ _ ⟨hi.1, hi.2.1, ⟨m1, m2, rfl, m4⟩, hi.2.2.2⟩))⟩
      · have gd : ¬ g0 := by rw [eg0]; exact fun hs => Fst_safe hf hs
        exact br_t rfl ⟨v1, mo _ (fun r' a1 a3 a4 a5 a6 f2 f3 f4 f5 f6 f7 hr' => same_K (BZ_one (Or.inr (Or.inr ⟨gd, rfl⟩)) hr') (hK _ _ _ _ _ ⟨hi.1, hi.2.1, ⟨m1, m2, rfl, m4⟩, hi.2.2.2⟩))⟩
    · obtain ⟨good, eg⟩ : ∃ good : Nat → Prop, good = fun k => Safe (rvM (F 55) R 0 0 false (fun _ => nI k) V) P (stM (F 55) H) S := ⟨_, rfl⟩
      have hHk : ∀ k, k < C → okH R C (fun _ => nI k) V := fun k hk r hr => Or.inr ⟨k, hk, rfl, (hV k hk).2.2.2.1⟩
      have hokk : ∀ k, k < C → okR (rvM (F 55) R 0 0 false (fun _ => nI k) V) := fun k hk => rvM_ok z b1 b7 (fun r hr => (hR r hr).2.2.1) (by decide) (hHk k hk)
      have hσk : ∀ k, okS (rvM (F 55) R 0 0 false (fun _ => nI k) V) (stM (F 55) H) 900 := fun k => stM_ok rfl b6 hR
      refine C_same0 (good := good) (ad := ad) b7 (fun q hq => ⟨(hV q hq).1, (hV q hq).2.1⟩) (fun k hk tc' htc Q hq1 hq0 fh nh rb s1 s2 s3 s4 b p l w nh2 rb2 bb2 pp2 ll2 ww2 nh3 rb3 bb3 pp3 ll3 ww3 => ?_) (fun tc fh nh rb s1 s2 s3 s4 b p l w nh2 rb2 bb2 pp2 ll2 ww2 nh3 rb3 bb3 pp3 ll3 ww3 => ⟨v1, ?_⟩) tc _ _ _ _ _ _ _ _ _ _ _ _ _ _ _ _ _ _ _ _ _ _ _
      · refine C_isSafe (rvM (F 55) R 0 0 false (fun _ => nI k) V) (hokk k hk) hu (hbk tb tm V g1) (CKr_of b1 b7 (hHk k hk) (fun r hr => ⟨fun w => ?_, fun q hq h => ?_⟩)) (stM (F 55) H) P S (hσk k) (b3 z) b2 (by omega) w1 w2 w3 (fun r fh nh rb s1 s2 s3 s4 b p l w nh2 rb2 bb2 pp2 ll2 ww2 nh3 rb3 bb3 pp3 ll3 ww3 hsr => ?_) _ _ _ _ _ _ _ _ _ _ _ _ _ _ _ _ _ _ _ _ _ _ _
        · have := nI_pos (n := k) (by omega)
          rw [show nI k = (-1 : Int32) from w] at this
          exact absurd (by decide) this
        · obtain rfl : k = q := nI_inj (by omega) (by omega) h
          exact ⟨ad k, htc r (by omega), hVc k hk⟩
        · subst eg
          rcases hsr with ⟨rfl, -, hs⟩ | ⟨rfl, n, row, hf, -⟩
          · exact hq1 _ _ _ _ _ _ _ _ _ _ _ _ _ _ _ _ _ _ _ _ _ _ _ hs
          · exact hq0 _ _ _ _ _ _ _ _ _ _ _ _ _ _ _ _ _ _ _ _ _ _ _ (fun hs => Fst_safe hf hs)
      · refine M_same0 (good := good) d1 d2 c p1 z b1 p6 b7 (fun k hk s' hA hB Q hq1 hq0 h o d fh fr lv bo wy nx tr => ?_) (fun a1 a3 a4 a5 a6 f2 f3 f4 f5 f6 f7 => ?_) _ _ _ _ _ _ _ _ _ _ _
        rotate_left
        · exact same_K rfl (hK _ _ _ _ _ ⟨hi.1, hi.2.1, ⟨m1, m2, rfl, m4⟩, hi.2.2.2⟩)
        refine M_hold (MWr_of2 (s := F 55) (s' := s') (hg := fun _ => nI k) (V := V) ((hA 0 (by omega)).trans p1) b1 b7 hu (hHk k hk) (fun q hq => ⟨picM_frame (by omega) (hV q hq).2.2.2.1 (fun k h1 h2 => hA k (by omega)) (hV q hq).2.2.1, left0 (by omega) (hV q hq).2.2.2.2.1⟩) (fun r hr => hA _ (by omega)) (fun r hr => hA _ (by omega)) hB) (hokk k hk) (hσk k) ⟨(hA 4 (by omega)).trans p5, fun r hr => ⟨hA _ (by omega), hA _ (by omega), hA _ (by omega)⟩⟩ ((hA 2 (by omega)).trans p3) (by omega) ((hA 1 (by omega)).trans p2) b2 (fun r' a1 a2 a3 a4 a5 f1 f2 f3 f4 f5 hr' => ?_) _ _ _ _ _ _ _ _ _ _
        subst eg
        rcases hr' with ⟨rfl, -, hs⟩ | ⟨rfl, n, row, hf, -⟩
        · exact hq1 _ _ _ _ _ _ _ _ _ _ hs
        · exact hq0 _ _ _ _ _ _ _ _ _ _ (fun hs => Fst_safe hf hs)
  · refine br_f d2 ⟨v1, ?_⟩
    unfold WX11_same WX11_in
    exact br_f d1 (br_t (by grind) (br_t rfl (same_K rfl (hK _ _ _ _ _ hi))))
