/-! ===== by hand: what a card of the program says ===== -/
theorem C_lineHolds {c : CV} {o : CT} (hp : picC c o) (hv : okV c) {j : Nat} (hj : j < vN c) {lv hr wy bl : Int32} {Q : Int32 → Prop} (h : Q (b01 (lineT c lv hr wy bl j))) : WX0_lineHolds (nI j) o lv hr wy bl Q := by
  obtain ⟨-, -, -, -, p⟩ := hp
  obtain ⟨-, p1, p2, p3⟩ := p j hj
  obtain ⟨-, v1, v2⟩ := hv.2.2.2 j hj
  have h6 := hv.1.2
  unfold WX0_lineHolds
  have hj6 : j < 6 := by omega
  have hj6' : ¬ 6 ≤ j := by omega
  have hb0 : (if (0 : Int32) < nI (vFr c j) then nI (vFr c j) else 0) = nI (vFr c j) := by
    by_cases z : vFr c j = 0
    · rw [z]; rfl
    · rw [if_pos]
      rw [li_0, nI_ltI (by omega) (by omega)]; omega
  refine br_f (nI_pos (by omega)) (br_f (nI_ge (b := 6) (by omega) (by omega)) (br_t (nI_lt (b := 6) (by omega) (by omega)) ?_))
  refine ⟨vp_in_nI hj6 (by decide), ?_⟩
  rw [nI_clamp (by omega), p1]
  rintro _ rfl
  rw [hb0]
  suffices g : ∀ (n m i : Nat) (x : Int32) (l : List Bool), i + m = vFr c j + vCn c j → vFr c j ≤ i → m < n → SB x l → okA (vSt c) m i l.length 1 → l.length ≤ 13 → Q (b01 ((evS (vSt c) (fun t => psT t lv hr wy bl) m i l).getD 0 false)) → WX0_lineHolds_38 (nI j) o lv hr wy bl Q n x (nI i) from
    ⟨200, g 200 (vCn c j) (vFr c j) (nI 0) [] rfl (Nat.le_refl _) (by omega) (fun k hk => absurd hk (Nat.not_lt_zero k)) v2 (by decide) h⟩
  intro n
  induction n with
  | zero => intro m i x l h1 h2 h3; omega
  | succ n ih =>
    intro m i x l h1 h2 h3 hs ho hl hq
    unfold WX0_lineHolds_38
    refine ⟨vp_in_nI hj6 (by decide), ?_⟩
    rw [nI_clamp (by omega), p2]
    cases m with
    | zero =>
      refine br_t (nI_le (by omega) (by omega)) ?_
      unfold WX0_lineHolds_143
      have hl1 : l.length = 1 := ho
      have e := SB_end hs (by omega)
      refine br_c (fun c1 => ?_) (fun c1 => ?_)
      · have := e.mp c1
        simp only [evS, this] at hq; exact hq
      · have : l.getD 0 false = false := by
          cases hh : l.getD 0 false with
          | false => rfl
          | true => exact absurd (e.mpr hh) c1
        simp only [evS, this] at hq; exact hq
    | succ m =>
      refine br_f (nI_ge (by omega) (by omega)) (br_f (nI_ge (b := 120) (by omega) (by omega)) ⟨vp_in_nI (by omega) (by decide), ?_⟩)
      rw [nI_clamp (by omega), p3 i h2 (by omega)]
      rintro _ rfl
      simp only [evS] at hq
      have nxt : ∀ (x' : Int32) (l' : List Bool), SB x' l' → okA (vSt c) m (i + 1) l'.length 1 → l'.length ≤ 13 → l' = opS (fun t => psT t lv hr wy bl) (vSt c i) l → WX0_lineHolds_137 (nI j) o lv hr wy bl x' (nI i) Q (WX0_lineHolds_38 (nI j) o lv hr wy bl Q n) := by
        intro x' l' a1 a2 a3 a4
        unfold WX0_lineHolds_137
        rintro _ rfl
        rw [nI_1]
        refine ih m (i + 1) x' l' (by omega) (by omega) (by omega) a1 a2 a3 ?_
        rw [a4]; exact hq
      rcases ho with ⟨o1, o2, o3⟩ | ⟨o1 | o1, o2, o3⟩ | ⟨⟨t, t1, t2, t3⟩, o2, o3⟩
      · rw [o1]
        refine br_t rfl ?_
        rintro _ rfl
        refine nxt _ _ (SB_not hs o2 hl) ?_ ?_ (by rw [o1]; rfl)
        · rw [List.length_cons, List.length_drop, show l.length - 1 + 1 = l.length by omega]; exact o3
        · rw [List.length_cons, List.length_drop]; omega
      · rw [o1]
        refine br_f (by decide) (br_t rfl ?_)
        rintro _ rfl
        refine nxt _ _ (SB_both hs o2 hl) ?_ ?_ (by rw [o1]; rfl)
        · rw [List.length_cons, List.length_drop, show l.length - 2 + 1 = l.length - 1 by omega]; exact o3
        · rw [List.length_cons, List.length_drop]; omega
      · rw [o1]
        refine br_f (by decide) (br_f (by decide) (br_t rfl ?_))
        rintro _ rfl
        refine nxt _ _ (SB_either hs o2 hl) ?_ ?_ (by rw [o1]; rfl)
        · rw [List.length_cons, List.length_drop, show l.length - 2 + 1 = l.length - 1 by omega]; exact o3
        · rw [List.length_cons, List.length_drop]; omega
      · rw [t3]
        have q1 : cvs (nI t) = nI (100 * (t % 4) + 10 * (t / 4 % 4) + t / 16) := by unfold cvs; rw [if_neg (nI_pos (by omega)), nI_clamp (by omega)]
        have n0 : ¬ cvs (nI t) < 0 := by rw [q1]; exact nI_pos (by omega)
        refine br_f (fun z => n0 (by rw [z]; decide)) (br_f (fun z => n0 (by rw [z]; decide)) (br_f (fun z => n0 (by rw [z]; decide)) (C_passes t t1 t2 ?_)))
        have n1 : ¬ nI t < 0 := nI_pos (by omega)
        have eo : psT t lv hr wy bl :: l = opS (fun t => psT t lv hr wy bl) (nI t) l := by
          unfold opS
          rw [if_neg (fun z => n1 (by rw [z]; decide)), if_neg (fun z => n1 (by rw [z]; decide)), if_neg (fun z => n1 (by rw [z]; decide)), nI_clamp (by omega)]
        have fin : ∀ s, s = b01 (psT t lv hr wy bl) → WX0_lineHolds_135 (nI j) o lv hr wy bl (nI i) (x <<< ((1 : Int32) &&& 31)) s Q (WX0_lineHolds_38 (nI j) o lv hr wy bl Q n) := by
          rintro _ rfl
          unfold WX0_lineHolds_135
          rintro _ rfl
          exact nxt _ _ (SB_push hs o2 _) (by rw [List.length_cons]; exact o3) (by rw [List.length_cons]; omega) (by rw [t3]; exact eo)
        cases hb : psT t lv hr wy bl with
        | false => exact br_t rfl (fin _ (by rw [hb]; rfl))
        | true => exact br_f (by decide) (fin _ (by rw [hb]; rfl))
theorem C_byLines {c : CV} {o : CT} (hp : picC c o) (hv : okV c) {lv hr wy bl : Int32} {Q : Int32 → Prop} (h : Q (byL c lv hr wy bl (vN c) 0)) : WX0_byLines o lv hr wy bl Q := by
  have h6 := hv.1.2
  obtain ⟨-, pv, pn, pl, p⟩ := id hp
  suffices g : ∀ (n m j : Nat), j + m = vN c → m < n → Q (byL c lv hr wy bl m j) → WX0_byLines_2 o lv hr wy bl Q n (nI j) from ⟨8, g 8 (vN c) 0 (by omega) (by omega) h⟩
  intro n
  induction n with
  | zero => intro m j h1 h2; omega
  | succ n ih =>
    intro m j h1 h2 hq
    unfold WX0_byLines_2
    rw [pn]
    cases m with
    | zero => refine br_t (nI_le (by omega) (by omega)) ?_; rw [pv]; exact hq
    | succ m =>
      have hd := (p j (by omega)).1
      unfold byL at hq
      refine br_f (nI_ge (by omega) (by omega)) (br_f (nI_ge (b := 6) (by omega) (by omega)) ?_)
      have nxt : Q (byL c lv hr wy bl m (j + 1)) → WX0_byLines_43 o lv hr wy bl (nI j) Q (WX0_byLines_2 o lv hr wy bl Q n) := by
        intro hq
        unfold WX0_byLines_43
        rintro _ rfl
        rw [nI_1]
        exact ih m (j + 1) (by omega) (by omega) hq
      have el : nI j = ct_leftOut o ↔ vLeft c = some j := by
        rw [pl]
        cases e : vLeft c with
        | none => exact ⟨fun h => absurd h (by have := nI_pos (n := j) (by omega); grind), fun h => by cases h⟩
        | some l =>
          have := hv.2.2.1 l e
          show nI j = nI l ↔ _
          rw [nI_eq (by omega) (by omega)]
          exact ⟨fun h => by rw [h], fun h => (Option.some.inj h).symm⟩
      refine br_c (fun c1 => nxt ?_) (fun c1 => ?_)
      · rwa [if_neg (fun z => z.1 (el.mp c1))] at hq
      · refine C_lineHolds hp hv (by omega) ?_
        cases hb : lineT c lv hr wy bl j with
        | false =>
          refine br_t rfl (nxt ?_)
          rwa [if_neg (fun z => by rw [hb] at z; exact absurd z.2 (by decide))] at hq
        | true =>
          refine br_f (by decide) ⟨vp_in_nI (by omega) (by decide), ?_⟩
          rw [nI_clamp (by omega), hd]
          rwa [if_pos ⟨fun z => c1 (el.mpr z), hb⟩] at hq
theorem C_risen {wy b : Int32} (h : 0 ≤ b ∧ b ≤ 3) {Q : Int32 → Prop} (hq : Q (byR wy b)) : WX0_risen b wy Q := by
  unfold WX0_risen
  unfold byR at hq
  refine br_c (fun c => ?_) (fun c => ?_)
  · rw [if_pos c] at hq
    have : (if b + 1 < 3 then b + 1 else 3) = (if b < 3 then b + 1 else b) := by grind
    rw [this]; exact hq
  · rwa [if_neg c] at hq
theorem C_floorMod {a b : Nat} (ha : a < 2 ^ 20) (h0 : 0 < b) (hb : b < 2 ^ 20) {Q : Int32 → Prop} (h : Q (nI (a % b))) : WX9_floorMod_7cf53 (nI a) (nI b) Q := by
  unfold WX9_floorMod_7cf53
  refine ⟨nI_ne0 h0 (by omega), ?_⟩
  rw [pk_rem (by omega) h0 (by omega)]
  rintro _ rfl
  refine br_t ?_ h
  rw [nx_xor]
  have := Nat.xor_lt_two_pow ha hb
  exact nI_pos' (by omega)
theorem C_inTurn {c : CV} {o : CT} (hp : picC c o) (hv : okV c) {t : Nat} (ht : t < 1000) {Q : Int32 → Prop} (h : Q (byT c t)) : WX0_inTurn (nI t) o Q := by
  have h6 := hv.1
  obtain ⟨-, pv, pn, pl, p⟩ := id hp
  have dig : ∀ j, j < vN c → Q (vDg c j) → WX0_inTurn_55 o (nI j) Q := by
    intro j hj hq
    unfold WX0_inTurn_55
    refine br_f (nI_pos (by omega)) (br_t (nI_lt (b := 6) (by omega) (by omega)) ⟨vp_in_nI (by omega) (by decide), ?_⟩)
    rw [nI_clamp (by omega), (p j hj).1]; exact hq
  unfold WX0_inTurn
  unfold byT at h
  cases e : vLeft c with
  | none =>
    rw [e] at pl h
    replace h : Q (if vN c = 0 then vV c else vDg c (t % vN c)) := h
    rw [if_neg (by omega)] at h
    refine br_f (by rw [pl]; decide) ?_
    unfold WX0_inTurn_20
    rw [pn]
    refine br_t (nI_le (a := 1) (by omega) (by omega)) (C_floorMod (by omega) (by omega) (by omega) (br_t (by rw [pl]; decide) (dig _ (Nat.mod_lt _ (by omega)) h)))
  | some l =>
    have hl := hv.2.2.1 l e
    rw [e] at pl h
    replace pl : ct_leftOut o = nI l := pl
    replace h : Q (if vN c - 1 = 0 then vV c else vDg c (if l ≤ t % (vN c - 1) then t % (vN c - 1) + 1 else t % (vN c - 1))) := h
    refine br_t (by rw [pl]; exact nI_pos' (by omega)) ?_
    unfold WX0_inTurn_20
    rw [pn, show nI (vN c) - 1 = nI (vN c - 1) from pk_sub (b := 1) (by omega), pl]
    by_cases z : vN c - 1 = 0
    · rw [if_pos z] at h
      refine br_f (nI_ge (b := 1) (by omega) (by omega)) ?_
      rw [pv]; exact h
    · rw [if_neg z] at h
      have hm := Nat.mod_lt t (show 0 < vN c - 1 by omega)
      refine br_t (nI_le (a := 1) (by omega) (by omega)) (C_floorMod (by omega) (by omega) (by omega) (br_f (nI_pos (by omega)) ?_))
      by_cases c1 : l ≤ t % (vN c - 1)
      · rw [if_pos c1] at h
        refine br_f (nI_nlt c1 (by omega)) ?_
        rintro _ rfl
        rw [nI_1]
        exact dig _ (by omega) h
      · rw [if_neg c1] at h
        exact br_t (nI_lt (by omega) (by omega)) (dig _ (by omega) h)
theorem and1N (t : Nat) (h : t < 2 ^ 31) : nI t &&& 1 = nI (t % 2) := pk_andN (by omega) (m := 1) 1 rfl
theorem C_boardsBy {c : CV} {o : CT} (hp : picC c o) (hv : okV c) {lv : Int32} {t : Nat} {wy bl w : Int32} (ht : t < 1000) (h0 : 0 ≤ w) (h3 : w ≤ 3) {Q : Int32 → Prop} (h : Q (kpr c lv t wy bl w)) : WX0_boardsBy w o lv (nI t) wy bl Q := by
  have pk := hp.1
  have pv := hp.2.1
  have hl := byL_ok hv lv (nI t) wy bl (vN c) 0 (by omega)
  unfold WX0_boardsBy
  rw [pk]
  rintro _ rfl
  unfold kpr at h
  refine br_c (fun c1 => C_byLines hp hv ?_) (fun c1 => br_c (fun c2 => C_byLines hp hv (C_risen hl ?_)) (fun c2 => br_c (fun c3 => C_byLines hp hv (C_risen hl ?_)) (fun c3 => br_c (fun c4 => br_c (fun c5 => ?_) (fun c5 => C_byLines hp hv ?_)) (fun c4 => br_c (fun c5 => C_inTurn hp hv ht ?_) (fun c5 => br_c (fun c6 => br_c (fun c7 => C_inTurn hp hv ht ?_) (fun c7 => ?_)) (fun c6 => ?_))))))
  · rwa [if_pos c1] at h
  · rwa [if_neg c1, if_pos c2] at h
  · rw [if_neg c1, if_neg c2, if_pos c3] at h
    have hr := byR_ok (wy := wy) hl
    generalize byR wy (byL c lv (nI t) wy bl (vN c) 0) = x at h hr ⊢
    have e : (if w - 1 < (if x < w + 1 then x else w + 1) then (if x < w + 1 then x else w + 1) else w - 1) = (if x ≤ w + 1 then (if w - 1 ≤ x then x else w - 1) else w + 1) := by grind
    rw [e]; exact h
  · rwa [if_neg c1, if_neg c2, if_neg c3, if_pos c4, if_pos c5] at h
  · rwa [if_neg c1, if_neg c2, if_neg c3, if_pos c4, if_neg c5] at h
  · rwa [if_neg c1, if_neg c2, if_neg c3, if_neg c4, if_pos c5] at h
  · rw [and1N t (by omega)] at c7
    have c8 : t % 2 = 0 := by rw [li_0, nI_eq (by omega) (by omega)] at c7; exact c7
    rwa [if_neg c1, if_neg c2, if_neg c3, if_neg c4, if_neg c5, if_pos c6, if_pos c8] at h
  · rw [and1N t (by omega)] at c7
    have c8 : ¬ t % 2 = 0 := fun z => c7 (by rw [z]; rfl)
    rwa [if_neg c1, if_neg c2, if_neg c3, if_neg c4, if_neg c5, if_pos c6, if_neg c8] at h
  · rw [pv]
    rwa [if_neg c1, if_neg c2, if_neg c3, if_neg c4, if_neg c5, if_neg c6] at h
