/-! ===== by hand: acts ===== -/
def bod (k a : Nat) : Nat := ([1, 2, 3, 11, 0, 0, 0, 21, 0, 0, 0, 41, 51, 0, 0, 0, 0, 31, 0, 61, 0] : List Nat).getD (3 * k + a) 0
def abN (k : Nat) : Nat := ([7, 0, 1, 2, 1, 0, 5] : List Nat).getD k 7
def kI (k : Nat) : Int32 := if k < 7 then nI k else -1
def clb (a : Nat) : Nat → Nat → Nat
  | 0, k => k
  | n + 1, k => if bod k a = 0 then clb a n (abN k) else k
/-- a body run from a kind: the bodies, the answer -/
def rf (num v : Int32) (own : Nat) : Nat → Nat → Nat → Int32 → Option (List Nat × Int32)
  | 0, _, _, _ => none
  | n + 1, k, a, x =>
    if bod (clb a 7 k) a = 0 then some ([], 0)
    else if bod (clb a 7 k) a = 1 then some ([1], x + num)
    else if bod (clb a 7 k) a = 2 then (rf num v own n own 0 x).map (fun r => (2 :: r.1, r.2 - v))
    else if bod (clb a 7 k) a = 3 then (rf num v own n own 1 x).map (fun r => (3 :: r.1, r.2 * 2))
    else if bod (clb a 7 k) a = 11 then (rf num v own n (abN (clb a 7 k)) 0 (x * 3)).map (fun r => (11 :: r.1, r.2))
    else if bod (clb a 7 k) a = 21 then (rf num v own n (abN (clb a 7 k)) 1 x).map (fun r => (21 :: r.1, -r.2))
    else if bod (clb a 7 k) a = 31 then (rf num v own n (abN (clb a 7 k)) 2 x).map (fun r => (31 :: r.1, r.2 ^^^ 7))
    else if bod (clb a 7 k) a = 41 then (rf num v own n (abN (clb a 7 k)) 2 (x - 1)).bind (fun r => (rf num v own n own 0 2).map (fun q => (41 :: (r.1 ++ q.1), r.2 + q.2)))
    else if bod (clb a 7 k) a = 51 then (rf num v own n (abN (clb a 7 k)) 0 x).map (fun r => (51 :: r.1, r.2 ^^^ num))
    else (rf num v own n (abN (clb a 7 k)) 1 x).map (fun r => (61 :: r.1, r.2 + v))
theorem bod_in : ∀ k, k < 8 → ∀ a, a < 3 → (bod k a = 0 ∨ bod k a = 1 ∨ bod k a = 2 ∨ bod k a = 3 ∨ bod k a = 11 ∨ bod k a = 21 ∨ bod k a = 31 ∨ bod k a = 41 ∨ bod k a = 51 ∨ bod k a = 61) := by decide
theorem abN_in : ∀ k, k < 8 → abN k < 8 := by decide
theorem clb_in (a : Nat) : ∀ n k, k < 8 → clb a n k < 8 := by
  intro n
  induction n with
  | zero => intro k h; exact h
  | succ n ih => intro k h; unfold clb; split; exact ih _ (abN_in k h); exact h
theorem bodT : ∀ k, k < 7 → ∀ a, a < 3 → tabB (3 * k + a) = nI (bod k a) := by decide
theorem C_body {k a : Nat} (hk : k < 8) (ha : a < 3) {Q : Int32 → Prop} (h : Q (nI (bod k a))) : WX6_bodyOf (kI k) (nI a) Q := by
  unfold WX6_bodyOf
  rintro _ rfl
  by_cases c : k < 7
  · have e : kI k = nI k := by unfold kI; rw [if_pos c]
    rw [e, show nI k * 3 + nI a = nI (3 * k + a) by rw [li_3, pk_mul, nI_add]; congr 1; omega, nI_clamp (by omega), bodT k c a ha]
    exact br_f (nI_pos (by omega)) (br_f (nI_pos (by omega)) (br_f (nI_ge (b := 3) ha (by decide)) (br_t (nI_lt (b := 21) (by omega) (by decide)) ⟨vp_in_nI (by omega) (by decide), h⟩)))
  · have e7 : k = 7 := by omega
    subst e7
    have e0 : bod 7 a = 0 := by
      rcases (show a = 0 ∨ a = 1 ∨ a = 2 by omega) with rfl | rfl | rfl <;> rfl
    rw [e0] at h
    exact br_t (by decide) h
theorem abvT : ∀ k, k < 8 → abv (kI k) = kI (abN k) := by decide
theorem C_ab {k : Nat} (hk : k < 8) {Q : Int32 → Prop} (h : Q (kI (abN k))) : WX0_above (kI k) Q := C_above (by rw [abvT k hk]; exact h)
/-- the bodies that are noted -/
def TL (f : Fn) (l : List Nat) : Prop := ∀ k, k < l.length → f k = nI (l.getD k 0)
theorem TL_add {f : Fn} {l : List Nat} (h : TL f l) (b : Nat) : TL (upd f l.length (nI b)) (l ++ [b]) := by
  intro k hk
  rw [List.length_append] at hk
  replace hk : k < l.length + 1 := hk
  by_cases c : k = l.length
  · subst c; rw [pk_us, List.getD_eq_getElem?_getD, List.getElem?_append_right (Nat.le_refl _), Nat.sub_self]; rfl
  · rw [pk_un c, List.getD_eq_getElem?_getD, List.getElem?_append_left (by omega), ← List.getD_eq_getElem?_getD]; exact h k (by omega)
theorem C_note {b : Nat} {l : List Nat} {f : Fn} (hl : l.length < 20) (h : TL f l) {Q : Int32 → Fn → Prop} (hq : ∀ f', TL f' (l ++ [b]) → Q (nI (l ++ [b]).length) f') : WX6_note (nI b) (nI l.length) f Q := by
  unfold WX6_note WX6_note_29
  refine br_f (nI_pos (by omega)) (br_f (nI_ge (b := 20) hl (by decide)) ⟨vp_in_nI hl (by decide), ?_⟩)
  rw [nI_clamp (by omega), nI_1]
  rintro _ rfl
  have := hq _ (TL_add h b)
  rwa [List.length_append] at this
theorem C_runFrom {c1 : Nat} {ce : Nat → CT} {cin : Nat → Prop} {own : Nat} (hin : cin c1) (ho : own < 7) (hown : ct_kind (ce c1) = nI own) : ∀ (n k a deep : Nat) (x : Int32) (l : List Nat) (f : Fn) (r : List Nat × Int32) (Q : Int32 → Int32 → Fn → Prop), k < 8 → a < 3 → deep + n ≤ 40 → rf (ct_number (ce c1)) (ct_v (ce c1)) own n k a x = some r → l.length + r.1.length ≤ 20 → TL f l → (∀ f', TL f' (l ++ r.1) → Q r.2 (nI (l ++ r.1).length) f') → WX6_runFrom n c1 (kI k) (nI a) x (nI deep) (nI l.length) f ce cin Q := by
  intro n
  induction n with
  | zero => intro k a deep x l f r Q h1 h2 h3 h4; cases h4
  | succ n ih =>
    intro k a deep x l f r Q hk ha hd hr hlen hl hq
    unfold WX6_runFrom WB6_runFrom
    have f35 : WX6_runFrom_35 c1 (nI a) x (nI deep) ce cin (WX6_runFrom n) (kI (clb a 7 k)) (nI l.length) f Q := by
      have hk' := clb_in a 7 k hk
      unfold rf at hr
      generalize clb a 7 k = k' at hr hk'
      unfold WX6_runFrom_35
      refine C_body hk' ha ?_
      have hin10 := bod_in k' hk' a ha
      generalize bod k' a = b at hr hin10
      have nb : ∀ q : Nat, q < 1000 → b ≠ q → ¬ nI b = nI q := fun q hq' hne z => hne (by
        rcases hin10 with h | h | h | h | h | h | h | h | h | h <;> exact nI_inj (by omega) hq' z)
      by_cases c0 : b = 0
      · subst c0
        cases hr
        refine br_t rfl ?_
        have := hq f (by rw [List.append_nil]; exact hl)
        rwa [List.append_nil] at this
      refine br_f (nb 0 (by decide) c0) (br_t (nI_le (b := 40) (by omega) (by decide)) ?_)
      rw [if_neg c0] at hr
      -- one call more
      have one : ∀ (k2 a2 : Nat) (y : Int32) (g : Int32 → Int32) (f1 : Fn), k2 < 8 → a2 < 3 → (rf (ct_number (ce c1)) (ct_v (ce c1)) own n k2 a2 y).map (fun r => (b :: r.1, g r.2)) = some r → TL f1 (l ++ [b]) → WX6_runFrom n c1 (kI k2) (nI a2) y (nI deep + 1) (nI (l ++ [b]).length) f1 ce cin (fun r12 b13 f14 => Q (g r12) b13 f14) := by
        intro k2 a2 y g f1 hk2 ha2 hr2 hl1
        cases e : rf (ct_number (ce c1)) (ct_v (ce c1)) own n k2 a2 y with
        | none => rw [e] at hr2; cases hr2
        | some q =>
          rw [e] at hr2
          have er : (b :: q.1, g q.2) = r := Option.some.inj hr2
          subst er
          rw [nI_1]
          refine ih k2 a2 (deep + 1) y (l ++ [b]) f1 q _ hk2 ha2 (by omega) e ?_ hl1 (fun f' hf' => ?_)
          · rw [List.length_append]
            simp only [List.length_cons, List.length_nil] at hlen ⊢
            omega
          · have ea : l ++ [b] ++ q.1 = l ++ (b :: q.1) := by simp
            rw [ea] at hf' ⊢
            exact hq f' hf'
      have hl20 : l.length < 20 := by
        have : 1 ≤ r.1.length := by
          repeat' split at hr
          all_goals first
            | (have e := Option.some.inj hr; rw [← e]; simp)
            | (obtain ⟨q, -, e⟩ := Option.map_eq_some_iff.mp hr; rw [← e]; simp)
            | (obtain ⟨q, -, e⟩ := Option.bind_eq_some_iff.mp hr; obtain ⟨q2, -, e⟩ := Option.map_eq_some_iff.mp e; rw [← e]; simp)
        omega
      have hab := abN_in k' hk'
      have eown : kI own = nI own := by unfold kI; rw [if_pos ho]
      refine C_note hl20 hl (fun f1 hl1 => C_ab hk' ⟨hin, ?_⟩)
      rw [hown]
      rintro _ rfl
      by_cases c1' : b = 1
      · subst c1'
        rw [if_pos rfl] at hr
        cases hr
        exact br_t rfl (hq f1 hl1)
      refine br_f (nb 1 (by decide) c1') ?_
      rw [if_neg c1'] at hr
      by_cases c2 : b = 2
      · subst c2
        rw [if_pos rfl] at hr
        have := one own 0 x (fun z => z - ct_v (ce c1)) f1 (by omega) (by decide) hr hl1
        rw [eown] at this
        exact br_t rfl this
      refine br_f (nb 2 (by decide) c2) ?_
      rw [if_neg c2] at hr
      by_cases c3 : b = 3
      · subst c3
        rw [if_pos rfl] at hr
        have := one own 1 x (fun z => z * 2) f1 (by omega) (by decide) hr hl1
        rw [eown] at this
        exact br_t rfl this
      refine br_f (nb 3 (by decide) c3) ?_
      rw [if_neg c3] at hr
      by_cases c11 : b = 11
      · subst c11
        rw [if_pos rfl] at hr
        exact br_t rfl (one (abN k') 0 (x * 3) (fun z => z) f1 hab (by decide) hr hl1)
      refine br_f (nb 11 (by decide) c11) ?_
      rw [if_neg c11] at hr
      by_cases c21 : b = 21
      · subst c21
        rw [if_pos rfl] at hr
        exact br_t rfl (one (abN k') 1 x (fun z => -z) f1 hab (by decide) hr hl1)
      refine br_f (nb 21 (by decide) c21) ?_
      rw [if_neg c21] at hr
      by_cases c31 : b = 31
      · subst c31
        rw [if_pos rfl] at hr
        exact br_t rfl (one (abN k') 2 x (fun z => z ^^^ 7) f1 hab (by decide) hr hl1)
      refine br_f (nb 31 (by decide) c31) ?_
      rw [if_neg c31] at hr
      by_cases c41 : b = 41
      · subst c41
        rw [if_pos rfl] at hr
        refine br_t rfl ?_
        obtain ⟨q, e1, e2⟩ := Option.bind_eq_some_iff.mp hr
        obtain ⟨q2, e3, e4⟩ := Option.map_eq_some_iff.mp e2
        subst e4
        simp only [List.length_cons, List.length_append] at hlen
        rw [nI_1]
        refine ih (abN k') 2 (deep + 1) (x - 1) (l ++ [41]) f1 q _ hab (by decide) (by omega) e1 (by rw [List.length_append]; simp only [List.length_cons, List.length_nil]; omega) hl1 (fun f2 hl2 => ?_)
        have := ih own 0 (deep + 1) 2 (l ++ [41] ++ q.1) f2 q2 (fun r35 b36 f37 => Q (q.2 + r35) b36 f37) (by omega) (by decide) (by omega) e3 (by rw [List.length_append, List.length_append]; simp only [List.length_cons, List.length_nil]; omega) hl2 (fun f3 hl3 => ?_)
        · rw [eown] at this; exact this
        · have ea : l ++ [41] ++ q.1 ++ q2.1 = l ++ (41 :: (q.1 ++ q2.1)) := by simp
          rw [ea] at hl3 ⊢
          exact hq f3 hl3
      refine br_f (nb 41 (by decide) c41) ?_
      rw [if_neg c41] at hr
      by_cases c51 : b = 51
      · subst c51
        rw [if_pos rfl] at hr
        exact br_t rfl (one (abN k') 0 x (fun z => z ^^^ ct_number (ce c1)) f1 hab (by decide) hr hl1)
      refine br_f (nb 51 (by decide) c51) ?_
      rw [if_neg c51] at hr
      have c61 : b = 61 := by omega
      subst c61
      exact br_t rfl (one (abN k') 1 x (fun z => z + ct_v (ce c1)) f1 hab (by decide) hr hl1)
    -- the climb
    obtain ⟨kk, hkk⟩ : ∃ kk, kk = clb a 7 k := ⟨_, rfl⟩
    rw [← hkk] at f35
    suffices g : ∀ (m j k2 : Nat), j ≤ 7 → 7 < m + j → k2 < 8 → clb a (7 - j) k2 = kk → WX6_runFrom_6 c1 (nI a) x (nI deep) ce cin (WX6_runFrom n) Q m (kI k2) (nI j) (nI l.length) f from ⟨8, g 8 0 k (by decide) (by decide) hk hkk.symm⟩
    intro m
    induction m with
    | zero => intro j k2 h1 h2; omega
    | succ m ihm =>
      intro j k2 h1 h2 hk2 he
      unfold WX6_runFrom_6
      by_cases cj : 7 ≤ j
      · have e7 : j = 7 := by omega
        subst e7
        have ek : k2 = kk := he
        rw [ek]
        exact br_t (nI_le (a := 7) cj (by decide)) f35
      · refine br_f (nI_ge (b := 7) (by omega) (by decide)) (C_body hk2 ha ?_)
        obtain ⟨q, hq7⟩ : ∃ q, 7 - j = q + 1 := ⟨7 - j - 1, by omega⟩
        rw [hq7] at he
        unfold clb at he
        by_cases cb : bod k2 a = 0
        · rw [if_pos cb] at he
          refine br_t (by rw [cb]; rfl) (C_ab hk2 ?_)
          rintro _ rfl
          rw [nI_1]
          exact ihm (j + 1) (abN k2) (by omega) (by omega) (abN_in k2 hk2) (by rw [show 7 - (j + 1) = q by omega]; exact he)
        · rw [if_neg cb] at he
          subst he
          refine br_f (fun z => cb ?_) f35
          have h10 := bod_in k2 hk2 a ha
          rcases h10 with h | h | h | h | h | h | h | h | h | h <;> exact nI_inj (by omega) (by decide) z
/-! the model's acts -/
theorem M_runs {b : Nat} {l : List Nat} {f : Fn} (hl : l.length < 20) (h : TL f l) {Q : Int32 → Fn → Prop} (hq : ∀ f', TL f' (l ++ [b]) → Q (nI (l ++ [b]).length) f') : WX11_runs (nI b) (nI l.length) f Q := by
  unfold WX11_runs WX11_runs_19
  refine br_f (nI_ge (b := 20) hl (by decide)) ⟨vp_in_nI hl (by decide), ?_⟩
  rw [nI_clamp (by omega), nI_1]
  rintro _ rfl
  have := hq _ (TL_add h b)
  rwa [List.length_append] at this
def mSees (kd : Nat) (num x : Int32) : List Nat × Int32 := if kd = 4 then ([51, 11, 1], (x * 3 + num) ^^^ num) else if undM (nI kd) 1 = true then ([11, 1], x * 3 + num) else ([1], x + num)
def mPsets (kd : Nat) (num v x : Int32) : List Nat × Int32 := (2 :: (mSees kd num x).1, (mSees kd num x).2 - v)
def mSets (kd : Nat) (num v x : Int32) : List Nat × Int32 := if undM (nI kd) 2 = true then (21 :: (mPsets kd num v x).1, -(mPsets kd num v x).2) else if kd = 6 then (61 :: (mPsets kd num v x).1, (mPsets kd num v x).2 + v) else mPsets kd num v x
def mPwak (kd : Nat) (num v x : Int32) : List Nat × Int32 := (3 :: (mSets kd num v x).1, (mSets kd num v x).2 * 2)
def mWak (kd : Nat) (num v x : Int32) : List Nat × Int32 := if kd = 3 then (41 :: ((mPwak kd num v (x - 1)).1 ++ (mSees kd num 2).1), (mPwak kd num v (x - 1)).2 + (mSees kd num 2).2) else if undM (nI kd) 5 = true then (31 :: (mPwak kd num v x).1, (mPwak kd num v x).2 ^^^ 7) else mPwak kd num v x
/-- what a piece of the model does -/
def MA (W : Int32 → Fn → (Int32 → Int32 → Fn → Prop) → Prop) (r : List Nat × Int32) : Prop := ∀ (l : List Nat) (f : Fn) (Q : Int32 → Int32 → Fn → Prop), l.length + r.1.length ≤ 20 → TL f l → (∀ f', TL f' (l ++ r.1) → Q r.2 (nI (l ++ r.1).length) f') → W (nI l.length) f Q
theorem MA_psees (num x : Int32) : MA (fun n f Q => WX11_plainSees x n num f Q) ([1], x + num) := by
  intro l f Q hl h hq
  show WX11_plainSees x (nI l.length) num f Q
  unfold WX11_plainSees
  exact M_runs (b := 1) (by simp only [List.length_cons, List.length_nil] at hl; omega) h hq
theorem ap2 (l : List Nat) (b : Nat) (m : List Nat) : l ++ [b] ++ m = l ++ (b :: m) := by simp
theorem MA_lsees (num x : Int32) : MA (fun n f Q => WX11_levelSees x n num f Q) ([11, 1], x * 3 + num) := by
  intro l f Q hl h hq
  show WX11_levelSees x (nI l.length) num f Q
  simp only [List.length_cons, List.length_nil] at hl
  unfold WX11_levelSees
  refine M_runs (b := 11) (by omega) h (fun f1 h1 => MA_psees num (x * 3) (l ++ [11]) f1 _ (by rw [List.length_append]; simp only [List.length_cons, List.length_nil]; omega) h1 (fun f2 h2 => ?_))
  rw [ap2] at h2 ⊢
  exact hq f2 h2
theorem MA_sees {kd : Nat} (hk : kd < 7) (num x : Int32) : MA (fun n f Q => WX11_seesActs x n (nI kd) num f Q) (mSees kd num x) := by
  intro l f Q hl h hq
  show WX11_seesActs x (nI l.length) (nI kd) num f Q
  unfold WX11_seesActs
  unfold mSees at hl hq
  by_cases c4 : kd = 4
  · rw [if_pos c4] at hl hq
    simp only [List.length_cons, List.length_nil] at hl
    refine br_t (by rw [c4]; rfl) (M_runs (b := 51) (by omega) h (fun f1 h1 => MA_lsees num x (l ++ [51]) f1 _ (by rw [List.length_append]; simp only [List.length_cons, List.length_nil]; omega) h1 (fun f2 h2 => ?_)))
    rw [ap2] at h2 ⊢
    exact hq f2 h2
  · rw [if_neg c4] at hl hq
    refine br_f (fun z => c4 (nI_inj (by omega) (by decide) z)) (M_isUnder ?_)
    cases hb : undM (nI kd) 1 with
    | false =>
      rw [hb, if_neg (by decide)] at hl hq
      exact br_t rfl (MA_psees num x l f _ hl h hq)
    | true =>
      rw [hb, if_pos rfl] at hl hq
      exact br_f (by decide) (MA_lsees num x l f _ hl h hq)
theorem MA_cons {W : Int32 → Fn → (Int32 → Int32 → Fn → Prop) → Prop} {r : List Nat × Int32} (hW : MA W r) (b : Nat) (g : Int32 → Int32) : MA (fun n f Q => WX11_runs (nI b) n f (fun n' f' => W n' f' (fun r n f => Q (g r) n f))) (b :: r.1, g r.2) := by
  intro l f Q hl h hq
  show WX11_runs (nI b) (nI l.length) f _
  simp only [List.length_cons] at hl
  refine M_runs (b := b) (by omega) h (fun f1 h1 => hW (l ++ [b]) f1 _ (by rw [List.length_append]; simp only [List.length_cons, List.length_nil]; omega) h1 (fun f2 h2 => ?_))
  rw [ap2] at h2 ⊢
  exact hq f2 h2
theorem MA_psets {kd : Nat} (hk : kd < 7) (num v x : Int32) : MA (fun n f Q => WX11_plainSets x n (nI kd) num v f Q) (mPsets kd num v x) := by
  intro l f Q hl h hq
  show WX11_plainSets x (nI l.length) (nI kd) num v f Q
  unfold WX11_plainSets
  exact MA_cons (MA_sees hk num x) 2 (fun z => z - v) l f Q hl h hq
theorem MA_sets {kd : Nat} (hk : kd < 7) (num v x : Int32) : MA (fun n f Q => WX11_setsActs x n (nI kd) num v f Q) (mSets kd num v x) := by
  intro l f Q hl h hq
  show WX11_setsActs x (nI l.length) (nI kd) num v f Q
  unfold WX11_setsActs
  unfold mSets at hl hq
  refine M_isUnder ?_
  cases hb : undM (nI kd) 2 with
  | true =>
    rw [hb, if_pos rfl] at hl hq
    exact br_f (by decide) (MA_cons (MA_psets hk num v x) 21 (fun z => -z) l f Q hl h hq)
  | false =>
    rw [hb, if_neg (by decide)] at hl hq
    refine br_t rfl ?_
    by_cases c6 : kd = 6
    · rw [if_pos c6] at hl hq
      exact br_t (by rw [c6]; rfl) (MA_cons (MA_psets hk num v x) 61 (fun z => z + v) l f Q hl h hq)
    · rw [if_neg c6] at hl hq
      exact br_f (fun z => c6 (nI_inj (by omega) (by decide) z)) (MA_psets hk num v x l f _ hl h hq)
theorem MA_pwak {kd : Nat} (hk : kd < 7) (num v x : Int32) : MA (fun n f Q => WX11_plainWakes x n (nI kd) num v f Q) (mPwak kd num v x) := by
  intro l f Q hl h hq
  show WX11_plainWakes x (nI l.length) (nI kd) num v f Q
  unfold WX11_plainWakes
  exact MA_cons (MA_sets hk num v x) 3 (fun z => z * 2) l f Q hl h hq
theorem MA_wak {kd : Nat} (hk : kd < 7) (num v x : Int32) : MA (fun n f Q => WX11_wakesActs x n (nI kd) num v f Q) (mWak kd num v x) := by
  intro l f Q hl h hq
  show WX11_wakesActs x (nI l.length) (nI kd) num v f Q
  unfold WX11_wakesActs
  unfold mWak at hl hq
  by_cases c3 : kd = 3
  · rw [if_pos c3] at hl hq
    simp only [List.length_cons, List.length_append] at hl
    refine br_t (by rw [c3]; rfl) (M_runs (b := 41) (by omega) h (fun f1 h1 => MA_pwak hk num v (x - 1) (l ++ [41]) f1 _ (by rw [List.length_append]; simp only [List.length_cons, List.length_nil]; omega) h1 (fun f2 h2 => ?_)))
    refine MA_sees hk num 2 (l ++ [41] ++ (mPwak kd num v (x - 1)).1) f2 _ (by rw [List.length_append, List.length_append]; simp only [List.length_cons, List.length_nil]; omega) h2 (fun f3 h3 => ?_)
    have ea : l ++ [41] ++ (mPwak kd num v (x - 1)).1 ++ (mSees kd num 2).1 = l ++ (41 :: ((mPwak kd num v (x - 1)).1 ++ (mSees kd num 2).1)) := by simp
    rw [ea] at h3 ⊢
    exact hq f3 h3
  · rw [if_neg c3] at hl hq
    refine br_f (fun z => c3 (nI_inj (by omega) (by decide) z)) (M_isUnder ?_)
    cases hb : undM (nI kd) 5 with
    | false =>
      rw [hb, if_neg (by decide)] at hl hq
      exact br_t rfl (MA_pwak hk num v x l f _ hl h hq)
    | true =>
      rw [hb, if_pos rfl] at hl hq
      exact br_f (by decide) (MA_cons (MA_pwak hk num v x) 31 (fun z => z ^^^ 7) l f Q hl h hq)
theorem rf_eq (num v x : Int32) : ∀ kd, kd < 7 → rf num v kd 12 kd 0 x = some (mSees kd num x) ∧ rf num v kd 12 kd 1 x = some (mSets kd num v x) ∧ rf num v kd 12 kd 2 x = some (mWak kd num v x) ∧ (mSees kd num x).1.length ≤ 20 ∧ (mSets kd num v x).1.length ≤ 20 ∧ (mWak kd num v x).1.length ≤ 20 := by
  intro kd hk
  rcases (show kd = 0 ∨ kd = 1 ∨ kd = 2 ∨ kd = 3 ∨ kd = 4 ∨ kd = 5 ∨ kd = 6 by omega) with rfl | rfl | rfl | rfl | rfl | rfl | rfl
  all_goals exact ⟨rfl, rfl, rfl, Nat.le_of_ble_eq_true rfl, Nat.le_of_ble_eq_true rfl, Nat.le_of_ble_eq_true rfl⟩
theorem S_c21 {L : Nat} {xs : Fn} {x3 : Int32} {I F G ce cin} {K : KT} (hi : INV I F G ce cin) (v1 : vp_in (x3 + 1) L) (v2 : vp_in (x3 + 2) L) (v3 : vp_in (x3 + 3) L) (hK : ∀ I F G ce cin, INV I F G ce cin → K I F G ce cin) : WL_c21 L xs x3 I F G ce cin K := by
  obtain ⟨R, P, S, O, H, C, N, B, ⟨e1, e2⟩, bd, hT, hR, hZ, hN, hC⟩ := hi.1
  have hC8 : C ≤ 8 := bd.2.2.2.2.2.2.1
  obtain ⟨h1, h2, h3, h4⟩ := hi
  have p5 := e2.2.2.2.2.2.1
  have q6 := e1.2.2.2.2.2.1
  unfold WL_c21 WX10_act
  generalize xs (x3 + 1).toNatClampNeg = x
  generalize xs (x3 + 2).toNatClampNeg = y
  generalize xs (x3 + 3).toNatClampNeg = z
  rw [q6]
  -- the end
  have fin : ∀ (l : List Nat) (fc fm : Fn) (k1 k2 k3 : Int32), l.length ≤ 20 → TL fc l → TL fm l → K (va_up (va_up (va_up (va_up (va_up I 54 (nI l.length)) 76 (nI l.length)) 77 k1) 78 k2) 79 k3) (va_up (va_up F 54 fc) 67 fm) G ce cin := by
    intro l fc fm k1 k2 k3 hl hc hm
    exact hK _ _ _ _ _ ⟨h1, h2, h3, l.length, by omega, rfl, rfl, fun k hk _ => (hc k hk).trans (hm k hk).symm⟩
  have nil : ∀ f : Fn, TL f [] := fun f k h => absurd h (Nat.not_lt_zero k)
  refine ⟨v1, v2, v3, C_cardOf hC8 (fun c => ⟨fun _ => ⟨v1, v2, v3, ?_⟩, fun a z => by cases z⟩) (fun j hj e => ?_)⟩
  · unfold WX11_act
    exact M_isCard p5 hC8 (fun _ => br_t rfl (same_K rfl (fin [] _ _ _ _ _ (by decide) (nil _) (nil _)))) (fun j hj e => (no_reach (by omega) hj e c).elim)
  · obtain ⟨a, v, ea, ha, p1, p2, -, p3, p4, kd, hk7, hkv⟩ := hC.1 j hj
    refine ⟨fun z => (by rw [ea] at z; cases z), fun a' ha' => ?_⟩
    have : a' = a := by rw [ea] at ha'; exact (Option.some.inj ha').symm
    subst this
    subst e
    have m0 : (y < 0 ∨ nI 3 ≤ y) → WX11_act (nI j) y z (I 76) (I 77) (I 78) (I 79) (F 55) (F 67) (fun r10 g1 g2 g3 g4 f => ((0 = r10 → K (va_up (va_up (va_up (va_up (va_up I 54 0) 76 g1) 77 g2) 78 g3) 79 g4) (va_up (va_up F 54 (F 54)) 67 f) G ce cin) ∧ (¬ (0 = r10) → False))) := by
      intro c
      unfold WX11_act
      exact M_isCard p5 hC8 (fun _ => br_t rfl (same_K rfl (fin [] _ _ _ _ _ (by decide) (nil _) (nil _)))) (fun _ _ _ => br_f (by decide) (M_in0 (R := 3) (y := 3) (by decide) rfl (fun _ => br_t rfl (same_K rfl (fin [] _ _ _ _ _ (by decide) (nil _) (nil _)))) (fun i hi e => (no_reach (by decide) hi e c).elim)))
    unfold WX6_clear
    refine br_c (fun c => ⟨v1, v2, v3, m0 (Or.inl c)⟩) (fun c => br_c (fun c2 => ?_) (fun c2 => ⟨v1, v2, v3, m0 (Or.inr ?_)⟩))
    · obtain ⟨i, hi1, ei⟩ := nI_of c
      have i3 : i < 3 := by rw [ei] at c2; exact (nI_ltI (b := 3) hi1 (by decide)).mp c2
      subst ei
      obtain ⟨t0, t1, t2, t3, t4, t5⟩ := rf_eq (ct_number (ce a')) (ct_v (ce a')) z kd hk7
      have own : ct_kind (ce a') = nI kd := p3.1.trans hkv
      have ekI : kI kd = nI kd := by unfold kI; rw [if_pos hk7]
      -- the same for each act
      have go : ∀ r : List Nat × Int32, rf (ct_number (ce a')) (ct_v (ce a')) kd 12 kd i z = some r → r.1.length ≤ 20 → (∀ Q : Int32 → Int32 → Int32 → Int32 → Int32 → Fn → Prop, (∀ f' g1 g2 g3, TL f' r.1 → Q r.2 (nI r.1.length) g1 g2 g3 f') → WX11_act (nI j) (nI i) z (I 76) (I 77) (I 78) (I 79) (F 55) (F 67) Q) → WX6_perform a' (nI i) z 0 (F 54) ce cin (fun r7 b8 f9 => vp_in (x3 + 1) L ∧ vp_in (x3 + 2) L ∧ vp_in (x3 + 3) L ∧ WX11_act (nI j) (nI i) z (I 76) (I 77) (I 78) (I 79) (F 55) (F 67) (fun r10 g1 g2 g3 g4 f => ((r7 = r10 → K (va_up (va_up (va_up (va_up (va_up I 54 b8) 76 g1) 77 g2) 78 g3) 79 g4) (va_up (va_up F 54 f9) 67 f) G ce cin) ∧ (¬ (r7 = r10) → False)))) := by
        intro r hr hl hM
        unfold WX6_perform
        refine ⟨ha, ?_⟩
        have := C_runFrom (ce := ce) (cin := cin) ha hk7 own 12 kd i 0 z [] (F 54) r (fun r7 b8 f9 => vp_in (x3 + 1) L ∧ vp_in (x3 + 2) L ∧ vp_in (x3 + 3) L ∧ WX11_act (nI j) (nI i) z (I 76) (I 77) (I 78) (I 79) (F 55) (F 67) (fun r10 g1 g2 g3 g4 f => ((r7 = r10 → K (va_up (va_up (va_up (va_up (va_up I 54 b8) 76 g1) 77 g2) 78 g3) 79 g4) (va_up (va_up F 54 f9) 67 f) G ce cin) ∧ (¬ (r7 = r10) → False)))) (by omega) i3 (by decide) hr (by rw [List.length_nil]; omega) (nil _) (fun f' hf' => ⟨v1, v2, v3, hM _ (fun fm g1 g2 g3 hm => same_K rfl (fin r.1 f' fm g1 g2 g3 hl hf' hm))⟩)
        rw [ekI] at this
        rw [own]
        exact this
      have mAct : ∀ (r : List Nat × Int32), r.1.length ≤ 20 → (∀ (Q : Int32 → Int32 → Fn → Prop), (∀ f', TL f' r.1 → Q r.2 (nI r.1.length) f') → ((nI i = 0 → WX11_seesActs z 0 (vKind v) (nI j) (F 67) Q) ∧ (¬ (nI i = 0) → ((nI i = 1 → WX11_setsActs z 0 (vKind v) (nI j) (vV v) (F 67) Q) ∧ (¬ (nI i = 1) → WX11_wakesActs z 0 (vKind v) (nI j) (vV v) (F 67) Q))))) → ∀ Q : Int32 → Int32 → Int32 → Int32 → Int32 → Fn → Prop, (∀ f' g1 g2 g3, TL f' r.1 → Q r.2 (nI r.1.length) g1 g2 g3 f') → WX11_act (nI j) (nI i) z (I 76) (I 77) (I 78) (I 79) (F 55) (F 67) Q := by
        intro r hl hW Q hQ
        unfold WX11_act
        refine M_isCard p5 hC8 (fun c => (no_reach (by omega) hj rfl c).elim) (fun _ _ _ => br_f (by decide) (M_in0 (R := 3) (y := 3) (by decide) rfl (fun c => (no_reach (by decide) i3 rfl c).elim) (fun _ _ _ => br_f (by decide) ?_)))
        rw [show (158 : Int32) + nI j = nI (158 + j) by rw [← nI_add]; rfl, nI_clamp (by omega), p1.1, show (166 : Int32) + nI j = nI (166 + j) by rw [← nI_add]; rfl, nI_clamp (by omega), p1.2.1]
        refine ⟨vp_in_nI (by omega) (by decide), ?_⟩
        rintro _ rfl
        refine ⟨vp_in_nI (by omega) (by decide), ?_⟩
        rintro _ rfl
        exact hW (fun r17 n18 f19 => Q r17 n18 (vKind v) (nI j) (vV v) f19) (fun f' hf' => hQ f' _ _ _ hf')
      rw [p4] at t0 t1 t2 t3 t4 t5 go
      rw [p3.2.1] at t0 t1 t2 t4 t5 go
      rcases (show i = 0 ∨ i = 1 ∨ i = 2 by omega) with rfl | rfl | rfl
      · refine go _ t0 t3 (mAct _ t3 (fun Q hQ => br_t rfl ?_))
        rw [hkv]
        exact MA_sees hk7 (nI j) z [] (F 67) Q (by rw [List.length_nil]; omega) (nil _) hQ
      · refine go _ t1 t4 (mAct _ t4 (fun Q hQ => br_f (by decide) (br_t rfl ?_)))
        rw [hkv]
        exact MA_sets hk7 (nI j) (vV v) z [] (F 67) Q (by rw [List.length_nil]; omega) (nil _) hQ
      · refine go _ t2 t5 (mAct _ t5 (fun Q hQ => br_f (by decide) (br_f (by decide) ?_)))
        rw [hkv]
        exact MA_wak hk7 (nI j) (vV v) z [] (F 67) Q (by rw [List.length_nil]; omega) (nil _) hQ
    · have e3 : nI 3 = 3 := rfl
      rw [e3]; grind
