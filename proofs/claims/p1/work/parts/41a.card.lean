/-! ===== by hand: a card, as both systems have it ===== -/
theorem li_16 : (16 : Int32) = nI 16 := rfl
theorem li_64 : (64 : Int32) = nI 64 := rfl
theorem li_100 : (100 : Int32) = nI 100 := rfl
theorem rem2 {a d : Nat} : nI a - nI (a / d) * nI d = nI (a % d) := by
  have h := Nat.div_add_mod a d
  rw [pk_mul, pk_sub (by rw [Nat.mul_comm]; omega)]
  congr 1
  rw [Nat.mul_comm]; omega
/-- a step's test (which + 4 how + 16 v) -/
def psT (t : Nat) (lv hr wy bl : Int32) : Bool :=
  if t / 4 % 4 = 0 then decide ((if t % 4 = 0 then lv else if t % 4 = 1 then hr else if t % 4 = 2 then wy else bl) < nI (t / 16))
  else if t / 4 % 4 = 1 then decide ((if t % 4 = 0 then lv else if t % 4 = 1 then hr else if t % 4 = 2 then wy else bl) = nI (t / 16))
  else decide (nI (t / 16) < (if t % 4 = 0 then lv else if t % 4 = 1 then hr else if t % 4 = 2 then wy else bl))
def opS (ps : Nat → Bool) (x : Int32) (l : List Bool) : List Bool :=
  if x = -1 then (!(l.getD 0 false)) :: l.drop 1 else if x = -2 then (l.getD 1 false && l.getD 0 false) :: l.drop 2 else if x = -3 then (l.getD 1 false || l.getD 0 false) :: l.drop 2 else ps x.toNatClampNeg :: l
def evS (st : Fn) (ps : Nat → Bool) : Nat → Nat → List Bool → List Bool
  | 0, _, l => l
  | n + 1, i, l => evS st ps n (i + 1) (opS ps (st i) l)
/-- n steps from i on go from a stack of d to one of e -/
def okA (st : Fn) : Nat → Nat → Nat → Nat → Prop
  | 0, _, d, e => d = e
  | n + 1, i, d, e => (st i = -1 ∧ 1 ≤ d ∧ okA st n (i + 1) d e) ∨ ((st i = -2 ∨ st i = -3) ∧ 2 ≤ d ∧ okA st n (i + 1) (d - 1) e) ∨ ((∃ t, t < 160 ∧ t / 4 % 4 < 3 ∧ st i = nI t) ∧ d < 13 ∧ okA st n (i + 1) (d + 1) e)
/-- the program's step for the model's -/
def cvs (x : Int32) : Int32 := if x < 0 then x else nI (100 * (x.toNatClampNeg % 4) + 10 * (x.toNatClampNeg / 4 % 4) + x.toNatClampNeg / 16)
def b01 (b : Bool) : Int32 := if b then 1 else 0
theorem C_passes (t : Nat) (ht : t < 160) (hh : t / 4 % 4 < 3) {lv hr wy bl : Int32} {Q : Int32 → Prop} (h : Q (b01 (psT t lv hr wy bl))) : WX5_passes (cvs (nI t)) lv hr wy bl Q := by
  have e : cvs (nI t) = nI (100 * (t % 4) + 10 * (t / 4 % 4) + t / 16) := by unfold cvs; rw [if_neg (nI_pos (by omega)), nI_clamp (by omega)]
  rw [e]
  have a1 : (100 * (t % 4) + 10 * (t / 4 % 4) + t / 16) / 100 = t % 4 := by omega
  have a2 : (100 * (t % 4) + 10 * (t / 4 % 4) + t / 16) % 10 = t / 16 := by omega
  have a3 : (100 * (t % 4) + 10 * (t / 4 % 4) + t / 16) / 10 % 10 = t / 4 % 4 := by omega
  have a4 : 100 * (t % 4) + 10 * (t / 4 % 4) + t / 16 < 400 := by omega
  unfold WX5_passes
  have fin : ∀ is, Q (b01 (if t / 4 % 4 = 0 then decide (is < nI (t / 16)) else if t / 4 % 4 = 1 then decide (is = nI (t / 16)) else decide (nI (t / 16) < is))) → WX5_passes_44 (nI (100 * (t % 4) + 10 * (t / 4 % 4) + t / 16)) lv hr wy bl is Q := by
    intro is hq
    unfold WX5_passes_44
    simp (disch := omega) only [li_10, rem2, pk_div, a2, a3, forall_eq]
    rcases (show t / 4 % 4 = 0 ∨ t / 4 % 4 = 1 ∨ t / 4 % 4 = 2 by omega) with c | c | c
    · rw [c] at hq ⊢
      refine br_t rfl (br_c (fun c2 => ?_) (fun c2 => ?_))
      · rw [if_pos rfl, decide_eq_false (by grind)] at hq; exact hq
      · rw [if_pos rfl, decide_eq_true (by grind)] at hq; exact hq
    · rw [c] at hq ⊢
      refine br_f (by decide) (br_t rfl (br_c (fun c2 => ?_) (fun c2 => ?_)))
      · rw [if_neg (by decide), if_pos rfl, decide_eq_true c2] at hq; exact hq
      · rw [if_neg (by decide), if_pos rfl, decide_eq_false c2] at hq; exact hq
    · rw [c] at hq ⊢
      refine br_f (by decide) (br_f (by decide) (br_c (fun c2 => ?_) (fun c2 => ?_)))
      · rw [if_neg (by decide), if_neg (by decide), decide_eq_false (by grind)] at hq; exact hq
      · rw [if_neg (by decide), if_neg (by decide), decide_eq_true (by grind)] at hq; exact hq
  simp (disch := omega) only [li_100, pk_div, a1, forall_eq]
  unfold psT at h
  rcases (show t % 4 = 0 ∨ t % 4 = 1 ∨ t % 4 = 2 ∨ t % 4 = 3 by omega) with c | c | c | c
  · have ci := fin lv (by rw [c] at h; exact h)
    simp only [c] at ci ⊢
    exact br_t rfl ci
  · have ci := fin hr (by rw [c] at h; exact h)
    simp only [c] at ci ⊢
    exact br_f (by decide) (br_t rfl ci)
  · have ci := fin wy (by rw [c] at h; exact h)
    simp only [c] at ci ⊢
    exact br_f (by decide) (br_f (by decide) (br_t rfl ci))
  · have ci := fin bl (by rw [c] at h; exact h)
    simp only [c] at ci ⊢
    exact br_f (by decide) (br_f (by decide) (br_f (by decide) ci))
/-- the bits of a number are a stack -/
def SB (x : Int32) (l : List Bool) : Prop := ∀ j, j < l.length → bt x j = l.getD j false
theorem bt_1 : ∀ j, j < 32 → bt 1 j = decide (j = 0) := by decide
theorem bt_m2 : ∀ j, j < 32 → bt (-2) j = decide (j ≠ 0) := by decide
theorem SB_push {x : Int32} {l : List Bool} (h : SB x l) (hl : l.length < 13) (b : Bool) : SB ((x <<< ((1 : Int32) &&& 31)) ||| b01 b) (b :: l) := by
  intro j hj
  rw [List.length_cons] at hj
  have e : bt (b01 b) j = (decide (j = 0) && b) := by
    cases b
    · show bt 0 j = _; rw [b_0]; simp
    · show bt 1 j = _; rw [bt_1 j (by omega)]; simp
  rw [b_or, show ((1 : Int32) &&& 31) = (nI 1 &&& 31) from rfl, b_shl 1 (by decide) x (by omega), e]
  cases j with
  | zero => simp
  | succ j =>
    rw [List.getD_cons_succ, ← h j (by omega)]
    simp
theorem SB_not {x : Int32} {l : List Bool} (h : SB x l) (h1 : 1 ≤ l.length) (hl : l.length ≤ 13) : SB (x ^^^ 1) ((!(l.getD 0 false)) :: l.drop 1) := by
  intro j hj
  simp only [List.length_cons, List.length_drop] at hj
  rw [b_xor, bt_1 j (by omega), h j (by omega)]
  cases j with
  | zero => simp
  | succ j => simp [List.getD_eq_getElem?_getD, Nat.add_comm]
theorem SB_both {x : Int32} {l : List Bool} (h : SB x l) (h1 : 2 ≤ l.length) (hl : l.length ≤ 13) : SB ((x >>> ((1 : Int32) &&& 31)) &&& (x ||| (-2))) ((l.getD 1 false && l.getD 0 false) :: l.drop 2) := by
  intro j hj
  simp only [List.length_cons, List.length_drop] at hj
  rw [b_and, b_or, bt_m2 j (by omega), show ((1 : Int32) &&& 31) = (nI 1 &&& 31) from rfl, b_sshr 1 (by decide) x (by omega), if_pos (by omega), h (1 + j) (by omega), h j (by omega)]
  cases j with
  | zero => simp
  | succ j => simp [List.getD_eq_getElem?_getD, Nat.add_comm]; grind
theorem SB_either {x : Int32} {l : List Bool} (h : SB x l) (h1 : 2 ≤ l.length) (hl : l.length ≤ 13) : SB ((x >>> ((1 : Int32) &&& 31)) ||| (x &&& 1)) ((l.getD 1 false || l.getD 0 false) :: l.drop 2) := by
  intro j hj
  simp only [List.length_cons, List.length_drop] at hj
  rw [b_or, b_and, bt_1 j (by omega), show ((1 : Int32) &&& 31) = (nI 1 &&& 31) from rfl, b_sshr 1 (by decide) x (by omega), if_pos (by omega), h (1 + j) (by omega), h j (by omega)]
  cases j with
  | zero => simp
  | succ j => simp [List.getD_eq_getElem?_getD, Nat.add_comm]; grind
theorem SB_end {x : Int32} {l : List Bool} (h : SB x l) (h1 : 1 ≤ l.length) : (x &&& 1) = 1 ↔ l.getD 0 false = true := by
  have e : bt (x &&& 1) 0 = l.getD 0 false := by rw [b_and, h 0 (by omega), bt_1 0 (by decide)]; simp
  rcases and1 x with c | c
  · rw [c] at e ⊢
    rw [← e, b_0]; decide
  · rw [c] at e ⊢
    rw [← e, bt_1 0 (by decide)]; decide

/-- kind, v, lines, the line left out, digits, first step, number of steps, steps -/
abbrev CV : Type := Int32 × Int32 × Nat × Option Nat × Fn × (Nat → Nat) × (Nat → Nat) × Fn
abbrev vKind (c : CV) : Int32 := c.1
abbrev vV (c : CV) : Int32 := c.2.1
abbrev vN (c : CV) : Nat := c.2.2.1
abbrev vLeft (c : CV) : Option Nat := c.2.2.2.1
abbrev vDg (c : CV) : Fn := c.2.2.2.2.1
abbrev vFr (c : CV) : Nat → Nat := c.2.2.2.2.2.1
abbrev vCn (c : CV) : Nat → Nat := c.2.2.2.2.2.2.1
abbrev vSt (c : CV) : Fn := c.2.2.2.2.2.2.2
def lineT (c : CV) (lv hr wy bl : Int32) (j : Nat) : Bool := (evS (vSt c) (fun t => psT t lv hr wy bl) (vCn c j) (vFr c j) []).getD 0 false
def byL (c : CV) (lv hr wy bl : Int32) : Nat → Nat → Int32
  | 0, _ => vV c
  | n + 1, j => if vLeft c ≠ some j ∧ lineT c lv hr wy bl j = true then vDg c j else byL c lv hr wy bl n (j + 1)
def byR (wy b : Int32) : Int32 := if wy = 2 then (if b < 3 then b + 1 else b) else b
def byT (c : CV) (h : Nat) : Int32 :=
  match vLeft c with
  | none => if vN c = 0 then vV c else vDg c (h % vN c)
  | some l => if vN c - 1 = 0 then vV c else vDg c (if l ≤ h % (vN c - 1) then h % (vN c - 1) + 1 else h % (vN c - 1))
def kpr (c : CV) (lv : Int32) (h : Nat) (wy bl w : Int32) : Int32 :=
  if vKind c = 1 then byL c lv (nI h) wy bl (vN c) 0
  else if vKind c = 2 then byR wy (byL c lv (nI h) wy bl (vN c) 0)
  else if vKind c = 3 then (if byR wy (byL c lv (nI h) wy bl (vN c) 0) ≤ w + 1 then (if w - 1 ≤ byR wy (byL c lv (nI h) wy bl (vN c) 0) then byR wy (byL c lv (nI h) wy bl (vN c) 0) else w - 1) else w + 1)
  else if vKind c = 4 then (if bl = 1 then 3 else byL c lv (nI h) wy bl (vN c) 0)
  else if vKind c = 5 then byT c h
  else if vKind c = 6 then (if h % 2 = 0 then byT c h else w)
  else vV c
/-- a card that can be -/
def okV (c : CV) : Prop := (1 ≤ vN c ∧ vN c ≤ 6) ∧ (0 ≤ vV c ∧ vV c ≤ 3) ∧ (∀ l, vLeft c = some l → l < vN c) ∧ ∀ j, j < vN c → (0 ≤ vDg c j ∧ vDg c j ≤ 3) ∧ vFr c j + vCn c j ≤ 120 ∧ okA (vSt c) (vCn c j) (vFr c j) 0 1
/-- the program's object of a card -/
def picC (c : CV) (o : CT) : Prop := ct_kind o = vKind c ∧ ct_v o = vV c ∧ ct_lineCount o = nI (vN c) ∧ ct_leftOut o = (match vLeft c with | none => -1 | some l => nI l) ∧ ∀ j, j < vN c → ct_digits o j = vDg c j ∧ ct_begins o j = nI (vFr c j) ∧ ct_ends o j = nI (vFr c j + vCn c j) ∧ ∀ k, vFr c j ≤ k → k < vFr c j + vCn c j → ct_steps o k = cvs (vSt c k)
theorem byL_ok {c : CV} (h : okV c) (lv hr wy bl : Int32) : ∀ n j, j + n ≤ vN c → 0 ≤ byL c lv hr wy bl n j ∧ byL c lv hr wy bl n j ≤ 3 := by
  intro n
  induction n with
  | zero => intro j _; exact h.2.1
  | succ n ih =>
    intro j hj
    unfold byL
    by_cases e : vLeft c ≠ some j ∧ lineT c lv hr wy bl j = true
    · rw [if_pos e]; exact (h.2.2.2 j (by omega)).1
    · rw [if_neg e]; exact ih (j + 1) (by omega)
theorem byR_ok {wy b : Int32} (h : 0 ≤ b ∧ b ≤ 3) : 0 ≤ byR wy b ∧ byR wy b ≤ 3 := by unfold byR; grind
theorem byT_ok {c : CV} (h : okV c) (t : Nat) : 0 ≤ byT c t ∧ byT c t ≤ 3 := by
  unfold byT
  have h3 := h.2.2.1
  have h1 := h.1
  cases e : vLeft c with
  | none =>
    show 0 ≤ (if vN c = 0 then vV c else vDg c (t % vN c)) ∧ (if vN c = 0 then vV c else vDg c (t % vN c)) ≤ 3
    rw [if_neg (by omega)]
    exact (h.2.2.2 _ (Nat.mod_lt _ (by omega))).1
  | some l =>
    have := h3 l e
    show 0 ≤ (if vN c - 1 = 0 then vV c else vDg c (if l ≤ t % (vN c - 1) then t % (vN c - 1) + 1 else t % (vN c - 1))) ∧ (if vN c - 1 = 0 then vV c else vDg c (if l ≤ t % (vN c - 1) then t % (vN c - 1) + 1 else t % (vN c - 1))) ≤ 3
    by_cases z : vN c - 1 = 0
    · rw [if_pos z]; exact h.2.1
    · rw [if_neg z]
      have := Nat.mod_lt t (show 0 < vN c - 1 by omega)
      exact (h.2.2.2 _ (by split <;> omega)).1
theorem kpr_ok {c : CV} (h : okV c) (lv : Int32) (t : Nat) (wy bl w : Int32) (h0 : 0 ≤ w) (h3 : w ≤ 3) : 0 ≤ kpr c lv t wy bl w ∧ kpr c lv t wy bl w ≤ 3 := by
  have a := byL_ok h lv (nI t) wy bl (vN c) 0 (by omega)
  have b := byR_ok (wy := wy) a
  have d := byT_ok h t
  have e := h.2.1
  unfold kpr
  grind
