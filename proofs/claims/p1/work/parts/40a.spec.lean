/-! ===== by hand: small numbers ===== -/
theorem vI {n N : Nat} (hn : n < 2 ^ 31) : vp_in (nI n) N ↔ n < N := by
  unfold vp_in
  rw [nI_clamp hn]
  have := nI_pos hn
  constructor
  · intro h; omega
  · intro h h2
    rcases h2 with h2 | h2
    · exact this h2
    · omega
theorem li_0 : (0 : Int32) = nI 0 := rfl
theorem li_1 : (1 : Int32) = nI 1 := rfl
theorem li_2 : (2 : Int32) = nI 2 := rfl
theorem li_3 : (3 : Int32) = nI 3 := rfl
theorem li_4 : (4 : Int32) = nI 4 := rfl
theorem li_5 : (5 : Int32) = nI 5 := rfl
theorem li_6 : (6 : Int32) = nI 6 := rfl
theorem li_7 : (7 : Int32) = nI 7 := rfl
theorem li_8 : (8 : Int32) = nI 8 := rfl
theorem li_9 : (9 : Int32) = nI 9 := rfl
theorem li_10 : (10 : Int32) = nI 10 := rfl
theorem li_120 : (120 : Int32) = nI 120 := rfl
theorem li_130 : (130 : Int32) = nI 130 := rfl
theorem li_133 : (133 : Int32) = nI 133 := rfl
theorem li_136 : (136 : Int32) = nI 136 := rfl
theorem li_139 : (139 : Int32) = nI 139 := rfl
theorem li_140 : (140 : Int32) = nI 140 := rfl
theorem li_142 : (142 : Int32) = nI 142 := rfl
theorem li_145 : (145 : Int32) = nI 145 := rfl
theorem li_148 : (148 : Int32) = nI 148 := rfl
theorem li_158 : (158 : Int32) = nI 158 := rfl
theorem li_166 : (166 : Int32) = nI 166 := rfl
theorem li_174 : (174 : Int32) = nI 174 := rfl
theorem li_182 : (182 : Int32) = nI 182 := rfl
theorem li_230 : (230 : Int32) = nI 230 := rfl
theorem li_278 : (278 : Int32) = nI 278 := rfl
theorem li_326 : (326 : Int32) = nI 326 := rfl
theorem li_334 : (334 : Int32) = nI 334 := rfl
theorem upL {f g : Nat → Int32} {r : Nat} {x : Int32} (h : ∀ k, k < r → f k = g k) (e : x = g r) : ∀ k, k < r + 1 → upd f r x k = g k := by
  intro k hk
  by_cases c : k = r
  · subst c; rw [pk_us]; exact e
  · rw [pk_un c]; exact h k (by omega)
/-! ===== by hand: an hour, as both systems have it ===== -/
abbrev Fn : Type := Nat → Int32
/-- levels, boards, ways, hour -/
abbrev St : Type := Fn × Fn × Fn × Nat
abbrev sL (σ : St) : Fn := σ.1
abbrev sB (σ : St) : Fn := σ.2.1
abbrev sW (σ : St) : Fn := σ.2.2.1
abbrev sH (σ : St) : Nat := σ.2.2.2
/-- a keeper: reach, level, hour, way, bell, boards that were -/
abbrev KP : Type := Nat → Int32 → Int32 → Int32 → Int32 → Int32 → Int32
/-- reaches, banks, mills, is the bell silent, the keepers -/
abbrev RV : Type := Nat × Fn × Fn × Bool × KP
abbrev rR (ρ : RV) : Nat := ρ.1
abbrev rB (ρ : RV) : Fn := ρ.2.1
abbrev rM (ρ : RV) : Fn := ρ.2.2.1
abbrev rU (ρ : RV) : Bool := ρ.2.2.2.1
abbrev rK (ρ : RV) : KP := ρ.2.2.2.2
def hBell (ρ : RV) (σ : St) : Int32 := if rU ρ = false ∧ sL σ 0 = rB ρ 0 then 1 else 0
def hNB (ρ : RV) (σ : St) (r : Nat) : Int32 := rK ρ r (sL σ r) (nI (sH σ)) (sW σ r) (hBell ρ σ) (sB σ r)
def hOut (ρ : RV) (σ : St) (r : Nat) : Int32 := if hNB ρ σ r ≤ sL σ r then hNB ρ σ r else sL σ r
def hIn (ρ : RV) (σ : St) : Nat → Int32
  | 0 => 0
  | r + 1 => hOut ρ σ r
def hPre (ρ : RV) (σ : St) (r : Nat) : Int32 := sL σ r - hOut ρ σ r + hIn ρ σ r
def hNx (ρ : RV) (σ : St) (a : Int32) (r : Nat) : Int32 := hPre ρ σ r + ((a >>> (nI r &&& 31)) &&& 1)
def hLv (ρ : RV) (σ : St) (a : Int32) (r : Nat) : Int32 := if hNx ρ σ a r ≤ rB ρ r then hNx ρ σ a r else rB ρ r
def hWy (ρ : RV) (σ : St) (a : Int32) (r : Nat) : Int32 := if hLv ρ σ a r < sL σ r then 0 else if hLv ρ σ a r = sL σ r then 1 else 2
def hOv (ρ : RV) (σ : St) (a : Int32) : Nat → Int32
  | 0 => 0
  | r + 1 => if hNx ρ σ a r ≤ rB ρ r then hOv ρ σ a r else hOv ρ σ a r ||| ((1 : Int32) <<< (nI r &&& 31))
def hDr (ρ : RV) (σ : St) (a : Int32) : Nat → Int32
  | 0 => 0
  | r + 1 => if hLv ρ σ a r < rM ρ r then hDr ρ σ a r ||| ((1 : Int32) <<< (nI r &&& 31)) else hDr ρ σ a r
def hGo (ρ : RV) (σ : St) (a : Int32) : St := (hLv ρ σ a, hNB ρ σ, hWy ρ σ a, sH σ + 1)
