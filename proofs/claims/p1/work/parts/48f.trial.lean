/-! ===== by hand: drunk ===== -/
noncomputable def drA (good : Nat → Prop) : Nat → Int32
  | 0 => 0
  | k + 1 => @ite Int32 (good k ∧ dr k = 1) (Classical.propDecidable _) (drA good k ||| nI k) (drA good k)
noncomputable def drB (good : Nat → Prop) : Nat → Option Nat
  | 0 => none
  | k + 1 => @ite (Option Nat) (good k ∧ ∀ b, drB good k = some b → dr b < dr k) (Classical.propDecidable _) (some k) (drB good k)
def drI : Option Nat → Int32
  | none => -5
  | some b => nI b
theorem drB_lt {good : Nat → Prop} : ∀ k b, drB good k = some b → b < k
  | 0, b, h => by cases h
  | k + 1, b, h => by
    rw [drB] at h
    by_cases c : good k ∧ ∀ b, drB good k = some b → dr b < dr k
    · rw [if_pos c] at h; have := Option.some.inj h; omega
    · rw [if_neg c] at h; have := drB_lt k b h; omega
theorem drA_y {good : Nat → Prop} {k : Nat} (h : good k) (h1 : dr k = 1) : drA good (k + 1) = drA good k ||| nI k := by rw [drA, if_pos ⟨h, h1⟩]
theorem drA_n {good : Nat → Prop} {k : Nat} (h : ¬ (good k ∧ dr k = 1)) : drA good (k + 1) = drA good k := by rw [drA, if_neg h]
theorem drB_y {good : Nat → Prop} {k : Nat} (h : good k) (h1 : ∀ b, drB good k = some b → dr b < dr k) : drB good (k + 1) = some k := by rw [drB, if_pos ⟨h, h1⟩]
theorem drB_n {good : Nat → Prop} {k : Nat} (h : ¬ (good k ∧ ∀ b, drB good k = some b → dr b < dr k)) : drB good (k + 1) = drB good k := by rw [drB, if_neg h]
theorem pow2R {R : Nat} (h : R ≤ 3) : 2 ^ R ≤ 8 := by
  rcases (show R = 0 ∨ R = 1 ∨ R = 2 ∨ R = 3 by omega) with rfl | rfl | rfl | rfl <;> decide
/-- what the trial's calls leave, the staying mark aside -/
theorem drN1 {k : Nat} : dr k = 1 ↔ nI (dr k) = 1 := by
  have := dr_le k
  constructor
  · intro h; rw [h]; rfl
  · intro h; exact nI_inj (b := 1) (by omega) (by decide) h
set_option maxHeartbeats 4000000 in
theorem M_drunk {L : Nat} {s : Fn} {R P S H C : Nat} {V : Nat → CV} {good : Nat → Prop} {x ll : Int32} (hx : x = 0 ∨ x = 1) (p1 : s 0 = nI R) (z : 1 ≤ R) (b1 : R ≤ 3)
    (hh : ∀ k, k < 8 → ∀ (Q : Int32 → Int32 → Int32 → Int32 → Int32 → Int32 → Fn → Fn → Fn → Fn → Fn → Prop), (∀ h o d fh fr lv bo wy nx tr, good k → Q 1 h o d fh fr lv bo wy nx tr) → (∀ h o d fh fr lv bo wy nx tr, ¬ good k → Q 0 h o d fh fr lv bo wy nx tr) → ∀ h o d fh fr lv bo wy nx tr, WX11_areHolding h (nI k) (-1) ll 0 0 o d fh fr s lv bo wy nx tr Q)
    {KK : Int32 → Int32 → Int32 → Int32 → Int32 → Int32 → Fn → Fn → Fn → Fn → Fn → Prop} (hk : ∀ a1 a3 a4 a5 a6 f1 f2 f3 f4 f5, KK a1 0 a3 a4 a5 a6 f1 f2 f3 f4 f5) {r1 : Int32} (hr1 : r1 = (if x = 0 then drA good (2 ^ R) else drI (drB good (2 ^ R)))) :
    ∀ h o d fh fr lv bo wy nx tr, WX11_drunk x h 0 (-1) ll 0 0 o d fh fr s lv bo wy nx tr (fun (r2 a1 a2 a3 a4 a5 a6 : Int32) (f1 f2 f3 f4 f5 : Fn) => ((r1 = r2 → KK a1 a2 a3 a4 a5 a6 f1 f2 f3 f4 f5) ∧ (¬ (r1 = r2) → False))) := by
  intro h o d fh fr lv bo wy nx tr
  have hP8 := pow2R b1
  unfold WX11_drunk WX11_in
  refine br_f (by rcases hx with rfl | rfl <;> decide) (br_f (by rcases hx with rfl | rfl <;> decide) (br_f (by decide) (M_isRiver p1 b1 (fun z2 => absurd z2 (by omega)) (fun _ => br_f (by decide) ?_))))
  suffices g : ∀ (n k : Nat) (x2 x3 h o d fh fr : Int32) (lv bo wy nx tr : Fn), k ≤ 2 ^ R → 2 ^ R < n + k → x2 = drA good k → x3 = drI (drB good k) → WX11_drunk_29 x (-1) ll 0 0 s (fun (r2 a1 a2 a3 a4 a5 a6 : Int32) (f1 f2 f3 f4 f5 : Fn) => ((r1 = r2 → KK a1 a2 a3 a4 a5 a6 f1 f2 f3 f4 f5) ∧ (¬ (r1 = r2) → False))) n x2 x3 (nI k) h 0 o d fh fr lv bo wy nx tr from
    ⟨9, g 9 0 _ _ _ _ _ _ _ _ _ _ _ _ (Nat.zero_le _) (by omega) rfl rfl⟩
  intro n
  induction n with
  | zero => intro k x2 x3 h o d fh fr lv bo wy nx tr h1 h2; omega
  | succ n ih =>
    intro k x2 x3 h o d fh fr lv bo wy nx tr hk8 hn h2 h3
    unfold WX11_drunk_29
    rw [show s (0 : Int32).toNatClampNeg = nI R from p1, shl1 R b1]
    by_cases ck : 2 ^ R ≤ k
    · have e : k = 2 ^ R := by omega
      subst e
      refine br_t (nI_le (by omega) (by omega)) ?_
      unfold WX11_drunk_118
      refine br_c (fun c => same_K ?_ (hk _ _ _ _ _ _ _ _ _ _)) (fun c => same_K ?_ (hk _ _ _ _ _ _ _ _ _ _))
      · rw [hr1, if_pos c, h2]
      · rw [hr1, if_neg c, h3]
    · refine br_f (nI_ge (by omega) (by omega)) ?_
      have hk7 : k < 8 := by omega
      have f111 : ∀ (x2 s0 h o d fh fr : Int32) (lv bo wy nx tr : Fn), x2 = drA good (k + 1) → s0 = drI (drB good (k + 1)) → WX11_drunk_111 x (-1) ll 0 0 s x2 (nI k) s0 h 0 o d fh fr lv bo wy nx tr (fun (r2 a1 a2 a3 a4 a5 a6 : Int32) (f1 f2 f3 f4 f5 : Fn) => ((r1 = r2 → KK a1 a2 a3 a4 a5 a6 f1 f2 f3 f4 f5) ∧ (¬ (r1 = r2) → False))) (WX11_drunk_29 x (-1) ll 0 0 s (fun (r2 a1 a2 a3 a4 a5 a6 : Int32) (f1 f2 f3 f4 f5 : Fn) => ((r1 = r2 → KK a1 a2 a3 a4 a5 a6 f1 f2 f3 f4 f5) ∧ (¬ (r1 = r2) → False))) n) := by
        intro x2 s0 h o d fh fr lv bo wy nx tr h1 h2
        unfold WX11_drunk_111
        rintro _ rfl
        rw [nI_1]
        exact ih (k + 1) _ _ _ _ _ _ _ _ _ _ _ _ (by omega) (by omega) h1 h2
      refine hh k hk7 _ (fun h o d fh fr lv bo wy nx tr hg => br_f (by decide) (M_drops hk7 ?_)) (fun h o d fh fr lv bo wy nx tr hg => br_t rfl ?_) _ _ _ _ _ _ _ _ _ _
      · have f80 : ∀ (s1 : Int32), x2 ||| s1 = drA good (k + 1) → WX11_drunk_80 x (-1) ll 0 0 s x3 (nI k) 1 x2 s1 h 0 o d fh fr lv bo wy nx tr (fun (r2 a1 a2 a3 a4 a5 a6 : Int32) (f1 f2 f3 f4 f5 : Fn) => ((r1 = r2 → KK a1 a2 a3 a4 a5 a6 f1 f2 f3 f4 f5) ∧ (¬ (r1 = r2) → False))) (WX11_drunk_29 x (-1) ll 0 0 s (fun (r2 a1 a2 a3 a4 a5 a6 : Int32) (f1 f2 f3 f4 f5 : Fn) => ((r1 = r2 → KK a1 a2 a3 a4 a5 a6 f1 f2 f3 f4 f5) ∧ (¬ (r1 = r2) → False))) n) := by
          intro s1 hs
          unfold WX11_drunk_80
          rintro _ rfl
          refine br_f (by decide) ?_
          unfold WX11_drunk_105 WX11_drunk_110
          cases hB : drB good k with
          | none =>
            rw [hB] at h3
            refine br_t h3 (f111 _ _ _ _ _ _ _ _ _ _ _ _ hs ?_)
            rw [drB_y hg (fun b hb => by rw [hB] at hb; cases hb)]; rfl
          | some q =>
            rw [hB] at h3
            have hq := drB_lt k q hB
            have e3 : x3 = nI q := h3
            subst e3
            refine br_f (by have := nI_pos (n := q) (by omega); grind) (M_drops hk7 (M_drops (by omega) ?_))
            have d1 := dr_le k
            have d2 := dr_le q
            by_cases cd : dr k ≤ dr q
            · refine br_t (nI_le cd (by omega)) (f111 _ _ _ _ _ _ _ _ _ _ _ _ hs ?_)
              rw [drB_n (fun zz => by have := zz.2 q hB; omega), hB]; rfl
            · refine br_f (nI_ge (by omega) (by omega)) (f111 _ _ _ _ _ _ _ _ _ _ _ _ hs ?_)
              rw [drB_y hg (fun b hb => by rw [hB] at hb; rw [← Option.some.inj hb]; omega)]; rfl
        by_cases c1 : dr k = 1
        · refine br_t (drN1.mp c1) (f80 _ ?_)
          rw [drA_y hg c1, h2]
        · refine br_f (fun zz => c1 (drN1.mpr zz)) ?_
          unfold WX11_drunk_79
          refine f80 0 ?_
          rw [drA_n (fun zz => c1 zz.2), h2, Int32.or_zero]
      · unfold WX11_drunk_79 WX11_drunk_80
        rintro _ rfl
        refine br_t rfl ?_
        unfold WX11_drunk_110
        refine f111 _ _ _ _ _ _ _ _ _ _ _ _ ?_ ?_
        · rw [drA_n (fun zz => hg zz.1), h2, Int32.or_zero]
        · rw [drB_n (fun zz => hg zz.1), h3]

set_option maxHeartbeats 4000000 in
theorem C_drunk {x : Int32} {R P S H C : Nat} {I : Nat → Int32} {F : Nat → Fn} {G : Nat → Nat → Option Nat} {ce : Nat → CT} {cin : Nat → Prop} {good : Nat → Prop} (b1 : R ≤ 3) {tb tm th tl to tw sl sb sw : Fn} {tc : Nat → Option Nat}
    (hh : ∀ k, k < 8 → ∀ (Q : Int32 → Int32 → Int32 → Int32 → Int32 → Int32 → Int32 → Int32 → Fn → Fn → Fn → Fn → Int32 → Int32 → Fn → Fn → Fn → Fn → Int32 → Int32 → Fn → Fn → Fn → Fn → Prop), (∀ fh nh rb s1 s2 s3 s4 b p l w nh2 rb2 bb2 pp2 ll2 ww2 nh3 rb3 bb3 pp3 ll3 ww3, good k → Q 1 fh nh rb s1 s2 s3 s4 b p l w nh2 rb2 bb2 pp2 ll2 ww2 nh3 rb3 bb3 pp3 ll3 ww3) → (∀ fh nh rb s1 s2 s3 s4 b p l w nh2 rb2 bb2 pp2 ll2 ww2 nh3 rb3 bb3 pp3 ll3 ww3, ¬ good k → Q 0 fh nh rb s1 s2 s3 s4 b p l w nh2 rb2 bb2 pp2 ll2 ww2 nh3 rb3 bb3 pp3 ll3 ww3) → ∀ fh nh rb s1 s2 s3 s4 b p l w nh2 rb2 bb2 pp2 ll2 ww2 nh3 rb3 bb3 pp3 ll3 ww3, WX7_isSafe (nI k) 0 fh (nI R) (nI P) (nI S) (nI H) nh rb s1 s2 s3 s4 sb tc sl b p sw tb l w nh2 rb2 bb2 pp2 ll2 ww2 nh3 rb3 bb3 pp3 ll3 ww3 ce cin Q)
    {Q : Int32 → Int32 → Int32 → Int32 → Int32 → Int32 → Int32 → Int32 → Fn → Fn → Fn → Int32 → Fn → Fn → Fn → Int32 → Fn → Fn → Fn → (Nat → Option Nat) → Int32 → Int32 → Int32 → Int32 → Int32 → Int32 → Fn → Fn → Fn → Fn → Int32 → Int32 → Fn → Fn → Fn → Fn → Int32 → Int32 → Fn → Fn → Fn → Fn → Prop} (hQ : ∀ as fh nh rb s1 s2 s3 s4 b p l w nh2 rb2 bb2 pp2 ll2 ww2 nh3 rb3 bb3 pp3 ll3 ww3, Q (if x = 0 then drA good (2 ^ R) else drI (drB good (2 ^ R))) as 0 fh (nI R) (nI P) (nI S) (I 7) tb tm th (nI H) tl to tw (nI H) sl sb sw tc nh rb s1 s2 s3 s4 b p l w nh2 rb2 bb2 pp2 ll2 ww2 nh3 rb3 bb3 pp3 ll3 ww3) :
    ∀ fh nh rb s1 s2 s3 s4 b p l w nh2 rb2 bb2 pp2 ll2 ww2 nh3 rb3 bb3 pp3 ll3 ww3, ∃ n, WX10_drunk_40 x (nI C) (nI R) (nI P) (nI S) (I 7) (F 1) (F 2) (F 3) (nI H) (F 4) (F 5) (F 6) (G 0) ce cin Q n 0 (-5) 0 0 0 fh (nI R) (nI P) (nI S) (I 7) tb tm th (nI H) tl to tw (nI H) sl sb sw tc nh rb s1 s2 s3 s4 b p l w nh2 rb2 bb2 pp2 ll2 ww2 nh3 rb3 bb3 pp3 ll3 ww3 := by
  intro fh nh rb s1 s2 s3 s4 b p l w nh2 rb2 bb2 pp2 ll2 ww2 nh3 rb3 bb3 pp3 ll3 ww3
  have hP8 := pow2R b1
  suffices g : ∀ (n k : Nat) (x2 x3 : Int32) (as fh nh rb s1 s2 s3 s4 : Int32) (b p l w : Fn) (nh2 rb2 : Int32) (bb2 pp2 ll2 ww2 : Fn) (nh3 rb3 : Int32) (bb3 pp3 ll3 ww3 : Fn), k ≤ 2 ^ R → 2 ^ R < n + k → x2 = drA good k → x3 = drI (drB good k) → WX10_drunk_40 x (nI C) (nI R) (nI P) (nI S) (I 7) (F 1) (F 2) (F 3) (nI H) (F 4) (F 5) (F 6) (G 0) ce cin Q n x2 x3 (nI k) as 0 fh (nI R) (nI P) (nI S) (I 7) tb tm th (nI H) tl to tw (nI H) sl sb sw tc nh rb s1 s2 s3 s4 b p l w nh2 rb2 bb2 pp2 ll2 ww2 nh3 rb3 bb3 pp3 ll3 ww3 from
    ⟨9, g 9 0 _ _ _ _ _ _ _ _ _ _ _ _ _ _ _ _ _ _ _ _ _ _ _ _ _ _ (Nat.zero_le _) (by omega) rfl rfl⟩
  intro n
  induction n with
  | zero => intro k x2 x3 as fh nh rb s1 s2 s3 s4 b p l w nh2 rb2 bb2 pp2 ll2 ww2 nh3 rb3 bb3 pp3 ll3 ww3 h1 h2; omega
  | succ n ih =>
    intro k x2 x3 as fh nh rb s1 s2 s3 s4 b p l w nh2 rb2 bb2 pp2 ll2 ww2 nh3 rb3 bb3 pp3 ll3 ww3 hk8 hn h2 h3
    unfold WX10_drunk_40
    rw [shl1 R b1]
    by_cases ck : 2 ^ R ≤ k
    · have e : k = 2 ^ R := by omega
      subst e
      refine br_t (nI_le (by omega) (by omega)) ?_
      unfold WX10_drunk_118
      have := hQ as fh nh rb s1 s2 s3 s4 b p l w nh2 rb2 bb2 pp2 ll2 ww2 nh3 rb3 bb3 pp3 ll3 ww3
      refine br_c (fun c => ?_) (fun c => ?_)
      · rw [if_pos c, ← h2] at this; exact this
      · rw [if_neg c, ← h3] at this; exact this
    · refine br_f (nI_ge (by omega) (by omega)) ?_
      have hk7 : k < 8 := by omega
      have f112 : ∀ (x2 x3 : Int32) (as fh nh rb s1 s2 s3 s4 : Int32) (b p l w : Fn) (nh2 rb2 : Int32) (bb2 pp2 ll2 ww2 : Fn) (nh3 rb3 : Int32) (bb3 pp3 ll3 ww3 : Fn), x2 = drA good (k + 1) → x3 = drI (drB good (k + 1)) → WX10_drunk_112 x (nI C) (nI R) (nI P) (nI S) (I 7) (F 1) (F 2) (F 3) (nI H) (F 4) (F 5) (F 6) (G 0) ce cin x2 x3 (nI k) as 0 fh (nI R) (nI P) (nI S) (I 7) tb tm th (nI H) tl to tw (nI H) sl sb sw tc nh rb s1 s2 s3 s4 b p l w nh2 rb2 bb2 pp2 ll2 ww2 nh3 rb3 bb3 pp3 ll3 ww3 Q (WX10_drunk_40 x (nI C) (nI R) (nI P) (nI S) (I 7) (F 1) (F 2) (F 3) (nI H) (F 4) (F 5) (F 6) (G 0) ce cin Q n) := by
        intro x2 x3 as fh nh rb s1 s2 s3 s4 b p l w nh2 rb2 bb2 pp2 ll2 ww2 nh3 rb3 bb3 pp3 ll3 ww3 h1 h2
        unfold WX10_drunk_112
        rintro _ rfl
        rw [nI_1]
        exact ih (k + 1) _ _ _ _ _ _ _ _ _ _ _ _ _ _ _ _ _ _ _ _ _ _ _ _ _ _ (by omega) (by omega) h1 h2
      refine hh k hk7 _ (fun fh nh rb s1 s2 s3 s4 b p l w nh2 rb2 bb2 pp2 ll2 ww2 nh3 rb3 bb3 pp3 ll3 ww3 hg => br_f (by decide) (bitCount_ok k hk7 ?_)) (fun fh nh rb s1 s2 s3 s4 b p l w nh2 rb2 bb2 pp2 ll2 ww2 nh3 rb3 bb3 pp3 ll3 ww3 hg => br_t rfl (f112 _ _ _ _ _ _ _ _ _ _ _ _ _ _ _ _ _ _ _ _ _ _ _ _ _ _ ?_ ?_)) _ _ _ _ _ _ _ _ _ _ _ _ _ _ _ _ _ _ _ _ _ _ _ 
      · have f93 : ∀ (x2 : Int32), x2 = drA good (k + 1) → WX10_drunk_93 x (nI C) (nI R) (nI P) (nI S) (I 7) (F 1) (F 2) (F 3) (nI H) (F 4) (F 5) (F 6) (G 0) ce cin x2 x3 (nI k) (nI k) 0 fh (nI R) (nI P) (nI S) (I 7) tb tm th (nI H) tl to tw (nI H) sl sb sw tc nh rb s1 s2 s3 s4 b p l w nh2 rb2 bb2 pp2 ll2 ww2 nh3 rb3 bb3 pp3 ll3 ww3 Q (WX10_drunk_40 x (nI C) (nI R) (nI P) (nI S) (I 7) (F 1) (F 2) (F 3) (nI H) (F 4) (F 5) (F 6) (G 0) ce cin Q n) := by
          intro x2 hs
          unfold WX10_drunk_93 WX10_drunk_109
          cases hB : drB good k with
          | none =>
            rw [hB] at h3
            refine br_t (by rw [h3]; decide) (f112 _ _ _ _ _ _ _ _ _ _ _ _ _ _ _ _ _ _ _ _ _ _ _ _ _ _ hs ?_)
            rw [drB_y hg (fun b hb => by rw [hB] at hb; cases hb)]; rfl
          | some q =>
            rw [hB] at h3
            have hq := drB_lt k q hB
            have e3 : x3 = nI q := h3
            subst e3
            refine br_f (by have := nI_pos (n := q) (by omega); grind) (bitCount_ok k hk7 (bitCount_ok q (by omega) ?_))
            have d1 := dr_le k
            have d2 := dr_le q
            by_cases cd : dr k ≤ dr q
            · refine br_t (nI_le cd (by omega)) (f112 _ _ _ _ _ _ _ _ _ _ _ _ _ _ _ _ _ _ _ _ _ _ _ _ _ _ hs ?_)
              rw [drB_n (fun zz => by have := zz.2 q hB; omega), hB]; rfl
            · refine br_f (nI_ge (by omega) (by omega)) (f112 _ _ _ _ _ _ _ _ _ _ _ _ _ _ _ _ _ _ _ _ _ _ _ _ _ _ hs ?_)
              rw [drB_y hg (fun b hb => by rw [hB] at hb; rw [← Option.some.inj hb]; omega)]; rfl
        by_cases c1 : dr k = 1
        · refine br_t (drN1.mp c1) ?_
          rintro _ rfl
          exact f93 _ (by rw [drA_y hg c1, h2])
        · refine br_f (fun zz => c1 (drN1.mpr zz)) (f93 _ ?_)
          rw [drA_n (fun zz => c1 zz.2), h2]
      · rw [drA_n (fun zz => hg zz.1), h2]
      · rw [drB_n (fun zz => hg zz.1), h3]
