/-! ===== by hand: the program weighs rains ===== -/

set_option maxHeartbeats 4000000 in
theorem C_weigh1 (ρ : RV) {asleep silent th : Int32} {bk ml : Fn} {cards : Nat → Option Nat} {ce : Nat → CT} {cin : Nat → Prop} {O : Nat} {co : St → Nat → Prop} (hO : O < 10) (hth : (th = 0 ∧ ∀ σ k, co σ k ↔ hOv ρ σ (nI k) (rR ρ) ≠ 0) ∨ (th ≠ 0 ∧ ∀ σ k, co σ k ↔ hDr ρ σ (nI k) (rR ρ) ≠ 0)) (hR : okR ρ) (hU : silent = 0 ↔ rU ρ = false) (hB : ∀ r, r < rR ρ → bk r = rB ρ r) (hM : ∀ r, r < rR ρ → ml r = rM ρ r) (hC : CKr ρ asleep cards ce cin) (σ : St) (N m : Nat) (hS : okS ρ σ N) (hN : N + m < 1000) (hm : m ≤ 1)
    {pb pl pw : Fn} {Q : Int64 → Int32 → Int32 → Int32 → Int32 → Int32 → Fn → Fn → Fn → Fn → Prop} (h2 : ∀ r, r < rR ρ → pl r = sL σ r) (h3 : ∀ r, r < rR ρ → pb r = sB σ r) (h4 : ∀ r, r < rR ρ → pw r = sW σ r)
    (hQ : ∀ (nh : Int32) (s1 : Int32) (s2 : Int32) (s3 : Int32) (s4 : Int32) (b : Fn) (p : Fn) (l : Fn) (w : Fn), Q (lN (WG ρ O co m σ)) nh s1 s2 s3 s4 b p l w) (nh : Int32) (s1 : Int32) (s2 : Int32) (s3 : Int32) (s4 : Int32) (b : Fn) (p : Fn) (l : Fn) (w : Fn) : WX7_weigh_d1 (nI m) th (nI (sH σ)) nh asleep silent s1 s2 s3 s4 (nI (rR ρ)) (nI O) pb cards pl b p pw bk l w ml ce cin Q := by
  have hR3 := hR.2.1
  have hP8 := P8 hR3
  have hS' := okS_mono hS (M := 1000) (by omega)
  cases m with
  | zero =>
    unfold WX7_weigh_d1
    exact br_f (nI_ge (a := 0) (b := 1) (by decide) (by decide)) (hQ nh s1 s2 s3 s4 b p l w)
  | succ m =>
    unfold WX7_weigh_d1
    refine br_t (nI_le (a := 1) (by omega) (by omega)) (C_setBoards ρ σ hR hS' hU hB h2 h3 h4 hC (fun s1 s2 s3 s4 b p hb hp => ?_) s1 s2 s3 s4 nh b p)
    rw [nI_pred, pk_mul]
    refine C_pow (show rR ρ * m ≤ 9 from Nat.mul_le_mul hR3 (show m ≤ 3 by omega)) ?_
    suffices loop : ∀ (n k : Nat) (x7 : Int64) (nh : Int32) (s1 : Int32) (s2 : Int32) (s3 : Int32) (s4 : Int32) (b : Fn) (p : Fn) (l : Fn) (w : Fn), k ≤ 2 ^ rR ρ → 2 ^ rR ρ < n + k → x7 = lN (smN (fun k => wtA O k (rR ρ) * pI (co σ k) (10 ^ (rR ρ * m)) (WG ρ O co m (hGo ρ σ (nI k)))) k) → nh = nI (sH σ + 1) → (∀ r, r < rR ρ → b r = hNB ρ σ r) → (∀ r, r < rR ρ → p r = hPre ρ σ r) → WX7_weigh_d1_47 (nI (m + 1)) th (nI (sH σ)) asleep silent (nI (rR ρ)) (nI O) pb cards pl pw bk ml ce cin Q n (lN (10 ^ (rR ρ * m))) x7 (nI k) nh s1 s2 s3 s4 b p l w from ⟨9, loop 9 0 _ _ _ _ _ _ _ _ _ _ (Nat.zero_le _) (by omega) rfl rfl hb hp⟩
    intro n
    induction n with
    | zero => intro k x7 nh s1 s2 s3 s4 b p l w h1 h2; omega
    | succ n ih =>
      intro k x7 nh s1 s2 s3 s4 b p l w hk hn hx hnh hb hp
      subst hnh
      unfold WX7_weigh_d1_47
      rw [shl1 _ hR3]
      by_cases hlt : 2 ^ rR ρ ≤ k
      · have e : k = 2 ^ rR ρ := by omega
        refine br_t (nI_le hlt (by omega)) ?_
        rw [hx, e]
        exact hQ _ _ _ _ _ _ _ _ _
      · refine br_f (nI_ge (by omega) (by omega)) (C_letFall ρ σ (nI k) hR3 hp hB h2 (fun l w hl hw => ?_) l w)
        have f125 : ∀ (y2 : Int64) (nh : Int32) (s1 : Int32) (s2 : Int32) (s3 : Int32) (s4 : Int32) (b : Fn) (p : Fn) (l : Fn) (w : Fn), y2 = lN (pI (co σ k) (10 ^ (rR ρ * m)) (WG ρ O co m (hGo ρ σ (nI k)))) → nh = nI (sH σ + 1) → (∀ r, r < rR ρ → b r = hNB ρ σ r) → (∀ r, r < rR ρ → p r = hPre ρ σ r) → WX7_weigh_d1_125 (nI (m + 1)) th (nI (sH σ)) asleep silent (nI (rR ρ)) (nI O) pb cards pl pw bk ml ce cin (lN (10 ^ (rR ρ * m))) (nI k) x7 (lN (wtA O k (rR ρ))) y2 nh s1 s2 s3 s4 b p l w Q (WX7_weigh_d1_47 (nI (m + 1)) th (nI (sH σ)) asleep silent (nI (rR ρ)) (nI O) pb cards pl pw bk ml ce cin Q n) := by
          intro y2 nh s1 s2 s3 s4 b p l w e hnh hb hp
          unfold WX7_weigh_d1_125
          rw [e, hx, lN_mul, lN_add, nI_1]
          rintro _ rfl _ rfl
          exact ih (k + 1) _ _ _ _ _ _ _ _ _ _ (by omega) (by omega) rfl hnh hb hp
        have f95 : ∀ (y0 : Int32), (y0 = 0 ∧ ¬ co σ k) ∨ (y0 = 1 ∧ co σ k) → WX7_weigh_d1_95 (nI (m + 1)) th (nI (sH σ)) asleep silent (nI (rR ρ)) (nI O) pb cards pl pw bk ml ce cin (lN (10 ^ (rR ρ * m))) x7 (nI k) y0 (nI (sH σ + 1)) s1 s2 s3 s4 b p l w Q (WX7_weigh_d1_47 (nI (m + 1)) th (nI (sH σ)) asleep silent (nI (rR ρ)) (nI O) pb cards pl pw bk ml ce cin Q n) := by
          intro y0 hy
          unfold WX7_weigh_d1_95
          refine C_weightOf (by omega) hR3 hO ?_
          rcases hy with ⟨rfl, hy⟩ | ⟨rfl, hy⟩
          · refine br_t rfl ?_
            unfold WX7_weigh_d0
            refine f125 _ _ _ _ _ _ _ _ _ _ ?_ rfl hb hp
            obtain rfl : m = 0 := by omega
            rw [pI_f hy]; rfl
          · refine br_f (by decide) (f125 _ _ _ _ _ _ _ _ _ _ ?_ rfl hb hp)
            rw [pI_t hy]
        have f87 : ∀ (y0 : Int32), (y0 ≠ 0 ↔ co σ k) → WX7_weigh_d1_87 (nI (m + 1)) th (nI (sH σ)) asleep silent (nI (rR ρ)) (nI O) pb cards pl pw bk ml ce cin (lN (10 ^ (rR ρ * m))) x7 (nI k) y0 (nI (sH σ + 1)) s1 s2 s3 s4 b p l w Q (WX7_weigh_d1_47 (nI (m + 1)) th (nI (sH σ)) asleep silent (nI (rR ρ)) (nI O) pb cards pl pw bk ml ce cin Q n) := by
          intro y0 hy
          unfold WX7_weigh_d1_87
          exact br_c (fun c => f95 _ (Or.inl ⟨rfl, fun z => hy.mpr z c⟩)) (fun c => f95 _ (Or.inr ⟨rfl, hy.mp c⟩))
        rcases hth with ⟨e, hco⟩ | ⟨e, hco⟩
        · exact br_t e (f87 _ (hco σ k).symm)
        · exact br_f e (C_dry ρ σ (nI k) hR3 hl hM (f87 _ (hco σ k).symm))

set_option maxHeartbeats 4000000 in
theorem C_weigh2 (ρ : RV) {asleep silent th : Int32} {bk ml : Fn} {cards : Nat → Option Nat} {ce : Nat → CT} {cin : Nat → Prop} {O : Nat} {co : St → Nat → Prop} (hO : O < 10) (hth : (th = 0 ∧ ∀ σ k, co σ k ↔ hOv ρ σ (nI k) (rR ρ) ≠ 0) ∨ (th ≠ 0 ∧ ∀ σ k, co σ k ↔ hDr ρ σ (nI k) (rR ρ) ≠ 0)) (hR : okR ρ) (hU : silent = 0 ↔ rU ρ = false) (hB : ∀ r, r < rR ρ → bk r = rB ρ r) (hM : ∀ r, r < rR ρ → ml r = rM ρ r) (hC : CKr ρ asleep cards ce cin) (σ : St) (N m : Nat) (hS : okS ρ σ N) (hN : N + m < 1000) (hm : m ≤ 2)
    {pb pl pw : Fn} {Q : Int64 → Int32 → Int32 → Int32 → Int32 → Int32 → Fn → Fn → Fn → Fn → Int32 → Fn → Fn → Fn → Fn → Prop} (h2 : ∀ r, r < rR ρ → pl r = sL σ r) (h3 : ∀ r, r < rR ρ → pb r = sB σ r) (h4 : ∀ r, r < rR ρ → pw r = sW σ r)
    (hQ : ∀ (nh : Int32) (s1 : Int32) (s2 : Int32) (s3 : Int32) (s4 : Int32) (b : Fn) (p : Fn) (l : Fn) (w : Fn) (nh2 : Int32) (b2 : Fn) (p2 : Fn) (l2 : Fn) (w2 : Fn), Q (lN (WG ρ O co m σ)) nh s1 s2 s3 s4 b p l w nh2 b2 p2 l2 w2) (nh : Int32) (s1 : Int32) (s2 : Int32) (s3 : Int32) (s4 : Int32) (b : Fn) (p : Fn) (l : Fn) (w : Fn) (nh2 : Int32) (b2 : Fn) (p2 : Fn) (l2 : Fn) (w2 : Fn) : WX7_weigh_d2 (nI m) th (nI (sH σ)) nh asleep silent s1 s2 s3 s4 (nI (rR ρ)) (nI O) pb cards pl b p pw bk l w nh2 b2 p2 l2 w2 ml ce cin Q := by
  have hR3 := hR.2.1
  have hP8 := P8 hR3
  have hS' := okS_mono hS (M := 1000) (by omega)
  cases m with
  | zero =>
    unfold WX7_weigh_d2
    exact br_f (nI_ge (a := 0) (b := 1) (by decide) (by decide)) (hQ nh s1 s2 s3 s4 b p l w nh2 b2 p2 l2 w2)
  | succ m =>
    unfold WX7_weigh_d2
    refine br_t (nI_le (a := 1) (by omega) (by omega)) (C_setBoards ρ σ hR hS' hU hB h2 h3 h4 hC (fun s1 s2 s3 s4 b p hb hp => ?_) s1 s2 s3 s4 nh b p)
    rw [nI_pred, pk_mul]
    refine C_pow (show rR ρ * m ≤ 9 from Nat.mul_le_mul hR3 (show m ≤ 3 by omega)) ?_
    suffices loop : ∀ (n k : Nat) (x7 : Int64) (nh : Int32) (s1 : Int32) (s2 : Int32) (s3 : Int32) (s4 : Int32) (b : Fn) (p : Fn) (l : Fn) (w : Fn) (nh2 : Int32) (b2 : Fn) (p2 : Fn) (l2 : Fn) (w2 : Fn), k ≤ 2 ^ rR ρ → 2 ^ rR ρ < n + k → x7 = lN (smN (fun k => wtA O k (rR ρ) * pI (co σ k) (10 ^ (rR ρ * m)) (WG ρ O co m (hGo ρ σ (nI k)))) k) → nh = nI (sH σ + 1) → (∀ r, r < rR ρ → b r = hNB ρ σ r) → (∀ r, r < rR ρ → p r = hPre ρ σ r) → WX7_weigh_d2_47 (nI (m + 1)) th (nI (sH σ)) asleep silent (nI (rR ρ)) (nI O) pb cards pl pw bk ml ce cin Q n (lN (10 ^ (rR ρ * m))) x7 (nI k) nh s1 s2 s3 s4 b p l w nh2 b2 p2 l2 w2 from ⟨9, loop 9 0 _ _ _ _ _ _ _ _ _ _ _ _ _ _ _ (Nat.zero_le _) (by omega) rfl rfl hb hp⟩
    intro n
    induction n with
    | zero => intro k x7 nh s1 s2 s3 s4 b p l w nh2 b2 p2 l2 w2 h1 h2; omega
    | succ n ih =>
      intro k x7 nh s1 s2 s3 s4 b p l w nh2 b2 p2 l2 w2 hk hn hx hnh hb hp
      subst hnh
      unfold WX7_weigh_d2_47
      rw [shl1 _ hR3]
      by_cases hlt : 2 ^ rR ρ ≤ k
      · have e : k = 2 ^ rR ρ := by omega
        refine br_t (nI_le hlt (by omega)) ?_
        rw [hx, e]
        exact hQ _ _ _ _ _ _ _ _ _ _ _ _ _ _
      · refine br_f (nI_ge (by omega) (by omega)) (C_letFall ρ σ (nI k) hR3 hp hB h2 (fun l w hl hw => ?_) l w)
        have f125 : ∀ (y2 : Int64) (nh : Int32) (s1 : Int32) (s2 : Int32) (s3 : Int32) (s4 : Int32) (b : Fn) (p : Fn) (l : Fn) (w : Fn) (nh2 : Int32) (b2 : Fn) (p2 : Fn) (l2 : Fn) (w2 : Fn), y2 = lN (pI (co σ k) (10 ^ (rR ρ * m)) (WG ρ O co m (hGo ρ σ (nI k)))) → nh = nI (sH σ + 1) → (∀ r, r < rR ρ → b r = hNB ρ σ r) → (∀ r, r < rR ρ → p r = hPre ρ σ r) → WX7_weigh_d2_125 (nI (m + 1)) th (nI (sH σ)) asleep silent (nI (rR ρ)) (nI O) pb cards pl pw bk ml ce cin (lN (10 ^ (rR ρ * m))) (nI k) x7 (lN (wtA O k (rR ρ))) y2 nh s1 s2 s3 s4 b p l w nh2 b2 p2 l2 w2 Q (WX7_weigh_d2_47 (nI (m + 1)) th (nI (sH σ)) asleep silent (nI (rR ρ)) (nI O) pb cards pl pw bk ml ce cin Q n) := by
          intro y2 nh s1 s2 s3 s4 b p l w nh2 b2 p2 l2 w2 e hnh hb hp
          unfold WX7_weigh_d2_125
          rw [e, hx, lN_mul, lN_add, nI_1]
          rintro _ rfl _ rfl
          exact ih (k + 1) _ _ _ _ _ _ _ _ _ _ _ _ _ _ _ (by omega) (by omega) rfl hnh hb hp
        have f95 : ∀ (y0 : Int32), (y0 = 0 ∧ ¬ co σ k) ∨ (y0 = 1 ∧ co σ k) → WX7_weigh_d2_95 (nI (m + 1)) th (nI (sH σ)) asleep silent (nI (rR ρ)) (nI O) pb cards pl pw bk ml ce cin (lN (10 ^ (rR ρ * m))) x7 (nI k) y0 (nI (sH σ + 1)) s1 s2 s3 s4 b p l w nh2 b2 p2 l2 w2 Q (WX7_weigh_d2_47 (nI (m + 1)) th (nI (sH σ)) asleep silent (nI (rR ρ)) (nI O) pb cards pl pw bk ml ce cin Q n) := by
          intro y0 hy
          unfold WX7_weigh_d2_95
          refine C_weightOf (by omega) hR3 hO ?_
          rcases hy with ⟨rfl, hy⟩ | ⟨rfl, hy⟩
          · refine br_t rfl ?_
            rw [nI_pred]
            exact C_weigh1 ρ hO hth hR hU hB hM hC (hGo ρ σ (nI k)) (N + 1) m (okS_go hR hS _) (by omega) (by omega) hl hb hw (fun nhi s1i s2i s3i s4i bi pi li wi => f125 _ _ _ _ _ _ _ _ _ _ _ _ _ _ _ (by rw [pI_f hy]) rfl hb hp) _ _ _ _ _ _ _ _ _
          · refine br_f (by decide) (f125 _ _ _ _ _ _ _ _ _ _ _ _ _ _ _ ?_ rfl hb hp)
            rw [pI_t hy]
        have f87 : ∀ (y0 : Int32), (y0 ≠ 0 ↔ co σ k) → WX7_weigh_d2_87 (nI (m + 1)) th (nI (sH σ)) asleep silent (nI (rR ρ)) (nI O) pb cards pl pw bk ml ce cin (lN (10 ^ (rR ρ * m))) x7 (nI k) y0 (nI (sH σ + 1)) s1 s2 s3 s4 b p l w nh2 b2 p2 l2 w2 Q (WX7_weigh_d2_47 (nI (m + 1)) th (nI (sH σ)) asleep silent (nI (rR ρ)) (nI O) pb cards pl pw bk ml ce cin Q n) := by
          intro y0 hy
          unfold WX7_weigh_d2_87
          exact br_c (fun c => f95 _ (Or.inl ⟨rfl, fun z => hy.mpr z c⟩)) (fun c => f95 _ (Or.inr ⟨rfl, hy.mp c⟩))
        rcases hth with ⟨e, hco⟩ | ⟨e, hco⟩
        · exact br_t e (f87 _ (hco σ k).symm)
        · exact br_f e (C_dry ρ σ (nI k) hR3 hl hM (f87 _ (hco σ k).symm))

set_option maxHeartbeats 4000000 in
theorem C_weigh3 (ρ : RV) {asleep silent th : Int32} {bk ml : Fn} {cards : Nat → Option Nat} {ce : Nat → CT} {cin : Nat → Prop} {O : Nat} {co : St → Nat → Prop} (hO : O < 10) (hth : (th = 0 ∧ ∀ σ k, co σ k ↔ hOv ρ σ (nI k) (rR ρ) ≠ 0) ∨ (th ≠ 0 ∧ ∀ σ k, co σ k ↔ hDr ρ σ (nI k) (rR ρ) ≠ 0)) (hR : okR ρ) (hU : silent = 0 ↔ rU ρ = false) (hB : ∀ r, r < rR ρ → bk r = rB ρ r) (hM : ∀ r, r < rR ρ → ml r = rM ρ r) (hC : CKr ρ asleep cards ce cin) (σ : St) (N m : Nat) (hS : okS ρ σ N) (hN : N + m < 1000) (hm : m ≤ 3)
    {pb pl pw : Fn} {Q : Int64 → Int32 → Int32 → Int32 → Int32 → Int32 → Fn → Fn → Fn → Fn → Int32 → Fn → Fn → Fn → Fn → Int32 → Fn → Fn → Fn → Fn → Prop} (h2 : ∀ r, r < rR ρ → pl r = sL σ r) (h3 : ∀ r, r < rR ρ → pb r = sB σ r) (h4 : ∀ r, r < rR ρ → pw r = sW σ r)
    (hQ : ∀ (nh : Int32) (s1 : Int32) (s2 : Int32) (s3 : Int32) (s4 : Int32) (b : Fn) (p : Fn) (l : Fn) (w : Fn) (nh2 : Int32) (b2 : Fn) (p2 : Fn) (l2 : Fn) (w2 : Fn) (nh3 : Int32) (b3 : Fn) (p3 : Fn) (l3 : Fn) (w3 : Fn), Q (lN (WG ρ O co m σ)) nh s1 s2 s3 s4 b p l w nh2 b2 p2 l2 w2 nh3 b3 p3 l3 w3) (nh : Int32) (s1 : Int32) (s2 : Int32) (s3 : Int32) (s4 : Int32) (b : Fn) (p : Fn) (l : Fn) (w : Fn) (nh2 : Int32) (b2 : Fn) (p2 : Fn) (l2 : Fn) (w2 : Fn) (nh3 : Int32) (b3 : Fn) (p3 : Fn) (l3 : Fn) (w3 : Fn) : WX7_weigh_d3 (nI m) th (nI (sH σ)) nh asleep silent s1 s2 s3 s4 (nI (rR ρ)) (nI O) pb cards pl b p pw bk l w nh2 b2 p2 l2 w2 nh3 b3 p3 l3 w3 ml ce cin Q := by
  have hR3 := hR.2.1
  have hP8 := P8 hR3
  have hS' := okS_mono hS (M := 1000) (by omega)
  cases m with
  | zero =>
    unfold WX7_weigh_d3
    exact br_f (nI_ge (a := 0) (b := 1) (by decide) (by decide)) (hQ nh s1 s2 s3 s4 b p l w nh2 b2 p2 l2 w2 nh3 b3 p3 l3 w3)
  | succ m =>
    unfold WX7_weigh_d3
    refine br_t (nI_le (a := 1) (by omega) (by omega)) (C_setBoards ρ σ hR hS' hU hB h2 h3 h4 hC (fun s1 s2 s3 s4 b p hb hp => ?_) s1 s2 s3 s4 nh b p)
    rw [nI_pred, pk_mul]
    refine C_pow (show rR ρ * m ≤ 9 from Nat.mul_le_mul hR3 (show m ≤ 3 by omega)) ?_
    suffices loop : ∀ (n k : Nat) (x7 : Int64) (nh : Int32) (s1 : Int32) (s2 : Int32) (s3 : Int32) (s4 : Int32) (b : Fn) (p : Fn) (l : Fn) (w : Fn) (nh2 : Int32) (b2 : Fn) (p2 : Fn) (l2 : Fn) (w2 : Fn) (nh3 : Int32) (b3 : Fn) (p3 : Fn) (l3 : Fn) (w3 : Fn), k ≤ 2 ^ rR ρ → 2 ^ rR ρ < n + k → x7 = lN (smN (fun k => wtA O k (rR ρ) * pI (co σ k) (10 ^ (rR ρ * m)) (WG ρ O co m (hGo ρ σ (nI k)))) k) → nh = nI (sH σ + 1) → (∀ r, r < rR ρ → b r = hNB ρ σ r) → (∀ r, r < rR ρ → p r = hPre ρ σ r) → WX7_weigh_d3_47 (nI (m + 1)) th (nI (sH σ)) asleep silent (nI (rR ρ)) (nI O) pb cards pl pw bk ml ce cin Q n (lN (10 ^ (rR ρ * m))) x7 (nI k) nh s1 s2 s3 s4 b p l w nh2 b2 p2 l2 w2 nh3 b3 p3 l3 w3 from ⟨9, loop 9 0 _ _ _ _ _ _ _ _ _ _ _ _ _ _ _ _ _ _ _ _ (Nat.zero_le _) (by omega) rfl rfl hb hp⟩
    intro n
    induction n with
    | zero => intro k x7 nh s1 s2 s3 s4 b p l w nh2 b2 p2 l2 w2 nh3 b3 p3 l3 w3 h1 h2; omega
    | succ n ih =>
      intro k x7 nh s1 s2 s3 s4 b p l w nh2 b2 p2 l2 w2 nh3 b3 p3 l3 w3 hk hn hx hnh hb hp
      subst hnh
      unfold WX7_weigh_d3_47
      rw [shl1 _ hR3]
      by_cases hlt : 2 ^ rR ρ ≤ k
      · have e : k = 2 ^ rR ρ := by omega
        refine br_t (nI_le hlt (by omega)) ?_
        rw [hx, e]
        exact hQ _ _ _ _ _ _ _ _ _ _ _ _ _ _ _ _ _ _ _
      · refine br_f (nI_ge (by omega) (by omega)) (C_letFall ρ σ (nI k) hR3 hp hB h2 (fun l w hl hw => ?_) l w)
        have f125 : ∀ (y2 : Int64) (nh : Int32) (s1 : Int32) (s2 : Int32) (s3 : Int32) (s4 : Int32) (b : Fn) (p : Fn) (l : Fn) (w : Fn) (nh2 : Int32) (b2 : Fn) (p2 : Fn) (l2 : Fn) (w2 : Fn) (nh3 : Int32) (b3 : Fn) (p3 : Fn) (l3 : Fn) (w3 : Fn), y2 = lN (pI (co σ k) (10 ^ (rR ρ * m)) (WG ρ O co m (hGo ρ σ (nI k)))) → nh = nI (sH σ + 1) → (∀ r, r < rR ρ → b r = hNB ρ σ r) → (∀ r, r < rR ρ → p r = hPre ρ σ r) → WX7_weigh_d3_125 (nI (m + 1)) th (nI (sH σ)) asleep silent (nI (rR ρ)) (nI O) pb cards pl pw bk ml ce cin (lN (10 ^ (rR ρ * m))) (nI k) x7 (lN (wtA O k (rR ρ))) y2 nh s1 s2 s3 s4 b p l w nh2 b2 p2 l2 w2 nh3 b3 p3 l3 w3 Q (WX7_weigh_d3_47 (nI (m + 1)) th (nI (sH σ)) asleep silent (nI (rR ρ)) (nI O) pb cards pl pw bk ml ce cin Q n) := by
          intro y2 nh s1 s2 s3 s4 b p l w nh2 b2 p2 l2 w2 nh3 b3 p3 l3 w3 e hnh hb hp
          unfold WX7_weigh_d3_125
          rw [e, hx, lN_mul, lN_add, nI_1]
          rintro _ rfl _ rfl
          exact ih (k + 1) _ _ _ _ _ _ _ _ _ _ _ _ _ _ _ _ _ _ _ _ (by omega) (by omega) rfl hnh hb hp
        have f95 : ∀ (y0 : Int32), (y0 = 0 ∧ ¬ co σ k) ∨ (y0 = 1 ∧ co σ k) → WX7_weigh_d3_95 (nI (m + 1)) th (nI (sH σ)) asleep silent (nI (rR ρ)) (nI O) pb cards pl pw bk ml ce cin (lN (10 ^ (rR ρ * m))) x7 (nI k) y0 (nI (sH σ + 1)) s1 s2 s3 s4 b p l w nh2 b2 p2 l2 w2 nh3 b3 p3 l3 w3 Q (WX7_weigh_d3_47 (nI (m + 1)) th (nI (sH σ)) asleep silent (nI (rR ρ)) (nI O) pb cards pl pw bk ml ce cin Q n) := by
          intro y0 hy
          unfold WX7_weigh_d3_95
          refine C_weightOf (by omega) hR3 hO ?_
          rcases hy with ⟨rfl, hy⟩ | ⟨rfl, hy⟩
          · refine br_t rfl ?_
            rw [nI_pred]
            exact C_weigh2 ρ hO hth hR hU hB hM hC (hGo ρ σ (nI k)) (N + 1) m (okS_go hR hS _) (by omega) (by omega) hl hb hw (fun nhi s1i s2i s3i s4i bi pi li wi nh2i b2i p2i l2i w2i => f125 _ _ _ _ _ _ _ _ _ _ _ _ _ _ _ _ _ _ _ _ (by rw [pI_f hy]) rfl hb hp) _ _ _ _ _ _ _ _ _ _ _ _ _ _
          · refine br_f (by decide) (f125 _ _ _ _ _ _ _ _ _ _ _ _ _ _ _ _ _ _ _ _ ?_ rfl hb hp)
            rw [pI_t hy]
        have f87 : ∀ (y0 : Int32), (y0 ≠ 0 ↔ co σ k) → WX7_weigh_d3_87 (nI (m + 1)) th (nI (sH σ)) asleep silent (nI (rR ρ)) (nI O) pb cards pl pw bk ml ce cin (lN (10 ^ (rR ρ * m))) x7 (nI k) y0 (nI (sH σ + 1)) s1 s2 s3 s4 b p l w nh2 b2 p2 l2 w2 nh3 b3 p3 l3 w3 Q (WX7_weigh_d3_47 (nI (m + 1)) th (nI (sH σ)) asleep silent (nI (rR ρ)) (nI O) pb cards pl pw bk ml ce cin Q n) := by
          intro y0 hy
          unfold WX7_weigh_d3_87
          exact br_c (fun c => f95 _ (Or.inl ⟨rfl, fun z => hy.mpr z c⟩)) (fun c => f95 _ (Or.inr ⟨rfl, hy.mp c⟩))
        rcases hth with ⟨e, hco⟩ | ⟨e, hco⟩
        · exact br_t e (f87 _ (hco σ k).symm)
        · exact br_f e (C_dry ρ σ (nI k) hR3 hl hM (f87 _ (hco σ k).symm))
