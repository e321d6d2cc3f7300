set_option maxHeartbeats 16000000 in
set_option maxRecDepth 100000 in
theorem law_loop {p : Program} {l : Launch} {e : Env} {s : State} {m : MethodId} {below : List Frame} {meth : Method} {c : Code} {b L : Nat} {xs : Nat → Int32} {D : va_G} {cyI cyZ cyC : ClassId} {ce0 : Nat → CT} {ad : AD} (C0 : lw_At p s m meth c b L xs) (hE : EXT D cyI [] ce0 (fun _ => False) ad (fun q => s.heap.size ≤ q) s s.heap) (hK : va_K D vwCl (TYs cyI cyZ cyC) s) (ha : Nat → Nat) :
    ∀ (nn : Nat) (x3 : Int32) (I : Nat → Int32) (F : Nat → Nat → Int32) (G : Nat → Nat → Option Nat) (ce : Nat → CT) (cin : Nat → Prop), WL L xs nn x3 I F G ce cin → ∀ (ck sk : Nat), ck + 8 * nn ≤ 600000 → sk + 147 * nn ≤ 7302250 → ∀ (fr : va_W), (∀ a, cin a → IsC cyI ([] ++ fr) a (ce a)) → ∀ (H : Heap) (locs : List Loc), va_P D vwCl (LW cyI cyZ cyC ha I F G ++ fr) H → va_D (fun q => s.heap.size ≤ q) (LW cyI cyZ cyC ha I F G ++ fr) → va_S (fun q => s.heap.size ≤ q) s.heap H locs → ∀ (ls : Array Slot), lv_has ls 4 [(0, .ref b), (1, .ref (ha 0)), (2, .ref (ha 78)), (3, .int x3)] → W p l e room_1 s m #[Value.ref b] below meth c H locs ck sk (lw_Z below #[Value.ref b] s) (F0 m 18 ls []) := by
  have C1 := C0
  obtain ⟨hx, hb, hr, hml, hown, hts0, hXs, hbl, hlocks, hgv⟩ := C1
  have hbA : ¬ (fun q : Nat => s.heap.size ≤ q) b := Nat.not_le.mpr hbl
  intro nn
  induction nn with
  | zero => intro x3 I F G ce cin hw; exact (show False from hw).elim
  | succ nn ih =>
    intro x3 I F G ce cin hw ck sk hck hsk fr hin H locs hP hD hS ls hl
    unfold WL at hw
    refine lv_iload_n hx hb dL_law_18 rfl (lv_at hl 3 rfl) ?_
    refine lv_aload_n hx hb dL_law_19 rfl (lv_at hl 0 rfl) ?_
    refine va_slen hx hb hXs hbl hbA hS dL_law_20 ?_
    refine lv_iconst (v := 4) hx hb dL_law_21 (by decide) ?_
    refine lv_isub hx hb dL_law_22 ?_
    refine lv_icmp_gt (tgt := 874) hx hb dL_law_23 (by decide) (fun c0 => ?_) (fun c0 => ?_)
    · refine lv_iconst (v := 1) hx hb dL_law_874 (by decide) ?_
      refine va_forget (fun q hq => hS.2.2 q hq) ?_
      refine W.widen (k := 600000) (n := 7302250) (by omega) (by omega) ?_
      exact lw_ret hx hb hr hlocks dL_law_875
    replace hw := hw c0
    have hv := hw.1
    replace hw := hw.2
    have kk : ∀ (I : Nat → Int32) (F : Nat → Nat → Int32) (G : Nat → Nat → Option Nat) (ce : Nat → CT) (cin : Nat → Prop), WL L xs nn (x3 + 4) I F G ce cin → ∀ (ck sk : Nat), ck + 8 * nn ≤ 600000 → sk + 147 * nn ≤ 7302250 → ∀ (fr : va_W), (∀ a, cin a → IsC cyI ([] ++ fr) a (ce a)) → ∀ (H : Heap) (locs : List Loc), va_P D vwCl (LW cyI cyZ cyC ha I F G ++ fr) H → va_D (fun q => s.heap.size ≤ q) (LW cyI cyZ cyC ha I F G ++ fr) → va_S (fun q => s.heap.size ≤ q) s.heap H locs → ∀ (ls : Array Slot), lv_has ls 4 [(0, .ref b), (1, .ref (ha 0)), (2, .ref (ha 78)), (3, .int x3)] → W p l e room_1 s m #[Value.ref b] below meth c H locs ck sk (lw_Z below #[Value.ref b] s) (F0 m 868 ls []) := by
      intro I F G ce cin hw ck sk hck hsk fr hin H locs hP hD hS ls hl
      refine lv_iinc (v := x3 + 4) (lv' := [(3, .int (x3 + 4)), (0, .ref b), (1, .ref (ha 0)), (2, .ref (ha 78))]) hx hb dL_law_868 hl (k := 3) rfl rfl (by decide) rfl (fun ls hl => ?_)
      refine lv_goto (tgt := 18) hx hb dL_law_871 (by decide) ?_
      exact ih (x3 + 4) I F G ce cin hw ck sk hck hsk fr hin H locs hP hD hS ls (lv_sub hl [1, 2, 3, 0] rfl)
    refine lv_aload_n hx hb dL_law_26 rfl (lv_at hl 0 rfl) ?_
    refine lv_iload_n hx hb dL_law_27 rfl (lv_at hl 3 rfl) ?_
    refine va_sld hx hb hXs hbl hbA hS hv dL_law_28 ?_
    refine lv_bipush (v := 31) hx hb dL_law_29 (by decide) ?_
    refine lv_iand hx hb dL_law_31 ?_
    refine lv_topi (fun y ey => ?_)
    replace hw := hw y ey
    by_cases c0 : y = 0
    · exact lv_tableIn (off := 124) (tgt := 156) hx hb dL_law_32 (by rw [c0]; decide) (by rw [c0]; decide) (by rw [c0]; rfl) (by decide) (law_c0 C0 hE hK ha I F G ce cin x3 nn _ (hw.1 c0) kk ck sk hck hsk fr hin H locs hP hD hS _ (lv_sub hl [0, 1, 2, 3] rfl))
    replace hw := hw.2 c0
    by_cases c1 : y = 1
    · exact lv_tableIn (off := 187) (tgt := 219) hx hb dL_law_32 (by rw [c1]; decide) (by rw [c1]; decide) (by rw [c1]; rfl) (by decide) (law_c1 C0 hE hK ha I F G ce cin x3 nn _ (hw.1 c1) kk ck sk hck hsk fr hin H locs hP hD hS _ (lv_sub hl [0, 1, 2, 3] rfl))
    replace hw := hw.2 c1
    by_cases c2 : y = 2
    · exact lv_tableIn (off := 200) (tgt := 232) hx hb dL_law_32 (by rw [c2]; decide) (by rw [c2]; decide) (by rw [c2]; rfl) (by decide) (law_c2 C0 hE hK ha I F G ce cin x3 nn _ (hw.1 c2) kk ck sk hck hsk fr hin H locs hP hD hS _ (lv_sub hl [0, 1, 2, 3] rfl))
    replace hw := hw.2 c2
    by_cases c3 : y = 3
    · exact lv_tableIn (off := 233) (tgt := 265) hx hb dL_law_32 (by rw [c3]; decide) (by rw [c3]; decide) (by rw [c3]; rfl) (by decide) (law_c3 C0 hE hK ha I F G ce cin x3 nn _ (hw.1 c3) kk ck sk hck hsk fr hin H locs hP hD hS _ (lv_sub hl [0, 1, 2, 3] rfl))
    replace hw := hw.2 c3
    by_cases c4 : y = 4
    · exact lv_tableIn (off := 266) (tgt := 298) hx hb dL_law_32 (by rw [c4]; decide) (by rw [c4]; decide) (by rw [c4]; rfl) (by decide) (law_c4 C0 hE hK ha I F G ce cin x3 nn _ (hw.1 c4) kk ck sk hck hsk fr hin H locs hP hD hS _ (lv_sub hl [0, 1, 2, 3] rfl))
    replace hw := hw.2 c4
    by_cases c5 : y = 5
    · exact lv_tableIn (off := 299) (tgt := 331) hx hb dL_law_32 (by rw [c5]; decide) (by rw [c5]; decide) (by rw [c5]; rfl) (by decide) (law_c5 C0 hE hK ha I F G ce cin x3 nn _ (hw.1 c5) kk ck sk hck hsk fr hin H locs hP hD hS _ (lv_sub hl [0, 1, 2, 3] rfl))
    replace hw := hw.2 c5
    by_cases c6 : y = 6
    · exact lv_tableIn (off := 332) (tgt := 364) hx hb dL_law_32 (by rw [c6]; decide) (by rw [c6]; decide) (by rw [c6]; rfl) (by decide) (law_c6 C0 hE hK ha I F G ce cin x3 nn _ (hw.1 c6) kk ck sk hck hsk fr hin H locs hP hD hS _ (lv_sub hl [0, 1, 2, 3] rfl))
    replace hw := hw.2 c6
    by_cases c7 : y = 7
    · exact lv_tableIn (off := 355) (tgt := 387) hx hb dL_law_32 (by rw [c7]; decide) (by rw [c7]; decide) (by rw [c7]; rfl) (by decide) (law_c7 C0 hE hK ha I F G ce cin x3 nn _ (hw.1 c7) kk ck sk hck hsk fr hin H locs hP hD hS _ (lv_sub hl [0, 1, 2, 3] rfl))
    replace hw := hw.2 c7
    by_cases c8 : y = 8
    · exact lv_tableIn (off := 388) (tgt := 420) hx hb dL_law_32 (by rw [c8]; decide) (by rw [c8]; decide) (by rw [c8]; rfl) (by decide) (law_c8 C0 hE hK ha I F G ce cin x3 nn _ (hw.1 c8) kk ck sk hck hsk fr hin H locs hP hD hS _ (lv_sub hl [0, 1, 2, 3] rfl))
    replace hw := hw.2 c8
    by_cases c9 : y = 9
    · exact lv_tableIn (off := 411) (tgt := 443) hx hb dL_law_32 (by rw [c9]; decide) (by rw [c9]; decide) (by rw [c9]; rfl) (by decide) (law_c9 C0 hE hK ha I F G ce cin x3 nn _ (hw.1 c9) kk ck sk hck hsk fr hin H locs hP hD hS _ (lv_sub hl [0, 1, 2, 3] rfl))
    replace hw := hw.2 c9
    by_cases c10 : y = 10
    · exact lv_tableIn (off := 434) (tgt := 466) hx hb dL_law_32 (by rw [c10]; decide) (by rw [c10]; decide) (by rw [c10]; rfl) (by decide) (law_c10 C0 hE hK ha I F G ce cin x3 nn _ (hw.1 c10) kk ck sk hck hsk fr hin H locs hP hD hS _ (lv_sub hl [0, 1, 2, 3] rfl))
    replace hw := hw.2 c10
    by_cases c11 : y = 11
    · exact lv_tableIn (off := 457) (tgt := 489) hx hb dL_law_32 (by rw [c11]; decide) (by rw [c11]; decide) (by rw [c11]; rfl) (by decide) (law_c11 C0 hE hK ha I F G ce cin x3 nn _ (hw.1 c11) kk ck sk hck hsk fr hin H locs hP hD hS _ (lv_sub hl [0, 1, 2, 3] rfl))
    replace hw := hw.2 c11
    by_cases c12 : y = 12
    · exact lv_tableIn (off := 480) (tgt := 512) hx hb dL_law_32 (by rw [c12]; decide) (by rw [c12]; decide) (by rw [c12]; rfl) (by decide) (law_c12 C0 hE hK ha I F G ce cin x3 nn _ (hw.1 c12) kk ck sk hck hsk fr hin H locs hP hD hS _ (lv_sub hl [0, 1, 2, 3] rfl))
    replace hw := hw.2 c12
    by_cases c13 : y = 13
    · exact lv_tableIn (off := 493) (tgt := 525) hx hb dL_law_32 (by rw [c13]; decide) (by rw [c13]; decide) (by rw [c13]; rfl) (by decide) (law_c13 C0 hE hK ha I F G ce cin x3 nn _ (hw.1 c13) kk ck sk hck hsk fr hin H locs hP hD hS _ (lv_sub hl [0, 1, 2, 3] rfl))
    replace hw := hw.2 c13
    by_cases c14 : y = 14
    · exact lv_tableIn (off := 516) (tgt := 548) hx hb dL_law_32 (by rw [c14]; decide) (by rw [c14]; decide) (by rw [c14]; rfl) (by decide) (law_c14 C0 hE hK ha I F G ce cin x3 nn _ (hw.1 c14) kk ck sk hck hsk fr hin H locs hP hD hS _ (lv_sub hl [0, 1, 2, 3] rfl))
    replace hw := hw.2 c14
    by_cases c15 : y = 15
    · exact lv_tableIn (off := 539) (tgt := 571) hx hb dL_law_32 (by rw [c15]; decide) (by rw [c15]; decide) (by rw [c15]; rfl) (by decide) (law_c15 C0 hE hK ha I F G ce cin x3 nn _ (hw.1 c15) kk ck sk hck hsk fr hin H locs hP hD hS _ (lv_sub hl [0, 1, 2, 3] rfl))
    replace hw := hw.2 c15
    by_cases c16 : y = 16
    · exact lv_tableIn (off := 562) (tgt := 594) hx hb dL_law_32 (by rw [c16]; decide) (by rw [c16]; decide) (by rw [c16]; rfl) (by decide) (law_c16 C0 hE hK ha I F G ce cin x3 nn _ (hw.1 c16) kk ck sk hck hsk fr hin H locs hP hD hS _ (lv_sub hl [0, 1, 2, 3] rfl))
    replace hw := hw.2 c16
    by_cases c17 : y = 17
    · exact lv_tableIn (off := 585) (tgt := 617) hx hb dL_law_32 (by rw [c17]; decide) (by rw [c17]; decide) (by rw [c17]; rfl) (by decide) (law_c17 C0 hE hK ha I F G ce cin x3 nn _ (hw.1 c17) kk ck sk hck hsk fr hin H locs hP hD hS _ (lv_sub hl [0, 1, 2, 3] rfl))
    replace hw := hw.2 c17
    by_cases c18 : y = 18
    · exact lv_tableIn (off := 608) (tgt := 640) hx hb dL_law_32 (by rw [c18]; decide) (by rw [c18]; decide) (by rw [c18]; rfl) (by decide) (law_c18 C0 hE hK ha I F G ce cin x3 nn _ (hw.1 c18) kk ck sk hck hsk fr hin H locs hP hD hS _ (lv_sub hl [0, 1, 2, 3] rfl))
    replace hw := hw.2 c18
    by_cases c19 : y = 19
    · exact lv_tableIn (off := 621) (tgt := 653) hx hb dL_law_32 (by rw [c19]; decide) (by rw [c19]; decide) (by rw [c19]; rfl) (by decide) (law_c19 C0 hE hK ha I F G ce cin x3 nn _ (hw.1 c19) kk ck sk hck hsk fr hin H locs hP hD hS _ (lv_sub hl [0, 1, 2, 3] rfl))
    replace hw := hw.2 c19
    by_cases c20 : y = 20
    · exact lv_tableIn (off := 665) (tgt := 697) hx hb dL_law_32 (by rw [c20]; decide) (by rw [c20]; decide) (by rw [c20]; rfl) (by decide) (law_c20 C0 hE hK ha I F G ce cin x3 nn _ (hw.1 c20) kk ck sk hck hsk fr hin H locs hP hD hS _ (lv_sub hl [0, 1, 2, 3] rfl))
    replace hw := hw.2 c20
    by_cases c21 : y = 21
    · exact lv_tableIn (off := 688) (tgt := 720) hx hb dL_law_32 (by rw [c21]; decide) (by rw [c21]; decide) (by rw [c21]; rfl) (by decide) (law_c21 C0 hE hK ha I F G ce cin x3 nn _ (hw.1 c21) kk ck sk hck hsk fr hin H locs hP hD hS _ (lv_sub hl [0, 1, 2, 3] rfl))
    replace hw := hw.2 c21
    by_cases c22 : y = 22
    · exact lv_tableIn (off := 731) (tgt := 763) hx hb dL_law_32 (by rw [c22]; decide) (by rw [c22]; decide) (by rw [c22]; rfl) (by decide) (law_c22 C0 hE hK ha I F G ce cin x3 nn _ (hw.1 c22) kk ck sk hck hsk fr hin H locs hP hD hS _ (lv_sub hl [0, 1, 2, 3] rfl))
    replace hw := hw.2 c22
    by_cases c23 : y = 23
    · exact lv_tableIn (off := 754) (tgt := 786) hx hb dL_law_32 (by rw [c23]; decide) (by rw [c23]; decide) (by rw [c23]; rfl) (by decide) (law_c23 C0 hE hK ha I F G ce cin x3 nn _ (hw.1 c23) kk ck sk hck hsk fr hin H locs hP hD hS _ (lv_sub hl [0, 1, 2, 3] rfl))
    replace hw := hw.2 c23
    by_cases c24 : y = 24
    · exact lv_tableIn (off := 787) (tgt := 819) hx hb dL_law_32 (by rw [c24]; decide) (by rw [c24]; decide) (by rw [c24]; rfl) (by decide) (law_c24 C0 hE hK ha I F G ce cin x3 nn _ (hw.1 c24) kk ck sk hck hsk fr hin H locs hP hD hS _ (lv_sub hl [0, 1, 2, 3] rfl))
    replace hw := hw.2 c24
    by_cases c25 : y = 25
    · exact lv_tableIn (off := 800) (tgt := 832) hx hb dL_law_32 (by rw [c25]; decide) (by rw [c25]; decide) (by rw [c25]; rfl) (by decide) (law_c25 C0 hE hK ha I F G ce cin x3 nn _ (hw.1 c25) kk ck sk hck hsk fr hin H locs hP hD hS _ (lv_sub hl [0, 1, 2, 3] rfl))
    replace hw := hw.2 c25
    by_cases c26 : y = 26
    · exact lv_tableIn (off := 813) (tgt := 845) hx hb dL_law_32 (by rw [c26]; decide) (by rw [c26]; decide) (by rw [c26]; rfl) (by decide) (law_c26 C0 hE hK ha I F G ce cin x3 nn _ (hw.1 c26) kk ck sk hck hsk fr hin H locs hP hD hS _ (lv_sub hl [0, 1, 2, 3] rfl))
    replace hw := hw.2 c26
    have hne0 := lv_neT (a := 0) c0 (by decide)
    have hne1 := lv_neT (a := 1) c1 (by decide)
    have hne2 := lv_neT (a := 2) c2 (by decide)
    have hne3 := lv_neT (a := 3) c3 (by decide)
    have hne4 := lv_neT (a := 4) c4 (by decide)
    have hne5 := lv_neT (a := 5) c5 (by decide)
    have hne6 := lv_neT (a := 6) c6 (by decide)
    have hne7 := lv_neT (a := 7) c7 (by decide)
    have hne8 := lv_neT (a := 8) c8 (by decide)
    have hne9 := lv_neT (a := 9) c9 (by decide)
    have hne10 := lv_neT (a := 10) c10 (by decide)
    have hne11 := lv_neT (a := 11) c11 (by decide)
    have hne12 := lv_neT (a := 12) c12 (by decide)
    have hne13 := lv_neT (a := 13) c13 (by decide)
    have hne14 := lv_neT (a := 14) c14 (by decide)
    have hne15 := lv_neT (a := 15) c15 (by decide)
    have hne16 := lv_neT (a := 16) c16 (by decide)
    have hne17 := lv_neT (a := 17) c17 (by decide)
    have hne18 := lv_neT (a := 18) c18 (by decide)
    have hne19 := lv_neT (a := 19) c19 (by decide)
    have hne20 := lv_neT (a := 20) c20 (by decide)
    have hne21 := lv_neT (a := 21) c21 (by decide)
    have hne22 := lv_neT (a := 22) c22 (by decide)
    have hne23 := lv_neT (a := 23) c23 (by decide)
    have hne24 := lv_neT (a := 24) c24 (by decide)
    have hne25 := lv_neT (a := 25) c25 (by decide)
    have hne26 := lv_neT (a := 26) c26 (by decide)
    refine lv_tableOut (tgt := 868) hx hb dL_law_32 (by omega) (by decide) ?_
    exact kk I F G ce cin hw ck sk (by omega) (by omega) fr hin H locs hP hD hS ls hl
