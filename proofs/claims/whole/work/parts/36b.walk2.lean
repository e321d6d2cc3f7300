/-! ===== by program: contracts ===== -/
set_option maxHeartbeats 8000000 in
set_option maxRecDepth 100000 in
theorem MX0_init_ (l : Launch) (D : va_G) (cyI cyZ cyC : ClassId) (ro : va_W) (ce : Nat → CT) (cin : Nat → Prop) (ad : AD) (a_t : Nat) (w_t_number w_t_kind w_t_v w_t_lineCount w_t_leftOut w_t_digits w_t_begins w_t_ends w_t_steps : Value) (sz : Nat) (c1 : Nat) (x2 : Int32) (x3 : Int32) (cc1 : CT) (dgC bgC enC stC : Nat) (hmC : ∀ q ∈ CWs cyI c1 dgC bgC enC stC cc1, q ∈ ro) : Met l yX0_init_ wsX0_init_ ({ frames := 1, cells := 0, slots := 0, locals := 12 }) (va_Pc [.ref a_t, .ref c1, .int x2, .int x3] (PRE D cyI cyZ cyC ro ce cin ad (SX0_init_ cyI cyZ cyC a_t w_t_number w_t_kind w_t_v w_t_lineCount w_t_leftOut w_t_digits w_t_begins w_t_ends w_t_steps) sz)) (va_Qv (fun (_ : Unit) => True) (fun (_ : Unit) (t : State) => POST D (va_A (SX0_init_ cyI cyZ cyC a_t w_t_number w_t_kind w_t_v w_t_lineCount w_t_leftOut w_t_digits w_t_begins w_t_ends w_t_steps) sz) (OX0_init_ cyI cyZ cyC a_t w_t_number w_t_kind w_t_v w_t_lineCount w_t_leftOut w_t_digits w_t_begins w_t_ends w_t_steps cc1 dgC bgC enC stC c1 x2 x3 ) t) (va_A (SX0_init_ cyI cyZ cyC a_t w_t_number w_t_kind w_t_v w_t_lineCount w_t_leftOut w_t_digits w_t_begins w_t_ends w_t_steps) sz)) 0 0 (va_A (SX0_init_ cyI cyZ cyC a_t w_t_number w_t_kind w_t_v w_t_lineCount w_t_leftOut w_t_digits w_t_begins w_t_ends w_t_steps) sz) := by
  refine Met.ofW (cc := cX0_init_) (maxL := 4) (ret := none) (by decide) rfl ?_
  intro p e s m args below meth c s₁ B hml hv
  obtain ⟨rfl, hsz, hP, hK, hD0, hX⟩ := hv
  have hx := B.exec
  have hb := B.bytes
  have hr := B.returns
  have hts := atoms_spec (ws := wsX0_init_) B.pre
  have hown : s.vm.findClass RX0 = some m.cls := findClass_of_methodNamed B.named
  have hlocks := B.notSynchronized
  have hin : meth.name = "<init>" := (name_of_methodNamed B.named B.method).1
  clear B
  subst hsz
  have hD := hD0.self (sz := s.heap.size)
  clear hD0
  generalize hAe : va_A (SX0_init_ cyI cyZ cyC a_t w_t_number w_t_kind w_t_v w_t_lineCount w_t_leftOut w_t_digits w_t_begins w_t_ends w_t_steps) s.heap.size = A at hD hX ⊢
  have hA : ∀ q : Nat, s.heap.size ≤ q → A q := fun q h => by rw [← hAe]; exact Or.inr h
  clear hAe
  obtain ⟨H, hH⟩ : ∃ H, H = s.heap := ⟨_, rfl⟩
  rw [← hH] at hP ⊢
  have hS : va_S A s.heap H [] := by rw [hH]; exact va_S.rf
  clear hH
  replace hP : va_P D vwCl [(a_t, .inr (0, [w_t_number, w_t_kind, w_t_v, w_t_lineCount, w_t_leftOut, w_t_digits, w_t_begins, w_t_ends, w_t_steps]))] H := hP
  replace hD : va_D A [(a_t, .inr (0, [w_t_number, w_t_kind, w_t_v, w_t_lineCount, w_t_leftOut, w_t_digits, w_t_begins, w_t_ends, w_t_steps]))] := hD
  have hl := lv_entry ([.ref a_t, .ref c1, .int x2, .int x3]) (n := 4) (Nat.le_of_ble_eq_true rfl)
  rw [lg_entry_eq]
  generalize (lg_sl ([.ref a_t, .ref c1, .int x2, .int x3]) ++ List.replicate (4 - (lg_sl ([.ref a_t, .ref c1, .int x2, .int x3])).length) Slot.unset).toArray = ls at hl ⊢
  replace hl : lv_has ls 4 [(0, .ref a_t), (1, .ref c1), (2, .int x2), (3, .int x3)] := hl
  have hC := hX.cardAt2 hmC
  refine lv_aload_n hx hb dX0_init__0 rfl (lv_at hl 0 rfl) ?_
  refine W.objInit hx hb hown (hts _ (List.mem_of_getElem? (i := 1) rfl)) (hts _ (List.mem_of_getElem? (i := 2) rfl)) (hts _ (List.mem_of_getElem? (i := 3) rfl)) rfl (by rw [hml]; exact hl.1) rfl dX0_init__1 (Nat.le_of_ble_eq_true rfl) (Nat.le_of_ble_eq_true rfl) ?_
  refine W.eq (g2 := F0 m 4 ls []) rfl ?_
  refine lv_aload_n hx hb dX0_init__4 rfl (lv_at hl 0 rfl) ?_
  refine lv_aload_n hx hb dX0_init__5 rfl (lv_at hl 1 rfl) ?_
  refine va_get (D := D) (ci := 0) (v := .int (ct_number cc1)) (C := RX0) (T := TX0) (N := 9) hx hb hts inX0_init__X0 hown hK (hC _ _ hS) 0 rfl rfl 0 (by decide) (hts _ (List.mem_of_getElem? (i := 4) rfl)) (fun _ h9 => h9) rfl dX0_init__6 ?_
  refine va_putF (D := D) (ci := 0) (v := .int (ct_number cc1)) (ty := .int) (C := RX0) (T := TX0) (N := 9) hx hb hts inX0_init__X0 tyX0 tyX0_ok nmX0 hown hK hP hD hS 0 rfl rfl 0 (by decide) (hts _ (List.mem_of_getElem? (i := 4) rfl)) (fun _ h9 => h9) rfl hin rfl (tyX0_ok 0 (by decide)) rfl rfl (Nat.le_of_ble_eq_true rfl) dX0_init__9 (fun H locs hP hD hS => ?_)
  replace hP : va_P D vwCl [(a_t, .inr (0, [.int (ct_number cc1), w_t_kind, w_t_v, w_t_lineCount, w_t_leftOut, w_t_digits, w_t_begins, w_t_ends, w_t_steps]))] H := hP
  replace hD : va_D A [(a_t, .inr (0, [.int (ct_number cc1), w_t_kind, w_t_v, w_t_lineCount, w_t_leftOut, w_t_digits, w_t_begins, w_t_ends, w_t_steps]))] := hD
  refine lv_aload_n hx hb dX0_init__12 rfl (lv_at hl 0 rfl) ?_
  refine lv_aload_n hx hb dX0_init__13 rfl (lv_at hl 1 rfl) ?_
  refine va_get (D := D) (ci := 0) (v := .int (ct_kind cc1)) (C := RX0) (T := TX0) (N := 9) hx hb hts inX0_init__X0 hown hK (hC _ _ hS) 0 rfl rfl 1 (by decide) (hts _ (List.mem_of_getElem? (i := 5) rfl)) (fun _ h9 => h9) rfl dX0_init__14 ?_
  refine va_putF (D := D) (ci := 0) (v := .int (ct_kind cc1)) (ty := .int) (C := RX0) (T := TX0) (N := 9) hx hb hts inX0_init__X0 tyX0 tyX0_ok nmX0 hown hK hP hD hS 0 rfl rfl 1 (by decide) (hts _ (List.mem_of_getElem? (i := 5) rfl)) (fun _ h9 => h9) rfl hin rfl (tyX0_ok 1 (by decide)) rfl rfl (Nat.le_of_ble_eq_true rfl) dX0_init__17 (fun H locs hP hD hS => ?_)
  replace hP : va_P D vwCl [(a_t, .inr (0, [.int (ct_number cc1), .int (ct_kind cc1), w_t_v, w_t_lineCount, w_t_leftOut, w_t_digits, w_t_begins, w_t_ends, w_t_steps]))] H := hP
  replace hD : va_D A [(a_t, .inr (0, [.int (ct_number cc1), .int (ct_kind cc1), w_t_v, w_t_lineCount, w_t_leftOut, w_t_digits, w_t_begins, w_t_ends, w_t_steps]))] := hD
  refine lv_aload_n hx hb dX0_init__20 rfl (lv_at hl 0 rfl) ?_
  refine lv_iload_n hx hb dX0_init__21 rfl (lv_at hl 2 rfl) ?_
  refine va_putF (D := D) (ci := 0) (v := .int x2) (ty := .int) (C := RX0) (T := TX0) (N := 9) hx hb hts inX0_init__X0 tyX0 tyX0_ok nmX0 hown hK hP hD hS 0 rfl rfl 2 (by decide) (hts _ (List.mem_of_getElem? (i := 6) rfl)) (fun _ h9 => h9) rfl hin rfl (tyX0_ok 2 (by decide)) rfl rfl (Nat.le_of_ble_eq_true rfl) dX0_init__22 (fun H locs hP hD hS => ?_)
  replace hP : va_P D vwCl [(a_t, .inr (0, [.int (ct_number cc1), .int (ct_kind cc1), .int x2, w_t_lineCount, w_t_leftOut, w_t_digits, w_t_begins, w_t_ends, w_t_steps]))] H := hP
  replace hD : va_D A [(a_t, .inr (0, [.int (ct_number cc1), .int (ct_kind cc1), .int x2, w_t_lineCount, w_t_leftOut, w_t_digits, w_t_begins, w_t_ends, w_t_steps]))] := hD
  refine lv_aload_n hx hb dX0_init__25 rfl (lv_at hl 0 rfl) ?_
  refine lv_aload_n hx hb dX0_init__26 rfl (lv_at hl 1 rfl) ?_
  refine va_get (D := D) (ci := 0) (v := .int (ct_lineCount cc1)) (C := RX0) (T := TX0) (N := 9) hx hb hts inX0_init__X0 hown hK (hC _ _ hS) 0 rfl rfl 3 (by decide) (hts _ (List.mem_of_getElem? (i := 7) rfl)) (fun _ h9 => h9) rfl dX0_init__27 ?_
  refine va_putF (D := D) (ci := 0) (v := .int (ct_lineCount cc1)) (ty := .int) (C := RX0) (T := TX0) (N := 9) hx hb hts inX0_init__X0 tyX0 tyX0_ok nmX0 hown hK hP hD hS 0 rfl rfl 3 (by decide) (hts _ (List.mem_of_getElem? (i := 7) rfl)) (fun _ h9 => h9) rfl hin rfl (tyX0_ok 3 (by decide)) rfl rfl (Nat.le_of_ble_eq_true rfl) dX0_init__30 (fun H locs hP hD hS => ?_)
  replace hP : va_P D vwCl [(a_t, .inr (0, [.int (ct_number cc1), .int (ct_kind cc1), .int x2, .int (ct_lineCount cc1), w_t_leftOut, w_t_digits, w_t_begins, w_t_ends, w_t_steps]))] H := hP
  replace hD : va_D A [(a_t, .inr (0, [.int (ct_number cc1), .int (ct_kind cc1), .int x2, .int (ct_lineCount cc1), w_t_leftOut, w_t_digits, w_t_begins, w_t_ends, w_t_steps]))] := hD
  refine lv_aload_n hx hb dX0_init__33 rfl (lv_at hl 0 rfl) ?_
  refine lv_iload_n hx hb dX0_init__34 rfl (lv_at hl 3 rfl) ?_
  refine va_putF (D := D) (ci := 0) (v := .int x3) (ty := .int) (C := RX0) (T := TX0) (N := 9) hx hb hts inX0_init__X0 tyX0 tyX0_ok nmX0 hown hK hP hD hS 0 rfl rfl 4 (by decide) (hts _ (List.mem_of_getElem? (i := 8) rfl)) (fun _ h9 => h9) rfl hin rfl (tyX0_ok 4 (by decide)) rfl rfl (Nat.le_of_ble_eq_true rfl) dX0_init__35 (fun H locs hP hD hS => ?_)
  replace hP : va_P D vwCl [(a_t, .inr (0, [.int (ct_number cc1), .int (ct_kind cc1), .int x2, .int (ct_lineCount cc1), .int x3, w_t_digits, w_t_begins, w_t_ends, w_t_steps]))] H := hP
  replace hD : va_D A [(a_t, .inr (0, [.int (ct_number cc1), .int (ct_kind cc1), .int x2, .int (ct_lineCount cc1), .int x3, w_t_digits, w_t_begins, w_t_ends, w_t_steps]))] := hD
  refine lv_aload_n hx hb dX0_init__38 rfl (lv_at hl 0 rfl) ?_
  refine lv_aload_n hx hb dX0_init__39 rfl (lv_at hl 1 rfl) ?_
  refine va_get (D := D) (ci := 0) (v := .ref dgC) (C := RX0) (T := TX0) (N := 9) hx hb hts inX0_init__X0 hown hK (hC _ _ hS) 0 rfl rfl 5 (by decide) (hts _ (List.mem_of_getElem? (i := 9) rfl)) (fun _ h9 => h9) rfl dX0_init__40 ?_
  refine va_putF (D := D) (ci := 0) (v := .ref dgC) (ty := .array .int) (C := RX0) (T := TX0) (N := 9) hx hb hts inX0_init__X0 tyX0 tyX0_ok nmX0 hown hK hP hD hS 0 rfl rfl 5 (by decide) (hts _ (List.mem_of_getElem? (i := 9) rfl)) (fun _ h9 => h9) rfl hin rfl (tyX0_ok 5 (by decide)) rfl rfl (Nat.le_of_ble_eq_true rfl) dX0_init__43 (fun H locs hP hD hS => ?_)
  replace hP : va_P D vwCl [(a_t, .inr (0, [.int (ct_number cc1), .int (ct_kind cc1), .int x2, .int (ct_lineCount cc1), .int x3, .ref dgC, w_t_begins, w_t_ends, w_t_steps]))] H := hP
  replace hD : va_D A [(a_t, .inr (0, [.int (ct_number cc1), .int (ct_kind cc1), .int x2, .int (ct_lineCount cc1), .int x3, .ref dgC, w_t_begins, w_t_ends, w_t_steps]))] := hD
  refine lv_aload_n hx hb dX0_init__46 rfl (lv_at hl 0 rfl) ?_
  refine lv_aload_n hx hb dX0_init__47 rfl (lv_at hl 1 rfl) ?_
  refine va_get (D := D) (ci := 0) (v := .ref bgC) (C := RX0) (T := TX0) (N := 9) hx hb hts inX0_init__X0 hown hK (hC _ _ hS) 0 rfl rfl 6 (by decide) (hts _ (List.mem_of_getElem? (i := 10) rfl)) (fun _ h9 => h9) rfl dX0_init__48 ?_
  refine va_putF (D := D) (ci := 0) (v := .ref bgC) (ty := .array .int) (C := RX0) (T := TX0) (N := 9) hx hb hts inX0_init__X0 tyX0 tyX0_ok nmX0 hown hK hP hD hS 0 rfl rfl 6 (by decide) (hts _ (List.mem_of_getElem? (i := 10) rfl)) (fun _ h9 => h9) rfl hin rfl (tyX0_ok 6 (by decide)) rfl rfl (Nat.le_of_ble_eq_true rfl) dX0_init__51 (fun H locs hP hD hS => ?_)
  replace hP : va_P D vwCl [(a_t, .inr (0, [.int (ct_number cc1), .int (ct_kind cc1), .int x2, .int (ct_lineCount cc1), .int x3, .ref dgC, .ref bgC, w_t_ends, w_t_steps]))] H := hP
  replace hD : va_D A [(a_t, .inr (0, [.int (ct_number cc1), .int (ct_kind cc1), .int x2, .int (ct_lineCount cc1), .int x3, .ref dgC, .ref bgC, w_t_ends, w_t_steps]))] := hD
  refine lv_aload_n hx hb dX0_init__54 rfl (lv_at hl 0 rfl) ?_
  refine lv_aload_n hx hb dX0_init__55 rfl (lv_at hl 1 rfl) ?_
  refine va_get (D := D) (ci := 0) (v := .ref enC) (C := RX0) (T := TX0) (N := 9) hx hb hts inX0_init__X0 hown hK (hC _ _ hS) 0 rfl rfl 7 (by decide) (hts _ (List.mem_of_getElem? (i := 11) rfl)) (fun _ h9 => h9) rfl dX0_init__56 ?_
  refine va_putF (D := D) (ci := 0) (v := .ref enC) (ty := .array .int) (C := RX0) (T := TX0) (N := 9) hx hb hts inX0_init__X0 tyX0 tyX0_ok nmX0 hown hK hP hD hS 0 rfl rfl 7 (by decide) (hts _ (List.mem_of_getElem? (i := 11) rfl)) (fun _ h9 => h9) rfl hin rfl (tyX0_ok 7 (by decide)) rfl rfl (Nat.le_of_ble_eq_true rfl) dX0_init__59 (fun H locs hP hD hS => ?_)
  replace hP : va_P D vwCl [(a_t, .inr (0, [.int (ct_number cc1), .int (ct_kind cc1), .int x2, .int (ct_lineCount cc1), .int x3, .ref dgC, .ref bgC, .ref enC, w_t_steps]))] H := hP
  replace hD : va_D A [(a_t, .inr (0, [.int (ct_number cc1), .int (ct_kind cc1), .int x2, .int (ct_lineCount cc1), .int x3, .ref dgC, .ref bgC, .ref enC, w_t_steps]))] := hD
  refine lv_aload_n hx hb dX0_init__62 rfl (lv_at hl 0 rfl) ?_
  refine lv_aload_n hx hb dX0_init__63 rfl (lv_at hl 1 rfl) ?_
  refine va_get (D := D) (ci := 0) (v := .ref stC) (C := RX0) (T := TX0) (N := 9) hx hb hts inX0_init__X0 hown hK (hC _ _ hS) 0 rfl rfl 8 (by decide) (hts _ (List.mem_of_getElem? (i := 12) rfl)) (fun _ h9 => h9) rfl dX0_init__64 ?_
  refine va_putF (D := D) (ci := 0) (v := .ref stC) (ty := .array .int) (C := RX0) (T := TX0) (N := 9) hx hb hts inX0_init__X0 tyX0 tyX0_ok nmX0 hown hK hP hD hS 0 rfl rfl 8 (by decide) (hts _ (List.mem_of_getElem? (i := 12) rfl)) (fun _ h9 => h9) rfl hin rfl (tyX0_ok 8 (by decide)) rfl rfl (Nat.le_of_ble_eq_true rfl) dX0_init__67 (fun H locs hP hD hS => ?_)
  replace hP : va_P D vwCl [(a_t, .inr (0, [.int (ct_number cc1), .int (ct_kind cc1), .int x2, .int (ct_lineCount cc1), .int x3, .ref dgC, .ref bgC, .ref enC, .ref stC]))] H := hP
  replace hD : va_D A [(a_t, .inr (0, [.int (ct_number cc1), .int (ct_kind cc1), .int x2, .int (ct_lineCount cc1), .int x3, .ref dgC, .ref bgC, .ref enC, .ref stC]))] := hD
  have hPj := hP.sub (ws' := [(a_t, .inr (0, [.int (ct_number cc1), .int (ct_kind cc1), .int x2, .int (ct_lineCount cc1), .int x3, .ref dgC, .ref bgC, .ref enC, .ref stC]))]) [0] rfl
  have hDj := hD.sub (ws' := [(a_t, .inr (0, [.int (ct_number cc1), .int (ct_kind cc1), .int x2, .int (ct_lineCount cc1), .int x3, .ref dgC, .ref bgC, .ref enC, .ref stC]))]) [0] (by decide) rfl
  exact W.vret hx hb hr (fun t ht hW => ⟨⟨(), rfl, trivial, post_mk ht hPj hDj⟩, hS.F ht⟩) hS.2.2 dX0_init__70 hlocks
