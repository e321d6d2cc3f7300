/-! ===== by program: contracts ===== -/
set_option maxHeartbeats 8000000 in
set_option maxRecDepth 100000 in
theorem MX1_init (l : Launch) (D : va_G) (cyI cyZ cyC : ClassId) (ro : va_W) (ce : Nat → CT) (cin : Nat → Prop) (ad : AD) (a_t : Nat) (w_t_tape w_t_size w_t_place w_t_fault w_t_digits w_t_begins w_t_ends w_t_steps w_t_lineCount w_t_stepCount : Value) (sz : Nat)  : Met l yX1_init wsX1_init ({ frames := 2, cells := 5, slots := 258, locals := 32 }) (va_Pc [.ref a_t] (PRE D cyI cyZ cyC ro ce cin ad (SX1_init cyI cyZ cyC a_t w_t_tape w_t_size w_t_place w_t_fault w_t_digits w_t_begins w_t_ends w_t_steps w_t_lineCount w_t_stepCount) sz)) (va_Qv (fun (_ : Nat × Nat × Nat × Nat × Nat) => True) (fun (u : Nat × Nat × Nat × Nat × Nat) (t : State) => POST D (va_A (SX1_init cyI cyZ cyC a_t w_t_tape w_t_size w_t_place w_t_fault w_t_digits w_t_begins w_t_ends w_t_steps w_t_lineCount w_t_stepCount) sz) (OX1_init cyI cyZ cyC a_t w_t_tape w_t_size w_t_place w_t_fault w_t_digits w_t_begins w_t_ends w_t_steps w_t_lineCount w_t_stepCount   u.1 u.2.1 u.2.2.1 u.2.2.2.1 u.2.2.2.2) t) (va_A (SX1_init cyI cyZ cyC a_t w_t_tape w_t_size w_t_place w_t_fault w_t_digits w_t_begins w_t_ends w_t_steps w_t_lineCount w_t_stepCount) sz)) 5 258 (va_A (SX1_init cyI cyZ cyC a_t w_t_tape w_t_size w_t_place w_t_fault w_t_digits w_t_begins w_t_ends w_t_steps w_t_lineCount w_t_stepCount) sz) := by
  refine Met.ofW (cc := cX1_init) (maxL := 1) (ret := none) (by decide) rfl ?_
  intro p e s m args below meth c s₁ B hml hv
  obtain ⟨rfl, hsz, hP, hK, hD0, hX⟩ := hv
  have hx := B.exec
  have hb := B.bytes
  have hr := B.returns
  have hts := atoms_spec (ws := wsX1_init) B.pre
  have hown : s.vm.findClass RX1 = some m.cls := findClass_of_methodNamed B.named
  have hlocks := B.notSynchronized
  have hin : meth.name = "<init>" := (name_of_methodNamed B.named B.method).1
  clear B
  subst hsz
  have hD := hD0.self (sz := s.heap.size)
  clear hD0
  generalize hAe : va_A (SX1_init cyI cyZ cyC a_t w_t_tape w_t_size w_t_place w_t_fault w_t_digits w_t_begins w_t_ends w_t_steps w_t_lineCount w_t_stepCount) s.heap.size = A at hD hX ⊢
  have hA : ∀ q : Nat, s.heap.size ≤ q → A q := fun q h => by rw [← hAe]; exact Or.inr h
  clear hAe
  obtain ⟨H, hH⟩ : ∃ H, H = s.heap := ⟨_, rfl⟩
  rw [← hH] at hP ⊢
  have hS : va_S A s.heap H [] := by rw [hH]; exact va_S.rf
  clear hH
  replace hP : va_P D vwCl [(a_t, .inr (1, [w_t_tape, w_t_size, w_t_place, w_t_fault, w_t_digits, w_t_begins, w_t_ends, w_t_steps, w_t_lineCount, w_t_stepCount]))] H := hP
  replace hD : va_D A [(a_t, .inr (1, [w_t_tape, w_t_size, w_t_place, w_t_fault, w_t_digits, w_t_begins, w_t_ends, w_t_steps, w_t_lineCount, w_t_stepCount]))] := hD
  have hl := lv_entry ([.ref a_t]) (n := 1) (Nat.le_of_ble_eq_true rfl)
  rw [lg_entry_eq]
  generalize (lg_sl ([.ref a_t]) ++ List.replicate (1 - (lg_sl ([.ref a_t])).length) Slot.unset).toArray = ls at hl ⊢
  replace hl : lv_has ls 1 [(0, .ref a_t)] := hl
  refine lv_aload_n hx hb dX1_init_0 rfl (lv_at hl 0 rfl) ?_
  have hPc := hP.sub (ws' := [(a_t, .inr (1, [w_t_tape, w_t_size, w_t_place, w_t_fault, w_t_digits, w_t_begins, w_t_ends, w_t_steps, w_t_lineCount, w_t_stepCount]))]) [0] rfl
  have hDc := hD.sub (ws' := [(a_t, .inr (1, [w_t_tape, w_t_size, w_t_place, w_t_fault, w_t_digits, w_t_begins, w_t_ends, w_t_steps, w_t_lineCount, w_t_stepCount]))]) [0] (by decide) rfl
  have hFc := va_free (wc := [(a_t, .inr (1, [w_t_tape, w_t_size, w_t_place, w_t_fault, w_t_digits, w_t_begins, w_t_ends, w_t_steps, w_t_lineCount, w_t_stepCount]))]) hD hS hA [0] rfl
  refine va_callv (va_runIN (As := []) (rest := []) ⟨hx, hb, hml, hown, hts⟩ (MX2_init_X1 l D cyI cyZ cyC ro ce cin ad a_t (w_t_tape) (w_t_size) (w_t_place) (w_t_fault) (w_t_digits) (w_t_begins) (w_t_ends) (w_t_steps) (w_t_lineCount) (w_t_stepCount) H.size ) ⟨va_cnB 0 hts gX1_init_X2_init_n3 rfl rfl rfl (hX.env.2.2.1 _ (List.mem_of_getElem? (i := 6) rfl)) (hts _ (List.mem_of_getElem? (i := 9) rfl)) dmX2_init ⟨Nat.le_of_ble_eq_true rfl, Nat.le_of_ble_eq_true rfl⟩, rfl, (hts _ (List.mem_of_getElem? (i := 8) rfl))⟩ ⟨pre_bl, fun U hU hW => ⟨rfl, pre_of hX hS hK hPc hDc hFc hU hW⟩⟩ rfl rfl hl.1 rfl (lv_room (Nat.le_of_ble_eq_true rfl)) dX1_init_1 ⟨Nat.le_of_ble_eq_true rfl, Nat.le_of_ble_eq_true rfl⟩) hS (fun q _ h => hFc q h) hFc (fun u t H1 locs ht hvm hw hB hz1 hk1 hS => ?_)
  obtain ⟨a_t_tape, rfl⟩ : ∃ z, z = u := ⟨u, rfl⟩
  obtain ⟨hP1, hD1⟩ := hB
  rw [ht] at hP1
  obtain ⟨hP, hD⟩ := va_join (wr := []) (w1 := [(a_t, .inr (1, [.ref a_t_tape, .int 0, .int 0, .int (-1), w_t_digits, w_t_begins, w_t_ends, w_t_steps, w_t_lineCount, w_t_stepCount])), (a_t_tape, .inl (cyI, 120, .inl (fun _ => 0)))]) hP hD [0] [] rfl rfl (by decide) (by decide) hk1 hFc hP1 hD1
  clear hPc hDc hFc hk1 hz1 hP1 hD1 ht hvm hw
  generalize H1 = H at hP hS ⊢
  replace hP : va_P D vwCl [(a_t, .inr (1, [.ref a_t_tape, .int 0, .int 0, .int (-1), w_t_digits, w_t_begins, w_t_ends, w_t_steps, w_t_lineCount, w_t_stepCount])), (a_t_tape, .inl (cyI, 120, .inl (fun _ => 0)))] H := hP
  replace hD : va_D A [(a_t, .inr (1, [.ref a_t_tape, .int 0, .int 0, .int (-1), w_t_digits, w_t_begins, w_t_ends, w_t_steps, w_t_lineCount, w_t_stepCount])), (a_t_tape, .inl (cyI, 120, .inl (fun _ => 0)))] := hD
  refine lv_aload_n hx hb dX1_init_4 rfl (lv_at hl 0 rfl) ?_
  refine lv_bipush (v := 6) hx hb dX1_init_5 (by decide) ?_
  refine va_newa (atype := .int) (ty := .int) (a0 := (6, .inl (fun _ => 0))) (N' := 6) hx hb (hts _ (List.mem_of_getElem? (i := 1) rfl)) rfl hK hP hD hS hA (fun c => va_zero c) (by decide) (by decide) (Nat.le_of_ble_eq_true rfl) (Nat.le_of_ble_eq_true rfl) (Nat.le_of_ble_eq_true rfl) dX1_init_7 (fun a_n7 cA H hK1 hP hD hS => ?_)
  have eC : cyI = cA := (k_cls (fun C h => by cases h) hK1 (i := 0) (j := 3) rfl rfl).symm
  subst eC
  clear hK1
  replace hP : va_P D vwCl [(a_t, .inr (1, [.ref a_t_tape, .int 0, .int 0, .int (-1), w_t_digits, w_t_begins, w_t_ends, w_t_steps, w_t_lineCount, w_t_stepCount])), (a_t_tape, .inl (cyI, 120, .inl (fun _ => 0))), (a_n7, .inl (cyI, 6, .inl (fun _ => 0)))] H := hP
  replace hD : va_D A [(a_t, .inr (1, [.ref a_t_tape, .int 0, .int 0, .int (-1), w_t_digits, w_t_begins, w_t_ends, w_t_steps, w_t_lineCount, w_t_stepCount])), (a_t_tape, .inl (cyI, 120, .inl (fun _ => 0))), (a_n7, .inl (cyI, 6, .inl (fun _ => 0)))] := hD
  refine va_putF (D := D) (ci := 1) (v := .ref a_n7) (ty := .array .int) (C := RX1) (T := TX1) (N := 10) hx hb hts inX1_init_X1 tyX1 tyX1_ok nmX1 hown hK hP hD hS 0 rfl rfl 4 (by decide) (hts _ (List.mem_of_getElem? (i := 2) rfl)) (fun _ h9 => h9) rfl hin rfl (tyX1_ok 4 (by decide)) rfl rfl (Nat.le_of_ble_eq_true rfl) dX1_init_9 (fun H locs hP hD hS => ?_)
  replace hP : va_P D vwCl [(a_t, .inr (1, [.ref a_t_tape, .int 0, .int 0, .int (-1), .ref a_n7, w_t_begins, w_t_ends, w_t_steps, w_t_lineCount, w_t_stepCount])), (a_t_tape, .inl (cyI, 120, .inl (fun _ => 0))), (a_n7, .inl (cyI, 6, .inl (fun _ => 0)))] H := hP
  replace hD : va_D A [(a_t, .inr (1, [.ref a_t_tape, .int 0, .int 0, .int (-1), .ref a_n7, w_t_begins, w_t_ends, w_t_steps, w_t_lineCount, w_t_stepCount])), (a_t_tape, .inl (cyI, 120, .inl (fun _ => 0))), (a_n7, .inl (cyI, 6, .inl (fun _ => 0)))] := hD
  refine lv_aload_n hx hb dX1_init_12 rfl (lv_at hl 0 rfl) ?_
  refine lv_bipush (v := 6) hx hb dX1_init_13 (by decide) ?_
  refine va_newa (atype := .int) (ty := .int) (a0 := (6, .inl (fun _ => 0))) (N' := 6) hx hb (hts _ (List.mem_of_getElem? (i := 1) rfl)) rfl hK hP hD hS hA (fun c => va_zero c) (by decide) (by decide) (Nat.le_of_ble_eq_true rfl) (Nat.le_of_ble_eq_true rfl) (Nat.le_of_ble_eq_true rfl) dX1_init_15 (fun a_n15 cA H hK1 hP hD hS => ?_)
  have eC : cyI = cA := (k_cls (fun C h => by cases h) hK1 (i := 0) (j := 3) rfl rfl).symm
  subst eC
  clear hK1
  replace hP : va_P D vwCl [(a_t, .inr (1, [.ref a_t_tape, .int 0, .int 0, .int (-1), .ref a_n7, w_t_begins, w_t_ends, w_t_steps, w_t_lineCount, w_t_stepCount])), (a_t_tape, .inl (cyI, 120, .inl (fun _ => 0))), (a_n7, .inl (cyI, 6, .inl (fun _ => 0))), (a_n15, .inl (cyI, 6, .inl (fun _ => 0)))] H := hP
  replace hD : va_D A [(a_t, .inr (1, [.ref a_t_tape, .int 0, .int 0, .int (-1), .ref a_n7, w_t_begins, w_t_ends, w_t_steps, w_t_lineCount, w_t_stepCount])), (a_t_tape, .inl (cyI, 120, .inl (fun _ => 0))), (a_n7, .inl (cyI, 6, .inl (fun _ => 0))), (a_n15, .inl (cyI, 6, .inl (fun _ => 0)))] := hD
  refine va_putF (D := D) (ci := 1) (v := .ref a_n15) (ty := .array .int) (C := RX1) (T := TX1) (N := 10) hx hb hts inX1_init_X1 tyX1 tyX1_ok nmX1 hown hK hP hD hS 0 rfl rfl 5 (by decide) (hts _ (List.mem_of_getElem? (i := 3) rfl)) (fun _ h9 => h9) rfl hin rfl (tyX1_ok 5 (by decide)) rfl rfl (Nat.le_of_ble_eq_true rfl) dX1_init_17 (fun H locs hP hD hS => ?_)
  replace hP : va_P D vwCl [(a_t, .inr (1, [.ref a_t_tape, .int 0, .int 0, .int (-1), .ref a_n7, .ref a_n15, w_t_ends, w_t_steps, w_t_lineCount, w_t_stepCount])), (a_t_tape, .inl (cyI, 120, .inl (fun _ => 0))), (a_n7, .inl (cyI, 6, .inl (fun _ => 0))), (a_n15, .inl (cyI, 6, .inl (fun _ => 0)))] H := hP
  replace hD : va_D A [(a_t, .inr (1, [.ref a_t_tape, .int 0, .int 0, .int (-1), .ref a_n7, .ref a_n15, w_t_ends, w_t_steps, w_t_lineCount, w_t_stepCount])), (a_t_tape, .inl (cyI, 120, .inl (fun _ => 0))), (a_n7, .inl (cyI, 6, .inl (fun _ => 0))), (a_n15, .inl (cyI, 6, .inl (fun _ => 0)))] := hD
  refine lv_aload_n hx hb dX1_init_20 rfl (lv_at hl 0 rfl) ?_
  refine lv_bipush (v := 6) hx hb dX1_init_21 (by decide) ?_
  refine va_newa (atype := .int) (ty := .int) (a0 := (6, .inl (fun _ => 0))) (N' := 6) hx hb (hts _ (List.mem_of_getElem? (i := 1) rfl)) rfl hK hP hD hS hA (fun c => va_zero c) (by decide) (by decide) (Nat.le_of_ble_eq_true rfl) (Nat.le_of_ble_eq_true rfl) (Nat.le_of_ble_eq_true rfl) dX1_init_23 (fun a_n23 cA H hK1 hP hD hS => ?_)
  have eC : cyI = cA := (k_cls (fun C h => by cases h) hK1 (i := 0) (j := 3) rfl rfl).symm
  subst eC
  clear hK1
  replace hP : va_P D vwCl [(a_t, .inr (1, [.ref a_t_tape, .int 0, .int 0, .int (-1), .ref a_n7, .ref a_n15, w_t_ends, w_t_steps, w_t_lineCount, w_t_stepCount])), (a_t_tape, .inl (cyI, 120, .inl (fun _ => 0))), (a_n7, .inl (cyI, 6, .inl (fun _ => 0))), (a_n15, .inl (cyI, 6, .inl (fun _ => 0))), (a_n23, .inl (cyI, 6, .inl (fun _ => 0)))] H := hP
  replace hD : va_D A [(a_t, .inr (1, [.ref a_t_tape, .int 0, .int 0, .int (-1), .ref a_n7, .ref a_n15, w_t_ends, w_t_steps, w_t_lineCount, w_t_stepCount])), (a_t_tape, .inl (cyI, 120, .inl (fun _ => 0))), (a_n7, .inl (cyI, 6, .inl (fun _ => 0))), (a_n15, .inl (cyI, 6, .inl (fun _ => 0))), (a_n23, .inl (cyI, 6, .inl (fun _ => 0)))] := hD
  refine va_putF (D := D) (ci := 1) (v := .ref a_n23) (ty := .array .int) (C := RX1) (T := TX1) (N := 10) hx hb hts inX1_init_X1 tyX1 tyX1_ok nmX1 hown hK hP hD hS 0 rfl rfl 6 (by decide) (hts _ (List.mem_of_getElem? (i := 4) rfl)) (fun _ h9 => h9) rfl hin rfl (tyX1_ok 6 (by decide)) rfl rfl (Nat.le_of_ble_eq_true rfl) dX1_init_25 (fun H locs hP hD hS => ?_)
  replace hP : va_P D vwCl [(a_t, .inr (1, [.ref a_t_tape, .int 0, .int 0, .int (-1), .ref a_n7, .ref a_n15, .ref a_n23, w_t_steps, w_t_lineCount, w_t_stepCount])), (a_t_tape, .inl (cyI, 120, .inl (fun _ => 0))), (a_n7, .inl (cyI, 6, .inl (fun _ => 0))), (a_n15, .inl (cyI, 6, .inl (fun _ => 0))), (a_n23, .inl (cyI, 6, .inl (fun _ => 0)))] H := hP
  replace hD : va_D A [(a_t, .inr (1, [.ref a_t_tape, .int 0, .int 0, .int (-1), .ref a_n7, .ref a_n15, .ref a_n23, w_t_steps, w_t_lineCount, w_t_stepCount])), (a_t_tape, .inl (cyI, 120, .inl (fun _ => 0))), (a_n7, .inl (cyI, 6, .inl (fun _ => 0))), (a_n15, .inl (cyI, 6, .inl (fun _ => 0))), (a_n23, .inl (cyI, 6, .inl (fun _ => 0)))] := hD
  refine lv_aload_n hx hb dX1_init_28 rfl (lv_at hl 0 rfl) ?_
  refine lv_bipush (v := 120) hx hb dX1_init_29 (by decide) ?_
  refine va_newa (atype := .int) (ty := .int) (a0 := (120, .inl (fun _ => 0))) (N' := 120) hx hb (hts _ (List.mem_of_getElem? (i := 1) rfl)) rfl hK hP hD hS hA (fun c => va_zero c) (by decide) (by decide) (Nat.le_of_ble_eq_true rfl) (Nat.le_of_ble_eq_true rfl) (Nat.le_of_ble_eq_true rfl) dX1_init_31 (fun a_n31 cA H hK1 hP hD hS => ?_)
  have eC : cyI = cA := (k_cls (fun C h => by cases h) hK1 (i := 0) (j := 3) rfl rfl).symm
  subst eC
  clear hK1
  replace hP : va_P D vwCl [(a_t, .inr (1, [.ref a_t_tape, .int 0, .int 0, .int (-1), .ref a_n7, .ref a_n15, .ref a_n23, w_t_steps, w_t_lineCount, w_t_stepCount])), (a_t_tape, .inl (cyI, 120, .inl (fun _ => 0))), (a_n7, .inl (cyI, 6, .inl (fun _ => 0))), (a_n15, .inl (cyI, 6, .inl (fun _ => 0))), (a_n23, .inl (cyI, 6, .inl (fun _ => 0))), (a_n31, .inl (cyI, 120, .inl (fun _ => 0)))] H := hP
  replace hD : va_D A [(a_t, .inr (1, [.ref a_t_tape, .int 0, .int 0, .int (-1), .ref a_n7, .ref a_n15, .ref a_n23, w_t_steps, w_t_lineCount, w_t_stepCount])), (a_t_tape, .inl (cyI, 120, .inl (fun _ => 0))), (a_n7, .inl (cyI, 6, .inl (fun _ => 0))), (a_n15, .inl (cyI, 6, .inl (fun _ => 0))), (a_n23, .inl (cyI, 6, .inl (fun _ => 0))), (a_n31, .inl (cyI, 120, .inl (fun _ => 0)))] := hD
  refine va_putF (D := D) (ci := 1) (v := .ref a_n31) (ty := .array .int) (C := RX1) (T := TX1) (N := 10) hx hb hts inX1_init_X1 tyX1 tyX1_ok nmX1 hown hK hP hD hS 0 rfl rfl 7 (by decide) (hts _ (List.mem_of_getElem? (i := 5) rfl)) (fun _ h9 => h9) rfl hin rfl (tyX1_ok 7 (by decide)) rfl rfl (Nat.le_of_ble_eq_true rfl) dX1_init_33 (fun H locs hP hD hS => ?_)
  replace hP : va_P D vwCl [(a_t, .inr (1, [.ref a_t_tape, .int 0, .int 0, .int (-1), .ref a_n7, .ref a_n15, .ref a_n23, .ref a_n31, w_t_lineCount, w_t_stepCount])), (a_t_tape, .inl (cyI, 120, .inl (fun _ => 0))), (a_n7, .inl (cyI, 6, .inl (fun _ => 0))), (a_n15, .inl (cyI, 6, .inl (fun _ => 0))), (a_n23, .inl (cyI, 6, .inl (fun _ => 0))), (a_n31, .inl (cyI, 120, .inl (fun _ => 0)))] H := hP
  replace hD : va_D A [(a_t, .inr (1, [.ref a_t_tape, .int 0, .int 0, .int (-1), .ref a_n7, .ref a_n15, .ref a_n23, .ref a_n31, w_t_lineCount, w_t_stepCount])), (a_t_tape, .inl (cyI, 120, .inl (fun _ => 0))), (a_n7, .inl (cyI, 6, .inl (fun _ => 0))), (a_n15, .inl (cyI, 6, .inl (fun _ => 0))), (a_n23, .inl (cyI, 6, .inl (fun _ => 0))), (a_n31, .inl (cyI, 120, .inl (fun _ => 0)))] := hD
  refine lv_aload_n hx hb dX1_init_36 rfl (lv_at hl 0 rfl) ?_
  refine lv_iconst (v := 0) hx hb dX1_init_37 (by decide) ?_
  refine va_put (D := D) (ci := 1) (v := .int 0) (ty := .int) (C := RX1) (T := TX1) (N := 10) hx hb hts inX1_init_X1 tyX1 tyX1_ok nmX1 hown hK hP hD hS 0 rfl rfl 8 (by decide) (hts _ (List.mem_of_getElem? (i := 6) rfl)) (fun _ h9 => h9) rfl (tyX1_ok 8 (by decide)) rfl rfl (Nat.le_of_ble_eq_true rfl) dX1_init_38 (fun H locs hP hD hS => ?_)
  replace hP : va_P D vwCl [(a_t, .inr (1, [.ref a_t_tape, .int 0, .int 0, .int (-1), .ref a_n7, .ref a_n15, .ref a_n23, .ref a_n31, .int 0, w_t_stepCount])), (a_t_tape, .inl (cyI, 120, .inl (fun _ => 0))), (a_n7, .inl (cyI, 6, .inl (fun _ => 0))), (a_n15, .inl (cyI, 6, .inl (fun _ => 0))), (a_n23, .inl (cyI, 6, .inl (fun _ => 0))), (a_n31, .inl (cyI, 120, .inl (fun _ => 0)))] H := hP
  replace hD : va_D A [(a_t, .inr (1, [.ref a_t_tape, .int 0, .int 0, .int (-1), .ref a_n7, .ref a_n15, .ref a_n23, .ref a_n31, .int 0, w_t_stepCount])), (a_t_tape, .inl (cyI, 120, .inl (fun _ => 0))), (a_n7, .inl (cyI, 6, .inl (fun _ => 0))), (a_n15, .inl (cyI, 6, .inl (fun _ => 0))), (a_n23, .inl (cyI, 6, .inl (fun _ => 0))), (a_n31, .inl (cyI, 120, .inl (fun _ => 0)))] := hD
  refine lv_aload_n hx hb dX1_init_41 rfl (lv_at hl 0 rfl) ?_
  refine lv_iconst (v := 0) hx hb dX1_init_42 (by decide) ?_
  refine va_put (D := D) (ci := 1) (v := .int 0) (ty := .int) (C := RX1) (T := TX1) (N := 10) hx hb hts inX1_init_X1 tyX1 tyX1_ok nmX1 hown hK hP hD hS 0 rfl rfl 9 (by decide) (hts _ (List.mem_of_getElem? (i := 7) rfl)) (fun _ h9 => h9) rfl (tyX1_ok 9 (by decide)) rfl rfl (Nat.le_of_ble_eq_true rfl) dX1_init_43 (fun H locs hP hD hS => ?_)
  replace hP : va_P D vwCl [(a_t, .inr (1, [.ref a_t_tape, .int 0, .int 0, .int (-1), .ref a_n7, .ref a_n15, .ref a_n23, .ref a_n31, .int 0, .int 0])), (a_t_tape, .inl (cyI, 120, .inl (fun _ => 0))), (a_n7, .inl (cyI, 6, .inl (fun _ => 0))), (a_n15, .inl (cyI, 6, .inl (fun _ => 0))), (a_n23, .inl (cyI, 6, .inl (fun _ => 0))), (a_n31, .inl (cyI, 120, .inl (fun _ => 0)))] H := hP
  replace hD : va_D A [(a_t, .inr (1, [.ref a_t_tape, .int 0, .int 0, .int (-1), .ref a_n7, .ref a_n15, .ref a_n23, .ref a_n31, .int 0, .int 0])), (a_t_tape, .inl (cyI, 120, .inl (fun _ => 0))), (a_n7, .inl (cyI, 6, .inl (fun _ => 0))), (a_n15, .inl (cyI, 6, .inl (fun _ => 0))), (a_n23, .inl (cyI, 6, .inl (fun _ => 0))), (a_n31, .inl (cyI, 120, .inl (fun _ => 0)))] := hD
  have hPj := hP.sub (ws' := [(a_t, .inr (1, [.ref a_t_tape, .int 0, .int 0, .int (-1), .ref a_n7, .ref a_n15, .ref a_n23, .ref a_n31, .int 0, .int 0])), (a_t_tape, .inl (cyI, 120, .inl (fun _ => 0))), (a_n7, .inl (cyI, 6, .inl (fun _ => 0))), (a_n15, .inl (cyI, 6, .inl (fun _ => 0))), (a_n23, .inl (cyI, 6, .inl (fun _ => 0))), (a_n31, .inl (cyI, 120, .inl (fun _ => 0)))]) [0, 1, 2, 3, 4, 5] rfl
  have hDj := hD.sub (ws' := [(a_t, .inr (1, [.ref a_t_tape, .int 0, .int 0, .int (-1), .ref a_n7, .ref a_n15, .ref a_n23, .ref a_n31, .int 0, .int 0])), (a_t_tape, .inl (cyI, 120, .inl (fun _ => 0))), (a_n7, .inl (cyI, 6, .inl (fun _ => 0))), (a_n15, .inl (cyI, 6, .inl (fun _ => 0))), (a_n23, .inl (cyI, 6, .inl (fun _ => 0))), (a_n31, .inl (cyI, 120, .inl (fun _ => 0)))]) [0, 1, 2, 3, 4, 5] (by decide) rfl
  exact W.vret hx hb hr (fun t ht hW => ⟨⟨(a_t_tape, a_n7, a_n15, a_n23, a_n31), rfl, trivial, post_mk ht hPj hDj⟩, hS.F ht⟩) hS.2.2 dX1_init_46 hlocks
