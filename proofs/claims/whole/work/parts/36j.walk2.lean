/-! ===== by program: contracts ===== -/
set_option maxHeartbeats 8000000 in
set_option maxRecDepth 100000 in
theorem MX2_init_X4 (l : Launch) (D : va_G) (cyI cyZ cyC : ClassId) (ro : va_W) (ce : Nat → CT) (cin : Nat → Prop) (ad : AD) (a_t : Nat) (w_t_tape w_t_size w_t_place w_t_fault w_t_read : Value) (sz : Nat)  : Met l yX2_init wsX2_init ({ frames := 1, cells := 1, slots := 120, locals := 12 }) (va_Pc [.ref a_t] (PRE D cyI cyZ cyC ro ce cin ad (SX2_init_X4 cyI cyZ cyC a_t w_t_tape w_t_size w_t_place w_t_fault w_t_read) sz)) (va_Qv (fun (_ : Nat) => True) (fun (u : Nat) (t : State) => POST D (va_A (SX2_init_X4 cyI cyZ cyC a_t w_t_tape w_t_size w_t_place w_t_fault w_t_read) sz) (OX2_init_X4 cyI cyZ cyC a_t w_t_tape w_t_size w_t_place w_t_fault w_t_read   u) t) (va_A (SX2_init_X4 cyI cyZ cyC a_t w_t_tape w_t_size w_t_place w_t_fault w_t_read) sz)) 1 120 (va_A (SX2_init_X4 cyI cyZ cyC a_t w_t_tape w_t_size w_t_place w_t_fault w_t_read) sz) := by
  refine Met.ofW (cc := cX2_init) (maxL := 1) (ret := none) (by decide) rfl ?_
  intro p e s m args below meth c s₁ B hml hv
  obtain ⟨rfl, hsz, hP, hK, hD0, hX⟩ := hv
  have hx := B.exec
  have hb := B.bytes
  have hr := B.returns
  have hts := atoms_spec (ws := wsX2_init) B.pre
  have hown : s.vm.findClass RX2 = some m.cls := findClass_of_methodNamed B.named
  have hlocks := B.notSynchronized
  have hin : meth.name = "<init>" := (name_of_methodNamed B.named B.method).1
  clear B
  subst hsz
  have hD := hD0.self (sz := s.heap.size)
  clear hD0
  generalize hAe : va_A (SX2_init_X4 cyI cyZ cyC a_t w_t_tape w_t_size w_t_place w_t_fault w_t_read) s.heap.size = A at hD hX ⊢
  have hA : ∀ q : Nat, s.heap.size ≤ q → A q := fun q h => by rw [← hAe]; exact Or.inr h
  clear hAe
  obtain ⟨H, hH⟩ : ∃ H, H = s.heap := ⟨_, rfl⟩
  rw [← hH] at hP ⊢
  have hS : va_S A s.heap H [] := by rw [hH]; exact va_S.rf
  clear hH
  replace hP : va_P D vwCl [(a_t, .inr (3, [w_t_tape, w_t_size, w_t_place, w_t_fault, w_t_read]))] H := hP
  replace hD : va_D A [(a_t, .inr (3, [w_t_tape, w_t_size, w_t_place, w_t_fault, w_t_read]))] := hD
  have hl := lv_entry ([.ref a_t]) (n := 1) (Nat.le_of_ble_eq_true rfl)
  rw [lg_entry_eq]
  generalize (lg_sl ([.ref a_t]) ++ List.replicate (1 - (lg_sl ([.ref a_t])).length) Slot.unset).toArray = ls at hl ⊢
  replace hl : lv_has ls 1 [(0, .ref a_t)] := hl
  refine lv_aload_n hx hb dX2_init_0 rfl (lv_at hl 0 rfl) ?_
  refine W.objInit hx hb hown (hts _ (List.mem_of_getElem? (i := 1) rfl)) (hts _ (List.mem_of_getElem? (i := 2) rfl)) (hts _ (List.mem_of_getElem? (i := 3) rfl)) rfl (by rw [hml]; exact hl.1) rfl dX2_init_1 (Nat.le_of_ble_eq_true rfl) (Nat.le_of_ble_eq_true rfl) ?_
  refine W.eq (g2 := F0 m 4 ls []) rfl ?_
  refine lv_aload_n hx hb dX2_init_4 rfl (lv_at hl 0 rfl) ?_
  refine lv_bipush (v := 120) hx hb dX2_init_5 (by decide) ?_
  refine va_newa (atype := .int) (ty := .int) (a0 := (120, .inl (fun _ => 0))) (N' := 120) hx hb (hts _ (List.mem_of_getElem? (i := 4) rfl)) rfl hK hP hD hS hA (fun c => va_zero c) (by decide) (by decide) (Nat.le_of_ble_eq_true rfl) (Nat.le_of_ble_eq_true rfl) (Nat.le_of_ble_eq_true rfl) dX2_init_7 (fun a_n7 cA H hK1 hP hD hS => ?_)
  have eC : cyI = cA := (k_cls (fun C h => by cases h) hK1 (i := 0) (j := 3) rfl rfl).symm
  subst eC
  clear hK1
  replace hP : va_P D vwCl [(a_t, .inr (3, [w_t_tape, w_t_size, w_t_place, w_t_fault, w_t_read])), (a_n7, .inl (cyI, 120, .inl (fun _ => 0)))] H := hP
  replace hD : va_D A [(a_t, .inr (3, [w_t_tape, w_t_size, w_t_place, w_t_fault, w_t_read])), (a_n7, .inl (cyI, 120, .inl (fun _ => 0)))] := hD
  refine va_putF (D := D) (ci := 3) (v := .ref a_n7) (ty := .array .int) (C := RX4) (T := TX4) (N := 5) hx hb hts inX2_init_X4 tyX4 tyX4_ok nmX4 hown hK hP hD hS 0 rfl rfl 0 (by decide) (hts _ (List.mem_of_getElem? (i := 5) rfl)) (fun _ h9 => h9) rfl hin rfl (tyX4_ok 0 (by decide)) rfl rfl (Nat.le_of_ble_eq_true rfl) dX2_init_9 (fun H locs hP hD hS => ?_)
  replace hP : va_P D vwCl [(a_t, .inr (3, [.ref a_n7, w_t_size, w_t_place, w_t_fault, w_t_read])), (a_n7, .inl (cyI, 120, .inl (fun _ => 0)))] H := hP
  replace hD : va_D A [(a_t, .inr (3, [.ref a_n7, w_t_size, w_t_place, w_t_fault, w_t_read])), (a_n7, .inl (cyI, 120, .inl (fun _ => 0)))] := hD
  refine lv_aload_n hx hb dX2_init_12 rfl (lv_at hl 0 rfl) ?_
  refine lv_iconst (v := 0) hx hb dX2_init_13 (by decide) ?_
  refine va_put (D := D) (ci := 3) (v := .int 0) (ty := .int) (C := RX4) (T := TX4) (N := 5) hx hb hts inX2_init_X4 tyX4 tyX4_ok nmX4 hown hK hP hD hS 0 rfl rfl 1 (by decide) (hts _ (List.mem_of_getElem? (i := 6) rfl)) (fun _ h9 => h9) rfl (tyX4_ok 1 (by decide)) rfl rfl (Nat.le_of_ble_eq_true rfl) dX2_init_14 (fun H locs hP hD hS => ?_)
  replace hP : va_P D vwCl [(a_t, .inr (3, [.ref a_n7, .int 0, w_t_place, w_t_fault, w_t_read])), (a_n7, .inl (cyI, 120, .inl (fun _ => 0)))] H := hP
  replace hD : va_D A [(a_t, .inr (3, [.ref a_n7, .int 0, w_t_place, w_t_fault, w_t_read])), (a_n7, .inl (cyI, 120, .inl (fun _ => 0)))] := hD
  refine lv_aload_n hx hb dX2_init_17 rfl (lv_at hl 0 rfl) ?_
  refine lv_iconst (v := 0) hx hb dX2_init_18 (by decide) ?_
  refine va_put (D := D) (ci := 3) (v := .int 0) (ty := .int) (C := RX4) (T := TX4) (N := 5) hx hb hts inX2_init_X4 tyX4 tyX4_ok nmX4 hown hK hP hD hS 0 rfl rfl 2 (by decide) (hts _ (List.mem_of_getElem? (i := 7) rfl)) (fun _ h9 => h9) rfl (tyX4_ok 2 (by decide)) rfl rfl (Nat.le_of_ble_eq_true rfl) dX2_init_19 (fun H locs hP hD hS => ?_)
  replace hP : va_P D vwCl [(a_t, .inr (3, [.ref a_n7, .int 0, .int 0, w_t_fault, w_t_read])), (a_n7, .inl (cyI, 120, .inl (fun _ => 0)))] H := hP
  replace hD : va_D A [(a_t, .inr (3, [.ref a_n7, .int 0, .int 0, w_t_fault, w_t_read])), (a_n7, .inl (cyI, 120, .inl (fun _ => 0)))] := hD
  refine lv_aload_n hx hb dX2_init_22 rfl (lv_at hl 0 rfl) ?_
  refine lv_iconst (v := (-1)) hx hb dX2_init_23 (by decide) ?_
  refine va_put (D := D) (ci := 3) (v := .int (-1)) (ty := .int) (C := RX4) (T := TX4) (N := 5) hx hb hts inX2_init_X4 tyX4 tyX4_ok nmX4 hown hK hP hD hS 0 rfl rfl 3 (by decide) (hts _ (List.mem_of_getElem? (i := 8) rfl)) (fun _ h9 => h9) rfl (tyX4_ok 3 (by decide)) rfl rfl (Nat.le_of_ble_eq_true rfl) dX2_init_24 (fun H locs hP hD hS => ?_)
  replace hP : va_P D vwCl [(a_t, .inr (3, [.ref a_n7, .int 0, .int 0, .int (-1), w_t_read])), (a_n7, .inl (cyI, 120, .inl (fun _ => 0)))] H := hP
  replace hD : va_D A [(a_t, .inr (3, [.ref a_n7, .int 0, .int 0, .int (-1), w_t_read])), (a_n7, .inl (cyI, 120, .inl (fun _ => 0)))] := hD
  have hPj := hP.sub (ws' := [(a_t, .inr (3, [.ref a_n7, .int 0, .int 0, .int (-1), w_t_read])), (a_n7, .inl (cyI, 120, .inl (fun _ => 0)))]) [0, 1] rfl
  have hDj := hD.sub (ws' := [(a_t, .inr (3, [.ref a_n7, .int 0, .int 0, .int (-1), w_t_read])), (a_n7, .inl (cyI, 120, .inl (fun _ => 0)))]) [0, 1] (by decide) rfl
  exact W.vret hx hb hr (fun t ht hW => ⟨⟨a_n7, rfl, trivial, post_mk ht hPj hDj⟩, hS.F ht⟩) hS.2.2 dX2_init_27 hlocks
