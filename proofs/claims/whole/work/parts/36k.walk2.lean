/-! ===== by program: contracts ===== -/
set_option maxHeartbeats 8000000 in
set_option maxRecDepth 100000 in
theorem MX4_init (l : Launch) (D : va_G) (cyI cyZ cyC : ClassId) (ro : va_W) (ce : Nat → CT) (cin : Nat → Prop) (ad : AD) (a_t : Nat) (w_t_tape w_t_size w_t_place w_t_fault w_t_read : Value) (sz : Nat)  : Met l yX4_init wsX4_init ({ frames := 3, cells := 10, slots := 156, locals := 53 }) (va_Pc [.ref a_t] (PRE D cyI cyZ cyC ro ce cin ad (SX4_init cyI cyZ cyC a_t w_t_tape w_t_size w_t_place w_t_fault w_t_read) sz)) (va_Qv (fun (_ : Nat × Nat × Nat × Nat × Nat × Nat × Nat × Nat × Nat × Nat) => True) (fun (u : Nat × Nat × Nat × Nat × Nat × Nat × Nat × Nat × Nat × Nat) (t : State) => POST D (va_A (SX4_init cyI cyZ cyC a_t w_t_tape w_t_size w_t_place w_t_fault w_t_read) sz) (OX4_init cyI cyZ cyC a_t w_t_tape w_t_size w_t_place w_t_fault w_t_read   u.1 u.2.1 u.2.2.1 u.2.2.2.1 u.2.2.2.2.1 u.2.2.2.2.2.1 u.2.2.2.2.2.2.1 u.2.2.2.2.2.2.2.1 u.2.2.2.2.2.2.2.2.1 u.2.2.2.2.2.2.2.2.2) t) (va_A (SX4_init cyI cyZ cyC a_t w_t_tape w_t_size w_t_place w_t_fault w_t_read) sz)) 10 156 (va_A (SX4_init cyI cyZ cyC a_t w_t_tape w_t_size w_t_place w_t_fault w_t_read) sz) := by
  refine Met.ofW (cc := cX4_init) (maxL := 1) (ret := none) (by decide) rfl ?_
  intro p e s m args below meth c s₁ B hml hv
  obtain ⟨rfl, hsz, hP, hK, hD0, hX⟩ := hv
  have hx := B.exec
  have hb := B.bytes
  have hr := B.returns
  have hts := atoms_spec (ws := wsX4_init) B.pre
  have hown : s.vm.findClass RX4 = some m.cls := findClass_of_methodNamed B.named
  have hlocks := B.notSynchronized
  have hin : meth.name = "<init>" := (name_of_methodNamed B.named B.method).1
  clear B
  subst hsz
  have hD := hD0.self (sz := s.heap.size)
  clear hD0
  generalize hAe : va_A (SX4_init cyI cyZ cyC a_t w_t_tape w_t_size w_t_place w_t_fault w_t_read) s.heap.size = A at hD hX ⊢
  have hA : ∀ q : Nat, s.heap.size ≤ q → A q := fun q h => by rw [← hAe]; exact Or.inr h
  clear hAe
  obtain ⟨H, hH⟩ : ∃ H, H = s.heap := ⟨_, rfl⟩
  rw [← hH] at hP ⊢
  have hS : va_S A s.heap H [] := by rw [hH]; exact va_S.rf
  clear hH
  replace hP : va_P D vwCl [(a_t, .inr (3, [w_t_tape, w_t_size, w_t_place, w_t_fault, w_t_read]))] H := hP
  replace hD : va_D A [(a_t, .inr (3, [w_t_tape, w_t_size, w_t_place, w_t_fault, w_t_read]))] := hD
  have hl := lv_entry ([.ref a_t]) (n := 1) (Nat.le_of_ble_eq_true rfl)
  rw [lg_entry_eq]
  generalize (lg_sl ([.ref a_t]) ++ List.replicate (1 - (lg_sl ([.ref a_t])).length) Slot.unset).toArray = ls at hl ⊢
  replace hl : lv_has ls 1 [(0, .ref a_t)] := hl
  refine lv_aload_n hx hb dX4_init_0 rfl (lv_at hl 0 rfl) ?_
  have hPc := hP.sub (ws' := [(a_t, .inr (3, [w_t_tape, w_t_size, w_t_place, w_t_fault, w_t_read]))]) [0] rfl
  have hDc := hD.sub (ws' := [(a_t, .inr (3, [w_t_tape, w_t_size, w_t_place, w_t_fault, w_t_read]))]) [0] (by decide) rfl
  have hFc := va_free (wc := [(a_t, .inr (3, [w_t_tape, w_t_size, w_t_place, w_t_fault, w_t_read]))]) hD hS hA [0] rfl
  refine va_callv (va_runIN (As := []) (rest := []) ⟨hx, hb, hml, hown, hts⟩ (MX2_init_X4 l D cyI cyZ cyC ro ce cin ad a_t (w_t_tape) (w_t_size) (w_t_place) (w_t_fault) (w_t_read) H.size ) ⟨va_cnB 0 hts gX4_init_X2_init_n3 rfl rfl rfl (hX.env.2.2.1 _ (List.mem_of_getElem? (i := 3) rfl)) (hts _ (List.mem_of_getElem? (i := 6) rfl)) dmX2_init ⟨Nat.le_of_ble_eq_true rfl, Nat.le_of_ble_eq_true rfl⟩, rfl, (hts _ (List.mem_of_getElem? (i := 5) rfl))⟩ ⟨pre_bl, fun U hU hW => ⟨rfl, pre_of hX hS hK hPc hDc hFc hU hW⟩⟩ rfl rfl hl.1 rfl (lv_room (Nat.le_of_ble_eq_true rfl)) dX4_init_1 ⟨Nat.le_of_ble_eq_true rfl, Nat.le_of_ble_eq_true rfl⟩) hS (fun q _ h => hFc q h) hFc (fun u t H1 locs ht hvm hw hB hz1 hk1 hS => ?_)
  obtain ⟨a_t_tape, rfl⟩ : ∃ z, z = u := ⟨u, rfl⟩
  obtain ⟨hP1, hD1⟩ := hB
  rw [ht] at hP1
  obtain ⟨hP, hD⟩ := va_join (wr := []) (w1 := [(a_t, .inr (3, [.ref a_t_tape, .int 0, .int 0, .int (-1), w_t_read])), (a_t_tape, .inl (cyI, 120, .inl (fun _ => 0)))]) hP hD [0] [] rfl rfl (by decide) (by decide) hk1 hFc hP1 hD1
  clear hPc hDc hFc hk1 hz1 hP1 hD1 ht hvm hw
  generalize H1 = H at hP hS ⊢
  replace hP : va_P D vwCl [(a_t, .inr (3, [.ref a_t_tape, .int 0, .int 0, .int (-1), w_t_read])), (a_t_tape, .inl (cyI, 120, .inl (fun _ => 0)))] H := hP
  replace hD : va_D A [(a_t, .inr (3, [.ref a_t_tape, .int 0, .int 0, .int (-1), w_t_read])), (a_t_tape, .inl (cyI, 120, .inl (fun _ => 0)))] := hD
  refine lv_aload_n hx hb dX4_init_4 rfl (lv_at hl 0 rfl) ?_
  refine va_new (ci := 2) (fs := [.int 0, .int 0, .int 0, .int 0, .null, .null, .null, .null]) (C := RX3) (T := TX3) (N := 8) hx hb hts inX4_init_X3 tyX3 tyX3_ok hown (hts _ (List.mem_of_getElem? (i := 1) rfl)) (hts _ (List.mem_of_getElem? (i := 2) rfl)) (hts _ (List.mem_of_getElem? (i := 3) rfl)) hK hP hD hS hA rfl dfX3 (Nat.le_of_ble_eq_true rfl) (Nat.le_of_ble_eq_true rfl) dX4_init_5 (fun a_n5 H hP hD hS => ?_)
  replace hP : va_P D vwCl [(a_t, .inr (3, [.ref a_t_tape, .int 0, .int 0, .int (-1), w_t_read])), (a_t_tape, .inl (cyI, 120, .inl (fun _ => 0))), (a_n5, .inr (2, [.int 0, .int 0, .int 0, .int 0, .null, .null, .null, .null]))] H := hP
  replace hD : va_D A [(a_t, .inr (3, [.ref a_t_tape, .int 0, .int 0, .int (-1), w_t_read])), (a_t_tape, .inl (cyI, 120, .inl (fun _ => 0))), (a_n5, .inr (2, [.int 0, .int 0, .int 0, .int 0, .null, .null, .null, .null]))] := hD
  refine lv_dup hx hb dX4_init_8 rfl ?_
  have hPc := hP.sub (ws' := [(a_n5, .inr (2, [.int 0, .int 0, .int 0, .int 0, .null, .null, .null, .null]))]) [2] rfl
  have hDc := hD.sub (ws' := [(a_n5, .inr (2, [.int 0, .int 0, .int 0, .int 0, .null, .null, .null, .null]))]) [2] (by decide) rfl
  have hFc := va_free (wc := [(a_n5, .inr (2, [.int 0, .int 0, .int 0, .int 0, .null, .null, .null, .null]))]) hD hS hA [2] rfl
  refine va_callv (va_runIN (As := []) (rest := [.ref a_n5, .ref a_t]) ⟨hx, hb, hml, hown, hts⟩ (MX3_init l D cyI cyZ cyC ro ce cin ad a_n5 (.int 0) (.int 0) (.int 0) (.int 0) (.null) (.null) (.null) (.null) H.size ) ⟨va_cnB 0 hts gX4_init_X3_init_n11 rfl rfl rfl (hX.env.2.2.1 _ (List.mem_of_getElem? (i := 4) rfl)) (hts _ (List.mem_of_getElem? (i := 3) rfl)) dmX3_init ⟨Nat.le_of_ble_eq_true rfl, Nat.le_of_ble_eq_true rfl⟩, rfl, (hts _ (List.mem_of_getElem? (i := 16) rfl))⟩ ⟨pre_bl, fun U hU hW => ⟨rfl, pre_of hX hS hK hPc hDc hFc hU hW⟩⟩ rfl rfl hl.1 rfl (lv_room (Nat.le_of_ble_eq_true rfl)) dX4_init_9 ⟨Nat.le_of_ble_eq_true rfl, Nat.le_of_ble_eq_true rfl⟩) hS (fun q _ h => hFc q h) hFc (fun u t H1 locs ht hvm hw hB hz1 hk1 hS => ?_)
  obtain ⟨a_n5_bank, a_n5_mill, a_n5_hung, a_n5_water, a_n5_water_level, a_n5_water_boards, a_n5_water_way, a_n5_water_beforeRain⟩ := u
  obtain ⟨hP1, hD1⟩ := hB
  rw [ht] at hP1
  obtain ⟨hP, hD⟩ := va_join (wr := [(a_t, .inr (3, [.ref a_t_tape, .int 0, .int 0, .int (-1), w_t_read])), (a_t_tape, .inl (cyI, 120, .inl (fun _ => 0)))]) (w1 := [(a_n5, .inr (2, [.int 0, .int 0, .int 0, .int 0, .ref a_n5_bank, .ref a_n5_mill, .ref a_n5_hung, .ref a_n5_water])), (a_n5_bank, .inl (cyI, 3, .inl (fun _ => 0))), (a_n5_mill, .inl (cyI, 3, .inl (fun _ => 0))), (a_n5_hung, .inl (cyI, 3, .inl (fun _ => 0))), (a_n5_water, .inr (7, [.ref a_n5_water_level, .ref a_n5_water_boards, .ref a_n5_water_way, .ref a_n5_water_beforeRain, .int 0, .int 0, .null])), (a_n5_water_level, .inl (cyI, 3, .inl (fun _ => 0))), (a_n5_water_boards, .inl (cyI, 3, .inl (fun _ => 0))), (a_n5_water_way, .inl (cyI, 3, .inl (fun _ => 0))), (a_n5_water_beforeRain, .inl (cyI, 3, .inl (fun _ => 0)))]) hP hD [2] [0, 1] rfl rfl (by decide) (by decide) hk1 hFc hP1 hD1
  clear hPc hDc hFc hk1 hz1 hP1 hD1 ht hvm hw
  generalize H1 = H at hP hS ⊢
  replace hP : va_P D vwCl [(a_t, .inr (3, [.ref a_t_tape, .int 0, .int 0, .int (-1), w_t_read])), (a_t_tape, .inl (cyI, 120, .inl (fun _ => 0))), (a_n5, .inr (2, [.int 0, .int 0, .int 0, .int 0, .ref a_n5_bank, .ref a_n5_mill, .ref a_n5_hung, .ref a_n5_water])), (a_n5_bank, .inl (cyI, 3, .inl (fun _ => 0))), (a_n5_mill, .inl (cyI, 3, .inl (fun _ => 0))), (a_n5_hung, .inl (cyI, 3, .inl (fun _ => 0))), (a_n5_water, .inr (7, [.ref a_n5_water_level, .ref a_n5_water_boards, .ref a_n5_water_way, .ref a_n5_water_beforeRain, .int 0, .int 0, .null])), (a_n5_water_level, .inl (cyI, 3, .inl (fun _ => 0))), (a_n5_water_boards, .inl (cyI, 3, .inl (fun _ => 0))), (a_n5_water_way, .inl (cyI, 3, .inl (fun _ => 0))), (a_n5_water_beforeRain, .inl (cyI, 3, .inl (fun _ => 0)))] H := hP
  replace hD : va_D A [(a_t, .inr (3, [.ref a_t_tape, .int 0, .int 0, .int (-1), w_t_read])), (a_t_tape, .inl (cyI, 120, .inl (fun _ => 0))), (a_n5, .inr (2, [.int 0, .int 0, .int 0, .int 0, .ref a_n5_bank, .ref a_n5_mill, .ref a_n5_hung, .ref a_n5_water])), (a_n5_bank, .inl (cyI, 3, .inl (fun _ => 0))), (a_n5_mill, .inl (cyI, 3, .inl (fun _ => 0))), (a_n5_hung, .inl (cyI, 3, .inl (fun _ => 0))), (a_n5_water, .inr (7, [.ref a_n5_water_level, .ref a_n5_water_boards, .ref a_n5_water_way, .ref a_n5_water_beforeRain, .int 0, .int 0, .null])), (a_n5_water_level, .inl (cyI, 3, .inl (fun _ => 0))), (a_n5_water_boards, .inl (cyI, 3, .inl (fun _ => 0))), (a_n5_water_way, .inl (cyI, 3, .inl (fun _ => 0))), (a_n5_water_beforeRain, .inl (cyI, 3, .inl (fun _ => 0)))] := hD
  refine va_putF (D := D) (ci := 3) (v := .ref a_n5) (ty := .object "SluiceCards$River") (C := RX4) (T := TX4) (N := 5) hx hb hts inX4_init_X4 tyX4 tyX4_ok nmX4 hown hK hP hD hS 0 rfl rfl 4 (by decide) (hts _ (List.mem_of_getElem? (i := 4) rfl)) (fun _ h9 => h9) rfl hin rfl (tyX4_ok 4 (by decide)) rfl rfl (Nat.le_of_ble_eq_true rfl) dX4_init_12 (fun H locs hP hD hS => ?_)
  replace hP : va_P D vwCl [(a_t, .inr (3, [.ref a_t_tape, .int 0, .int 0, .int (-1), .ref a_n5])), (a_t_tape, .inl (cyI, 120, .inl (fun _ => 0))), (a_n5, .inr (2, [.int 0, .int 0, .int 0, .int 0, .ref a_n5_bank, .ref a_n5_mill, .ref a_n5_hung, .ref a_n5_water])), (a_n5_bank, .inl (cyI, 3, .inl (fun _ => 0))), (a_n5_mill, .inl (cyI, 3, .inl (fun _ => 0))), (a_n5_hung, .inl (cyI, 3, .inl (fun _ => 0))), (a_n5_water, .inr (7, [.ref a_n5_water_level, .ref a_n5_water_boards, .ref a_n5_water_way, .ref a_n5_water_beforeRain, .int 0, .int 0, .null])), (a_n5_water_level, .inl (cyI, 3, .inl (fun _ => 0))), (a_n5_water_boards, .inl (cyI, 3, .inl (fun _ => 0))), (a_n5_water_way, .inl (cyI, 3, .inl (fun _ => 0))), (a_n5_water_beforeRain, .inl (cyI, 3, .inl (fun _ => 0)))] H := hP
  replace hD : va_D A [(a_t, .inr (3, [.ref a_t_tape, .int 0, .int 0, .int (-1), .ref a_n5])), (a_t_tape, .inl (cyI, 120, .inl (fun _ => 0))), (a_n5, .inr (2, [.int 0, .int 0, .int 0, .int 0, .ref a_n5_bank, .ref a_n5_mill, .ref a_n5_hung, .ref a_n5_water])), (a_n5_bank, .inl (cyI, 3, .inl (fun _ => 0))), (a_n5_mill, .inl (cyI, 3, .inl (fun _ => 0))), (a_n5_hung, .inl (cyI, 3, .inl (fun _ => 0))), (a_n5_water, .inr (7, [.ref a_n5_water_level, .ref a_n5_water_boards, .ref a_n5_water_way, .ref a_n5_water_beforeRain, .int 0, .int 0, .null])), (a_n5_water_level, .inl (cyI, 3, .inl (fun _ => 0))), (a_n5_water_boards, .inl (cyI, 3, .inl (fun _ => 0))), (a_n5_water_way, .inl (cyI, 3, .inl (fun _ => 0))), (a_n5_water_beforeRain, .inl (cyI, 3, .inl (fun _ => 0)))] := hD
  have hPj := hP.sub (ws' := [(a_t, .inr (3, [.ref a_t_tape, .int 0, .int 0, .int (-1), .ref a_n5])), (a_t_tape, .inl (cyI, 120, .inl (fun _ => 0))), (a_n5, .inr (2, [.int 0, .int 0, .int 0, .int 0, .ref a_n5_bank, .ref a_n5_mill, .ref a_n5_hung, .ref a_n5_water])), (a_n5_bank, .inl (cyI, 3, .inl (fun _ => 0))), (a_n5_mill, .inl (cyI, 3, .inl (fun _ => 0))), (a_n5_hung, .inl (cyI, 3, .inl (fun _ => 0))), (a_n5_water, .inr (7, [.ref a_n5_water_level, .ref a_n5_water_boards, .ref a_n5_water_way, .ref a_n5_water_beforeRain, .int 0, .int 0, .null])), (a_n5_water_level, .inl (cyI, 3, .inl (fun _ => 0))), (a_n5_water_boards, .inl (cyI, 3, .inl (fun _ => 0))), (a_n5_water_way, .inl (cyI, 3, .inl (fun _ => 0))), (a_n5_water_beforeRain, .inl (cyI, 3, .inl (fun _ => 0)))]) [0, 1, 2, 3, 4, 5, 6, 7, 8, 9, 10] rfl
  have hDj := hD.sub (ws' := [(a_t, .inr (3, [.ref a_t_tape, .int 0, .int 0, .int (-1), .ref a_n5])), (a_t_tape, .inl (cyI, 120, .inl (fun _ => 0))), (a_n5, .inr (2, [.int 0, .int 0, .int 0, .int 0, .ref a_n5_bank, .ref a_n5_mill, .ref a_n5_hung, .ref a_n5_water])), (a_n5_bank, .inl (cyI, 3, .inl (fun _ => 0))), (a_n5_mill, .inl (cyI, 3, .inl (fun _ => 0))), (a_n5_hung, .inl (cyI, 3, .inl (fun _ => 0))), (a_n5_water, .inr (7, [.ref a_n5_water_level, .ref a_n5_water_boards, .ref a_n5_water_way, .ref a_n5_water_beforeRain, .int 0, .int 0, .null])), (a_n5_water_level, .inl (cyI, 3, .inl (fun _ => 0))), (a_n5_water_boards, .inl (cyI, 3, .inl (fun _ => 0))), (a_n5_water_way, .inl (cyI, 3, .inl (fun _ => 0))), (a_n5_water_beforeRain, .inl (cyI, 3, .inl (fun _ => 0)))]) [0, 1, 2, 3, 4, 5, 6, 7, 8, 9, 10] (by decide) rfl
  exact W.vret hx hb hr (fun t ht hW => ⟨⟨(a_t_tape, a_n5, a_n5_bank, a_n5_mill, a_n5_hung, a_n5_water, a_n5_water_level, a_n5_water_boards, a_n5_water_way, a_n5_water_beforeRain), rfl, trivial, post_mk ht hPj hDj⟩, hS.F ht⟩) hS.2.2 dX4_init_15 hlocks
