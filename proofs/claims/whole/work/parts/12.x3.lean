set_option maxHeartbeats 4000000 in
set_option maxRecDepth 100000 in
theorem c_X_interruptDue (l : Launch) (dC : Nat → ClassId) (dI : Nat → Nat → Nat) (h0 a1 a2 sz : Nat) (k1 k2 : ClassId) (f g : Nat → Int32) (ent ret cnt per cng pnd msk sr sav tkn : Int32) (en : Nat) (he : ent = nI en) (h32 : en ≤ 32) :
    Met l yX0_interruptDue wsX0_interruptDue ({ frames := 1, cells := 0, slots := 0, locals := 23 }) (va_Pc [.ref h0] (rt_pre dC dI (rt_xw h0 a1 a2 k1 k2 f g ent ret cnt per cng pnd msk sr sav tkn) [(k1, .int), (k2, .int)] sz)) (va_Qi (fun (v : Int32) (u : Unit) => v = rt_due sr pnd (rt_pl f g ret en) msk) (rt_post dC dI [(k1, .int), (k2, .int)] (va_A (rt_xw h0 a1 a2 k1 k2 f g ent ret cnt per cng pnd msk sr sav tkn) sz) (fun (u : Unit) => rt_xw h0 a1 a2 k1 k2 f g ent ret cnt per cng pnd msk sr sav tkn)) (va_A (rt_xw h0 a1 a2 k1 k2 f g ent ret cnt per cng pnd msk sr sav tkn) sz)) 0 0 (va_A (rt_xw h0 a1 a2 k1 k2 f g ent ret cnt per cng pnd msk sr sav tkn) sz) := by
  subst he
  refine Met.ofW (cc := cX0_interruptDue) (maxL := 1) (ret := (some .int)) (by decide) rfl ?_
  intro p e0 s m args below meth c s₁ B hml hv
  obtain ⟨rfl, hsz, hP, hK, hD0⟩ := hv
  have hx := B.exec
  have hb := B.bytes
  have hr := B.returns
  have hts := atoms_spec (ws := wsX0_interruptDue) B.pre
  have hown : s.vm.findClass RX0 = some m.cls := findClass_of_methodNamed B.named
  have hlocks := B.notSynchronized
  subst hsz
  have hD := hD0.self (sz := s.heap.size)
  generalize hAe : va_A (rt_xw h0 a1 a2 k1 k2 f g (nI en) ret cnt per cng pnd msk sr sav tkn) s.heap.size = A at hD ⊢
  have hA : ∀ q : Nat, s.heap.size ≤ q → A q := fun q h => by rw [← hAe]; exact Or.inr h
  have hS : va_S A s.heap s.heap [] := va_S.rf
  have hP : va_P (dC, dI) vwCl (rt_xw h0 a1 a2 k1 k2 f g (nI en) ret cnt per cng pnd msk sr sav tkn) s.heap := hP
  have hl := lv_entry ([.ref h0]) (n := 1) (Nat.le_of_ble_eq_true rfl)
  rw [lg_entry_eq]
  generalize (lg_sl ([.ref h0]) ++ List.replicate (1 - (lg_sl ([.ref h0])).length) Slot.unset).toArray = ls at hl ⊢
  have hl : lv_has ls 1 [(0, .ref h0)] := hl
  refine lv_aload_n hx hb dX0_interruptDue_0 rfl (lv_at hl 0 rfl) ?_
  refine lv_iconst (v := 2) hx hb dX0_interruptDue_1 (by decide) ?_
  have hFc := va_free (wc := rt_xw h0 a1 a2 k1 k2 f g (nI en) ret cnt per cng pnd msk sr sav tkn) hD hS hA [0, 1, 2] rfl
  refine va_calli (va_runV (As := [.int 2]) (rest := []) ⟨hx, hb, hml, hown, hts⟩ (c_X_isOn l dC dI h0 a1 a2 s.heap.size k1 k2 f g (nI en) ret cnt per cng pnd msk sr sav tkn 2) (cwV 1 hts gX0_interruptDue_X0_isOn rfl rfl rfl (by decide +kernel) ⟨Nat.le_of_ble_eq_true rfl, Nat.le_of_ble_eq_true rfl⟩) ⟨fun a U g mk q => by obtain ⟨q0, q1, qP, qK, qD⟩ := q; exact ⟨q0, q1, qP, va_K.moved (u := U) (U := U.calling g mk a) (Vm.Alike.refl U.vm) qK, qD⟩, va_recv hK hP (ci := 0) (q0 := 0) rfl rfl, fun U hU hW => ⟨rfl, by rw [hU], by rw [hU]; exact hP, va_K.moved hW.alike hK, hD.weaken (fun _ _ _ _ => trivial)⟩⟩ rfl rfl hl.1 rfl (lv_room (Nat.le_of_ble_eq_true rfl)) dX0_interruptDue_2 ⟨Nat.zero_le _, Nat.zero_le _⟩) hS (fun q _ h => hFc q h) hFc (fun r_2 u t H1 locs ht hvm hw_2 hB hz1 hk1 hS => ?_)
  obtain ⟨hP1, hK1, hD1⟩ := hB
  rw [ht] at hP1
  try dsimp only at hw_2 hP1 hD1
  obtain ⟨hP, hD⟩ := va_join (wr := []) (w1 := rt_xw h0 a1 a2 k1 k2 f g (nI en) ret cnt per cng pnd msk sr sav tkn) hP hD [0, 1, 2] [] rfl rfl (by decide) (by decide) hk1 hFc hP1 hD1
  generalize H1 = H at hP hS ⊢
  have hP : va_P (dC, dI) vwCl (rt_xw h0 a1 a2 k1 k2 f g (nI en) ret cnt per cng pnd msk sr sav tkn) H := hP
  have hD : va_D A (rt_xw h0 a1 a2 k1 k2 f g (nI en) ret cnt per cng pnd msk sr sav tkn) := hD
  refine lv_if_eq (tgt := 17) hx hb dX0_interruptDue_5 (by decide) (fun c_5 => ?_) (fun c_5 => ?_)
  · refine lv_aload_n hx hb dX0_interruptDue_17 rfl (lv_at hl 0 rfl) ?_
    refine lv_iconst (v := 4) hx hb dX0_interruptDue_18 (by decide) ?_
    have hFc := va_free (wc := rt_xw h0 a1 a2 k1 k2 f g (nI en) ret cnt per cng pnd msk sr sav tkn) hD hS hA [0, 1, 2] rfl
    refine va_calli (va_runV (As := [.int 4]) (rest := []) ⟨hx, hb, hml, hown, hts⟩ (c_X_isOn l dC dI h0 a1 a2 H.size k1 k2 f g (nI en) ret cnt per cng pnd msk sr sav tkn 4) (cwV 1 hts gX0_interruptDue_X0_isOn rfl rfl rfl (by decide +kernel) ⟨Nat.le_of_ble_eq_true rfl, Nat.le_of_ble_eq_true rfl⟩) ⟨fun a U g mk q => by obtain ⟨q0, q1, qP, qK, qD⟩ := q; exact ⟨q0, q1, qP, va_K.moved (u := U) (U := U.calling g mk a) (Vm.Alike.refl U.vm) qK, qD⟩, va_recv hK hP (ci := 0) (q0 := 0) rfl rfl, fun U hU hW => ⟨rfl, by rw [hU], by rw [hU]; exact hP, va_K.moved hW.alike hK, hD.weaken (fun _ _ _ _ => trivial)⟩⟩ rfl rfl hl.1 rfl (lv_room (Nat.le_of_ble_eq_true rfl)) dX0_interruptDue_19 ⟨Nat.zero_le _, Nat.zero_le _⟩) hS (fun q _ h => hFc q h) hFc (fun r_19 u t H1 locs ht hvm hw_19 hB hz1 hk1 hS => ?_)
    obtain ⟨hP1, hK1, hD1⟩ := hB
    rw [ht] at hP1
    try dsimp only at hw_19 hP1 hD1
    obtain ⟨hP, hD⟩ := va_join (wr := []) (w1 := rt_xw h0 a1 a2 k1 k2 f g (nI en) ret cnt per cng pnd msk sr sav tkn) hP hD [0, 1, 2] [] rfl rfl (by decide) (by decide) hk1 hFc hP1 hD1
    generalize H1 = H at hP hS ⊢
    have hP : va_P (dC, dI) vwCl (rt_xw h0 a1 a2 k1 k2 f g (nI en) ret cnt per cng pnd msk sr sav tkn) H := hP
    have hD : va_D A (rt_xw h0 a1 a2 k1 k2 f g (nI en) ret cnt per cng pnd msk sr sav tkn) := hD
    refine lv_if_eq (tgt := 43) hx hb dX0_interruptDue_22 (by decide) (fun c_22 => ?_) (fun c_22 => ?_)
    · refine lv_iconst (v := 0) hx hb dX0_interruptDue_43 (by decide) ?_
      exact W.iret (v := 0) hx hb hr (fun t ht hW => ⟨⟨0, (), rfl, (rt_due0 (Or.inl (hw_2.mp c_5)) (Or.inl (hw_19.mp c_22))).symm, by rw [ht]; exact hP, va_K.moved hW.alike hK, hD⟩, hS.F ht⟩) hS.2.2 dX0_interruptDue_44
    · refine lv_aload_n hx hb dX0_interruptDue_25 rfl (lv_at hl 0 rfl) ?_
      refine lv_aload_n hx hb dX0_interruptDue_26 rfl (lv_at hl 0 rfl) ?_
      refine lv_aload_n hx hb dX0_interruptDue_27 rfl (lv_at hl 0 rfl) ?_
      refine va_get (D := (dC, dI)) (ci := 0) (v := .int ret) (C := RX0) (T := TX0) (N := 12) hx hb hts (fun _ h => List.mem_cons_of_mem _ (List.mem_append_right _ h)) hown hK hP 0 rfl rfl 3 (by decide) (hts (.fieldLink RX0 28 "RetiredTimer" "retired" "I") (by decide +kernel)) (fun _ h9 => h9) rfl dX0_interruptDue_28 ?_
      have hFc := va_free (wc := rt_xw h0 a1 a2 k1 k2 f g (nI en) ret cnt per cng pnd msk sr sav tkn) hD hS hA [0, 1, 2] rfl
      refine va_calli (va_runV (As := [.int ret]) (rest := [.ref h0]) ⟨hx, hb, hml, hown, hts⟩ (c_X_linesAt l dC dI h0 a1 a2 H.size k1 k2 f g (nI en) ret cnt per cng pnd msk sr sav tkn ret en rfl h32) (cwV 1 hts gX0_interruptDue_X0_linesAt rfl rfl rfl (by decide +kernel) ⟨Nat.le_of_ble_eq_true rfl, Nat.le_of_ble_eq_true rfl⟩) ⟨fun a U g mk q => by obtain ⟨q0, q1, qP, qK, qD⟩ := q; exact ⟨q0, q1, qP, va_K.moved (u := U) (U := U.calling g mk a) (Vm.Alike.refl U.vm) qK, qD⟩, va_recv hK hP (ci := 0) (q0 := 0) rfl rfl, fun U hU hW => ⟨rfl, by rw [hU], by rw [hU]; exact hP, va_K.moved hW.alike hK, hD.weaken (fun _ _ _ _ => trivial)⟩⟩ rfl rfl hl.1 rfl (lv_room (Nat.le_of_ble_eq_true rfl)) dX0_interruptDue_31 ⟨Nat.zero_le _, Nat.zero_le _⟩) hS (fun q _ h => hFc q h) hFc (fun r_31 u t H1 locs ht hvm hw_31 hB hz1 hk1 hS => ?_)
      obtain ⟨hP1, hK1, hD1⟩ := hB
      rw [ht] at hP1
      try dsimp only at hw_31 hP1 hD1
      obtain ⟨hP, hD⟩ := va_join (wr := []) (w1 := rt_xw h0 a1 a2 k1 k2 f g (nI en) ret cnt per cng pnd msk sr sav tkn) hP hD [0, 1, 2] [] rfl rfl (by decide) (by decide) hk1 hFc hP1 hD1
      generalize H1 = H at hP hS ⊢
      have hP : va_P (dC, dI) vwCl (rt_xw h0 a1 a2 k1 k2 f g (nI en) ret cnt per cng pnd msk sr sav tkn) H := hP
      have hD : va_D A (rt_xw h0 a1 a2 k1 k2 f g (nI en) ret cnt per cng pnd msk sr sav tkn) := hD
      have hFc := va_free (wc := rt_xw h0 a1 a2 k1 k2 f g (nI en) ret cnt per cng pnd msk sr sav tkn) hD hS hA [0, 1, 2] rfl
      refine va_calli (va_runV (As := [.int r_31]) (rest := []) ⟨hx, hb, hml, hown, hts⟩ (c_X_isInMask l dC dI h0 a1 a2 H.size k1 k2 f g (nI en) ret cnt per cng pnd msk sr sav tkn r_31) (cwV 1 hts gX0_interruptDue_X0_isInMask rfl rfl rfl (by decide +kernel) ⟨Nat.le_of_ble_eq_true rfl, Nat.le_of_ble_eq_true rfl⟩) ⟨fun a U g mk q => by obtain ⟨q0, q1, qP, qK, qD⟩ := q; exact ⟨q0, q1, qP, va_K.moved (u := U) (U := U.calling g mk a) (Vm.Alike.refl U.vm) qK, qD⟩, va_recv hK hP (ci := 0) (q0 := 0) rfl rfl, fun U hU hW => ⟨rfl, by rw [hU], by rw [hU]; exact hP, va_K.moved hW.alike hK, hD.weaken (fun _ _ _ _ => trivial)⟩⟩ rfl rfl hl.1 rfl (lv_room (Nat.le_of_ble_eq_true rfl)) dX0_interruptDue_34 ⟨Nat.zero_le _, Nat.zero_le _⟩) hS (fun q _ h => hFc q h) hFc (fun r_34 u t H1 locs ht hvm hw_34 hB hz1 hk1 hS => ?_)
      obtain ⟨hP1, hK1, hD1⟩ := hB
      rw [ht] at hP1
      try dsimp only at hw_34 hP1 hD1
      obtain ⟨hP, hD⟩ := va_join (wr := []) (w1 := rt_xw h0 a1 a2 k1 k2 f g (nI en) ret cnt per cng pnd msk sr sav tkn) hP hD [0, 1, 2] [] rfl rfl (by decide) (by decide) hk1 hFc hP1 hD1
      generalize H1 = H at hP hS ⊢
      have hP : va_P (dC, dI) vwCl (rt_xw h0 a1 a2 k1 k2 f g (nI en) ret cnt per cng pnd msk sr sav tkn) H := hP
      have hD : va_D A (rt_xw h0 a1 a2 k1 k2 f g (nI en) ret cnt per cng pnd msk sr sav tkn) := hD
      refine lv_if_eq (tgt := 43) hx hb dX0_interruptDue_37 (by decide) (fun c_37 => ?_) (fun c_37 => ?_)
      · refine lv_iconst (v := 0) hx hb dX0_interruptDue_43 (by decide) ?_
        rw [hw_31] at hw_34
        exact W.iret (v := 0) hx hb hr (fun t ht hW => ⟨⟨0, (), rfl, (rt_due0 (Or.inl (hw_2.mp c_5)) (Or.inr (hw_34.mp c_37))).symm, by rw [ht]; exact hP, va_K.moved hW.alike hK, hD⟩, hS.F ht⟩) hS.2.2 dX0_interruptDue_44
      · refine lv_bipush (v := 8) hx hb dX0_interruptDue_40 (by decide) ?_
        rw [hw_31] at hw_34
        exact W.iret (v := 8) hx hb hr (fun t ht hW => ⟨⟨8, (), rfl, (rt_due8 (Or.inl (hw_2.mp c_5)) (fun h => c_22 (hw_19.mpr h)) (fun h => c_37 (hw_34.mpr h))).symm, by rw [ht]; exact hP, va_K.moved hW.alike hK, hD⟩, hS.F ht⟩) hS.2.2 dX0_interruptDue_42
  · refine lv_aload_n hx hb dX0_interruptDue_8 rfl (lv_at hl 0 rfl) ?_
    refine va_get (D := (dC, dI)) (ci := 0) (v := .int pnd) (C := RX0) (T := TX0) (N := 12) hx hb hts (fun _ h => List.mem_cons_of_mem _ (List.mem_append_right _ h)) hown hK hP 0 rfl rfl 7 (by decide) (hts (.fieldLink RX0 62 "RetiredTimer" "pending" "Z") (by decide +kernel)) (fun _ h9 => h9) rfl dX0_interruptDue_9 ?_
    refine lv_if_eq (tgt := 17) hx hb dX0_interruptDue_12 (by decide) (fun c_12 => ?_) (fun c_12 => ?_)
    · refine lv_aload_n hx hb dX0_interruptDue_17 rfl (lv_at hl 0 rfl) ?_
      refine lv_iconst (v := 4) hx hb dX0_interruptDue_18 (by decide) ?_
      have hFc := va_free (wc := rt_xw h0 a1 a2 k1 k2 f g (nI en) ret cnt per cng pnd msk sr sav tkn) hD hS hA [0, 1, 2] rfl
      refine va_calli (va_runV (As := [.int 4]) (rest := []) ⟨hx, hb, hml, hown, hts⟩ (c_X_isOn l dC dI h0 a1 a2 H.size k1 k2 f g (nI en) ret cnt per cng pnd msk sr sav tkn 4) (cwV 1 hts gX0_interruptDue_X0_isOn rfl rfl rfl (by decide +kernel) ⟨Nat.le_of_ble_eq_true rfl, Nat.le_of_ble_eq_true rfl⟩) ⟨fun a U g mk q => by obtain ⟨q0, q1, qP, qK, qD⟩ := q; exact ⟨q0, q1, qP, va_K.moved (u := U) (U := U.calling g mk a) (Vm.Alike.refl U.vm) qK, qD⟩, va_recv hK hP (ci := 0) (q0 := 0) rfl rfl, fun U hU hW => ⟨rfl, by rw [hU], by rw [hU]; exact hP, va_K.moved hW.alike hK, hD.weaken (fun _ _ _ _ => trivial)⟩⟩ rfl rfl hl.1 rfl (lv_room (Nat.le_of_ble_eq_true rfl)) dX0_interruptDue_19 ⟨Nat.zero_le _, Nat.zero_le _⟩) hS (fun q _ h => hFc q h) hFc (fun r_19 u t H1 locs ht hvm hw_19 hB hz1 hk1 hS => ?_)
      obtain ⟨hP1, hK1, hD1⟩ := hB
      rw [ht] at hP1
      try dsimp only at hw_19 hP1 hD1
      obtain ⟨hP, hD⟩ := va_join (wr := []) (w1 := rt_xw h0 a1 a2 k1 k2 f g (nI en) ret cnt per cng pnd msk sr sav tkn) hP hD [0, 1, 2] [] rfl rfl (by decide) (by decide) hk1 hFc hP1 hD1
      generalize H1 = H at hP hS ⊢
      have hP : va_P (dC, dI) vwCl (rt_xw h0 a1 a2 k1 k2 f g (nI en) ret cnt per cng pnd msk sr sav tkn) H := hP
      have hD : va_D A (rt_xw h0 a1 a2 k1 k2 f g (nI en) ret cnt per cng pnd msk sr sav tkn) := hD
      refine lv_if_eq (tgt := 43) hx hb dX0_interruptDue_22 (by decide) (fun c_22 => ?_) (fun c_22 => ?_)
      · refine lv_iconst (v := 0) hx hb dX0_interruptDue_43 (by decide) ?_
        exact W.iret (v := 0) hx hb hr (fun t ht hW => ⟨⟨0, (), rfl, (rt_due0 (Or.inr c_12) (Or.inl (hw_19.mp c_22))).symm, by rw [ht]; exact hP, va_K.moved hW.alike hK, hD⟩, hS.F ht⟩) hS.2.2 dX0_interruptDue_44
      · refine lv_aload_n hx hb dX0_interruptDue_25 rfl (lv_at hl 0 rfl) ?_
        refine lv_aload_n hx hb dX0_interruptDue_26 rfl (lv_at hl 0 rfl) ?_
        refine lv_aload_n hx hb dX0_interruptDue_27 rfl (lv_at hl 0 rfl) ?_
        refine va_get (D := (dC, dI)) (ci := 0) (v := .int ret) (C := RX0) (T := TX0) (N := 12) hx hb hts (fun _ h => List.mem_cons_of_mem _ (List.mem_append_right _ h)) hown hK hP 0 rfl rfl 3 (by decide) (hts (.fieldLink RX0 28 "RetiredTimer" "retired" "I") (by decide +kernel)) (fun _ h9 => h9) rfl dX0_interruptDue_28 ?_
        have hFc := va_free (wc := rt_xw h0 a1 a2 k1 k2 f g (nI en) ret cnt per cng pnd msk sr sav tkn) hD hS hA [0, 1, 2] rfl
        refine va_calli (va_runV (As := [.int ret]) (rest := [.ref h0]) ⟨hx, hb, hml, hown, hts⟩ (c_X_linesAt l dC dI h0 a1 a2 H.size k1 k2 f g (nI en) ret cnt per cng pnd msk sr sav tkn ret en rfl h32) (cwV 1 hts gX0_interruptDue_X0_linesAt rfl rfl rfl (by decide +kernel) ⟨Nat.le_of_ble_eq_true rfl, Nat.le_of_ble_eq_true rfl⟩) ⟨fun a U g mk q => by obtain ⟨q0, q1, qP, qK, qD⟩ := q; exact ⟨q0, q1, qP, va_K.moved (u := U) (U := U.calling g mk a) (Vm.Alike.refl U.vm) qK, qD⟩, va_recv hK hP (ci := 0) (q0 := 0) rfl rfl, fun U hU hW => ⟨rfl, by rw [hU], by rw [hU]; exact hP, va_K.moved hW.alike hK, hD.weaken (fun _ _ _ _ => trivial)⟩⟩ rfl rfl hl.1 rfl (lv_room (Nat.le_of_ble_eq_true rfl)) dX0_interruptDue_31 ⟨Nat.zero_le _, Nat.zero_le _⟩) hS (fun q _ h => hFc q h) hFc (fun r_31 u t H1 locs ht hvm hw_31 hB hz1 hk1 hS => ?_)
        obtain ⟨hP1, hK1, hD1⟩ := hB
        rw [ht] at hP1
        try dsimp only at hw_31 hP1 hD1
        obtain ⟨hP, hD⟩ := va_join (wr := []) (w1 := rt_xw h0 a1 a2 k1 k2 f g (nI en) ret cnt per cng pnd msk sr sav tkn) hP hD [0, 1, 2] [] rfl rfl (by decide) (by decide) hk1 hFc hP1 hD1
        generalize H1 = H at hP hS ⊢
        have hP : va_P (dC, dI) vwCl (rt_xw h0 a1 a2 k1 k2 f g (nI en) ret cnt per cng pnd msk sr sav tkn) H := hP
        have hD : va_D A (rt_xw h0 a1 a2 k1 k2 f g (nI en) ret cnt per cng pnd msk sr sav tkn) := hD
        have hFc := va_free (wc := rt_xw h0 a1 a2 k1 k2 f g (nI en) ret cnt per cng pnd msk sr sav tkn) hD hS hA [0, 1, 2] rfl
        refine va_calli (va_runV (As := [.int r_31]) (rest := []) ⟨hx, hb, hml, hown, hts⟩ (c_X_isInMask l dC dI h0 a1 a2 H.size k1 k2 f g (nI en) ret cnt per cng pnd msk sr sav tkn r_31) (cwV 1 hts gX0_interruptDue_X0_isInMask rfl rfl rfl (by decide +kernel) ⟨Nat.le_of_ble_eq_true rfl, Nat.le_of_ble_eq_true rfl⟩) ⟨fun a U g mk q => by obtain ⟨q0, q1, qP, qK, qD⟩ := q; exact ⟨q0, q1, qP, va_K.moved (u := U) (U := U.calling g mk a) (Vm.Alike.refl U.vm) qK, qD⟩, va_recv hK hP (ci := 0) (q0 := 0) rfl rfl, fun U hU hW => ⟨rfl, by rw [hU], by rw [hU]; exact hP, va_K.moved hW.alike hK, hD.weaken (fun _ _ _ _ => trivial)⟩⟩ rfl rfl hl.1 rfl (lv_room (Nat.le_of_ble_eq_true rfl)) dX0_interruptDue_34 ⟨Nat.zero_le _, Nat.zero_le _⟩) hS (fun q _ h => hFc q h) hFc (fun r_34 u t H1 locs ht hvm hw_34 hB hz1 hk1 hS => ?_)
        obtain ⟨hP1, hK1, hD1⟩ := hB
        rw [ht] at hP1
        try dsimp only at hw_34 hP1 hD1
        obtain ⟨hP, hD⟩ := va_join (wr := []) (w1 := rt_xw h0 a1 a2 k1 k2 f g (nI en) ret cnt per cng pnd msk sr sav tkn) hP hD [0, 1, 2] [] rfl rfl (by decide) (by decide) hk1 hFc hP1 hD1
        generalize H1 = H at hP hS ⊢
        have hP : va_P (dC, dI) vwCl (rt_xw h0 a1 a2 k1 k2 f g (nI en) ret cnt per cng pnd msk sr sav tkn) H := hP
        have hD : va_D A (rt_xw h0 a1 a2 k1 k2 f g (nI en) ret cnt per cng pnd msk sr sav tkn) := hD
        refine lv_if_eq (tgt := 43) hx hb dX0_interruptDue_37 (by decide) (fun c_37 => ?_) (fun c_37 => ?_)
        · refine lv_iconst (v := 0) hx hb dX0_interruptDue_43 (by decide) ?_
          rw [hw_31] at hw_34
          exact W.iret (v := 0) hx hb hr (fun t ht hW => ⟨⟨0, (), rfl, (rt_due0 (Or.inr c_12) (Or.inr (hw_34.mp c_37))).symm, by rw [ht]; exact hP, va_K.moved hW.alike hK, hD⟩, hS.F ht⟩) hS.2.2 dX0_interruptDue_44
        · refine lv_bipush (v := 8) hx hb dX0_interruptDue_40 (by decide) ?_
          rw [hw_31] at hw_34
          exact W.iret (v := 8) hx hb hr (fun t ht hW => ⟨⟨8, (), rfl, (rt_due8 (Or.inr c_12) (fun h => c_22 (hw_19.mpr h)) (fun h => c_37 (hw_34.mpr h))).symm, by rw [ht]; exact hP, va_K.moved hW.alike hK, hD⟩, hS.F ht⟩) hS.2.2 dX0_interruptDue_42
    · refine lv_iconst (v := 5) hx hb dX0_interruptDue_15 (by decide) ?_
      exact W.iret (v := 5) hx hb hr (fun t ht hW => ⟨⟨5, (), rfl, (rt_due5 (fun h => c_5 (hw_2.mpr h)) c_12).symm, by rw [ht]; exact hP, va_K.moved hW.alike hK, hD⟩, hS.F ht⟩) hS.2.2 dX0_interruptDue_16
set_option maxHeartbeats 4000000 in
set_option maxRecDepth 100000 in
theorem c_X_distanceToTimer (l : Launch) (dC : Nat → ClassId) (dI : Nat → Nat → Nat) (h0 a1 a2 sz : Nat) (k1 k2 : ClassId) (f g : Nat → Int32) (ent ret cnt per cng pnd msk sr sav tkn : Int32) :
    Met l yX0_distanceToTimer wsX0_distanceToTimer ({ frames := 1, cells := 0, slots := 0, locals := 22 }) (va_Pc [.ref h0] (rt_pre dC dI (rt_xw h0 a1 a2 k1 k2 f g ent ret cnt per cng pnd msk sr sav tkn) [(k1, .int), (k2, .int)] sz)) (va_Ql (fun (v : Int64) (u : Unit) => v = rt_tim sr cng per cnt) (rt_post dC dI [(k1, .int), (k2, .int)] (va_A (rt_xw h0 a1 a2 k1 k2 f g ent ret cnt per cng pnd msk sr sav tkn) sz) (fun (u : Unit) => rt_xw h0 a1 a2 k1 k2 f g ent ret cnt per cng pnd msk sr sav tkn)) (va_A (rt_xw h0 a1 a2 k1 k2 f g ent ret cnt per cng pnd msk sr sav tkn) sz)) 0 0 (va_A (rt_xw h0 a1 a2 k1 k2 f g ent ret cnt per cng pnd msk sr sav tkn) sz) := by
  refine Met.ofW (cc := cX0_distanceToTimer) (maxL := 1) (ret := (some .long)) (by decide) rfl ?_
  intro p e0 s m args below meth c s₁ B hml hv
  obtain ⟨rfl, hsz, hP, hK, hD0⟩ := hv
  have hx := B.exec
  have hb := B.bytes
  have hr := B.returns
  have hts := atoms_spec (ws := wsX0_distanceToTimer) B.pre
  have hown : s.vm.findClass RX0 = some m.cls := findClass_of_methodNamed B.named
  have hlocks := B.notSynchronized
  subst hsz
  have hD := hD0.self (sz := s.heap.size)
  generalize hAe : va_A (rt_xw h0 a1 a2 k1 k2 f g ent ret cnt per cng pnd msk sr sav tkn) s.heap.size = A at hD ⊢
  have hA : ∀ q : Nat, s.heap.size ≤ q → A q := fun q h => by rw [← hAe]; exact Or.inr h
  have hS : va_S A s.heap s.heap [] := va_S.rf
  have hP : va_P (dC, dI) vwCl (rt_xw h0 a1 a2 k1 k2 f g ent ret cnt per cng pnd msk sr sav tkn) s.heap := hP
  have hl := lv_entry ([.ref h0]) (n := 1) (Nat.le_of_ble_eq_true rfl)
  rw [lg_entry_eq]
  generalize (lg_sl ([.ref h0]) ++ List.replicate (1 - (lg_sl ([.ref h0])).length) Slot.unset).toArray = ls at hl ⊢
  have hl : lv_has ls 1 [(0, .ref h0)] := hl
  refine lv_aload_n hx hb dX0_distanceToTimer_0 rfl (lv_at hl 0 rfl) ?_
  refine lv_iconst (v := 2) hx hb dX0_distanceToTimer_1 (by decide) ?_
  have hFc := va_free (wc := rt_xw h0 a1 a2 k1 k2 f g ent ret cnt per cng pnd msk sr sav tkn) hD hS hA [0, 1, 2] rfl
  refine va_calli (va_runV (As := [.int 2]) (rest := []) ⟨hx, hb, hml, hown, hts⟩ (c_X_isOn l dC dI h0 a1 a2 s.heap.size k1 k2 f g ent ret cnt per cng pnd msk sr sav tkn 2) (cwV 1 hts gX0_distanceToTimer_X0_isOn rfl rfl rfl (by decide +kernel) ⟨Nat.le_of_ble_eq_true rfl, Nat.le_of_ble_eq_true rfl⟩) ⟨fun a U g mk q => by obtain ⟨q0, q1, qP, qK, qD⟩ := q; exact ⟨q0, q1, qP, va_K.moved (u := U) (U := U.calling g mk a) (Vm.Alike.refl U.vm) qK, qD⟩, va_recv hK hP (ci := 0) (q0 := 0) rfl rfl, fun U hU hW => ⟨rfl, by rw [hU], by rw [hU]; exact hP, va_K.moved hW.alike hK, hD.weaken (fun _ _ _ _ => trivial)⟩⟩ rfl rfl hl.1 rfl (lv_room (Nat.le_of_ble_eq_true rfl)) dX0_distanceToTimer_2 ⟨Nat.zero_le _, Nat.zero_le _⟩) hS (fun q _ h => hFc q h) hFc (fun r_2 u t H1 locs ht hvm hw_2 hB hz1 hk1 hS => ?_)
  obtain ⟨hP1, hK1, hD1⟩ := hB
  rw [ht] at hP1
  try dsimp only at hw_2 hP1 hD1
  obtain ⟨hP, hD⟩ := va_join (wr := []) (w1 := rt_xw h0 a1 a2 k1 k2 f g ent ret cnt per cng pnd msk sr sav tkn) hP hD [0, 1, 2] [] rfl rfl (by decide) (by decide) hk1 hFc hP1 hD1
  generalize H1 = H at hP hS ⊢
  have hP : va_P (dC, dI) vwCl (rt_xw h0 a1 a2 k1 k2 f g ent ret cnt per cng pnd msk sr sav tkn) H := hP
  have hD : va_D A (rt_xw h0 a1 a2 k1 k2 f g ent ret cnt per cng pnd msk sr sav tkn) := hD
  refine lv_if_eq (tgt := 22) hx hb dX0_distanceToTimer_5 (by decide) (fun c_5 => ?_) (fun c_5 => ?_)
  · refine lv_ldc2 (v := 1099511627776) hx hb hown (hts (.constantLong RX0 94 1099511627776) (by decide +kernel)) dX0_distanceToTimer_22 ?_
    exact W.lret (v := 1099511627776) hx hb hr (fun t ht hW => ⟨⟨1099511627776, (), rfl, by unfold rt_tim; rw [if_pos (Or.inl (hw_2.mp c_5))], by rw [ht]; exact hP, va_K.moved hW.alike hK, hD⟩, hS.F ht⟩) hS.2.2 dX0_distanceToTimer_25
  · refine lv_aload_n hx hb dX0_distanceToTimer_8 rfl (lv_at hl 0 rfl) ?_
    refine va_get (D := (dC, dI)) (ci := 0) (v := .int cng) (C := RX0) (T := TX0) (N := 12) hx hb hts (fun _ h => List.mem_cons_of_mem _ (List.mem_append_right _ h)) hown hK hP 0 rfl rfl 6 (by decide) (hts (.fieldLink RX0 58 "RetiredTimer" "counting" "Z") (by decide +kernel)) (fun _ h9 => h9) rfl dX0_distanceToTimer_9 ?_
    refine lv_if_eq (tgt := 22) hx hb dX0_distanceToTimer_12 (by decide) (fun c_12 => ?_) (fun c_12 => ?_)
    · refine lv_ldc2 (v := 1099511627776) hx hb hown (hts (.constantLong RX0 94 1099511627776) (by decide +kernel)) dX0_distanceToTimer_22 ?_
      exact W.lret (v := 1099511627776) hx hb hr (fun t ht hW => ⟨⟨1099511627776, (), rfl, by unfold rt_tim; rw [if_pos (Or.inr c_12)], by rw [ht]; exact hP, va_K.moved hW.alike hK, hD⟩, hS.F ht⟩) hS.2.2 dX0_distanceToTimer_25
    · refine lv_aload_n hx hb dX0_distanceToTimer_15 rfl (lv_at hl 0 rfl) ?_
      have hFc := va_free (wc := rt_xw h0 a1 a2 k1 k2 f g ent ret cnt per cng pnd msk sr sav tkn) hD hS hA [0, 1, 2] rfl
      refine va_calll (va_runV (As := []) (rest := []) ⟨hx, hb, hml, hown, hts⟩ (c_X_distanceToPeriod l dC dI h0 a1 a2 H.size k1 k2 f g ent ret cnt per cng pnd msk sr sav tkn) (cwV 0 hts gX0_distanceToTimer_X0_distanceToPeriod rfl rfl rfl (by decide +kernel) ⟨Nat.le_of_ble_eq_true rfl, Nat.le_of_ble_eq_true rfl⟩) ⟨fun a U g mk q => by obtain ⟨q0, q1, qP, qK, qD⟩ := q; exact ⟨q0, q1, qP, va_K.moved (u := U) (U := U.calling g mk a) (Vm.Alike.refl U.vm) qK, qD⟩, va_recv hK hP (ci := 0) (q0 := 0) rfl rfl, fun U hU hW => ⟨rfl, by rw [hU], by rw [hU]; exact hP, va_K.moved hW.alike hK, hD.weaken (fun _ _ _ _ => trivial)⟩⟩ rfl rfl hl.1 rfl (lv_room (Nat.le_of_ble_eq_true rfl)) dX0_distanceToTimer_16 ⟨Nat.zero_le _, Nat.zero_le _⟩) hS (fun q _ h => hFc q h) hFc (fun r_16 u t H1 locs ht hvm hw_16 hB hz1 hk1 hS => ?_)
      obtain ⟨hP1, hK1, hD1⟩ := hB
      rw [ht] at hP1
      try dsimp only at hw_16 hP1 hD1
      obtain ⟨hP, hD⟩ := va_join (wr := []) (w1 := rt_xw h0 a1 a2 k1 k2 f g ent ret cnt per cng pnd msk sr sav tkn) hP hD [0, 1, 2] [] rfl rfl (by decide) (by decide) hk1 hFc hP1 hD1
      generalize H1 = H at hP hS ⊢
      have hP : va_P (dC, dI) vwCl (rt_xw h0 a1 a2 k1 k2 f g ent ret cnt per cng pnd msk sr sav tkn) H := hP
      have hD : va_D A (rt_xw h0 a1 a2 k1 k2 f g ent ret cnt per cng pnd msk sr sav tkn) := hD
      refine lv_goto (tgt := 25) hx hb dX0_distanceToTimer_19 (by decide) ?_
      exact W.lret (v := r_16) hx hb hr (fun t ht hW => ⟨⟨r_16, (), rfl, by unfold rt_tim; rw [if_neg (fun h => h.elim (fun q => c_5 (hw_2.mpr q)) c_12)]; exact hw_16, by rw [ht]; exact hP, va_K.moved hW.alike hK, hD⟩, hS.F ht⟩) hS.2.2 dX0_distanceToTimer_25
set_option maxHeartbeats 4000000 in
set_option maxRecDepth 100000 in
theorem lp_X_dl {p : Program} {l : Launch} {e0 : Env} {R : Room} {s : State} {m : MethodId} {args : Array Value} {below : List Frame} {meth : Method} {c : Code} {Q : State → Prop} {dC : Nat → ClassId} {dI : Nat → Nat → Nat} {A : Nat → Prop} {h0 a1 a2 : Nat} {k1 k2 : ClassId} {f g : Nat → Int32} {ret cnt per cng pnd msk sr sav tkn : Int32} {en : Nat} (hx : p.tables.exec = Jvm.exec) (hb : c.code = cX0_distanceToLines) (hts : ∀ w ∈ wsX0_distanceToLines, w.before args s = true) (hown : s.vm.findClass RX0 = some m.cls) (hml : c.maxLocals = 2) (hA : ∀ q : Nat, s.heap.size ≤ q → A q) (hRf : 1 ≤ R.frames) (hRl : 21 ≤ R.locals) (hK : va_K (dC, dI) vwCl [(k1, .int), (k2, .int)] s) (h32 : en ≤ 32)
    (k66 : ∀ (H : Heap) (locs : List Loc) (ls : Array Slot), va_P (dC, dI) vwCl (rt_xw h0 a1 a2 k1 k2 f g (nI en) ret cnt per cng pnd msk sr sav tkn) H → va_D A (rt_xw h0 a1 a2 k1 k2 f g (nI en) ret cnt per cng pnd msk sr sav tkn) → va_S A s.heap H locs → W p l e0 R s m args below meth c H locs 0 0 Q (F0 m 66 ls [.long (rt_pdl f g ret msk en 0)]))
    (k73 : rt_pdl f g ret msk en 0 = 1099511627776 → ∀ (H : Heap) (locs : List Loc) (ls : Array Slot), va_P (dC, dI) vwCl (rt_xw h0 a1 a2 k1 k2 f g (nI en) ret cnt per cng pnd msk sr sav tkn) H → va_D A (rt_xw h0 a1 a2 k1 k2 f g (nI en) ret cnt per cng pnd msk sr sav tkn) → va_S A s.heap H locs → W p l e0 R s m args below meth c H locs 0 0 Q (F0 m 73 ls [])) :
    ∀ (n i : Nat), i + n = en → rt_pdl f g ret msk n i = rt_pdl f g ret msk en 0 → ∀ (H : Heap) (locs : List Loc) (ls : Array Slot), va_P (dC, dI) vwCl (rt_xw h0 a1 a2 k1 k2 f g (nI en) ret cnt per cng pnd msk sr sav tkn) H → va_D A (rt_xw h0 a1 a2 k1 k2 f g (nI en) ret cnt per cng pnd msk sr sav tkn) → va_S A s.heap H locs → lv_has ls 2 [(0, .ref h0), (1, .int (nI i))] → W p l e0 R s m args below meth c H locs 0 0 Q (F0 m 14 ls []) := by
  intro n
  induction n with
  | zero =>
    intro i hi hq H locs ls hP hD hS hl
    refine lv_iload_n hx hb dX0_distanceToLines_14 rfl (lv_at hl 1 rfl) ?_
    refine lv_aload_n hx hb dX0_distanceToLines_15 rfl (lv_at hl 0 rfl) ?_
    refine va_get (D := (dC, dI)) (ci := 0) (v := .int (nI en)) (C := RX0) (T := TX0) (N := 12) hx hb hts (fun _ h => List.mem_cons_of_mem _ (List.mem_append_right _ h)) hown hK hP 0 rfl rfl 2 (by decide) (hts (.fieldLink RX0 19 "RetiredTimer" "entries" "I") (by decide +kernel)) (fun _ h9 => h9) rfl dX0_distanceToLines_16 ?_
    refine lv_icmp_ge (tgt := 73) hx hb dX0_distanceToLines_19 (by decide) (fun c_19 => ?_) (fun c_19 => absurd (nI_le (by omega) (by omega)) c_19)
    exact k73 hq.symm H locs ls hP hD hS
  | succ n ih =>
    intro i hi hq H locs ls hP hD hS hl
    refine lv_iload_n hx hb dX0_distanceToLines_14 rfl (lv_at hl 1 rfl) ?_
    refine lv_aload_n hx hb dX0_distanceToLines_15 rfl (lv_at hl 0 rfl) ?_
    refine va_get (D := (dC, dI)) (ci := 0) (v := .int (nI en)) (C := RX0) (T := TX0) (N := 12) hx hb hts (fun _ h => List.mem_cons_of_mem _ (List.mem_append_right _ h)) hown hK hP 0 rfl rfl 2 (by decide) (hts (.fieldLink RX0 19 "RetiredTimer" "entries" "I") (by decide +kernel)) (fun _ h9 => h9) rfl dX0_distanceToLines_16 ?_
    refine lv_icmp_ge (tgt := 73) hx hb dX0_distanceToLines_19 (by decide) (fun c_19 => absurd c_19 (nI_ge (by omega) (by omega))) (fun c_19 => ?_)
    refine lv_iload_n hx hb dX0_distanceToLines_22 rfl (lv_at hl 1 rfl) ?_
    refine lv_bipush (v := 32) hx hb dX0_distanceToLines_23 (by decide) ?_
    refine lv_icmp_ge (tgt := 73) hx hb dX0_distanceToLines_25 (by decide) (fun c_25 => absurd c_25 (nI_ge (b := 32) (by omega) (by decide))) (fun c_25 => ?_)
    refine lv_aload_n hx hb dX0_distanceToLines_28 rfl (lv_at hl 0 rfl) ?_
    refine va_get (D := (dC, dI)) (ci := 0) (v := .ref a1) (C := RX0) (T := TX0) (N := 12) hx hb hts (fun _ h => List.mem_cons_of_mem _ (List.mem_append_right _ h)) hown hK hP 0 rfl rfl 0 (by decide) (hts (.fieldLink RX0 9 "RetiredTimer" "entryCounts" "[I") (by decide +kernel)) (fun _ h9 => h9) rfl dX0_distanceToLines_29 ?_
    refine lv_iload_n hx hb dX0_distanceToLines_32 rfl (lv_at hl 1 rfl) ?_
    refine va_iald hx hb hK hP 1 0 rfl rfl (vp_in_nI (N := 32) (by omega) (by decide)) dX0_distanceToLines_33 ?_
    rw [show f (nI i).toNatClampNeg = f i from by rw [nI_clamp (by omega)]]
    refine lv_aload_n hx hb dX0_distanceToLines_34 rfl (lv_at hl 0 rfl) ?_
    refine va_get (D := (dC, dI)) (ci := 0) (v := .int ret) (C := RX0) (T := TX0) (N := 12) hx hb hts (fun _ h => List.mem_cons_of_mem _ (List.mem_append_right _ h)) hown hK hP 0 rfl rfl 3 (by decide) (hts (.fieldLink RX0 28 "RetiredTimer" "retired" "I") (by decide +kernel)) (fun _ h9 => h9) rfl dX0_distanceToLines_35 ?_
    refine lv_icmp_le (tgt := 67) hx hb dX0_distanceToLines_38 (by decide) (fun c_38 => ?_) (fun c_38 => ?_)
    · refine lv_iinc (v := (nI i) + 1) (lv' := [(1, .int ((nI i) + 1)), (0, .ref h0)]) hx hb dX0_distanceToLines_67 hl (k := 1) rfl rfl (by decide) rfl (fun ls hl => ?_)
      refine lv_goto (tgt := 14) hx hb dX0_distanceToLines_70 (by decide) ?_
      have e2 : rt_pdl f g ret msk n (i + 1) = rt_pdl f g ret msk en 0 := by rw [← hq]; simp only [rt_pdl]; rw [if_neg (fun h => rt_nle2 c_38 h.1)]
      exact ih (i + 1) (by omega) e2 H locs ls hP hD hS (by rw [← nI_1]; exact lv_sub hl [1, 0] rfl)
    · refine lv_aload_n hx hb dX0_distanceToLines_41 rfl (lv_at hl 0 rfl) ?_
      refine lv_aload_n hx hb dX0_distanceToLines_42 rfl (lv_at hl 0 rfl) ?_
      refine va_get (D := (dC, dI)) (ci := 0) (v := .ref a2) (C := RX0) (T := TX0) (N := 12) hx hb hts (fun _ h => List.mem_cons_of_mem _ (List.mem_append_right _ h)) hown hK hP 0 rfl rfl 1 (by decide) (hts (.fieldLink RX0 13 "RetiredTimer" "entryLines" "[I") (by decide +kernel)) (fun _ h9 => h9) rfl dX0_distanceToLines_43 ?_
      refine lv_iload_n hx hb dX0_distanceToLines_46 rfl (lv_at hl 1 rfl) ?_
      refine va_iald hx hb hK hP 2 1 rfl rfl (vp_in_nI (N := 32) (by omega) (by decide)) dX0_distanceToLines_47 ?_
      rw [show g (nI i).toNatClampNeg = g i from by rw [nI_clamp (by omega)]]
      have hFc := va_free (wc := rt_xw h0 a1 a2 k1 k2 f g (nI en) ret cnt per cng pnd msk sr sav tkn) hD hS hA [0, 1, 2] rfl
      refine va_calli (va_runV (As := [.int (g i)]) (rest := []) ⟨hx, hb, hml, hown, hts⟩ (c_X_isInMask l dC dI h0 a1 a2 H.size k1 k2 f g (nI en) ret cnt per cng pnd msk sr sav tkn (g i)) (cwV 1 hts gX0_distanceToLines_X0_isInMask rfl rfl rfl (by decide +kernel) ⟨hRf, hRl⟩) ⟨fun a U g mk q => by obtain ⟨q0, q1, qP, qK, qD⟩ := q; exact ⟨q0, q1, qP, va_K.moved (u := U) (U := U.calling g mk a) (Vm.Alike.refl U.vm) qK, qD⟩, va_recv hK hP (ci := 0) (q0 := 0) rfl rfl, fun U hU hW => ⟨rfl, by rw [hU], by rw [hU]; exact hP, va_K.moved hW.alike hK, hD.weaken (fun _ _ _ _ => trivial)⟩⟩ rfl rfl hl.1 rfl (lv_room (Nat.le_of_ble_eq_true rfl)) dX0_distanceToLines_48 ⟨Nat.zero_le _, Nat.zero_le _⟩) hS (fun q _ h => hFc q h) hFc (fun r_48 u t H1 locs ht hvm hw_48 hB hz1 hk1 hS => ?_)
      obtain ⟨hP1, hK1, hD1⟩ := hB
      rw [ht] at hP1
      try dsimp only at hw_48 hP1 hD1
      obtain ⟨hP, hD⟩ := va_join (wr := []) (w1 := rt_xw h0 a1 a2 k1 k2 f g (nI en) ret cnt per cng pnd msk sr sav tkn) hP hD [0, 1, 2] [] rfl rfl (by decide) (by decide) hk1 hFc hP1 hD1
      generalize H1 = H at hP hS ⊢
      have hP : va_P (dC, dI) vwCl (rt_xw h0 a1 a2 k1 k2 f g (nI en) ret cnt per cng pnd msk sr sav tkn) H := hP
      have hD : va_D A (rt_xw h0 a1 a2 k1 k2 f g (nI en) ret cnt per cng pnd msk sr sav tkn) := hD
      refine lv_if_eq (tgt := 67) hx hb dX0_distanceToLines_51 (by decide) (fun c_51 => ?_) (fun c_51 => ?_)
      · refine lv_iinc (v := (nI i) + 1) (lv' := [(1, .int ((nI i) + 1)), (0, .ref h0)]) hx hb dX0_distanceToLines_67 hl (k := 1) rfl rfl (by decide) rfl (fun ls hl => ?_)
        refine lv_goto (tgt := 14) hx hb dX0_distanceToLines_70 (by decide) ?_
        have e2 : rt_pdl f g ret msk n (i + 1) = rt_pdl f g ret msk en 0 := by rw [← hq]; simp only [rt_pdl]; rw [if_neg (fun h => h.2 (hw_48.mp c_51))]
        exact ih (i + 1) (by omega) e2 H locs ls hP hD hS (by rw [← nI_1]; exact lv_sub hl [1, 0] rfl)
      · refine lv_aload_n hx hb dX0_distanceToLines_54 rfl (lv_at hl 0 rfl) ?_
        refine va_get (D := (dC, dI)) (ci := 0) (v := .ref a1) (C := RX0) (T := TX0) (N := 12) hx hb hts (fun _ h => List.mem_cons_of_mem _ (List.mem_append_right _ h)) hown hK hP 0 rfl rfl 0 (by decide) (hts (.fieldLink RX0 9 "RetiredTimer" "entryCounts" "[I") (by decide +kernel)) (fun _ h9 => h9) rfl dX0_distanceToLines_55 ?_
        refine lv_iload_n hx hb dX0_distanceToLines_58 rfl (lv_at hl 1 rfl) ?_
        refine va_iald hx hb hK hP 1 0 rfl rfl (vp_in_nI (N := 32) (by omega) (by decide)) dX0_distanceToLines_59 ?_
        rw [show f (nI i).toNatClampNeg = f i from by rw [nI_clamp (by omega)]]
        refine lv_aload_n hx hb dX0_distanceToLines_60 rfl (lv_at hl 0 rfl) ?_
        refine va_get (D := (dC, dI)) (ci := 0) (v := .int ret) (C := RX0) (T := TX0) (N := 12) hx hb hts (fun _ h => List.mem_cons_of_mem _ (List.mem_append_right _ h)) hown hK hP 0 rfl rfl 3 (by decide) (hts (.fieldLink RX0 28 "RetiredTimer" "retired" "I") (by decide +kernel)) (fun _ h9 => h9) rfl dX0_distanceToLines_61 ?_
        refine lv_isub hx hb dX0_distanceToLines_64 ?_
        refine lv_i2l (v := ((f i) - ret).toInt64) hx hb dX0_distanceToLines_65 rfl ?_
        have e2 : (f i - ret).toInt64 = rt_pdl f g ret msk en 0 := by rw [← hq]; simp only [rt_pdl]; rw [if_pos ⟨rt_nle c_38, fun h => c_51 (hw_48.mpr h)⟩]
        rw [e2]
        exact k66 H locs ls hP hD hS
set_option maxHeartbeats 4000000 in
set_option maxRecDepth 100000 in
theorem c_X_distanceToLines (l : Launch) (dC : Nat → ClassId) (dI : Nat → Nat → Nat) (h0 a1 a2 sz : Nat) (k1 k2 : ClassId) (f g : Nat → Int32) (ent ret cnt per cng pnd msk sr sav tkn : Int32) (en : Nat) (he : ent = nI en) (h32 : en ≤ 32) :
    Met l yX0_distanceToLines wsX0_distanceToLines ({ frames := 1, cells := 0, slots := 0, locals := 21 }) (va_Pc [.ref h0] (rt_pre dC dI (rt_xw h0 a1 a2 k1 k2 f g ent ret cnt per cng pnd msk sr sav tkn) [(k1, .int), (k2, .int)] sz)) (va_Ql (fun (v : Int64) (u : Unit) => v = rt_dl f g en ret msk sr) (rt_post dC dI [(k1, .int), (k2, .int)] (va_A (rt_xw h0 a1 a2 k1 k2 f g ent ret cnt per cng pnd msk sr sav tkn) sz) (fun (u : Unit) => rt_xw h0 a1 a2 k1 k2 f g ent ret cnt per cng pnd msk sr sav tkn)) (va_A (rt_xw h0 a1 a2 k1 k2 f g ent ret cnt per cng pnd msk sr sav tkn) sz)) 0 0 (va_A (rt_xw h0 a1 a2 k1 k2 f g ent ret cnt per cng pnd msk sr sav tkn) sz) := by
  subst he
  refine Met.ofW (cc := cX0_distanceToLines) (maxL := 2) (ret := (some .long)) (by decide) rfl ?_
  intro p e0 s m args below meth c s₁ B hml hv
  obtain ⟨rfl, hsz, hP, hK, hD0⟩ := hv
  have hx := B.exec
  have hb := B.bytes
  have hr := B.returns
  have hts := atoms_spec (ws := wsX0_distanceToLines) B.pre
  have hown : s.vm.findClass RX0 = some m.cls := findClass_of_methodNamed B.named
  have hlocks := B.notSynchronized
  subst hsz
  have hD := hD0.self (sz := s.heap.size)
  generalize hAe : va_A (rt_xw h0 a1 a2 k1 k2 f g (nI en) ret cnt per cng pnd msk sr sav tkn) s.heap.size = A at hD ⊢
  have hA : ∀ q : Nat, s.heap.size ≤ q → A q := fun q h => by rw [← hAe]; exact Or.inr h
  have hS : va_S A s.heap s.heap [] := va_S.rf
  have hP : va_P (dC, dI) vwCl (rt_xw h0 a1 a2 k1 k2 f g (nI en) ret cnt per cng pnd msk sr sav tkn) s.heap := hP
  have hl := lv_entry ([.ref h0]) (n := 2) (Nat.le_of_ble_eq_true rfl)
  rw [lg_entry_eq]
  generalize (lg_sl ([.ref h0]) ++ List.replicate (2 - (lg_sl ([.ref h0])).length) Slot.unset).toArray = ls at hl ⊢
  have hl : lv_has ls 2 [(0, .ref h0)] := hl
  refine lv_aload_n hx hb dX0_distanceToLines_0 rfl (lv_at hl 0 rfl) ?_
  refine lv_iconst (v := 4) hx hb dX0_distanceToLines_1 (by decide) ?_
  have hFc := va_free (wc := rt_xw h0 a1 a2 k1 k2 f g (nI en) ret cnt per cng pnd msk sr sav tkn) hD hS hA [0, 1, 2] rfl
  refine va_calli (va_runV (As := [.int 4]) (rest := []) ⟨hx, hb, hml, hown, hts⟩ (c_X_isOn l dC dI h0 a1 a2 s.heap.size k1 k2 f g (nI en) ret cnt per cng pnd msk sr sav tkn 4) (cwV 1 hts gX0_distanceToLines_X0_isOn rfl rfl rfl (by decide +kernel) ⟨Nat.le_of_ble_eq_true rfl, Nat.le_of_ble_eq_true rfl⟩) ⟨fun a U g mk q => by obtain ⟨q0, q1, qP, qK, qD⟩ := q; exact ⟨q0, q1, qP, va_K.moved (u := U) (U := U.calling g mk a) (Vm.Alike.refl U.vm) qK, qD⟩, va_recv hK hP (ci := 0) (q0 := 0) rfl rfl, fun U hU hW => ⟨rfl, by rw [hU], by rw [hU]; exact hP, va_K.moved hW.alike hK, hD.weaken (fun _ _ _ _ => trivial)⟩⟩ rfl rfl hl.1 rfl (lv_room (Nat.le_of_ble_eq_true rfl)) dX0_distanceToLines_2 ⟨Nat.zero_le _, Nat.zero_le _⟩) hS (fun q _ h => hFc q h) hFc (fun r_2 u t H1 locs ht hvm hw_2 hB hz1 hk1 hS => ?_)
  obtain ⟨hP1, hK1, hD1⟩ := hB
  rw [ht] at hP1
  try dsimp only at hw_2 hP1 hD1
  obtain ⟨hP, hD⟩ := va_join (wr := []) (w1 := rt_xw h0 a1 a2 k1 k2 f g (nI en) ret cnt per cng pnd msk sr sav tkn) hP hD [0, 1, 2] [] rfl rfl (by decide) (by decide) hk1 hFc hP1 hD1
  generalize H1 = H at hP hS ⊢
  have hP : va_P (dC, dI) vwCl (rt_xw h0 a1 a2 k1 k2 f g (nI en) ret cnt per cng pnd msk sr sav tkn) H := hP
  have hD : va_D A (rt_xw h0 a1 a2 k1 k2 f g (nI en) ret cnt per cng pnd msk sr sav tkn) := hD
  refine lv_if_ne (tgt := 12) hx hb dX0_distanceToLines_5 (by decide) (fun c_5 => ?_) (fun c_5 => ?_)
  · refine lv_iconst (v := 0) hx hb dX0_distanceToLines_12 (by decide) ?_
    refine lv_istore_n (lv' := [(1, .int 0), (0, .ref h0)]) hx hb dX0_distanceToLines_13 rfl hl (by decide) rfl (fun ls hl => ?_)
    refine lp_X_dl (f := f) (g := g) (ret := ret) (msk := msk) hx hb hts hown hml hA (Nat.le_of_ble_eq_true rfl) (Nat.le_of_ble_eq_true rfl) hK h32 (fun H locs ls hP hD hS => ?_) (fun h73 H locs ls hP hD hS => ?_) en 0 (by omega) rfl _ _ ls hP hD hS (lv_sub hl [1, 0] rfl)
    · exact W.lret (v := rt_pdl f g ret msk en 0) hx hb hr (fun t ht hW => ⟨⟨rt_pdl f g ret msk en 0, (), rfl, by unfold rt_dl; rw [if_neg (fun h => c_5 (hw_2.mpr h))], by rw [ht]; exact hP, va_K.moved hW.alike hK, hD⟩, hS.F ht⟩) hS.2.2 dX0_distanceToLines_66
    · refine lv_ldc2 (v := 1099511627776) hx hb hown (hts (.constantLong RX0 94 1099511627776) (by decide +kernel)) dX0_distanceToLines_73 ?_
      exact W.lret (v := 1099511627776) hx hb hr (fun t ht hW => ⟨⟨1099511627776, (), rfl, by unfold rt_dl; rw [if_neg (fun h => c_5 (hw_2.mpr h))]; exact h73.symm, by rw [ht]; exact hP, va_K.moved hW.alike hK, hD⟩, hS.F ht⟩) hS.2.2 dX0_distanceToLines_76
  · refine lv_ldc2 (v := 1099511627776) hx hb hown (hts (.constantLong RX0 94 1099511627776) (by decide +kernel)) dX0_distanceToLines_8 ?_
    exact W.lret (v := 1099511627776) hx hb hr (fun t ht hW => ⟨⟨1099511627776, (), rfl, by unfold rt_dl; rw [if_pos (hw_2.mp c_5)], by rw [ht]; exact hP, va_K.moved hW.alike hK, hD⟩, hS.F ht⟩) hS.2.2 dX0_distanceToLines_11
