set_option maxHeartbeats 4000000 in
set_option maxRecDepth 100000 in
theorem c_X_distanceToInterrupt (l : Launch) (dC : Nat → ClassId) (dI : Nat → Nat → Nat) (h0 a1 a2 sz : Nat) (k1 k2 : ClassId) (f g : Nat → Int32) (ent ret cnt per cng pnd msk sr sav tkn : Int32) (en : Nat) (he : ent = nI en) (h32 : en ≤ 32) :
    Met l yX0_distanceToInterrupt wsX0_distanceToInterrupt ({ frames := 2, cells := 0, slots := 0, locals := 43 }) (va_Pc [.ref h0] (rt_pre dC dI (rt_xw h0 a1 a2 k1 k2 f g ent ret cnt per cng pnd msk sr sav tkn) [(k1, .int), (k2, .int)] sz)) (va_Ql (fun (v : Int64) (u : Unit) => v = rt_dst f g en ret cnt per cng pnd msk sr) (rt_post dC dI [(k1, .int), (k2, .int)] (va_A (rt_xw h0 a1 a2 k1 k2 f g ent ret cnt per cng pnd msk sr sav tkn) sz) (fun (u : Unit) => rt_xw h0 a1 a2 k1 k2 f g ent ret cnt per cng pnd msk sr sav tkn)) (va_A (rt_xw h0 a1 a2 k1 k2 f g ent ret cnt per cng pnd msk sr sav tkn) sz)) 0 0 (va_A (rt_xw h0 a1 a2 k1 k2 f g ent ret cnt per cng pnd msk sr sav tkn) sz) := by
  subst he
  refine Met.ofW (cc := cX0_distanceToInterrupt) (maxL := 1) (ret := (some .long)) (by decide) rfl ?_
  intro p e0 s m args below meth c s₁ B hml hv
  obtain ⟨rfl, hsz, hP, hK, hD0⟩ := hv
  have hx := B.exec
  have hb := B.bytes
  have hr := B.returns
  have hts := atoms_spec (ws := wsX0_distanceToInterrupt) B.pre
  have hown : s.vm.findClass RX0 = some m.cls := findClass_of_methodNamed B.named
  have hlocks := B.notSynchronized
  subst hsz
  have hD := hD0.self (sz := s.heap.size)
  generalize hAe : va_A (rt_xw h0 a1 a2 k1 k2 f g (nI en) ret cnt per cng pnd msk sr sav tkn) s.heap.size = A at hD ⊢
  have hA : ∀ q : Nat, s.heap.size ≤ q → A q := fun q h => by rw [← hAe]; exact Or.inr h
  have hS : va_S A s.heap s.heap [] := va_S.rf
  have hP : va_P (dC, dI) vwCl (rt_xw h0 a1 a2 k1 k2 f g (nI en) ret cnt per cng pnd msk sr sav tkn) s.heap := hP
  have hl := lv_entry ([.ref h0]) (n := 1) (Nat.le_of_ble_eq_true rfl)
  rw [lg_entry_eq]
  generalize (lg_sl ([.ref h0]) ++ List.replicate (1 - (lg_sl ([.ref h0])).length) Slot.unset).toArray = ls at hl ⊢
  have hl : lv_has ls 1 [(0, .ref h0)] := hl
  refine lv_aload_n hx hb dX0_distanceToInterrupt_0 rfl (lv_at hl 0 rfl) ?_
  have hFc := va_free (wc := rt_xw h0 a1 a2 k1 k2 f g (nI en) ret cnt per cng pnd msk sr sav tkn) hD hS hA [0, 1, 2] rfl
  refine va_calli (va_runV (As := []) (rest := []) ⟨hx, hb, hml, hown, hts⟩ (c_X_interruptDue l dC dI h0 a1 a2 s.heap.size k1 k2 f g (nI en) ret cnt per cng pnd msk sr sav tkn en rfl h32) (cwV 0 hts gX0_distanceToInterrupt_X0_interruptDue rfl rfl rfl (by decide +kernel) ⟨Nat.le_of_ble_eq_true rfl, Nat.le_of_ble_eq_true rfl⟩) ⟨fun a U g mk q => by obtain ⟨q0, q1, qP, qK, qD⟩ := q; exact ⟨q0, q1, qP, va_K.moved (u := U) (U := U.calling g mk a) (Vm.Alike.refl U.vm) qK, qD⟩, va_recv hK hP (ci := 0) (q0 := 0) rfl rfl, fun U hU hW => ⟨rfl, by rw [hU], by rw [hU]; exact hP, va_K.moved hW.alike hK, hD.weaken (fun _ _ _ _ => trivial)⟩⟩ rfl rfl hl.1 rfl (lv_room (Nat.le_of_ble_eq_true rfl)) dX0_distanceToInterrupt_1 ⟨Nat.zero_le _, Nat.zero_le _⟩) hS (fun q _ h => hFc q h) hFc (fun r_1 u t H1 locs ht hvm hw_1 hB hz1 hk1 hS => ?_)
  obtain ⟨hP1, hK1, hD1⟩ := hB
  rw [ht] at hP1
  try dsimp only at hw_1 hP1 hD1
  obtain ⟨hP, hD⟩ := va_join (wr := []) (w1 := rt_xw h0 a1 a2 k1 k2 f g (nI en) ret cnt per cng pnd msk sr sav tkn) hP hD [0, 1, 2] [] rfl rfl (by decide) (by decide) hk1 hFc hP1 hD1
  generalize H1 = H at hP hS ⊢
  have hP : va_P (dC, dI) vwCl (rt_xw h0 a1 a2 k1 k2 f g (nI en) ret cnt per cng pnd msk sr sav tkn) H := hP
  have hD : va_D A (rt_xw h0 a1 a2 k1 k2 f g (nI en) ret cnt per cng pnd msk sr sav tkn) := hD
  refine lv_if_eq (tgt := 9) hx hb dX0_distanceToInterrupt_4 (by decide) (fun c_4 => ?_) (fun c_4 => ?_)
  · refine lv_aload_n hx hb dX0_distanceToInterrupt_9 rfl (lv_at hl 0 rfl) ?_
    have hFc := va_free (wc := rt_xw h0 a1 a2 k1 k2 f g (nI en) ret cnt per cng pnd msk sr sav tkn) hD hS hA [0, 1, 2] rfl
    refine va_calll (va_runV (As := []) (rest := []) ⟨hx, hb, hml, hown, hts⟩ (c_X_distanceToTimer l dC dI h0 a1 a2 H.size k1 k2 f g (nI en) ret cnt per cng pnd msk sr sav tkn) (cwV 0 hts gX0_distanceToInterrupt_X0_distanceToTimer rfl rfl rfl (by decide +kernel) ⟨Nat.le_of_ble_eq_true rfl, Nat.le_of_ble_eq_true rfl⟩) ⟨fun a U g mk q => by obtain ⟨q0, q1, qP, qK, qD⟩ := q; exact ⟨q0, q1, qP, va_K.moved (u := U) (U := U.calling g mk a) (Vm.Alike.refl U.vm) qK, qD⟩, va_recv hK hP (ci := 0) (q0 := 0) rfl rfl, fun U hU hW => ⟨rfl, by rw [hU], by rw [hU]; exact hP, va_K.moved hW.alike hK, hD.weaken (fun _ _ _ _ => trivial)⟩⟩ rfl rfl hl.1 rfl (lv_room (Nat.le_of_ble_eq_true rfl)) dX0_distanceToInterrupt_10 ⟨Nat.zero_le _, Nat.zero_le _⟩) hS (fun q _ h => hFc q h) hFc (fun r_10 u t H1 locs ht hvm hw_10 hB hz1 hk1 hS => ?_)
    obtain ⟨hP1, hK1, hD1⟩ := hB
    rw [ht] at hP1
    try dsimp only at hw_10 hP1 hD1
    obtain ⟨hP, hD⟩ := va_join (wr := []) (w1 := rt_xw h0 a1 a2 k1 k2 f g (nI en) ret cnt per cng pnd msk sr sav tkn) hP hD [0, 1, 2] [] rfl rfl (by decide) (by decide) hk1 hFc hP1 hD1
    generalize H1 = H at hP hS ⊢
    have hP : va_P (dC, dI) vwCl (rt_xw h0 a1 a2 k1 k2 f g (nI en) ret cnt per cng pnd msk sr sav tkn) H := hP
    have hD : va_D A (rt_xw h0 a1 a2 k1 k2 f g (nI en) ret cnt per cng pnd msk sr sav tkn) := hD
    refine lv_aload_n hx hb dX0_distanceToInterrupt_13 rfl (lv_at hl 0 rfl) ?_
    have hFc := va_free (wc := rt_xw h0 a1 a2 k1 k2 f g (nI en) ret cnt per cng pnd msk sr sav tkn) hD hS hA [0, 1, 2] rfl
    refine va_calll (va_runV (As := []) (rest := [.long r_10]) ⟨hx, hb, hml, hown, hts⟩ (c_X_distanceToLines l dC dI h0 a1 a2 H.size k1 k2 f g (nI en) ret cnt per cng pnd msk sr sav tkn en rfl h32) (cwV 0 hts gX0_distanceToInterrupt_X0_distanceToLines rfl rfl rfl (by decide +kernel) ⟨Nat.le_of_ble_eq_true rfl, Nat.le_of_ble_eq_true rfl⟩) ⟨fun a U g mk q => by obtain ⟨q0, q1, qP, qK, qD⟩ := q; exact ⟨q0, q1, qP, va_K.moved (u := U) (U := U.calling g mk a) (Vm.Alike.refl U.vm) qK, qD⟩, va_recv hK hP (ci := 0) (q0 := 0) rfl rfl, fun U hU hW => ⟨rfl, by rw [hU], by rw [hU]; exact hP, va_K.moved hW.alike hK, hD.weaken (fun _ _ _ _ => trivial)⟩⟩ rfl rfl hl.1 rfl (lv_room (Nat.le_of_ble_eq_true rfl)) dX0_distanceToInterrupt_14 ⟨Nat.zero_le _, Nat.zero_le _⟩) hS (fun q _ h => hFc q h) hFc (fun r_14 u t H1 locs ht hvm hw_14 hB hz1 hk1 hS => ?_)
    obtain ⟨hP1, hK1, hD1⟩ := hB
    rw [ht] at hP1
    try dsimp only at hw_14 hP1 hD1
    obtain ⟨hP, hD⟩ := va_join (wr := []) (w1 := rt_xw h0 a1 a2 k1 k2 f g (nI en) ret cnt per cng pnd msk sr sav tkn) hP hD [0, 1, 2] [] rfl rfl (by decide) (by decide) hk1 hFc hP1 hD1
    generalize H1 = H at hP hS ⊢
    have hP : va_P (dC, dI) vwCl (rt_xw h0 a1 a2 k1 k2 f g (nI en) ret cnt per cng pnd msk sr sav tkn) H := hP
    have hD : va_D A (rt_xw h0 a1 a2 k1 k2 f g (nI en) ret cnt per cng pnd msk sr sav tkn) := hD
    refine va_mmin_long hx hb (hml.trans hl.1.symm) hown (hts (.methodLink RX0 85 Lib.MathLoose.min_long.x) (by decide +kernel)) (hts (.static Lib.MathLoose.min_long.x) (by decide +kernel)) (hts (.initialized "java/lang/Math") (by decide +kernel)) (hts (.code Lib.MathLoose.min_long.x Lib.MathLoose.min_long.code 4 (some .long)) (by decide +kernel)) (Nat.le_of_ble_eq_true rfl) (Nat.le_of_ble_eq_true rfl) (Nat.zero_le _) (Nat.zero_le _) dX0_distanceToInterrupt_17 ?_
    exact W.lret (v := if r_14 < r_10 then r_14 else r_10) hx hb hr (fun t ht hW => ⟨⟨if r_14 < r_10 then r_14 else r_10, (), rfl, by unfold rt_dst; rw [if_pos (hw_1.symm.trans c_4), hw_10, hw_14]; rfl, by rw [ht]; exact hP, va_K.moved hW.alike hK, hD⟩, hS.F ht⟩) hS.2.2 dX0_distanceToInterrupt_20
  · refine lv_lconst (v := 0) hx hb dX0_distanceToInterrupt_7 (by decide) ?_
    exact W.lret (v := 0) hx hb hr (fun t ht hW => ⟨⟨0, (), rfl, by unfold rt_dst; rw [if_neg (fun h => c_4 (hw_1.trans h))], by rw [ht]; exact hP, va_K.moved hW.alike hK, hD⟩, hS.F ht⟩) hS.2.2 dX0_distanceToInterrupt_8
set_option maxHeartbeats 4000000 in
set_option maxRecDepth 100000 in
theorem c_X_advanceCount (l : Launch) (dC : Nat → ClassId) (dI : Nat → Nat → Nat) (h0 a1 a2 sz : Nat) (k1 k2 : ClassId) (f g : Nat → Int32) (ent ret cnt per cng pnd msk sr sav tkn : Int32) (p1 : Int32) :
    Met l yX0_advanceCount wsX0_advanceCount ({ frames := 1, cells := 0, slots := 0, locals := 22 }) (va_Pc [.ref h0, .int p1] (rt_pre dC dI (rt_xw h0 a1 a2 k1 k2 f g ent ret cnt per cng pnd msk sr sav tkn) [(k1, .int), (k2, .int)] sz)) (va_Qv (fun (u : Int32 × Int32) => u.1 = rt_ac per cnt p1 ∧ u.2 = rt_ap per cnt pnd p1) (rt_post dC dI [(k1, .int), (k2, .int)] (va_A (rt_xw h0 a1 a2 k1 k2 f g ent ret cnt per cng pnd msk sr sav tkn) sz) (fun (u : Int32 × Int32) => rt_xw h0 a1 a2 k1 k2 f g ent ret u.1 per cng u.2 msk sr sav tkn)) (va_A (rt_xw h0 a1 a2 k1 k2 f g ent ret cnt per cng pnd msk sr sav tkn) sz)) 0 0 (va_A (rt_xw h0 a1 a2 k1 k2 f g ent ret cnt per cng pnd msk sr sav tkn) sz) := by
  refine Met.ofW (cc := cX0_advanceCount) (maxL := 5) (ret := none) (by decide) rfl ?_
  intro p e0 s m args below meth c s₁ B hml hv
  obtain ⟨rfl, hsz, hP, hK, hD0⟩ := hv
  have hx := B.exec
  have hb := B.bytes
  have hr := B.returns
  have hts := atoms_spec (ws := wsX0_advanceCount) B.pre
  have hown : s.vm.findClass RX0 = some m.cls := findClass_of_methodNamed B.named
  have hlocks := B.notSynchronized
  subst hsz
  have hD := hD0.self (sz := s.heap.size)
  generalize hAe : va_A (rt_xw h0 a1 a2 k1 k2 f g ent ret cnt per cng pnd msk sr sav tkn) s.heap.size = A at hD ⊢
  have hA : ∀ q : Nat, s.heap.size ≤ q → A q := fun q h => by rw [← hAe]; exact Or.inr h
  have hS : va_S A s.heap s.heap [] := va_S.rf
  have hP : va_P (dC, dI) vwCl (rt_xw h0 a1 a2 k1 k2 f g ent ret cnt per cng pnd msk sr sav tkn) s.heap := hP
  have hl := lv_entry ([.ref h0, .int p1]) (n := 5) (Nat.le_of_ble_eq_true rfl)
  rw [lg_entry_eq]
  generalize (lg_sl ([.ref h0, .int p1]) ++ List.replicate (5 - (lg_sl ([.ref h0, .int p1])).length) Slot.unset).toArray = ls at hl ⊢
  have hl : lv_has ls 5 [(0, .ref h0), (1, .int p1)] := hl
  refine lv_aload_n hx hb dX0_advanceCount_0 rfl (lv_at hl 0 rfl) ?_
  have hFc := va_free (wc := rt_xw h0 a1 a2 k1 k2 f g ent ret cnt per cng pnd msk sr sav tkn) hD hS hA [0, 1, 2] rfl
  refine va_calll (va_runV (As := []) (rest := []) ⟨hx, hb, hml, hown, hts⟩ (c_X_distanceToPeriod l dC dI h0 a1 a2 s.heap.size k1 k2 f g ent ret cnt per cng pnd msk sr sav tkn) (cwV 0 hts gX0_advanceCount_X0_distanceToPeriod rfl rfl rfl (by decide +kernel) ⟨Nat.le_of_ble_eq_true rfl, Nat.le_of_ble_eq_true rfl⟩) ⟨fun a U g mk q => by obtain ⟨q0, q1, qP, qK, qD⟩ := q; exact ⟨q0, q1, qP, va_K.moved (u := U) (U := U.calling g mk a) (Vm.Alike.refl U.vm) qK, qD⟩, va_recv hK hP (ci := 0) (q0 := 0) rfl rfl, fun U hU hW => ⟨rfl, by rw [hU], by rw [hU]; exact hP, va_K.moved hW.alike hK, hD.weaken (fun _ _ _ _ => trivial)⟩⟩ rfl rfl hl.1 rfl (lv_room (Nat.le_of_ble_eq_true rfl)) dX0_advanceCount_1 ⟨Nat.zero_le _, Nat.zero_le _⟩) hS (fun q _ h => hFc q h) hFc (fun r_1 u t H1 locs ht hvm hw_1 hB hz1 hk1 hS => ?_)
  obtain ⟨hP1, hK1, hD1⟩ := hB
  rw [ht] at hP1
  try dsimp only at hw_1 hP1 hD1
  obtain ⟨hP, hD⟩ := va_join (wr := []) (w1 := rt_xw h0 a1 a2 k1 k2 f g ent ret cnt per cng pnd msk sr sav tkn) hP hD [0, 1, 2] [] rfl rfl (by decide) (by decide) hk1 hFc hP1 hD1
  generalize H1 = H at hP hS ⊢
  have hP : va_P (dC, dI) vwCl (rt_xw h0 a1 a2 k1 k2 f g ent ret cnt per cng pnd msk sr sav tkn) H := hP
  have hD : va_D A (rt_xw h0 a1 a2 k1 k2 f g ent ret cnt per cng pnd msk sr sav tkn) := hD
  refine lv_lstore_n (lv' := [(2, .long r_1), (0, .ref h0), (1, .int p1)]) hx hb dX0_advanceCount_4 rfl hl (by decide) rfl (fun ls hl => ?_)
  refine lv_iload_n hx hb dX0_advanceCount_5 rfl (lv_at hl 2 rfl) ?_
  refine lv_i2l (v := p1.toInt64) hx hb dX0_advanceCount_6 rfl ?_
  refine lv_lload_n hx hb dX0_advanceCount_7 rfl (lv_at hl 0 rfl) ?_
  refine W.lcmp hx hb dX0_advanceCount_8 ?_
  refine lv_if_ge (tgt := 23) hx hb dX0_advanceCount_9 (by decide) (fun c_9 => ?_) (fun c_9 => ?_)
  · refine lv_aload_n hx hb dX0_advanceCount_23 rfl (lv_at hl 1 rfl) ?_
    refine lv_iconst (v := 1) hx hb dX0_advanceCount_24 (by decide) ?_
    refine va_put (D := (dC, dI)) (ci := 0) (v := .int 1) (ty := .boolean) (C := RX0) (T := TX0) (N := 12) hx hb hts (fun _ h => List.mem_cons_of_mem _ (List.mem_append_right _ h)) tyX0 tyX0_ok nmX0 hown hK hP hD hS 0 rfl rfl 7 (by decide) (hts (.fieldLink RX0 62 "RetiredTimer" "pending" "Z") (by decide +kernel)) (fun _ h9 => h9) rfl (by decide +kernel) rfl rfl (Nat.le_of_ble_eq_true rfl) dX0_advanceCount_25 (fun H locs hP hD hS => ?_)
    have hP : va_P (dC, dI) vwCl (rt_xw h0 a1 a2 k1 k2 f g ent ret cnt per cng 1 msk sr sav tkn) H := hP
    have hD : va_D A (rt_xw h0 a1 a2 k1 k2 f g ent ret cnt per cng 1 msk sr sav tkn) := hD
    refine lv_iload_n hx hb dX0_advanceCount_28 rfl (lv_at hl 2 rfl) ?_
    refine lv_lload_n hx hb dX0_advanceCount_29 rfl (lv_at hl 0 rfl) ?_
    refine lv_l2i (v := r_1.toInt32) hx hb dX0_advanceCount_30 rfl ?_
    refine lv_isub hx hb dX0_advanceCount_31 ?_
    refine lv_istore (lv' := [(4, .int (p1 - r_1.toInt32)), (2, .long r_1), (0, .ref h0), (1, .int p1)]) hx hb dX0_advanceCount_32 hl (by decide) rfl (fun ls hl => ?_)
    refine lv_aload_n hx hb dX0_advanceCount_34 rfl (lv_at hl 2 rfl) ?_
    refine lv_aload_n hx hb dX0_advanceCount_35 rfl (lv_at hl 2 rfl) ?_
    refine va_get (D := (dC, dI)) (ci := 0) (v := .int per) (C := RX0) (T := TX0) (N := 12) hx hb hts (fun _ h => List.mem_cons_of_mem _ (List.mem_append_right _ h)) hown hK hP 0 rfl rfl 5 (by decide) (hts (.fieldLink RX0 55 "RetiredTimer" "period" "I") (by decide +kernel)) (fun _ h9 => h9) rfl dX0_advanceCount_36 ?_
    refine lv_if_ne (tgt := 47) hx hb dX0_advanceCount_39 (by decide) (fun c_39 => ?_) (fun c_39 => ?_)
    · refine lv_iload hx hb dX0_advanceCount_47 (lv_at hl 0 rfl) ?_
      refine lv_aload_n hx hb dX0_advanceCount_49 rfl (lv_at hl 2 rfl) ?_
      refine va_get (D := (dC, dI)) (ci := 0) (v := .int per) (C := RX0) (T := TX0) (N := 12) hx hb hts (fun _ h => List.mem_cons_of_mem _ (List.mem_append_right _ h)) hown hK hP 0 rfl rfl 5 (by decide) (hts (.fieldLink RX0 55 "RetiredTimer" "period" "I") (by decide +kernel)) (fun _ h9 => h9) rfl dX0_advanceCount_50 ?_
      refine lv_irem hx hb dX0_advanceCount_53 c_39 ?_
      refine va_put (D := (dC, dI)) (ci := 0) (v := .int ((p1 - r_1.toInt32) - (p1 - r_1.toInt32) / per * per)) (ty := .int) (C := RX0) (T := TX0) (N := 12) hx hb hts (fun _ h => List.mem_cons_of_mem _ (List.mem_append_right _ h)) tyX0 tyX0_ok nmX0 hown hK hP hD hS 0 rfl rfl 4 (by decide) (hts (.fieldLink RX0 65 "RetiredTimer" "count" "I") (by decide +kernel)) (fun _ h9 => h9) rfl (by decide +kernel) rfl rfl (Nat.le_of_ble_eq_true rfl) dX0_advanceCount_54 (fun H locs hP hD hS => ?_)
      have hP : va_P (dC, dI) vwCl (rt_xw h0 a1 a2 k1 k2 f g ent ret ((p1 - r_1.toInt32) - (p1 - r_1.toInt32) / per * per) per cng 1 msk sr sav tkn) H := hP
      have hD : va_D A (rt_xw h0 a1 a2 k1 k2 f g ent ret ((p1 - r_1.toInt32) - (p1 - r_1.toInt32) / per * per) per cng 1 msk sr sav tkn) := hD
      have hge : ¬ p1.toInt64 < rt_per per cnt := by rw [← hw_1]; exact rt_geL ((lg_cmp_ge _ _).mp c_9)
      exact W.vret hx hb hr (fun t ht hW => ⟨⟨((p1 - r_1.toInt32) - (p1 - r_1.toInt32) / per * per, 1), rfl, ⟨by unfold rt_ac; rw [if_neg hge, if_neg c_39, ← hw_1], by unfold rt_ap; rw [if_neg hge]⟩, by rw [ht]; exact hP, va_K.moved hW.alike hK, hD⟩, hS.F ht⟩) hS.2.2 dX0_advanceCount_57
    · refine lv_iload hx hb dX0_advanceCount_42 (lv_at hl 0 rfl) ?_
      refine lv_goto (tgt := 54) hx hb dX0_advanceCount_44 (by decide) ?_
      refine va_put (D := (dC, dI)) (ci := 0) (v := .int (p1 - r_1.toInt32)) (ty := .int) (C := RX0) (T := TX0) (N := 12) hx hb hts (fun _ h => List.mem_cons_of_mem _ (List.mem_append_right _ h)) tyX0 tyX0_ok nmX0 hown hK hP hD hS 0 rfl rfl 4 (by decide) (hts (.fieldLink RX0 65 "RetiredTimer" "count" "I") (by decide +kernel)) (fun _ h9 => h9) rfl (by decide +kernel) rfl rfl (Nat.le_of_ble_eq_true rfl) dX0_advanceCount_54 (fun H locs hP hD hS => ?_)
      have hP : va_P (dC, dI) vwCl (rt_xw h0 a1 a2 k1 k2 f g ent ret (p1 - r_1.toInt32) per cng 1 msk sr sav tkn) H := hP
      have hD : va_D A (rt_xw h0 a1 a2 k1 k2 f g ent ret (p1 - r_1.toInt32) per cng 1 msk sr sav tkn) := hD
      have hge : ¬ p1.toInt64 < rt_per per cnt := by rw [← hw_1]; exact rt_geL ((lg_cmp_ge _ _).mp c_9)
      exact W.vret hx hb hr (fun t ht hW => ⟨⟨(p1 - r_1.toInt32, 1), rfl, ⟨by unfold rt_ac; rw [if_neg hge, if_pos c_39, ← hw_1], by unfold rt_ap; rw [if_neg hge]⟩, by rw [ht]; exact hP, va_K.moved hW.alike hK, hD⟩, hS.F ht⟩) hS.2.2 dX0_advanceCount_57
  · refine lv_aload_n hx hb dX0_advanceCount_12 rfl (lv_at hl 1 rfl) ?_
    refine lv_dup hx hb dX0_advanceCount_13 rfl ?_
    refine va_get (D := (dC, dI)) (ci := 0) (v := .int cnt) (C := RX0) (T := TX0) (N := 12) hx hb hts (fun _ h => List.mem_cons_of_mem _ (List.mem_append_right _ h)) hown hK hP 0 rfl rfl 4 (by decide) (hts (.fieldLink RX0 65 "RetiredTimer" "count" "I") (by decide +kernel)) (fun _ h9 => h9) rfl dX0_advanceCount_14 ?_
    refine lv_iload_n hx hb dX0_advanceCount_17 rfl (lv_at hl 2 rfl) ?_
    refine lv_iadd hx hb dX0_advanceCount_18 ?_
    refine va_put (D := (dC, dI)) (ci := 0) (v := .int (cnt + p1)) (ty := .int) (C := RX0) (T := TX0) (N := 12) hx hb hts (fun _ h => List.mem_cons_of_mem _ (List.mem_append_right _ h)) tyX0 tyX0_ok nmX0 hown hK hP hD hS 0 rfl rfl 4 (by decide) (hts (.fieldLink RX0 65 "RetiredTimer" "count" "I") (by decide +kernel)) (fun _ h9 => h9) rfl (by decide +kernel) rfl rfl (Nat.le_of_ble_eq_true rfl) dX0_advanceCount_19 (fun H locs hP hD hS => ?_)
    have hP : va_P (dC, dI) vwCl (rt_xw h0 a1 a2 k1 k2 f g ent ret (cnt + p1) per cng pnd msk sr sav tkn) H := hP
    have hD : va_D A (rt_xw h0 a1 a2 k1 k2 f g ent ret (cnt + p1) per cng pnd msk sr sav tkn) := hD
    have hlt : p1.toInt64 < rt_per per cnt := by rw [← hw_1]; exact rt_nleL (fun h => c_9 ((lg_cmp_ge _ _).mpr h))
    exact W.vret hx hb hr (fun t ht hW => ⟨⟨(cnt + p1, pnd), rfl, ⟨by unfold rt_ac; rw [if_pos hlt], by unfold rt_ap; rw [if_pos hlt]⟩, by rw [ht]; exact hP, va_K.moved hW.alike hK, hD⟩, hS.F ht⟩) hS.2.2 dX0_advanceCount_22
set_option maxHeartbeats 4000000 in
set_option maxRecDepth 100000 in
theorem c_X_advance (l : Launch) (dC : Nat → ClassId) (dI : Nat → Nat → Nat) (h0 a1 a2 sz : Nat) (k1 k2 : ClassId) (f g : Nat → Int32) (ent ret cnt per cng pnd msk sr sav tkn : Int32) (p1 : Int32) :
    Met l yX0_advance wsX0_advance ({ frames := 2, cells := 0, slots := 0, locals := 46 }) (va_Pc [.ref h0, .int p1] (rt_pre dC dI (rt_xw h0 a1 a2 k1 k2 f g ent ret cnt per cng pnd msk sr sav tkn) [(k1, .int), (k2, .int)] sz)) (va_Qv (fun (u : Int32 × Int32 × Int32) => u.1 = ret + p1 ∧ u.2.1 = rt_cc cng per cnt p1 ∧ u.2.2 = rt_cp cng per cnt pnd p1) (rt_post dC dI [(k1, .int), (k2, .int)] (va_A (rt_xw h0 a1 a2 k1 k2 f g ent ret cnt per cng pnd msk sr sav tkn) sz) (fun (u : Int32 × Int32 × Int32) => rt_xw h0 a1 a2 k1 k2 f g ent u.1 u.2.1 per cng u.2.2 msk sr sav tkn)) (va_A (rt_xw h0 a1 a2 k1 k2 f g ent ret cnt per cng pnd msk sr sav tkn) sz)) 0 0 (va_A (rt_xw h0 a1 a2 k1 k2 f g ent ret cnt per cng pnd msk sr sav tkn) sz) := by
  refine Met.ofW (cc := cX0_advance) (maxL := 2) (ret := none) (by decide) rfl ?_
  intro p e0 s m args below meth c s₁ B hml hv
  obtain ⟨rfl, hsz, hP, hK, hD0⟩ := hv
  have hx := B.exec
  have hb := B.bytes
  have hr := B.returns
  have hts := atoms_spec (ws := wsX0_advance) B.pre
  have hown : s.vm.findClass RX0 = some m.cls := findClass_of_methodNamed B.named
  have hlocks := B.notSynchronized
  subst hsz
  have hD := hD0.self (sz := s.heap.size)
  generalize hAe : va_A (rt_xw h0 a1 a2 k1 k2 f g ent ret cnt per cng pnd msk sr sav tkn) s.heap.size = A at hD ⊢
  have hA : ∀ q : Nat, s.heap.size ≤ q → A q := fun q h => by rw [← hAe]; exact Or.inr h
  have hS : va_S A s.heap s.heap [] := va_S.rf
  have hP : va_P (dC, dI) vwCl (rt_xw h0 a1 a2 k1 k2 f g ent ret cnt per cng pnd msk sr sav tkn) s.heap := hP
  have hl := lv_entry ([.ref h0, .int p1]) (n := 2) (Nat.le_of_ble_eq_true rfl)
  rw [lg_entry_eq]
  generalize (lg_sl ([.ref h0, .int p1]) ++ List.replicate (2 - (lg_sl ([.ref h0, .int p1])).length) Slot.unset).toArray = ls at hl ⊢
  have hl : lv_has ls 2 [(0, .ref h0), (1, .int p1)] := hl
  refine lv_aload_n hx hb dX0_advance_0 rfl (lv_at hl 0 rfl) ?_
  refine lv_dup hx hb dX0_advance_1 rfl ?_
  refine va_get (D := (dC, dI)) (ci := 0) (v := .int ret) (C := RX0) (T := TX0) (N := 12) hx hb hts (fun _ h => List.mem_cons_of_mem _ (List.mem_append_right _ h)) hown hK hP 0 rfl rfl 3 (by decide) (hts (.fieldLink RX0 28 "RetiredTimer" "retired" "I") (by decide +kernel)) (fun _ h9 => h9) rfl dX0_advance_2 ?_
  refine lv_iload_n hx hb dX0_advance_5 rfl (lv_at hl 1 rfl) ?_
  refine lv_iadd hx hb dX0_advance_6 ?_
  refine va_put (D := (dC, dI)) (ci := 0) (v := .int (ret + p1)) (ty := .int) (C := RX0) (T := TX0) (N := 12) hx hb hts (fun _ h => List.mem_cons_of_mem _ (List.mem_append_right _ h)) tyX0 tyX0_ok nmX0 hown hK hP hD hS 0 rfl rfl 3 (by decide) (hts (.fieldLink RX0 28 "RetiredTimer" "retired" "I") (by decide +kernel)) (fun _ h9 => h9) rfl (by decide +kernel) rfl rfl (Nat.le_of_ble_eq_true rfl) dX0_advance_7 (fun H locs hP hD hS => ?_)
  have hP : va_P (dC, dI) vwCl (rt_xw h0 a1 a2 k1 k2 f g ent (ret + p1) cnt per cng pnd msk sr sav tkn) H := hP
  have hD : va_D A (rt_xw h0 a1 a2 k1 k2 f g ent (ret + p1) cnt per cng pnd msk sr sav tkn) := hD
  refine lv_aload_n hx hb dX0_advance_10 rfl (lv_at hl 0 rfl) ?_
  refine va_get (D := (dC, dI)) (ci := 0) (v := .int cng) (C := RX0) (T := TX0) (N := 12) hx hb hts (fun _ h => List.mem_cons_of_mem _ (List.mem_append_right _ h)) hown hK hP 0 rfl rfl 6 (by decide) (hts (.fieldLink RX0 58 "RetiredTimer" "counting" "Z") (by decide +kernel)) (fun _ h9 => h9) rfl dX0_advance_11 ?_
  refine lv_if_eq (tgt := 22) hx hb dX0_advance_14 (by decide) (fun c_14 => ?_) (fun c_14 => ?_)
  · exact W.vret hx hb hr (fun t ht hW => ⟨⟨(ret + p1, cnt, pnd), rfl, ⟨rfl, by unfold rt_cc; rw [if_pos c_14], by unfold rt_cp; rw [if_pos c_14]⟩, by rw [ht]; exact hP, va_K.moved hW.alike hK, hD⟩, hS.F ht⟩) hS.2.2 dX0_advance_22
  · refine lv_aload_n hx hb dX0_advance_17 rfl (lv_at hl 0 rfl) ?_
    refine lv_iload_n hx hb dX0_advance_18 rfl (lv_at hl 1 rfl) ?_
    have hFc := va_free (wc := rt_xw h0 a1 a2 k1 k2 f g ent (ret + p1) cnt per cng pnd msk sr sav tkn) hD hS hA [0, 1, 2] rfl
    refine va_callv (va_runV (As := [.int p1]) (rest := []) ⟨hx, hb, hml, hown, hts⟩ (c_X_advanceCount l dC dI h0 a1 a2 H.size k1 k2 f g ent (ret + p1) cnt per cng pnd msk sr sav tkn p1) (cwV 1 hts gX0_advance_X0_advanceCount rfl rfl rfl (by decide +kernel) ⟨Nat.le_of_ble_eq_true rfl, Nat.le_of_ble_eq_true rfl⟩) ⟨fun a U g mk q => by obtain ⟨q0, q1, qP, qK, qD⟩ := q; exact ⟨q0, q1, qP, va_K.moved (u := U) (U := U.calling g mk a) (Vm.Alike.refl U.vm) qK, qD⟩, va_recv hK hP (ci := 0) (q0 := 0) rfl rfl, fun U hU hW => ⟨rfl, by rw [hU], by rw [hU]; exact hP, va_K.moved hW.alike hK, hD.weaken (fun _ _ _ _ => trivial)⟩⟩ rfl rfl hl.1 rfl (lv_room (Nat.le_of_ble_eq_true rfl)) dX0_advance_19 ⟨Nat.zero_le _, Nat.zero_le _⟩) hS (fun q _ h => hFc q h) hFc (fun u t H1 locs ht hvm hw_19 hB hz1 hk1 hS => ?_)
    obtain ⟨cnt_19, pnd_19⟩ := u
    obtain ⟨hP1, hK1, hD1⟩ := hB
    rw [ht] at hP1
    try dsimp only at hw_19 hP1 hD1
    obtain ⟨hP, hD⟩ := va_join (wr := []) (w1 := rt_xw h0 a1 a2 k1 k2 f g ent (ret + p1) cnt_19 per cng pnd_19 msk sr sav tkn) hP hD [0, 1, 2] [] rfl rfl (by decide) (by decide) hk1 hFc hP1 hD1
    generalize H1 = H at hP hS ⊢
    have hP : va_P (dC, dI) vwCl (rt_xw h0 a1 a2 k1 k2 f g ent (ret + p1) cnt_19 per cng pnd_19 msk sr sav tkn) H := hP
    have hD : va_D A (rt_xw h0 a1 a2 k1 k2 f g ent (ret + p1) cnt_19 per cng pnd_19 msk sr sav tkn) := hD
    exact W.vret hx hb hr (fun t ht hW => ⟨⟨(ret + p1, cnt_19, pnd_19), rfl, ⟨rfl, by unfold rt_cc; rw [if_neg c_14]; exact hw_19.1, by unfold rt_cp; rw [if_neg c_14]; exact hw_19.2⟩, by rw [ht]; exact hP, va_K.moved hW.alike hK, hD⟩, hS.F ht⟩) hS.2.2 dX0_advance_22
