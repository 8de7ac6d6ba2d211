set_option maxHeartbeats 4000000 in
set_option maxRecDepth 100000 in
theorem c_X_steps (l : Launch) (dC : Nat → ClassId) (dI : Nat → Nat → Nat) (h0 a1 a2 sz : Nat) (k1 k2 : ClassId) (f g : Nat → Int32) (ent ret cnt per cng pnd msk sr sav tkn : Int32) (p1 : Int32) (en rn pn : Nat) (he : ent = nI en) (h32 : en ≤ 32) (hrn : ret = nI rn) (hrl : rn < 2147483648) (hpn : per = nI pn) (hpl : pn < 268435456) (hf : ∀ j, j < en → ¬ f j < 0) :
    Met l yX0_steps wsX0_steps ({ frames := 3, cells := 0, slots := 0, locals := 67 }) (va_Pc [.ref h0, .int p1] (rt_pre dC dI (rt_xw h0 a1 a2 k1 k2 f g ent ret cnt per cng pnd msk sr sav tkn) [(k1, .int), (k2, .int)] sz)) (va_Qi (fun (v : Int32) (u : Int32 × Int32 × Int32) => v = rt_ans f g en rn cnt per cng pnd msk sr p1 ∧ u.1 = nI (rn + rt_tn f g en rn cnt per cng pnd msk sr p1) ∧ u.2.1 = rt_cc cng per cnt (nI (rt_tn f g en rn cnt per cng pnd msk sr p1)) ∧ u.2.2 = rt_cp cng per cnt pnd (nI (rt_tn f g en rn cnt per cng pnd msk sr p1))) (rt_post dC dI [(k1, .int), (k2, .int)] (va_A (rt_xw h0 a1 a2 k1 k2 f g ent ret cnt per cng pnd msk sr sav tkn) sz) (fun (u : Int32 × Int32 × Int32) => rt_xw h0 a1 a2 k1 k2 f g ent u.1 u.2.1 per cng u.2.2 msk sr sav tkn)) (va_A (rt_xw h0 a1 a2 k1 k2 f g ent ret cnt per cng pnd msk sr sav tkn) sz)) 0 0 (va_A (rt_xw h0 a1 a2 k1 k2 f g ent ret cnt per cng pnd msk sr sav tkn) sz) := by
  subst he
  subst hrn
  subst hpn
  refine Met.ofW (cc := cX0_steps) (maxL := 5) (ret := (some .int)) (by decide) rfl ?_
  intro p e0 s m args below meth c s₁ B hml hv
  obtain ⟨rfl, hsz, hP, hK, hD0⟩ := hv
  have hx := B.exec
  have hb := B.bytes
  have hr := B.returns
  have hts := atoms_spec (ws := wsX0_steps) B.pre
  have hown : s.vm.findClass RX0 = some m.cls := findClass_of_methodNamed B.named
  have hlocks := B.notSynchronized
  subst hsz
  have hD := hD0.self (sz := s.heap.size)
  generalize hAe : va_A (rt_xw h0 a1 a2 k1 k2 f g (nI en) (nI rn) cnt (nI pn) cng pnd msk sr sav tkn) s.heap.size = A at hD ⊢
  have hA : ∀ q : Nat, s.heap.size ≤ q → A q := fun q h => by rw [← hAe]; exact Or.inr h
  have hS : va_S A s.heap s.heap [] := va_S.rf
  have hP : va_P (dC, dI) vwCl (rt_xw h0 a1 a2 k1 k2 f g (nI en) (nI rn) cnt (nI pn) cng pnd msk sr sav tkn) s.heap := hP
  have hl := lv_entry ([.ref h0, .int p1]) (n := 5) (Nat.le_of_ble_eq_true rfl)
  rw [lg_entry_eq]
  generalize (lg_sl ([.ref h0, .int p1]) ++ List.replicate (5 - (lg_sl ([.ref h0, .int p1])).length) Slot.unset).toArray = ls at hl ⊢
  have hl : lv_has ls 5 [(0, .ref h0), (1, .int p1)] := hl
  refine lv_iload_n hx hb dX0_steps_0 rfl (lv_at hl 1 rfl) ?_
  refine lv_iconst (v := 1) hx hb dX0_steps_1 (by decide) ?_
  refine lv_icmp_lt (tgt := 23) hx hb dX0_steps_2 (by decide) (fun c_2 => ?_) (fun c_2 => ?_)
  · refine lv_iconst (v := -1) hx hb dX0_steps_23 (by decide) ?_
    exact W.iret (v := (-1)) hx hb hr (fun t ht hW => ⟨⟨(-1), ((nI rn), cnt, pnd), rfl, rt_refuse hpl (Or.inl c_2), by rw [ht]; exact hP, va_K.moved hW.alike hK, hD⟩, hS.F ht⟩) hS.2.2 dX0_steps_24
  · refine lv_iload_n hx hb dX0_steps_5 rfl (lv_at hl 1 rfl) ?_
    refine lv_sipush (v := 20000) hx hb dX0_steps_6 (by decide) ?_
    refine lv_icmp_gt (tgt := 23) hx hb dX0_steps_9 (by decide) (fun c_9 => ?_) (fun c_9 => ?_)
    · refine lv_iconst (v := -1) hx hb dX0_steps_23 (by decide) ?_
      exact W.iret (v := (-1)) hx hb hr (fun t ht hW => ⟨⟨(-1), ((nI rn), cnt, pnd), rfl, rt_refuse hpl (Or.inr (Or.inl c_9)), by rw [ht]; exact hP, va_K.moved hW.alike hK, hD⟩, hS.F ht⟩) hS.2.2 dX0_steps_24
    · refine lv_iload_n hx hb dX0_steps_12 rfl (lv_at hl 1 rfl) ?_
      refine lv_ldc (v := 2147483647) hx hb hown (hts (.constant RX0 27 2147483647) (by decide +kernel)) dX0_steps_13 ?_
      refine lv_aload_n hx hb dX0_steps_15 rfl (lv_at hl 0 rfl) ?_
      refine va_get (D := (dC, dI)) (ci := 0) (v := .int (nI rn)) (C := RX0) (T := TX0) (N := 12) hx hb hts (fun _ h => List.mem_cons_of_mem _ (List.mem_append_right _ h)) hown hK hP 0 rfl rfl 3 (by decide) (hts (.fieldLink RX0 28 "RetiredTimer" "retired" "I") (by decide +kernel)) (fun _ h9 => h9) rfl dX0_steps_16 ?_
      refine lv_isub hx hb dX0_steps_19 ?_
      refine lv_icmp_le (tgt := 25) hx hb dX0_steps_20 (by decide) (fun c_20 => ?_) (fun c_20 => ?_)
      · refine lv_aload_n hx hb dX0_steps_25 rfl (lv_at hl 0 rfl) ?_
        have hFc := va_free (wc := rt_xw h0 a1 a2 k1 k2 f g (nI en) (nI rn) cnt (nI pn) cng pnd msk sr sav tkn) hD hS hA [0, 1, 2] rfl
        refine va_calll (va_runV (As := []) (rest := []) ⟨hx, hb, hml, hown, hts⟩ (c_X_distanceToInterrupt l dC dI h0 a1 a2 s.heap.size k1 k2 f g (nI en) (nI rn) cnt (nI pn) cng pnd msk sr sav tkn en rfl h32) (cwV 0 hts gX0_steps_X0_distanceToInterrupt rfl rfl rfl (by decide +kernel) ⟨Nat.le_of_ble_eq_true rfl, Nat.le_of_ble_eq_true rfl⟩) ⟨fun a U g mk q => by obtain ⟨q0, q1, qP, qK, qD⟩ := q; exact ⟨q0, q1, qP, va_K.moved (u := U) (U := U.calling g mk a) (Vm.Alike.refl U.vm) qK, qD⟩, va_recv hK hP (ci := 0) (q0 := 0) rfl rfl, fun U hU hW => ⟨rfl, by rw [hU], by rw [hU]; exact hP, va_K.moved hW.alike hK, hD.weaken (fun _ _ _ _ => trivial)⟩⟩ rfl rfl hl.1 rfl (lv_room (Nat.le_of_ble_eq_true rfl)) dX0_steps_26 ⟨Nat.zero_le _, Nat.zero_le _⟩) hS (fun q _ h => hFc q h) hFc (fun r_26 u t H1 locs ht hvm hw_26 hB hz1 hk1 hS => ?_)
        obtain ⟨hP1, hK1, hD1⟩ := hB
        rw [ht] at hP1
        try dsimp only at hw_26 hP1 hD1
        obtain ⟨hP, hD⟩ := va_join (wr := []) (w1 := rt_xw h0 a1 a2 k1 k2 f g (nI en) (nI rn) cnt (nI pn) cng pnd msk sr sav tkn) hP hD [0, 1, 2] [] rfl rfl (by decide) (by decide) hk1 hFc hP1 hD1
        generalize H1 = H at hP hS ⊢
        have hP : va_P (dC, dI) vwCl (rt_xw h0 a1 a2 k1 k2 f g (nI en) (nI rn) cnt (nI pn) cng pnd msk sr sav tkn) H := hP
        have hD : va_D A (rt_xw h0 a1 a2 k1 k2 f g (nI en) (nI rn) cnt (nI pn) cng pnd msk sr sav tkn) := hD
        refine lv_lstore_n (lv' := [(2, .long r_26), (0, .ref h0), (1, .int p1)]) hx hb dX0_steps_29 rfl hl (by decide) rfl (fun ls hl => ?_)
        refine lv_lload_n hx hb dX0_steps_30 rfl (lv_at hl 0 rfl) ?_
        refine lv_iload_n hx hb dX0_steps_31 rfl (lv_at hl 2 rfl) ?_
        refine lv_i2l (v := p1.toInt64) hx hb dX0_steps_32 rfl ?_
        refine W.lcmp hx hb dX0_steps_33 ?_
        refine lv_if_ge (tgt := 42) hx hb dX0_steps_34 (by decide) (fun c_34 => ?_) (fun c_34 => ?_)
        · refine lv_iload_n hx hb dX0_steps_42 rfl (lv_at hl 2 rfl) ?_
          refine lv_istore (lv' := [(4, .int p1), (2, .long r_26), (0, .ref h0), (1, .int p1)]) hx hb dX0_steps_43 hl (by decide) rfl (fun ls hl => ?_)
          refine lv_aload_n hx hb dX0_steps_45 rfl (lv_at hl 2 rfl) ?_
          refine lv_iload hx hb dX0_steps_46 (lv_at hl 0 rfl) ?_
          have hFc := va_free (wc := rt_xw h0 a1 a2 k1 k2 f g (nI en) (nI rn) cnt (nI pn) cng pnd msk sr sav tkn) hD hS hA [0, 1, 2] rfl
          refine va_callv (va_runV (As := [.int p1]) (rest := []) ⟨hx, hb, hml, hown, hts⟩ (c_X_advance l dC dI h0 a1 a2 H.size k1 k2 f g (nI en) (nI rn) cnt (nI pn) cng pnd msk sr sav tkn p1) (cwV 1 hts gX0_steps_X0_advance rfl rfl rfl (by decide +kernel) ⟨Nat.le_of_ble_eq_true rfl, Nat.le_of_ble_eq_true rfl⟩) ⟨fun a U g mk q => by obtain ⟨q0, q1, qP, qK, qD⟩ := q; exact ⟨q0, q1, qP, va_K.moved (u := U) (U := U.calling g mk a) (Vm.Alike.refl U.vm) qK, qD⟩, va_recv hK hP (ci := 0) (q0 := 0) rfl rfl, fun U hU hW => ⟨rfl, by rw [hU], by rw [hU]; exact hP, va_K.moved hW.alike hK, hD.weaken (fun _ _ _ _ => trivial)⟩⟩ rfl rfl hl.1 rfl (lv_room (Nat.le_of_ble_eq_true rfl)) dX0_steps_48 ⟨Nat.zero_le _, Nat.zero_le _⟩) hS (fun q _ h => hFc q h) hFc (fun u t H1 locs ht hvm hw_48 hB hz1 hk1 hS => ?_)
          obtain ⟨ret_48, cnt_48, pnd_48⟩ := u
          obtain ⟨hP1, hK1, hD1⟩ := hB
          rw [ht] at hP1
          try dsimp only at hw_48 hP1 hD1
          obtain ⟨hP, hD⟩ := va_join (wr := []) (w1 := rt_xw h0 a1 a2 k1 k2 f g (nI en) ret_48 cnt_48 (nI pn) cng pnd_48 msk sr sav tkn) hP hD [0, 1, 2] [] rfl rfl (by decide) (by decide) hk1 hFc hP1 hD1
          generalize H1 = H at hP hS ⊢
          have hP : va_P (dC, dI) vwCl (rt_xw h0 a1 a2 k1 k2 f g (nI en) ret_48 cnt_48 (nI pn) cng pnd_48 msk sr sav tkn) H := hP
          have hD : va_D A (rt_xw h0 a1 a2 k1 k2 f g (nI en) ret_48 cnt_48 (nI pn) cng pnd_48 msk sr sav tkn) := hD
          refine lv_iload hx hb dX0_steps_51 (lv_at hl 0 rfl) ?_
          have hok : ¬ (p1 < 1 ∨ 20000 < p1 ∨ 2147483647 - nI rn < p1) := fun h => h.elim c_2 (fun h => h.elim c_9 (fun h => rt_nle2 c_20 h))
          have hac := rt_accept (g := g) (cnt := cnt) (cng := cng) (pnd := pnd) (msk := msk) (sr := sr) hrl hpl hf hok
          rw [← hw_26, if_neg (rt_geL ((lg_cmp_ge _ _).mp c_34))] at hac
          exact W.iret (v := p1) hx hb hr (fun t ht hW => ⟨⟨p1, (ret_48, cnt_48, pnd_48), rfl, ⟨hac.trans (if_neg hok).symm, hw_48.1.trans ((congrArg (nI rn + ·) hac).trans (nI_add _ _)), hw_48.2.1.trans (congrArg (rt_cc cng (nI pn) cnt) hac), hw_48.2.2.trans (congrArg (rt_cp cng (nI pn) cnt pnd) hac)⟩, by rw [ht]; exact hP, va_K.moved hW.alike hK, hD⟩, hS.F ht⟩) hS.2.2 dX0_steps_53
        · refine lv_lload_n hx hb dX0_steps_37 rfl (lv_at hl 0 rfl) ?_
          refine lv_l2i (v := r_26.toInt32) hx hb dX0_steps_38 rfl ?_
          refine lv_goto (tgt := 43) hx hb dX0_steps_39 (by decide) ?_
          refine lv_istore (lv' := [(4, .int r_26.toInt32), (2, .long r_26), (0, .ref h0), (1, .int p1)]) hx hb dX0_steps_43 hl (by decide) rfl (fun ls hl => ?_)
          refine lv_aload_n hx hb dX0_steps_45 rfl (lv_at hl 2 rfl) ?_
          refine lv_iload hx hb dX0_steps_46 (lv_at hl 0 rfl) ?_
          have hFc := va_free (wc := rt_xw h0 a1 a2 k1 k2 f g (nI en) (nI rn) cnt (nI pn) cng pnd msk sr sav tkn) hD hS hA [0, 1, 2] rfl
          refine va_callv (va_runV (As := [.int r_26.toInt32]) (rest := []) ⟨hx, hb, hml, hown, hts⟩ (c_X_advance l dC dI h0 a1 a2 H.size k1 k2 f g (nI en) (nI rn) cnt (nI pn) cng pnd msk sr sav tkn r_26.toInt32) (cwV 1 hts gX0_steps_X0_advance rfl rfl rfl (by decide +kernel) ⟨Nat.le_of_ble_eq_true rfl, Nat.le_of_ble_eq_true rfl⟩) ⟨fun a U g mk q => by obtain ⟨q0, q1, qP, qK, qD⟩ := q; exact ⟨q0, q1, qP, va_K.moved (u := U) (U := U.calling g mk a) (Vm.Alike.refl U.vm) qK, qD⟩, va_recv hK hP (ci := 0) (q0 := 0) rfl rfl, fun U hU hW => ⟨rfl, by rw [hU], by rw [hU]; exact hP, va_K.moved hW.alike hK, hD.weaken (fun _ _ _ _ => trivial)⟩⟩ rfl rfl hl.1 rfl (lv_room (Nat.le_of_ble_eq_true rfl)) dX0_steps_48 ⟨Nat.zero_le _, Nat.zero_le _⟩) hS (fun q _ h => hFc q h) hFc (fun u t H1 locs ht hvm hw_48 hB hz1 hk1 hS => ?_)
          obtain ⟨ret_48, cnt_48, pnd_48⟩ := u
          obtain ⟨hP1, hK1, hD1⟩ := hB
          rw [ht] at hP1
          try dsimp only at hw_48 hP1 hD1
          obtain ⟨hP, hD⟩ := va_join (wr := []) (w1 := rt_xw h0 a1 a2 k1 k2 f g (nI en) ret_48 cnt_48 (nI pn) cng pnd_48 msk sr sav tkn) hP hD [0, 1, 2] [] rfl rfl (by decide) (by decide) hk1 hFc hP1 hD1
          generalize H1 = H at hP hS ⊢
          have hP : va_P (dC, dI) vwCl (rt_xw h0 a1 a2 k1 k2 f g (nI en) ret_48 cnt_48 (nI pn) cng pnd_48 msk sr sav tkn) H := hP
          have hD : va_D A (rt_xw h0 a1 a2 k1 k2 f g (nI en) ret_48 cnt_48 (nI pn) cng pnd_48 msk sr sav tkn) := hD
          refine lv_iload hx hb dX0_steps_51 (lv_at hl 0 rfl) ?_
          have hok : ¬ (p1 < 1 ∨ 20000 < p1 ∨ 2147483647 - nI rn < p1) := fun h => h.elim c_2 (fun h => h.elim c_9 (fun h => rt_nle2 c_20 h))
          have hac := rt_accept (g := g) (cnt := cnt) (cng := cng) (pnd := pnd) (msk := msk) (sr := sr) hrl hpl hf hok
          rw [← hw_26, if_pos (rt_nleL (fun h => c_34 ((lg_cmp_ge _ _).mpr h)))] at hac
          exact W.iret (v := r_26.toInt32) hx hb hr (fun t ht hW => ⟨⟨r_26.toInt32, (ret_48, cnt_48, pnd_48), rfl, ⟨hac.trans (if_neg hok).symm, hw_48.1.trans ((congrArg (nI rn + ·) hac).trans (nI_add _ _)), hw_48.2.1.trans (congrArg (rt_cc cng (nI pn) cnt) hac), hw_48.2.2.trans (congrArg (rt_cp cng (nI pn) cnt pnd) hac)⟩, by rw [ht]; exact hP, va_K.moved hW.alike hK, hD⟩, hS.F ht⟩) hS.2.2 dX0_steps_53
      · refine lv_iconst (v := -1) hx hb dX0_steps_23 (by decide) ?_
        exact W.iret (v := (-1)) hx hb hr (fun t ht hW => ⟨⟨(-1), ((nI rn), cnt, pnd), rfl, rt_refuse hpl (Or.inr (Or.inr (rt_nle c_20))), by rw [ht]; exact hP, va_K.moved hW.alike hK, hD⟩, hS.F ht⟩) hS.2.2 dX0_steps_24
set_option maxHeartbeats 4000000 in
set_option maxRecDepth 100000 in
theorem c_X_take (l : Launch) (dC : Nat → ClassId) (dI : Nat → Nat → Nat) (h0 a1 a2 sz : Nat) (k1 k2 : ClassId) (f g : Nat → Int32) (ent ret cnt per cng pnd msk sr sav tkn : Int32) (en : Nat) (he : ent = nI en) (h32 : en ≤ 32) :
    Met l yX0_take wsX0_take ({ frames := 2, cells := 0, slots := 0, locals := 43 }) (va_Pc [.ref h0] (rt_pre dC dI (rt_xw h0 a1 a2 k1 k2 f g ent ret cnt per cng pnd msk sr sav tkn) [(k1, .int), (k2, .int)] sz)) (va_Qi (fun (v : Int32) (u : Int32 × Int32 × Int32) => v = rt_due sr pnd (rt_pl f g ret en) msk ∧ u.1 = (if rt_due sr pnd (rt_pl f g ret en) msk = 0 then sr else (sr &&& 32) ||| 1) ∧ u.2.1 = (if rt_due sr pnd (rt_pl f g ret en) msk = 0 then sav else sr) ∧ u.2.2 = (if rt_due sr pnd (rt_pl f g ret en) msk = 0 then tkn else tkn + 1)) (rt_post dC dI [(k1, .int), (k2, .int)] (va_A (rt_xw h0 a1 a2 k1 k2 f g ent ret cnt per cng pnd msk sr sav tkn) sz) (fun (u : Int32 × Int32 × Int32) => rt_xw h0 a1 a2 k1 k2 f g ent ret cnt per cng pnd msk u.1 u.2.1 u.2.2)) (va_A (rt_xw h0 a1 a2 k1 k2 f g ent ret cnt per cng pnd msk sr sav tkn) sz)) 0 0 (va_A (rt_xw h0 a1 a2 k1 k2 f g ent ret cnt per cng pnd msk sr sav tkn) sz) := by
  subst he
  refine Met.ofW (cc := cX0_take) (maxL := 2) (ret := (some .int)) (by decide) rfl ?_
  intro p e0 s m args below meth c s₁ B hml hv
  obtain ⟨rfl, hsz, hP, hK, hD0⟩ := hv
  have hx := B.exec
  have hb := B.bytes
  have hr := B.returns
  have hts := atoms_spec (ws := wsX0_take) B.pre
  have hown : s.vm.findClass RX0 = some m.cls := findClass_of_methodNamed B.named
  have hlocks := B.notSynchronized
  subst hsz
  have hD := hD0.self (sz := s.heap.size)
  generalize hAe : va_A (rt_xw h0 a1 a2 k1 k2 f g (nI en) ret cnt per cng pnd msk sr sav tkn) s.heap.size = A at hD ⊢
  have hA : ∀ q : Nat, s.heap.size ≤ q → A q := fun q h => by rw [← hAe]; exact Or.inr h
  have hS : va_S A s.heap s.heap [] := va_S.rf
  have hP : va_P (dC, dI) vwCl (rt_xw h0 a1 a2 k1 k2 f g (nI en) ret cnt per cng pnd msk sr sav tkn) s.heap := hP
  have hl := lv_entry ([.ref h0]) (n := 2) (Nat.le_of_ble_eq_true rfl)
  rw [lg_entry_eq]
  generalize (lg_sl ([.ref h0]) ++ List.replicate (2 - (lg_sl ([.ref h0])).length) Slot.unset).toArray = ls at hl ⊢
  have hl : lv_has ls 2 [(0, .ref h0)] := hl
  refine lv_aload_n hx hb dX0_take_0 rfl (lv_at hl 0 rfl) ?_
  have hFc := va_free (wc := rt_xw h0 a1 a2 k1 k2 f g (nI en) ret cnt per cng pnd msk sr sav tkn) hD hS hA [0, 1, 2] rfl
  refine va_calli (va_runV (As := []) (rest := []) ⟨hx, hb, hml, hown, hts⟩ (c_X_interruptDue l dC dI h0 a1 a2 s.heap.size k1 k2 f g (nI en) ret cnt per cng pnd msk sr sav tkn en rfl h32) (cwV 0 hts gX0_take_X0_interruptDue rfl rfl rfl (by decide +kernel) ⟨Nat.le_of_ble_eq_true rfl, Nat.le_of_ble_eq_true rfl⟩) ⟨fun a U g mk q => by obtain ⟨q0, q1, qP, qK, qD⟩ := q; exact ⟨q0, q1, qP, va_K.moved (u := U) (U := U.calling g mk a) (Vm.Alike.refl U.vm) qK, qD⟩, va_recv hK hP (ci := 0) (q0 := 0) rfl rfl, fun U hU hW => ⟨rfl, by rw [hU], by rw [hU]; exact hP, va_K.moved hW.alike hK, hD.weaken (fun _ _ _ _ => trivial)⟩⟩ rfl rfl hl.1 rfl (lv_room (Nat.le_of_ble_eq_true rfl)) dX0_take_1 ⟨Nat.zero_le _, Nat.zero_le _⟩) hS (fun q _ h => hFc q h) hFc (fun r_1 u t H1 locs ht hvm hw_1 hB hz1 hk1 hS => ?_)
  obtain ⟨hP1, hK1, hD1⟩ := hB
  rw [ht] at hP1
  try dsimp only at hw_1 hP1 hD1
  obtain ⟨hP, hD⟩ := va_join (wr := []) (w1 := rt_xw h0 a1 a2 k1 k2 f g (nI en) ret cnt per cng pnd msk sr sav tkn) hP hD [0, 1, 2] [] rfl rfl (by decide) (by decide) hk1 hFc hP1 hD1
  generalize H1 = H at hP hS ⊢
  have hP : va_P (dC, dI) vwCl (rt_xw h0 a1 a2 k1 k2 f g (nI en) ret cnt per cng pnd msk sr sav tkn) H := hP
  have hD : va_D A (rt_xw h0 a1 a2 k1 k2 f g (nI en) ret cnt per cng pnd msk sr sav tkn) := hD
  refine lv_istore_n (lv' := [(1, .int r_1), (0, .ref h0)]) hx hb dX0_take_4 rfl hl (by decide) rfl (fun ls hl => ?_)
  refine lv_iload_n hx hb dX0_take_5 rfl (lv_at hl 0 rfl) ?_
  refine lv_if_eq (tgt := 40) hx hb dX0_take_6 (by decide) (fun c_6 => ?_) (fun c_6 => ?_)
  · refine lv_iload_n hx hb dX0_take_40 rfl (lv_at hl 0 rfl) ?_
    exact W.iret (v := r_1) hx hb hr (fun t ht hW => ⟨⟨r_1, (sr, sav, tkn), rfl, ⟨hw_1, by rw [if_pos (hw_1.symm.trans c_6)], by rw [if_pos (hw_1.symm.trans c_6)], by rw [if_pos (hw_1.symm.trans c_6)]⟩, by rw [ht]; exact hP, va_K.moved hW.alike hK, hD⟩, hS.F ht⟩) hS.2.2 dX0_take_41
  · refine lv_aload_n hx hb dX0_take_9 rfl (lv_at hl 1 rfl) ?_
    refine lv_aload_n hx hb dX0_take_10 rfl (lv_at hl 1 rfl) ?_
    refine va_get (D := (dC, dI)) (ci := 0) (v := .int sr) (C := RX0) (T := TX0) (N := 12) hx hb hts (fun _ h => List.mem_cons_of_mem _ (List.mem_append_right _ h)) hown hK hP 0 rfl rfl 9 (by decide) (hts (.fieldLink RX0 42 "RetiredTimer" "sr" "I") (by decide +kernel)) (fun _ h9 => h9) rfl dX0_take_11 ?_
    refine va_put (D := (dC, dI)) (ci := 0) (v := .int sr) (ty := .int) (C := RX0) (T := TX0) (N := 12) hx hb hts (fun _ h => List.mem_cons_of_mem _ (List.mem_append_right _ h)) tyX0 tyX0_ok nmX0 hown hK hP hD hS 0 rfl rfl 10 (by decide) (hts (.fieldLink RX0 45 "RetiredTimer" "saved" "I") (by decide +kernel)) (fun _ h9 => h9) rfl (by decide +kernel) rfl rfl (Nat.le_of_ble_eq_true rfl) dX0_take_14 (fun H locs hP hD hS => ?_)
    have hP : va_P (dC, dI) vwCl (rt_xw h0 a1 a2 k1 k2 f g (nI en) ret cnt per cng pnd msk sr sr tkn) H := hP
    have hD : va_D A (rt_xw h0 a1 a2 k1 k2 f g (nI en) ret cnt per cng pnd msk sr sr tkn) := hD
    refine lv_aload_n hx hb dX0_take_17 rfl (lv_at hl 1 rfl) ?_
    refine lv_aload_n hx hb dX0_take_18 rfl (lv_at hl 1 rfl) ?_
    refine va_get (D := (dC, dI)) (ci := 0) (v := .int sr) (C := RX0) (T := TX0) (N := 12) hx hb hts (fun _ h => List.mem_cons_of_mem _ (List.mem_append_right _ h)) hown hK hP 0 rfl rfl 9 (by decide) (hts (.fieldLink RX0 42 "RetiredTimer" "sr" "I") (by decide +kernel)) (fun _ h9 => h9) rfl dX0_take_19 ?_
    refine lv_bipush (v := 32) hx hb dX0_take_22 (by decide) ?_
    refine lv_iand hx hb dX0_take_24 ?_
    refine lv_iconst (v := 1) hx hb dX0_take_25 (by decide) ?_
    refine lv_ior hx hb dX0_take_26 ?_
    refine va_put (D := (dC, dI)) (ci := 0) (v := .int ((sr &&& 32) ||| 1)) (ty := .int) (C := RX0) (T := TX0) (N := 12) hx hb hts (fun _ h => List.mem_cons_of_mem _ (List.mem_append_right _ h)) tyX0 tyX0_ok nmX0 hown hK hP hD hS 0 rfl rfl 9 (by decide) (hts (.fieldLink RX0 42 "RetiredTimer" "sr" "I") (by decide +kernel)) (fun _ h9 => h9) rfl (by decide +kernel) rfl rfl (Nat.le_of_ble_eq_true rfl) dX0_take_27 (fun H locs hP hD hS => ?_)
    have hP : va_P (dC, dI) vwCl (rt_xw h0 a1 a2 k1 k2 f g (nI en) ret cnt per cng pnd msk ((sr &&& 32) ||| 1) sr tkn) H := hP
    have hD : va_D A (rt_xw h0 a1 a2 k1 k2 f g (nI en) ret cnt per cng pnd msk ((sr &&& 32) ||| 1) sr tkn) := hD
    refine lv_aload_n hx hb dX0_take_30 rfl (lv_at hl 1 rfl) ?_
    refine lv_dup hx hb dX0_take_31 rfl ?_
    refine va_get (D := (dC, dI)) (ci := 0) (v := .int tkn) (C := RX0) (T := TX0) (N := 12) hx hb hts (fun _ h => List.mem_cons_of_mem _ (List.mem_append_right _ h)) hown hK hP 0 rfl rfl 11 (by decide) (hts (.fieldLink RX0 48 "RetiredTimer" "taken" "I") (by decide +kernel)) (fun _ h9 => h9) rfl dX0_take_32 ?_
    refine lv_iconst (v := 1) hx hb dX0_take_35 (by decide) ?_
    refine lv_iadd hx hb dX0_take_36 ?_
    refine va_put (D := (dC, dI)) (ci := 0) (v := .int (tkn + 1)) (ty := .int) (C := RX0) (T := TX0) (N := 12) hx hb hts (fun _ h => List.mem_cons_of_mem _ (List.mem_append_right _ h)) tyX0 tyX0_ok nmX0 hown hK hP hD hS 0 rfl rfl 11 (by decide) (hts (.fieldLink RX0 48 "RetiredTimer" "taken" "I") (by decide +kernel)) (fun _ h9 => h9) rfl (by decide +kernel) rfl rfl (Nat.le_of_ble_eq_true rfl) dX0_take_37 (fun H locs hP hD hS => ?_)
    have hP : va_P (dC, dI) vwCl (rt_xw h0 a1 a2 k1 k2 f g (nI en) ret cnt per cng pnd msk ((sr &&& 32) ||| 1) sr (tkn + 1)) H := hP
    have hD : va_D A (rt_xw h0 a1 a2 k1 k2 f g (nI en) ret cnt per cng pnd msk ((sr &&& 32) ||| 1) sr (tkn + 1)) := hD
    refine lv_iload_n hx hb dX0_take_40 rfl (lv_at hl 0 rfl) ?_
    exact W.iret (v := r_1) hx hb hr (fun t ht hW => ⟨⟨r_1, ((sr &&& 32) ||| 1, sr, tkn + 1), rfl, ⟨hw_1, by rw [if_neg (fun h => c_6 (hw_1.trans h))], by rw [if_neg (fun h => c_6 (hw_1.trans h))], by rw [if_neg (fun h => c_6 (hw_1.trans h))]⟩, by rw [ht]; exact hP, va_K.moved hW.alike hK, hD⟩, hS.F ht⟩) hS.2.2 dX0_take_41
set_option maxHeartbeats 4000000 in
set_option maxRecDepth 100000 in
theorem c_X_until (l : Launch) (dC : Nat → ClassId) (dI : Nat → Nat → Nat) (h0 a1 a2 sz : Nat) (k1 k2 : ClassId) (f g : Nat → Int32) (ent ret cnt per cng pnd msk sr sav tkn : Int32) (en rn : Nat) (he : ent = nI en) (h32 : en ≤ 32) (hrn : ret = nI rn) :
    Met l yX0_until wsX0_until ({ frames := 3, cells := 0, slots := 0, locals := 63 }) (va_Pc [.ref h0] (rt_pre dC dI (rt_xw h0 a1 a2 k1 k2 f g ent ret cnt per cng pnd msk sr sav tkn) [(k1, .int), (k2, .int)] sz)) (va_Qi (fun (v : Int32) (u : Unit) => v = rt_un f g en rn cnt per cng pnd msk sr) (rt_post dC dI [(k1, .int), (k2, .int)] (va_A (rt_xw h0 a1 a2 k1 k2 f g ent ret cnt per cng pnd msk sr sav tkn) sz) (fun (u : Unit) => rt_xw h0 a1 a2 k1 k2 f g ent ret cnt per cng pnd msk sr sav tkn)) (va_A (rt_xw h0 a1 a2 k1 k2 f g ent ret cnt per cng pnd msk sr sav tkn) sz)) 0 0 (va_A (rt_xw h0 a1 a2 k1 k2 f g ent ret cnt per cng pnd msk sr sav tkn) sz) := by
  subst he
  subst hrn
  refine Met.ofW (cc := cX0_until) (maxL := 3) (ret := (some .int)) (by decide) rfl ?_
  intro p e0 s m args below meth c s₁ B hml hv
  obtain ⟨rfl, hsz, hP, hK, hD0⟩ := hv
  have hx := B.exec
  have hb := B.bytes
  have hr := B.returns
  have hts := atoms_spec (ws := wsX0_until) B.pre
  have hown : s.vm.findClass RX0 = some m.cls := findClass_of_methodNamed B.named
  have hlocks := B.notSynchronized
  subst hsz
  have hD := hD0.self (sz := s.heap.size)
  generalize hAe : va_A (rt_xw h0 a1 a2 k1 k2 f g (nI en) (nI rn) cnt per cng pnd msk sr sav tkn) s.heap.size = A at hD ⊢
  have hA : ∀ q : Nat, s.heap.size ≤ q → A q := fun q h => by rw [← hAe]; exact Or.inr h
  have hS : va_S A s.heap s.heap [] := va_S.rf
  have hP : va_P (dC, dI) vwCl (rt_xw h0 a1 a2 k1 k2 f g (nI en) (nI rn) cnt per cng pnd msk sr sav tkn) s.heap := hP
  have hl := lv_entry ([.ref h0]) (n := 3) (Nat.le_of_ble_eq_true rfl)
  rw [lg_entry_eq]
  generalize (lg_sl ([.ref h0]) ++ List.replicate (3 - (lg_sl ([.ref h0])).length) Slot.unset).toArray = ls at hl ⊢
  have hl : lv_has ls 3 [(0, .ref h0)] := hl
  refine lv_aload_n hx hb dX0_until_0 rfl (lv_at hl 0 rfl) ?_
  have hFc := va_free (wc := rt_xw h0 a1 a2 k1 k2 f g (nI en) (nI rn) cnt per cng pnd msk sr sav tkn) hD hS hA [0, 1, 2] rfl
  refine va_calll (va_runV (As := []) (rest := []) ⟨hx, hb, hml, hown, hts⟩ (c_X_distanceToInterrupt l dC dI h0 a1 a2 s.heap.size k1 k2 f g (nI en) (nI rn) cnt per cng pnd msk sr sav tkn en rfl h32) (cwV 0 hts gX0_until_X0_distanceToInterrupt rfl rfl rfl (by decide +kernel) ⟨Nat.le_of_ble_eq_true rfl, Nat.le_of_ble_eq_true rfl⟩) ⟨fun a U g mk q => by obtain ⟨q0, q1, qP, qK, qD⟩ := q; exact ⟨q0, q1, qP, va_K.moved (u := U) (U := U.calling g mk a) (Vm.Alike.refl U.vm) qK, qD⟩, va_recv hK hP (ci := 0) (q0 := 0) rfl rfl, fun U hU hW => ⟨rfl, by rw [hU], by rw [hU]; exact hP, va_K.moved hW.alike hK, hD.weaken (fun _ _ _ _ => trivial)⟩⟩ rfl rfl hl.1 rfl (lv_room (Nat.le_of_ble_eq_true rfl)) dX0_until_1 ⟨Nat.zero_le _, Nat.zero_le _⟩) hS (fun q _ h => hFc q h) hFc (fun r_1 u t H1 locs ht hvm hw_1 hB hz1 hk1 hS => ?_)
  obtain ⟨hP1, hK1, hD1⟩ := hB
  rw [ht] at hP1
  try dsimp only at hw_1 hP1 hD1
  obtain ⟨hP, hD⟩ := va_join (wr := []) (w1 := rt_xw h0 a1 a2 k1 k2 f g (nI en) (nI rn) cnt per cng pnd msk sr sav tkn) hP hD [0, 1, 2] [] rfl rfl (by decide) (by decide) hk1 hFc hP1 hD1
  generalize H1 = H at hP hS ⊢
  have hP : va_P (dC, dI) vwCl (rt_xw h0 a1 a2 k1 k2 f g (nI en) (nI rn) cnt per cng pnd msk sr sav tkn) H := hP
  have hD : va_D A (rt_xw h0 a1 a2 k1 k2 f g (nI en) (nI rn) cnt per cng pnd msk sr sav tkn) := hD
  refine lv_lstore_n (lv' := [(1, .long r_1), (0, .ref h0)]) hx hb dX0_until_4 rfl hl (by decide) rfl (fun ls hl => ?_)
  refine lv_lload_n hx hb dX0_until_5 rfl (lv_at hl 0 rfl) ?_
  refine lv_ldc (v := 2147483647) hx hb hown (hts (.constant RX0 27 2147483647) (by decide +kernel)) dX0_until_6 ?_
  refine lv_aload_n hx hb dX0_until_8 rfl (lv_at hl 1 rfl) ?_
  refine va_get (D := (dC, dI)) (ci := 0) (v := .int (nI rn)) (C := RX0) (T := TX0) (N := 12) hx hb hts (fun _ h => List.mem_cons_of_mem _ (List.mem_append_right _ h)) hown hK hP 0 rfl rfl 3 (by decide) (hts (.fieldLink RX0 28 "RetiredTimer" "retired" "I") (by decide +kernel)) (fun _ h9 => h9) rfl dX0_until_9 ?_
  refine lv_isub hx hb dX0_until_12 ?_
  refine lv_i2l (v := (2147483647 - (nI rn)).toInt64) hx hb dX0_until_13 rfl ?_
  refine W.lcmp hx hb dX0_until_14 ?_
  refine lv_if_gt (tgt := 23) hx hb dX0_until_15 (by decide) (fun c_15 => ?_) (fun c_15 => ?_)
  · refine lv_iconst (v := -1) hx hb dX0_until_23 (by decide) ?_
    exact W.iret (v := (-1)) hx hb hr (fun t ht hW => ⟨⟨(-1), (), rfl, by unfold rt_un; rw [← hw_1, if_neg (rt_ltL ((lg_cmp_gt _ _).mp c_15))], by rw [ht]; exact hP, va_K.moved hW.alike hK, hD⟩, hS.F ht⟩) hS.2.2 dX0_until_24
  · refine lv_lload_n hx hb dX0_until_18 rfl (lv_at hl 0 rfl) ?_
    refine lv_l2i (v := r_1.toInt32) hx hb dX0_until_19 rfl ?_
    refine lv_goto (tgt := 24) hx hb dX0_until_20 (by decide) ?_
    exact W.iret (v := r_1.toInt32) hx hb hr (fun t ht hW => ⟨⟨r_1.toInt32, (), rfl, by unfold rt_un; rw [← hw_1, if_pos (rt_nltL (fun h => c_15 ((lg_cmp_gt _ _).mpr h)))], by rw [ht]; exact hP, va_K.moved hW.alike hK, hD⟩, hS.F ht⟩) hS.2.2 dX0_until_24
set_option maxHeartbeats 4000000 in
set_option maxRecDepth 100000 in
theorem c_X_entry (l : Launch) (dC : Nat → ClassId) (dI : Nat → Nat → Nat) (h0 a1 a2 sz : Nat) (k1 k2 : ClassId) (f g : Nat → Int32) (ent ret cnt per cng pnd msk sr sav tkn : Int32) (p1 : Int32) (p2 : Int32) (en : Nat) (he : ent = nI en) (h32 : en ≤ 32) :
    Met l yX0_entry wsX0_entry ({ frames := 1, cells := 0, slots := 0, locals := 20 }) (va_Pc [.ref h0, .int p1, .int p2] (rt_pre dC dI (rt_xw h0 a1 a2 k1 k2 f g ent ret cnt per cng pnd msk sr sav tkn) [(k1, .int), (k2, .int)] sz)) (va_Qi (fun (v : Int32) (u : (Nat → Int32) × (Nat → Int32) × Int32) => (rt_ref f en p1 ∧ v = 0 ∧ u.1 = f ∧ u.2.1 = g ∧ u.2.2 = nI en) ∨ (¬ rt_ref f en p1 ∧ v = 1 ∧ u.1 = upd f en p1 ∧ u.2.1 = upd g en p2 ∧ u.2.2 = nI (en + 1))) (rt_post dC dI [(k1, .int), (k2, .int)] (va_A (rt_xw h0 a1 a2 k1 k2 f g ent ret cnt per cng pnd msk sr sav tkn) sz) (fun (u : (Nat → Int32) × (Nat → Int32) × Int32) => rt_xw h0 a1 a2 k1 k2 u.1 u.2.1 u.2.2 ret cnt per cng pnd msk sr sav tkn)) (va_A (rt_xw h0 a1 a2 k1 k2 f g ent ret cnt per cng pnd msk sr sav tkn) sz)) 0 0 (va_A (rt_xw h0 a1 a2 k1 k2 f g ent ret cnt per cng pnd msk sr sav tkn) sz) := by
  subst he
  refine Met.ofW (cc := cX0_entry) (maxL := 3) (ret := (some .boolean)) (by decide) rfl ?_
  intro p e0 s m args below meth c s₁ B hml hv
  obtain ⟨rfl, hsz, hP, hK, hD0⟩ := hv
  have hx := B.exec
  have hb := B.bytes
  have hr := B.returns
  have hts := atoms_spec (ws := wsX0_entry) B.pre
  have hown : s.vm.findClass RX0 = some m.cls := findClass_of_methodNamed B.named
  have hlocks := B.notSynchronized
  subst hsz
  have hD := hD0.self (sz := s.heap.size)
  generalize hAe : va_A (rt_xw h0 a1 a2 k1 k2 f g (nI en) ret cnt per cng pnd msk sr sav tkn) s.heap.size = A at hD ⊢
  have hA : ∀ q : Nat, s.heap.size ≤ q → A q := fun q h => by rw [← hAe]; exact Or.inr h
  have hS : va_S A s.heap s.heap [] := va_S.rf
  have hP : va_P (dC, dI) vwCl (rt_xw h0 a1 a2 k1 k2 f g (nI en) ret cnt per cng pnd msk sr sav tkn) s.heap := hP
  have hl := lv_entry ([.ref h0, .int p1, .int p2]) (n := 3) (Nat.le_of_ble_eq_true rfl)
  rw [lg_entry_eq]
  generalize (lg_sl ([.ref h0, .int p1, .int p2]) ++ List.replicate (3 - (lg_sl ([.ref h0, .int p1, .int p2])).length) Slot.unset).toArray = ls at hl ⊢
  have hl : lv_has ls 3 [(0, .ref h0), (1, .int p1), (2, .int p2)] := hl
  refine lv_aload_n hx hb dX0_entry_0 rfl (lv_at hl 0 rfl) ?_
  refine va_get (D := (dC, dI)) (ci := 0) (v := .int (nI en)) (C := RX0) (T := TX0) (N := 12) hx hb hts (fun _ h => List.mem_cons_of_mem _ (List.mem_append_right _ h)) hown hK hP 0 rfl rfl 2 (by decide) (hts (.fieldLink RX0 19 "RetiredTimer" "entries" "I") (by decide +kernel)) (fun _ h9 => h9) rfl dX0_entry_1 ?_
  refine lv_bipush (v := 32) hx hb dX0_entry_4 (by decide) ?_
  refine lv_icmp_ge (tgt := 17) hx hb dX0_entry_6 (by decide) (fun c_6 => ?_) (fun c_6 => ?_)
  · refine lv_iconst (v := 0) hx hb dX0_entry_17 (by decide) ?_
    exact W.zret (v := 0) hx hb hr rfl (fun t ht hW => ⟨⟨0, (f, g, (nI en)), rfl, Or.inl ⟨Or.inl (rt_full h32 c_6), rfl, rfl, rfl, rfl⟩, by rw [ht]; exact hP, va_K.moved hW.alike hK, hD⟩, hS.F ht⟩) hS.2.2 dX0_entry_18
  · refine lv_iload_n hx hb dX0_entry_9 rfl (lv_at hl 1 rfl) ?_
    refine lv_aload_n hx hb dX0_entry_10 rfl (lv_at hl 0 rfl) ?_
    have hFc := va_free (wc := rt_xw h0 a1 a2 k1 k2 f g (nI en) ret cnt per cng pnd msk sr sav tkn) hD hS hA [0, 1, 2] rfl
    refine va_calli (va_runV (As := []) (rest := [.int p1]) ⟨hx, hb, hml, hown, hts⟩ (c_X_lastEntryCount l dC dI h0 a1 a2 s.heap.size k1 k2 f g (nI en) ret cnt per cng pnd msk sr sav tkn en rfl h32) (cwV 0 hts gX0_entry_X0_lastEntryCount rfl rfl rfl (by decide +kernel) ⟨Nat.le_of_ble_eq_true rfl, Nat.le_of_ble_eq_true rfl⟩) ⟨fun a U g mk q => by obtain ⟨q0, q1, qP, qK, qD⟩ := q; exact ⟨q0, q1, qP, va_K.moved (u := U) (U := U.calling g mk a) (Vm.Alike.refl U.vm) qK, qD⟩, va_recv hK hP (ci := 0) (q0 := 0) rfl rfl, fun U hU hW => ⟨rfl, by rw [hU], by rw [hU]; exact hP, va_K.moved hW.alike hK, hD.weaken (fun _ _ _ _ => trivial)⟩⟩ rfl rfl hl.1 rfl (lv_room (Nat.le_of_ble_eq_true rfl)) dX0_entry_11 ⟨Nat.zero_le _, Nat.zero_le _⟩) hS (fun q _ h => hFc q h) hFc (fun r_11 u t H1 locs ht hvm hw_11 hB hz1 hk1 hS => ?_)
    obtain ⟨hP1, hK1, hD1⟩ := hB
    rw [ht] at hP1
    try dsimp only at hw_11 hP1 hD1
    obtain ⟨hP, hD⟩ := va_join (wr := []) (w1 := rt_xw h0 a1 a2 k1 k2 f g (nI en) ret cnt per cng pnd msk sr sav tkn) hP hD [0, 1, 2] [] rfl rfl (by decide) (by decide) hk1 hFc hP1 hD1
    generalize H1 = H at hP hS ⊢
    have hP : va_P (dC, dI) vwCl (rt_xw h0 a1 a2 k1 k2 f g (nI en) ret cnt per cng pnd msk sr sav tkn) H := hP
    have hD : va_D A (rt_xw h0 a1 a2 k1 k2 f g (nI en) ret cnt per cng pnd msk sr sav tkn) := hD
    refine lv_icmp_gt (tgt := 19) hx hb dX0_entry_14 (by decide) (fun c_14 => ?_) (fun c_14 => ?_)
    · have hlt : en < 32 := rt_nfull h32 c_6
      refine lv_aload_n hx hb dX0_entry_19 rfl (lv_at hl 0 rfl) ?_
      refine va_get (D := (dC, dI)) (ci := 0) (v := .ref a1) (C := RX0) (T := TX0) (N := 12) hx hb hts (fun _ h => List.mem_cons_of_mem _ (List.mem_append_right _ h)) hown hK hP 0 rfl rfl 0 (by decide) (hts (.fieldLink RX0 9 "RetiredTimer" "entryCounts" "[I") (by decide +kernel)) (fun _ h9 => h9) rfl dX0_entry_20 ?_
      refine lv_aload_n hx hb dX0_entry_23 rfl (lv_at hl 0 rfl) ?_
      refine va_get (D := (dC, dI)) (ci := 0) (v := .int (nI en)) (C := RX0) (T := TX0) (N := 12) hx hb hts (fun _ h => List.mem_cons_of_mem _ (List.mem_append_right _ h)) hown hK hP 0 rfl rfl 2 (by decide) (hts (.fieldLink RX0 19 "RetiredTimer" "entries" "I") (by decide +kernel)) (fun _ h9 => h9) rfl dX0_entry_24 ?_
      refine lv_iload_n hx hb dX0_entry_27 rfl (lv_at hl 1 rfl) ?_
      refine va_iast hx hb hK hP hD hS 1 0 rfl rfl (vp_in_nI (N := 32) hlt (by decide)) dX0_entry_28 (fun H locs hP hD hS => ?_)
      have hP : va_P (dC, dI) vwCl (rt_xw h0 a1 a2 k1 k2 (upd f (nI en).toNatClampNeg p1) g (nI en) ret cnt per cng pnd msk sr sav tkn) H := hP
      have hD : va_D A (rt_xw h0 a1 a2 k1 k2 (upd f (nI en).toNatClampNeg p1) g (nI en) ret cnt per cng pnd msk sr sav tkn) := hD
      rw [show (nI en).toNatClampNeg = en from nI_clamp (by omega)] at hP hD
      refine lv_aload_n hx hb dX0_entry_29 rfl (lv_at hl 0 rfl) ?_
      refine va_get (D := (dC, dI)) (ci := 0) (v := .ref a2) (C := RX0) (T := TX0) (N := 12) hx hb hts (fun _ h => List.mem_cons_of_mem _ (List.mem_append_right _ h)) hown hK hP 0 rfl rfl 1 (by decide) (hts (.fieldLink RX0 13 "RetiredTimer" "entryLines" "[I") (by decide +kernel)) (fun _ h9 => h9) rfl dX0_entry_30 ?_
      refine lv_aload_n hx hb dX0_entry_33 rfl (lv_at hl 0 rfl) ?_
      refine va_get (D := (dC, dI)) (ci := 0) (v := .int (nI en)) (C := RX0) (T := TX0) (N := 12) hx hb hts (fun _ h => List.mem_cons_of_mem _ (List.mem_append_right _ h)) hown hK hP 0 rfl rfl 2 (by decide) (hts (.fieldLink RX0 19 "RetiredTimer" "entries" "I") (by decide +kernel)) (fun _ h9 => h9) rfl dX0_entry_34 ?_
      refine lv_iload_n hx hb dX0_entry_37 rfl (lv_at hl 2 rfl) ?_
      refine va_iast hx hb hK hP hD hS 2 1 rfl rfl (vp_in_nI (N := 32) hlt (by decide)) dX0_entry_38 (fun H locs hP hD hS => ?_)
      have hP : va_P (dC, dI) vwCl (rt_xw h0 a1 a2 k1 k2 (upd f en p1) (upd g (nI en).toNatClampNeg p2) (nI en) ret cnt per cng pnd msk sr sav tkn) H := hP
      have hD : va_D A (rt_xw h0 a1 a2 k1 k2 (upd f en p1) (upd g (nI en).toNatClampNeg p2) (nI en) ret cnt per cng pnd msk sr sav tkn) := hD
      rw [show (nI en).toNatClampNeg = en from nI_clamp (by omega)] at hP hD
      refine lv_aload_n hx hb dX0_entry_39 rfl (lv_at hl 0 rfl) ?_
      refine lv_dup hx hb dX0_entry_40 rfl ?_
      refine va_get (D := (dC, dI)) (ci := 0) (v := .int (nI en)) (C := RX0) (T := TX0) (N := 12) hx hb hts (fun _ h => List.mem_cons_of_mem _ (List.mem_append_right _ h)) hown hK hP 0 rfl rfl 2 (by decide) (hts (.fieldLink RX0 19 "RetiredTimer" "entries" "I") (by decide +kernel)) (fun _ h9 => h9) rfl dX0_entry_41 ?_
      refine lv_iconst (v := 1) hx hb dX0_entry_44 (by decide) ?_
      refine lv_iadd hx hb dX0_entry_45 ?_
      refine va_put (D := (dC, dI)) (ci := 0) (v := .int ((nI en) + 1)) (ty := .int) (C := RX0) (T := TX0) (N := 12) hx hb hts (fun _ h => List.mem_cons_of_mem _ (List.mem_append_right _ h)) tyX0 tyX0_ok nmX0 hown hK hP hD hS 0 rfl rfl 2 (by decide) (hts (.fieldLink RX0 19 "RetiredTimer" "entries" "I") (by decide +kernel)) (fun _ h9 => h9) rfl (by decide +kernel) rfl rfl (Nat.le_of_ble_eq_true rfl) dX0_entry_46 (fun H locs hP hD hS => ?_)
      have hP : va_P (dC, dI) vwCl (rt_xw h0 a1 a2 k1 k2 (upd f en p1) (upd g en p2) ((nI en) + 1) ret cnt per cng pnd msk sr sav tkn) H := hP
      have hD : va_D A (rt_xw h0 a1 a2 k1 k2 (upd f en p1) (upd g en p2) ((nI en) + 1) ret cnt per cng pnd msk sr sav tkn) := hD
      refine lv_iconst (v := 1) hx hb dX0_entry_49 (by decide) ?_
      exact W.zret (v := 1) hx hb hr rfl (fun t ht hW => ⟨⟨1, (upd f en p1, upd g en p2, (nI en) + 1), rfl, Or.inr ⟨fun h => h.elim (fun h => by omega) (fun h => rt_nle2 h (hw_11 ▸ c_14)), rfl, rfl, rfl, nI_1 en⟩, by rw [ht]; exact hP, va_K.moved hW.alike hK, hD⟩, hS.F ht⟩) hS.2.2 dX0_entry_50
    · refine lv_iconst (v := 0) hx hb dX0_entry_17 (by decide) ?_
      exact W.zret (v := 0) hx hb hr rfl (fun t ht hW => ⟨⟨0, (f, g, (nI en)), rfl, Or.inl ⟨Or.inr (hw_11 ▸ rt_nlt c_14), rfl, rfl, rfl, rfl⟩, by rw [ht]; exact hP, va_K.moved hW.alike hK, hD⟩, hS.F ht⟩) hS.2.2 dX0_entry_18
set_option maxHeartbeats 4000000 in
set_option maxRecDepth 100000 in
theorem c_X_entryOf (l : Launch) (dC : Nat → ClassId) (dI : Nat → Nat → Nat) (h0 a1 a2 sz : Nat) (k1 k2 : ClassId) (f g : Nat → Int32) (ent ret cnt per cng pnd msk sr sav tkn : Int32) (p1 : Int32) (p2 : Int32) (en : Nat) (he : ent = nI en) (h32 : en ≤ 32) :
    Met l yX0_entryOf wsX0_entryOf ({ frames := 0, cells := 0, slots := 0, locals := 0 }) (va_Pc [.ref h0, .int p1, .int p2] (rt_pre dC dI (rt_xw h0 a1 a2 k1 k2 f g ent ret cnt per cng pnd msk sr sav tkn) [(k1, .int), (k2, .int)] sz)) (va_Qi (fun (v : Int32) (u : Unit) => v = rt_eo f g en p1 p2) (rt_post dC dI [(k1, .int), (k2, .int)] (va_A (rt_xw h0 a1 a2 k1 k2 f g ent ret cnt per cng pnd msk sr sav tkn) sz) (fun (u : Unit) => rt_xw h0 a1 a2 k1 k2 f g ent ret cnt per cng pnd msk sr sav tkn)) (va_A (rt_xw h0 a1 a2 k1 k2 f g ent ret cnt per cng pnd msk sr sav tkn) sz)) 0 0 (va_A (rt_xw h0 a1 a2 k1 k2 f g ent ret cnt per cng pnd msk sr sav tkn) sz) := by
  subst he
  refine Met.ofW (cc := cX0_entryOf) (maxL := 3) (ret := (some .int)) (by decide) rfl ?_
  intro p e0 s m args below meth c s₁ B hml hv
  obtain ⟨rfl, hsz, hP, hK, hD0⟩ := hv
  have hx := B.exec
  have hb := B.bytes
  have hr := B.returns
  have hts := atoms_spec (ws := wsX0_entryOf) B.pre
  have hown : s.vm.findClass RX0 = some m.cls := findClass_of_methodNamed B.named
  have hlocks := B.notSynchronized
  subst hsz
  have hD := hD0.self (sz := s.heap.size)
  generalize hAe : va_A (rt_xw h0 a1 a2 k1 k2 f g (nI en) ret cnt per cng pnd msk sr sav tkn) s.heap.size = A at hD ⊢
  have hA : ∀ q : Nat, s.heap.size ≤ q → A q := fun q h => by rw [← hAe]; exact Or.inr h
  have hS : va_S A s.heap s.heap [] := va_S.rf
  have hP : va_P (dC, dI) vwCl (rt_xw h0 a1 a2 k1 k2 f g (nI en) ret cnt per cng pnd msk sr sav tkn) s.heap := hP
  have hl := lv_entry ([.ref h0, .int p1, .int p2]) (n := 3) (Nat.le_of_ble_eq_true rfl)
  rw [lg_entry_eq]
  generalize (lg_sl ([.ref h0, .int p1, .int p2]) ++ List.replicate (3 - (lg_sl ([.ref h0, .int p1, .int p2])).length) Slot.unset).toArray = ls at hl ⊢
  have hl : lv_has ls 3 [(0, .ref h0), (1, .int p1), (2, .int p2)] := hl
  refine lv_iload_n hx hb dX0_entryOf_0 rfl (lv_at hl 1 rfl) ?_
  refine lv_if_lt (tgt := 18) hx hb dX0_entryOf_1 (by decide) (fun c_1 => ?_) (fun c_1 => ?_)
  · refine lv_iconst (v := -1) hx hb dX0_entryOf_18 (by decide) ?_
    exact W.iret (v := (-1)) hx hb hr (fun t ht hW => ⟨⟨(-1), (), rfl, by unfold rt_eo; rw [if_pos (Or.inl c_1)], by rw [ht]; exact hP, va_K.moved hW.alike hK, hD⟩, hS.F ht⟩) hS.2.2 dX0_entryOf_19
  · refine lv_iload_n hx hb dX0_entryOf_4 rfl (lv_at hl 1 rfl) ?_
    refine lv_aload_n hx hb dX0_entryOf_5 rfl (lv_at hl 0 rfl) ?_
    refine va_get (D := (dC, dI)) (ci := 0) (v := .int (nI en)) (C := RX0) (T := TX0) (N := 12) hx hb hts (fun _ h => List.mem_cons_of_mem _ (List.mem_append_right _ h)) hown hK hP 0 rfl rfl 2 (by decide) (hts (.fieldLink RX0 19 "RetiredTimer" "entries" "I") (by decide +kernel)) (fun _ h9 => h9) rfl dX0_entryOf_6 ?_
    refine lv_icmp_ge (tgt := 18) hx hb dX0_entryOf_9 (by decide) (fun c_9 => ?_) (fun c_9 => ?_)
    · refine lv_iconst (v := -1) hx hb dX0_entryOf_18 (by decide) ?_
      exact W.iret (v := (-1)) hx hb hr (fun t ht hW => ⟨⟨(-1), (), rfl, by unfold rt_eo; rw [if_pos (Or.inr c_9)], by rw [ht]; exact hP, va_K.moved hW.alike hK, hD⟩, hS.F ht⟩) hS.2.2 dX0_entryOf_19
    · refine lv_iload_n hx hb dX0_entryOf_12 rfl (lv_at hl 1 rfl) ?_
      refine lv_bipush (v := 32) hx hb dX0_entryOf_13 (by decide) ?_
      refine lv_icmp_lt (tgt := 20) hx hb dX0_entryOf_15 (by decide) (fun c_15 => ?_) (fun c_15 => absurd (rt_lt32 h32 c_9) c_15)
      refine lv_iload_n hx hb dX0_entryOf_20 rfl (lv_at hl 2 rfl) ?_
      refine lv_if_eq (tgt := 33) hx hb dX0_entryOf_21 (by decide) (fun c_21 => ?_) (fun c_21 => ?_)
      · refine lv_aload_n hx hb dX0_entryOf_33 rfl (lv_at hl 0 rfl) ?_
        refine va_get (D := (dC, dI)) (ci := 0) (v := .ref a1) (C := RX0) (T := TX0) (N := 12) hx hb hts (fun _ h => List.mem_cons_of_mem _ (List.mem_append_right _ h)) hown hK hP 0 rfl rfl 0 (by decide) (hts (.fieldLink RX0 9 "RetiredTimer" "entryCounts" "[I") (by decide +kernel)) (fun _ h9 => h9) rfl dX0_entryOf_34 ?_
        refine lv_iload_n hx hb dX0_entryOf_37 rfl (lv_at hl 1 rfl) ?_
        refine va_iald hx hb hK hP 1 0 rfl rfl (rt_idx h32 c_1 c_9) dX0_entryOf_38 ?_
        exact W.iret (v := f p1.toNatClampNeg) hx hb hr (fun t ht hW => ⟨⟨f p1.toNatClampNeg, (), rfl, by unfold rt_eo; rw [if_neg (fun h => h.elim c_1 c_9), if_pos c_21], by rw [ht]; exact hP, va_K.moved hW.alike hK, hD⟩, hS.F ht⟩) hS.2.2 dX0_entryOf_39
      · refine lv_aload_n hx hb dX0_entryOf_24 rfl (lv_at hl 0 rfl) ?_
        refine va_get (D := (dC, dI)) (ci := 0) (v := .ref a2) (C := RX0) (T := TX0) (N := 12) hx hb hts (fun _ h => List.mem_cons_of_mem _ (List.mem_append_right _ h)) hown hK hP 0 rfl rfl 1 (by decide) (hts (.fieldLink RX0 13 "RetiredTimer" "entryLines" "[I") (by decide +kernel)) (fun _ h9 => h9) rfl dX0_entryOf_25 ?_
        refine lv_iload_n hx hb dX0_entryOf_28 rfl (lv_at hl 1 rfl) ?_
        refine va_iald hx hb hK hP 2 1 rfl rfl (rt_idx h32 c_1 c_9) dX0_entryOf_29 ?_
        refine lv_goto (tgt := 39) hx hb dX0_entryOf_30 (by decide) ?_
        exact W.iret (v := g p1.toNatClampNeg) hx hb hr (fun t ht hW => ⟨⟨g p1.toNatClampNeg, (), rfl, by unfold rt_eo; rw [if_neg (fun h => h.elim c_1 c_9), if_neg c_21], by rw [ht]; exact hP, va_K.moved hW.alike hK, hD⟩, hS.F ht⟩) hS.2.2 dX0_entryOf_39
