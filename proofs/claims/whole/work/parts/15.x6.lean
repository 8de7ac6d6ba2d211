set_option maxHeartbeats 4000000 in
set_option maxRecDepth 100000 in
theorem c_X_look (l : Launch) (dC : Nat → ClassId) (dI : Nat → Nat → Nat) (h0 a1 a2 sz : Nat) (k1 k2 : ClassId) (f g : Nat → Int32) (ent ret cnt per cng pnd msk sr sav tkn : Int32) (p1 : Int32) (en rn : Nat) (he : ent = nI en) (h32 : en ≤ 32) (hrn : ret = nI rn) :
    Met l yX0_look wsX0_look ({ frames := 2, cells := 0, slots := 0, locals := 43 }) (va_Pc [.ref h0, .int p1] (rt_pre dC dI (rt_xw h0 a1 a2 k1 k2 f g ent ret cnt per cng pnd msk sr sav tkn) [(k1, .int), (k2, .int)] sz)) (va_Qi (fun (v : Int32) (u : Unit) => (∃ j, j < 12 ∧ p1 = nI j ∧ v = rt_lk en rn cnt per cng pnd msk sr sav tkn (rt_pl f g ret en) j) ∨ ((p1 < 0 ∨ nI 12 ≤ p1) ∧ v = -1)) (rt_post dC dI [(k1, .int), (k2, .int)] (va_A (rt_xw h0 a1 a2 k1 k2 f g ent ret cnt per cng pnd msk sr sav tkn) sz) (fun (u : Unit) => rt_xw h0 a1 a2 k1 k2 f g ent ret cnt per cng pnd msk sr sav tkn)) (va_A (rt_xw h0 a1 a2 k1 k2 f g ent ret cnt per cng pnd msk sr sav tkn) sz)) 0 0 (va_A (rt_xw h0 a1 a2 k1 k2 f g ent ret cnt per cng pnd msk sr sav tkn) sz) := by
  subst he
  subst hrn
  refine Met.ofW (cc := cX0_look) (maxL := 2) (ret := (some .int)) (by decide) rfl ?_
  intro p e0 s m args below meth c s₁ B hml hv
  obtain ⟨rfl, hsz, hP, hK, hD0⟩ := hv
  have hx := B.exec
  have hb := B.bytes
  have hr := B.returns
  have hts := atoms_spec (ws := wsX0_look) B.pre
  have hown : s.vm.findClass RX0 = some m.cls := findClass_of_methodNamed B.named
  have hlocks := B.notSynchronized
  subst hsz
  have hD := hD0.self (sz := s.heap.size)
  generalize hAe : va_A (rt_xw h0 a1 a2 k1 k2 f g (nI en) (nI rn) cnt per cng pnd msk sr sav tkn) s.heap.size = A at hD ⊢
  have hA : ∀ q : Nat, s.heap.size ≤ q → A q := fun q h => by rw [← hAe]; exact Or.inr h
  have hS : va_S A s.heap s.heap [] := va_S.rf
  have hP : va_P (dC, dI) vwCl (rt_xw h0 a1 a2 k1 k2 f g (nI en) (nI rn) cnt per cng pnd msk sr sav tkn) s.heap := hP
  have hl := lv_entry ([.ref h0, .int p1]) (n := 2) (Nat.le_of_ble_eq_true rfl)
  rw [lg_entry_eq]
  generalize (lg_sl ([.ref h0, .int p1]) ++ List.replicate (2 - (lg_sl ([.ref h0, .int p1])).length) Slot.unset).toArray = ls at hl ⊢
  have hl : lv_has ls 2 [(0, .ref h0), (1, .int p1)] := hl
  refine lv_iload_n hx hb dX0_look_0 rfl (lv_at hl 1 rfl) ?_
  rcases pk_ix p1 (n := 12) (by decide) with hn | hn | ⟨j, hj, rfl⟩
  · refine lv_tableOut (tgt := 144) hx hb dX0_look_1 (rt_out (Or.inl hn)) (by decide) ?_
    refine lv_iconst (v := -1) hx hb dX0_look_144 (by decide) ?_
    exact W.iret (v := (-1)) hx hb hr (fun t ht hW => ⟨⟨(-1), (), rfl, Or.inr ⟨Or.inl hn, rfl⟩, by rw [ht]; exact hP, va_K.moved hW.alike hK, hD⟩, hS.F ht⟩) hS.2.2 dX0_look_145
  · refine lv_tableOut (tgt := 144) hx hb dX0_look_1 (rt_out (Or.inr hn)) (by decide) ?_
    refine lv_iconst (v := -1) hx hb dX0_look_144 (by decide) ?_
    exact W.iret (v := (-1)) hx hb hr (fun t ht hW => ⟨⟨(-1), (), rfl, Or.inr ⟨Or.inr hn, rfl⟩, by rw [ht]; exact hP, va_K.moved hW.alike hK, hD⟩, hS.F ht⟩) hS.2.2 dX0_look_145
  · rcases (show j = 0 ∨ j = 1 ∨ j = 2 ∨ j = 3 ∨ j = 4 ∨ j = 5 ∨ j = 6 ∨ j = 7 ∨ j = 8 ∨ j = 9 ∨ j = 10 ∨ j = 11 by omega) with rfl | rfl | rfl | rfl | rfl | rfl | rfl | rfl | rfl | rfl | rfl | rfl
    · refine lv_tableIn (off := 63) (tgt := 64) hx hb dX0_look_1 (by decide +kernel) (by decide +kernel) (by decide +kernel) (by decide) ?_
      refine lv_aload_n hx hb dX0_look_64 rfl (lv_at hl 0 rfl) ?_
      refine va_get (D := (dC, dI)) (ci := 0) (v := .int (nI rn)) (C := RX0) (T := TX0) (N := 12) hx hb hts (fun _ h => List.mem_cons_of_mem _ (List.mem_append_right _ h)) hown hK hP 0 rfl rfl 3 (by decide) (hts (.fieldLink RX0 28 "RetiredTimer" "retired" "I") (by decide +kernel)) (fun _ h9 => h9) rfl dX0_look_65 ?_
      exact W.iret (v := (nI rn)) hx hb hr (fun t ht hW => ⟨⟨(nI rn), (), rfl, Or.inl ⟨0, by decide, rfl, rfl⟩, by rw [ht]; exact hP, va_K.moved hW.alike hK, hD⟩, hS.F ht⟩) hS.2.2 dX0_look_68
    · refine lv_tableIn (off := 68) (tgt := 69) hx hb dX0_look_1 (by decide +kernel) (by decide +kernel) (by decide +kernel) (by decide) ?_
      refine lv_aload_n hx hb dX0_look_69 rfl (lv_at hl 0 rfl) ?_
      refine va_get (D := (dC, dI)) (ci := 0) (v := .int cnt) (C := RX0) (T := TX0) (N := 12) hx hb hts (fun _ h => List.mem_cons_of_mem _ (List.mem_append_right _ h)) hown hK hP 0 rfl rfl 4 (by decide) (hts (.fieldLink RX0 65 "RetiredTimer" "count" "I") (by decide +kernel)) (fun _ h9 => h9) rfl dX0_look_70 ?_
      exact W.iret (v := cnt) hx hb hr (fun t ht hW => ⟨⟨cnt, (), rfl, Or.inl ⟨1, by decide, rfl, rfl⟩, by rw [ht]; exact hP, va_K.moved hW.alike hK, hD⟩, hS.F ht⟩) hS.2.2 dX0_look_73
    · refine lv_tableIn (off := 73) (tgt := 74) hx hb dX0_look_1 (by decide +kernel) (by decide +kernel) (by decide +kernel) (by decide) ?_
      refine lv_aload_n hx hb dX0_look_74 rfl (lv_at hl 0 rfl) ?_
      refine va_get (D := (dC, dI)) (ci := 0) (v := .int per) (C := RX0) (T := TX0) (N := 12) hx hb hts (fun _ h => List.mem_cons_of_mem _ (List.mem_append_right _ h)) hown hK hP 0 rfl rfl 5 (by decide) (hts (.fieldLink RX0 55 "RetiredTimer" "period" "I") (by decide +kernel)) (fun _ h9 => h9) rfl dX0_look_75 ?_
      exact W.iret (v := per) hx hb hr (fun t ht hW => ⟨⟨per, (), rfl, Or.inl ⟨2, by decide, rfl, rfl⟩, by rw [ht]; exact hP, va_K.moved hW.alike hK, hD⟩, hS.F ht⟩) hS.2.2 dX0_look_78
    · refine lv_tableIn (off := 78) (tgt := 79) hx hb dX0_look_1 (by decide +kernel) (by decide +kernel) (by decide +kernel) (by decide) ?_
      refine lv_aload_n hx hb dX0_look_79 rfl (lv_at hl 0 rfl) ?_
      refine va_get (D := (dC, dI)) (ci := 0) (v := .int pnd) (C := RX0) (T := TX0) (N := 12) hx hb hts (fun _ h => List.mem_cons_of_mem _ (List.mem_append_right _ h)) hown hK hP 0 rfl rfl 7 (by decide) (hts (.fieldLink RX0 62 "RetiredTimer" "pending" "Z") (by decide +kernel)) (fun _ h9 => h9) rfl dX0_look_80 ?_
      refine lv_if_eq (tgt := 90) hx hb dX0_look_83 (by decide) (fun c_83 => ?_) (fun c_83 => ?_)
      · refine lv_iconst (v := 0) hx hb dX0_look_90 (by decide) ?_
        exact W.iret (v := 0) hx hb hr (fun t ht hW => ⟨⟨0, (), rfl, Or.inl ⟨3, by decide, rfl, by show _ = (if pnd = 0 then (0 : Int32) else 1); rw [if_pos c_83]⟩, by rw [ht]; exact hP, va_K.moved hW.alike hK, hD⟩, hS.F ht⟩) hS.2.2 dX0_look_91
      · refine lv_iconst (v := 1) hx hb dX0_look_86 (by decide) ?_
        refine lv_goto (tgt := 91) hx hb dX0_look_87 (by decide) ?_
        exact W.iret (v := 1) hx hb hr (fun t ht hW => ⟨⟨1, (), rfl, Or.inl ⟨3, by decide, rfl, by show _ = (if pnd = 0 then (0 : Int32) else 1); rw [if_neg c_83]⟩, by rw [ht]; exact hP, va_K.moved hW.alike hK, hD⟩, hS.F ht⟩) hS.2.2 dX0_look_91
    · refine lv_tableIn (off := 91) (tgt := 92) hx hb dX0_look_1 (by decide +kernel) (by decide +kernel) (by decide +kernel) (by decide) ?_
      refine lv_aload_n hx hb dX0_look_92 rfl (lv_at hl 0 rfl) ?_
      refine va_get (D := (dC, dI)) (ci := 0) (v := .int cng) (C := RX0) (T := TX0) (N := 12) hx hb hts (fun _ h => List.mem_cons_of_mem _ (List.mem_append_right _ h)) hown hK hP 0 rfl rfl 6 (by decide) (hts (.fieldLink RX0 58 "RetiredTimer" "counting" "Z") (by decide +kernel)) (fun _ h9 => h9) rfl dX0_look_93 ?_
      refine lv_if_eq (tgt := 103) hx hb dX0_look_96 (by decide) (fun c_96 => ?_) (fun c_96 => ?_)
      · refine lv_iconst (v := 0) hx hb dX0_look_103 (by decide) ?_
        exact W.iret (v := 0) hx hb hr (fun t ht hW => ⟨⟨0, (), rfl, Or.inl ⟨4, by decide, rfl, by show _ = (if cng = 0 then (0 : Int32) else 1); rw [if_pos c_96]⟩, by rw [ht]; exact hP, va_K.moved hW.alike hK, hD⟩, hS.F ht⟩) hS.2.2 dX0_look_104
      · refine lv_iconst (v := 1) hx hb dX0_look_99 (by decide) ?_
        refine lv_goto (tgt := 104) hx hb dX0_look_100 (by decide) ?_
        exact W.iret (v := 1) hx hb hr (fun t ht hW => ⟨⟨1, (), rfl, Or.inl ⟨4, by decide, rfl, by show _ = (if cng = 0 then (0 : Int32) else 1); rw [if_neg c_96]⟩, by rw [ht]; exact hP, va_K.moved hW.alike hK, hD⟩, hS.F ht⟩) hS.2.2 dX0_look_104
    · refine lv_tableIn (off := 104) (tgt := 105) hx hb dX0_look_1 (by decide +kernel) (by decide +kernel) (by decide +kernel) (by decide) ?_
      refine lv_aload_n hx hb dX0_look_105 rfl (lv_at hl 0 rfl) ?_
      refine va_get (D := (dC, dI)) (ci := 0) (v := .int msk) (C := RX0) (T := TX0) (N := 12) hx hb hts (fun _ h => List.mem_cons_of_mem _ (List.mem_append_right _ h)) hown hK hP 0 rfl rfl 8 (by decide) (hts (.fieldLink RX0 51 "RetiredTimer" "mask" "I") (by decide +kernel)) (fun _ h9 => h9) rfl dX0_look_106 ?_
      exact W.iret (v := msk) hx hb hr (fun t ht hW => ⟨⟨msk, (), rfl, Or.inl ⟨5, by decide, rfl, rfl⟩, by rw [ht]; exact hP, va_K.moved hW.alike hK, hD⟩, hS.F ht⟩) hS.2.2 dX0_look_109
    · refine lv_tableIn (off := 109) (tgt := 110) hx hb dX0_look_1 (by decide +kernel) (by decide +kernel) (by decide +kernel) (by decide) ?_
      refine lv_aload_n hx hb dX0_look_110 rfl (lv_at hl 0 rfl) ?_
      refine lv_aload_n hx hb dX0_look_111 rfl (lv_at hl 0 rfl) ?_
      refine va_get (D := (dC, dI)) (ci := 0) (v := .int (nI rn)) (C := RX0) (T := TX0) (N := 12) hx hb hts (fun _ h => List.mem_cons_of_mem _ (List.mem_append_right _ h)) hown hK hP 0 rfl rfl 3 (by decide) (hts (.fieldLink RX0 28 "RetiredTimer" "retired" "I") (by decide +kernel)) (fun _ h9 => h9) rfl dX0_look_112 ?_
      have hFc := va_free (wc := rt_xw h0 a1 a2 k1 k2 f g (nI en) (nI rn) cnt per cng pnd msk sr sav tkn) hD hS hA [0, 1, 2] rfl
      refine va_calli (va_runV (As := [.int (nI rn)]) (rest := []) ⟨hx, hb, hml, hown, hts⟩ (c_X_linesAt l dC dI h0 a1 a2 s.heap.size k1 k2 f g (nI en) (nI rn) cnt per cng pnd msk sr sav tkn (nI rn) en rfl h32) (cwV 1 hts gX0_look_X0_linesAt rfl rfl rfl (by decide +kernel) ⟨Nat.le_of_ble_eq_true rfl, Nat.le_of_ble_eq_true rfl⟩) ⟨fun a U g mk q => by obtain ⟨q0, q1, qP, qK, qD⟩ := q; exact ⟨q0, q1, qP, va_K.moved (u := U) (U := U.calling g mk a) (Vm.Alike.refl U.vm) qK, qD⟩, va_recv hK hP (ci := 0) (q0 := 0) rfl rfl, fun U hU hW => ⟨rfl, by rw [hU], by rw [hU]; exact hP, va_K.moved hW.alike hK, hD.weaken (fun _ _ _ _ => trivial)⟩⟩ rfl rfl hl.1 rfl (lv_room (Nat.le_of_ble_eq_true rfl)) dX0_look_115 ⟨Nat.zero_le _, Nat.zero_le _⟩) hS (fun q _ h => hFc q h) hFc (fun r_115 u t H1 locs ht hvm hw_115 hB hz1 hk1 hS => ?_)
      obtain ⟨hP1, hK1, hD1⟩ := hB
      rw [ht] at hP1
      try dsimp only at hw_115 hP1 hD1
      obtain ⟨hP, hD⟩ := va_join (wr := []) (w1 := rt_xw h0 a1 a2 k1 k2 f g (nI en) (nI rn) cnt per cng pnd msk sr sav tkn) hP hD [0, 1, 2] [] rfl rfl (by decide) (by decide) hk1 hFc hP1 hD1
      generalize H1 = H at hP hS ⊢
      have hP : va_P (dC, dI) vwCl (rt_xw h0 a1 a2 k1 k2 f g (nI en) (nI rn) cnt per cng pnd msk sr sav tkn) H := hP
      have hD : va_D A (rt_xw h0 a1 a2 k1 k2 f g (nI en) (nI rn) cnt per cng pnd msk sr sav tkn) := hD
      exact W.iret (v := r_115) hx hb hr (fun t ht hW => ⟨⟨r_115, (), rfl, Or.inl ⟨6, by decide, rfl, hw_115⟩, by rw [ht]; exact hP, va_K.moved hW.alike hK, hD⟩, hS.F ht⟩) hS.2.2 dX0_look_118
    · refine lv_tableIn (off := 118) (tgt := 119) hx hb dX0_look_1 (by decide +kernel) (by decide +kernel) (by decide +kernel) (by decide) ?_
      refine lv_aload_n hx hb dX0_look_119 rfl (lv_at hl 0 rfl) ?_
      refine va_get (D := (dC, dI)) (ci := 0) (v := .int sr) (C := RX0) (T := TX0) (N := 12) hx hb hts (fun _ h => List.mem_cons_of_mem _ (List.mem_append_right _ h)) hown hK hP 0 rfl rfl 9 (by decide) (hts (.fieldLink RX0 42 "RetiredTimer" "sr" "I") (by decide +kernel)) (fun _ h9 => h9) rfl dX0_look_120 ?_
      exact W.iret (v := sr) hx hb hr (fun t ht hW => ⟨⟨sr, (), rfl, Or.inl ⟨7, by decide, rfl, rfl⟩, by rw [ht]; exact hP, va_K.moved hW.alike hK, hD⟩, hS.F ht⟩) hS.2.2 dX0_look_123
    · refine lv_tableIn (off := 123) (tgt := 124) hx hb dX0_look_1 (by decide +kernel) (by decide +kernel) (by decide +kernel) (by decide) ?_
      refine lv_aload_n hx hb dX0_look_124 rfl (lv_at hl 0 rfl) ?_
      refine va_get (D := (dC, dI)) (ci := 0) (v := .int sav) (C := RX0) (T := TX0) (N := 12) hx hb hts (fun _ h => List.mem_cons_of_mem _ (List.mem_append_right _ h)) hown hK hP 0 rfl rfl 10 (by decide) (hts (.fieldLink RX0 45 "RetiredTimer" "saved" "I") (by decide +kernel)) (fun _ h9 => h9) rfl dX0_look_125 ?_
      exact W.iret (v := sav) hx hb hr (fun t ht hW => ⟨⟨sav, (), rfl, Or.inl ⟨8, by decide, rfl, rfl⟩, by rw [ht]; exact hP, va_K.moved hW.alike hK, hD⟩, hS.F ht⟩) hS.2.2 dX0_look_128
    · refine lv_tableIn (off := 128) (tgt := 129) hx hb dX0_look_1 (by decide +kernel) (by decide +kernel) (by decide +kernel) (by decide) ?_
      refine lv_aload_n hx hb dX0_look_129 rfl (lv_at hl 0 rfl) ?_
      refine va_get (D := (dC, dI)) (ci := 0) (v := .int tkn) (C := RX0) (T := TX0) (N := 12) hx hb hts (fun _ h => List.mem_cons_of_mem _ (List.mem_append_right _ h)) hown hK hP 0 rfl rfl 11 (by decide) (hts (.fieldLink RX0 48 "RetiredTimer" "taken" "I") (by decide +kernel)) (fun _ h9 => h9) rfl dX0_look_130 ?_
      exact W.iret (v := tkn) hx hb hr (fun t ht hW => ⟨⟨tkn, (), rfl, Or.inl ⟨9, by decide, rfl, rfl⟩, by rw [ht]; exact hP, va_K.moved hW.alike hK, hD⟩, hS.F ht⟩) hS.2.2 dX0_look_133
    · refine lv_tableIn (off := 133) (tgt := 134) hx hb dX0_look_1 (by decide +kernel) (by decide +kernel) (by decide +kernel) (by decide) ?_
      refine lv_aload_n hx hb dX0_look_134 rfl (lv_at hl 0 rfl) ?_
      refine va_get (D := (dC, dI)) (ci := 0) (v := .int (nI en)) (C := RX0) (T := TX0) (N := 12) hx hb hts (fun _ h => List.mem_cons_of_mem _ (List.mem_append_right _ h)) hown hK hP 0 rfl rfl 2 (by decide) (hts (.fieldLink RX0 19 "RetiredTimer" "entries" "I") (by decide +kernel)) (fun _ h9 => h9) rfl dX0_look_135 ?_
      exact W.iret (v := (nI en)) hx hb hr (fun t ht hW => ⟨⟨(nI en), (), rfl, Or.inl ⟨10, by decide, rfl, rfl⟩, by rw [ht]; exact hP, va_K.moved hW.alike hK, hD⟩, hS.F ht⟩) hS.2.2 dX0_look_138
    · refine lv_tableIn (off := 138) (tgt := 139) hx hb dX0_look_1 (by decide +kernel) (by decide +kernel) (by decide +kernel) (by decide) ?_
      refine lv_aload_n hx hb dX0_look_139 rfl (lv_at hl 0 rfl) ?_
      have hFc := va_free (wc := rt_xw h0 a1 a2 k1 k2 f g (nI en) (nI rn) cnt per cng pnd msk sr sav tkn) hD hS hA [0, 1, 2] rfl
      refine va_calli (va_runV (As := []) (rest := []) ⟨hx, hb, hml, hown, hts⟩ (c_X_interruptDue l dC dI h0 a1 a2 s.heap.size k1 k2 f g (nI en) (nI rn) cnt per cng pnd msk sr sav tkn en rfl h32) (cwV 0 hts gX0_look_X0_interruptDue rfl rfl rfl (by decide +kernel) ⟨Nat.le_of_ble_eq_true rfl, Nat.le_of_ble_eq_true rfl⟩) ⟨fun a U g mk q => by obtain ⟨q0, q1, qP, qK, qD⟩ := q; exact ⟨q0, q1, qP, va_K.moved (u := U) (U := U.calling g mk a) (Vm.Alike.refl U.vm) qK, qD⟩, va_recv hK hP (ci := 0) (q0 := 0) rfl rfl, fun U hU hW => ⟨rfl, by rw [hU], by rw [hU]; exact hP, va_K.moved hW.alike hK, hD.weaken (fun _ _ _ _ => trivial)⟩⟩ rfl rfl hl.1 rfl (lv_room (Nat.le_of_ble_eq_true rfl)) dX0_look_140 ⟨Nat.zero_le _, Nat.zero_le _⟩) hS (fun q _ h => hFc q h) hFc (fun r_140 u t H1 locs ht hvm hw_140 hB hz1 hk1 hS => ?_)
      obtain ⟨hP1, hK1, hD1⟩ := hB
      rw [ht] at hP1
      try dsimp only at hw_140 hP1 hD1
      obtain ⟨hP, hD⟩ := va_join (wr := []) (w1 := rt_xw h0 a1 a2 k1 k2 f g (nI en) (nI rn) cnt per cng pnd msk sr sav tkn) hP hD [0, 1, 2] [] rfl rfl (by decide) (by decide) hk1 hFc hP1 hD1
      generalize H1 = H at hP hS ⊢
      have hP : va_P (dC, dI) vwCl (rt_xw h0 a1 a2 k1 k2 f g (nI en) (nI rn) cnt per cng pnd msk sr sav tkn) H := hP
      have hD : va_D A (rt_xw h0 a1 a2 k1 k2 f g (nI en) (nI rn) cnt per cng pnd msk sr sav tkn) := hD
      exact W.iret (v := r_140) hx hb hr (fun t ht hW => ⟨⟨r_140, (), rfl, Or.inl ⟨11, by decide, rfl, hw_140⟩, by rw [ht]; exact hP, va_K.moved hW.alike hK, hD⟩, hS.F ht⟩) hS.2.2 dX0_look_143
