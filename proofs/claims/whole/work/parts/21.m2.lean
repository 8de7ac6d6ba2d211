set_option maxHeartbeats 4000000 in
set_option maxRecDepth 100000 in
theorem c_M_entry (l : Launch) (dC : Nat → ClassId) (dI : Nat → Nat → Nat) (h0 a1 a2 sz : Nat) (k1 k2 : ClassId) (f g : Nat → Int32) (ent ret cnt per cng pnd msk sr sav tkn com : Int32) (p1 : Int32) (p2 : Int32) (en rn kn : Nat) (he : ent = nI en) (h32 : en ≤ 32) (hrn : ret = nI rn) (hk : com = nI kn) (hs : rt_Srt f en) (hc : rt_Come f en rn kn) :
    Met l yX1_entry wsX1_entry ({ frames := 1, cells := 0, slots := 0, locals := 20 }) (va_Pc [.ref h0, .int p1, .int p2] (rt_pre dC dI (rt_mw h0 a1 a2 k1 k2 f g ent ret cnt per cng pnd msk sr sav tkn com) [(k1, .int), (k2, .int)] sz)) (va_Qi (fun (v : Int32) (u : (Nat → Int32) × (Nat → Int32) × Int32 × Nat) => (rt_ref f en p1 ∧ v = 0 ∧ u.1 = f ∧ u.2.1 = g ∧ u.2.2.1 = nI en ∧ u.2.2.2 = kn) ∨ (¬ rt_ref f en p1 ∧ v = 1 ∧ u.1 = upd f en p1 ∧ u.2.1 = upd g en p2 ∧ u.2.2.1 = nI (en + 1) ∧ rt_Come (upd f en p1) (en + 1) rn u.2.2.2)) (rt_post dC dI [(k1, .int), (k2, .int)] (va_A (rt_mw h0 a1 a2 k1 k2 f g ent ret cnt per cng pnd msk sr sav tkn com) sz) (fun (u : (Nat → Int32) × (Nat → Int32) × Int32 × Nat) => rt_mw h0 a1 a2 k1 k2 u.1 u.2.1 u.2.2.1 ret cnt per cng pnd msk sr sav tkn (nI u.2.2.2))) (va_A (rt_mw h0 a1 a2 k1 k2 f g ent ret cnt per cng pnd msk sr sav tkn com) sz)) 0 0 (va_A (rt_mw h0 a1 a2 k1 k2 f g ent ret cnt per cng pnd msk sr sav tkn com) sz) := by
  subst he
  subst hrn
  subst hk
  refine Met.ofW (cc := cX1_entry) (maxL := 3) (ret := (some .boolean)) (by decide) rfl ?_
  intro p e0 s m args below meth c s₁ B hml hv
  obtain ⟨rfl, hsz, hP, hK, hD0⟩ := hv
  have hx := B.exec
  have hb := B.bytes
  have hr := B.returns
  have hts := atoms_spec (ws := wsX1_entry) B.pre
  have hown : s.vm.findClass RX1 = some m.cls := findClass_of_methodNamed B.named
  have hlocks := B.notSynchronized
  subst hsz
  have hD := hD0.self (sz := s.heap.size)
  generalize hAe : va_A (rt_mw h0 a1 a2 k1 k2 f g (nI en) (nI rn) cnt per cng pnd msk sr sav tkn (nI kn)) s.heap.size = A at hD ⊢
  have hA : ∀ q : Nat, s.heap.size ≤ q → A q := fun q h => by rw [← hAe]; exact Or.inr h
  have hS : va_S A s.heap s.heap [] := va_S.rf
  have hP : va_P (dC, dI) vwCl (rt_mw h0 a1 a2 k1 k2 f g (nI en) (nI rn) cnt per cng pnd msk sr sav tkn (nI kn)) s.heap := hP
  have hl := lv_entry ([.ref h0, .int p1, .int p2]) (n := 3) (Nat.le_of_ble_eq_true rfl)
  rw [lg_entry_eq]
  generalize (lg_sl ([.ref h0, .int p1, .int p2]) ++ List.replicate (3 - (lg_sl ([.ref h0, .int p1, .int p2])).length) Slot.unset).toArray = ls at hl ⊢
  have hl : lv_has ls 3 [(0, .ref h0), (1, .int p1), (2, .int p2)] := hl
  refine lv_aload_n hx hb dX1_entry_0 rfl (lv_at hl 0 rfl) ?_
  refine lv_iconst (v := 0) hx hb dX1_entry_1 (by decide) ?_
  refine va_put (D := (dC, dI)) (ci := 1) (v := .int 0) (ty := .int) (C := RX1) (T := TX1) (N := 14) hx hb hts (fun _ h => List.mem_cons_of_mem _ (List.mem_append_right _ h)) tyX1 tyX1_ok nmX1 hown hK hP hD hS 0 rfl rfl 0 (by decide) (hts (.fieldLink RX1 20 "RetiredTimerModel" "thrown" "I") (by decide +kernel)) (fun _ h9 => h9) rfl (by decide +kernel) rfl rfl (Nat.le_of_ble_eq_true rfl) dX1_entry_2 (fun H locs hP hD hS => ?_)
  have hP : va_P (dC, dI) vwCl (rt_mw h0 a1 a2 k1 k2 f g (nI en) (nI rn) cnt per cng pnd msk sr sav tkn (nI kn)) H := hP
  have hD : va_D A (rt_mw h0 a1 a2 k1 k2 f g (nI en) (nI rn) cnt per cng pnd msk sr sav tkn (nI kn)) := hD
  refine lv_iload_n hx hb dX1_entry_5 rfl (lv_at hl 1 rfl) ?_
  refine lv_if_lt (tgt := 51) hx hb dX1_entry_6 (by decide) (fun c_6 => ?_) (fun c_6 => ?_)
  · refine lv_iconst (v := 0) hx hb dX1_entry_51 (by decide) ?_
    exact W.zret (v := 0) hx hb hr rfl (fun t ht hW => ⟨⟨0, (f, g, (nI en), kn), rfl, Or.inl ⟨(rt_ref_m hs).mpr (Or.inl c_6), rfl, rfl, rfl, rfl, rfl⟩, by rw [ht]; exact hP, va_K.moved hW.alike hK, hD⟩, hS.F ht⟩) hS.2.2 dX1_entry_52
  · refine lv_aload_n hx hb dX1_entry_9 rfl (lv_at hl 0 rfl) ?_
    refine va_get (D := (dC, dI)) (ci := 1) (v := .int (nI en)) (C := RX1) (T := TX1) (N := 14) hx hb hts (fun _ h => List.mem_cons_of_mem _ (List.mem_append_right _ h)) hown hK hP 0 rfl rfl 12 (by decide) (hts (.fieldLink RX1 26 "RetiredTimerModel" "entries" "I") (by decide +kernel)) (fun _ h9 => h9) rfl dX1_entry_10 ?_
    refine lv_bipush (v := 32) hx hb dX1_entry_13 (by decide) ?_
    refine lv_icmp_eq (tgt := 51) hx hb dX1_entry_15 (by decide) (fun c_15 => ?_) (fun c_15 => ?_)
    · refine lv_iconst (v := 0) hx hb dX1_entry_51 (by decide) ?_
      exact W.zret (v := 0) hx hb hr rfl (fun t ht hW => ⟨⟨0, (f, g, (nI en), kn), rfl, Or.inl ⟨(rt_ref_m hs).mpr (Or.inr (Or.inl ((rt_eq32 h32).mp c_15))), rfl, rfl, rfl, rfl, rfl⟩, by rw [ht]; exact hP, va_K.moved hW.alike hK, hD⟩, hS.F ht⟩) hS.2.2 dX1_entry_52
    · refine lv_aload_n hx hb dX1_entry_18 rfl (lv_at hl 0 rfl) ?_
      refine va_get (D := (dC, dI)) (ci := 1) (v := .int (nI en)) (C := RX1) (T := TX1) (N := 14) hx hb hts (fun _ h => List.mem_cons_of_mem _ (List.mem_append_right _ h)) hown hK hP 0 rfl rfl 12 (by decide) (hts (.fieldLink RX1 26 "RetiredTimerModel" "entries" "I") (by decide +kernel)) (fun _ h9 => h9) rfl dX1_entry_19 ?_
      refine lv_if_le (tgt := 53) hx hb dX1_entry_22 (by decide) (fun c_22 => ?_) (fun c_22 => ?_)
      · have hlt : en < 32 := by have : ¬ en = 32 := fun h => c_15 ((rt_eq32 h32).mpr h); omega
        refine lv_aload_n hx hb dX1_entry_53 rfl (lv_at hl 0 rfl) ?_
        refine va_get (D := (dC, dI)) (ci := 1) (v := .ref a1) (C := RX1) (T := TX1) (N := 14) hx hb hts (fun _ h => List.mem_cons_of_mem _ (List.mem_append_right _ h)) hown hK hP 0 rfl rfl 10 (by decide) (hts (.fieldLink RX1 13 "RetiredTimerModel" "counts" "[I") (by decide +kernel)) (fun _ h9 => h9) rfl dX1_entry_54 ?_
        refine lv_aload_n hx hb dX1_entry_57 rfl (lv_at hl 0 rfl) ?_
        refine va_get (D := (dC, dI)) (ci := 1) (v := .int (nI en)) (C := RX1) (T := TX1) (N := 14) hx hb hts (fun _ h => List.mem_cons_of_mem _ (List.mem_append_right _ h)) hown hK hP 0 rfl rfl 12 (by decide) (hts (.fieldLink RX1 26 "RetiredTimerModel" "entries" "I") (by decide +kernel)) (fun _ h9 => h9) rfl dX1_entry_58 ?_
        refine lv_iload_n hx hb dX1_entry_61 rfl (lv_at hl 1 rfl) ?_
        refine va_iast hx hb hK hP hD hS 1 0 rfl rfl (vp_in_nI (N := 32) hlt (by decide)) dX1_entry_62 (fun H locs hP hD hS => ?_)
        have hP : va_P (dC, dI) vwCl (rt_mw h0 a1 a2 k1 k2 (upd f (nI en).toNatClampNeg p1) g (nI en) (nI rn) cnt per cng pnd msk sr sav tkn (nI kn)) H := hP
        have hD : va_D A (rt_mw h0 a1 a2 k1 k2 (upd f (nI en).toNatClampNeg p1) g (nI en) (nI rn) cnt per cng pnd msk sr sav tkn (nI kn)) := hD
        rw [show (nI en).toNatClampNeg = en from nI_clamp (by omega)] at hP hD
        refine lv_aload_n hx hb dX1_entry_63 rfl (lv_at hl 0 rfl) ?_
        refine va_get (D := (dC, dI)) (ci := 1) (v := .ref a2) (C := RX1) (T := TX1) (N := 14) hx hb hts (fun _ h => List.mem_cons_of_mem _ (List.mem_append_right _ h)) hown hK hP 0 rfl rfl 11 (by decide) (hts (.fieldLink RX1 17 "RetiredTimerModel" "values" "[I") (by decide +kernel)) (fun _ h9 => h9) rfl dX1_entry_64 ?_
        refine lv_aload_n hx hb dX1_entry_67 rfl (lv_at hl 0 rfl) ?_
        refine va_get (D := (dC, dI)) (ci := 1) (v := .int (nI en)) (C := RX1) (T := TX1) (N := 14) hx hb hts (fun _ h => List.mem_cons_of_mem _ (List.mem_append_right _ h)) hown hK hP 0 rfl rfl 12 (by decide) (hts (.fieldLink RX1 26 "RetiredTimerModel" "entries" "I") (by decide +kernel)) (fun _ h9 => h9) rfl dX1_entry_68 ?_
        refine lv_iload_n hx hb dX1_entry_71 rfl (lv_at hl 2 rfl) ?_
        refine va_iast hx hb hK hP hD hS 2 1 rfl rfl (vp_in_nI (N := 32) hlt (by decide)) dX1_entry_72 (fun H locs hP hD hS => ?_)
        have hP : va_P (dC, dI) vwCl (rt_mw h0 a1 a2 k1 k2 (upd f en p1) (upd g (nI en).toNatClampNeg p2) (nI en) (nI rn) cnt per cng pnd msk sr sav tkn (nI kn)) H := hP
        have hD : va_D A (rt_mw h0 a1 a2 k1 k2 (upd f en p1) (upd g (nI en).toNatClampNeg p2) (nI en) (nI rn) cnt per cng pnd msk sr sav tkn (nI kn)) := hD
        rw [show (nI en).toNatClampNeg = en from nI_clamp (by omega)] at hP hD
        refine lv_aload_n hx hb dX1_entry_73 rfl (lv_at hl 0 rfl) ?_
        refine lv_dup hx hb dX1_entry_74 rfl ?_
        refine va_get (D := (dC, dI)) (ci := 1) (v := .int (nI en)) (C := RX1) (T := TX1) (N := 14) hx hb hts (fun _ h => List.mem_cons_of_mem _ (List.mem_append_right _ h)) hown hK hP 0 rfl rfl 12 (by decide) (hts (.fieldLink RX1 26 "RetiredTimerModel" "entries" "I") (by decide +kernel)) (fun _ h9 => h9) rfl dX1_entry_75 ?_
        refine lv_iconst (v := 1) hx hb dX1_entry_78 (by decide) ?_
        refine lv_iadd hx hb dX1_entry_79 ?_
        refine va_put (D := (dC, dI)) (ci := 1) (v := .int ((nI en) + 1)) (ty := .int) (C := RX1) (T := TX1) (N := 14) hx hb hts (fun _ h => List.mem_cons_of_mem _ (List.mem_append_right _ h)) tyX1 tyX1_ok nmX1 hown hK hP hD hS 0 rfl rfl 12 (by decide) (hts (.fieldLink RX1 26 "RetiredTimerModel" "entries" "I") (by decide +kernel)) (fun _ h9 => h9) rfl (by decide +kernel) rfl rfl (Nat.le_of_ble_eq_true rfl) dX1_entry_80 (fun H locs hP hD hS => ?_)
        have hP : va_P (dC, dI) vwCl (rt_mw h0 a1 a2 k1 k2 (upd f en p1) (upd g en p2) ((nI en) + 1) (nI rn) cnt per cng pnd msk sr sav tkn (nI kn)) H := hP
        have hD : va_D A (rt_mw h0 a1 a2 k1 k2 (upd f en p1) (upd g en p2) ((nI en) + 1) (nI rn) cnt per cng pnd msk sr sav tkn (nI kn)) := hD
        refine lv_aload_n hx hb dX1_entry_83 rfl (lv_at hl 0 rfl) ?_
        have hFc := va_free (wc := rt_mw h0 a1 a2 k1 k2 (upd f en p1) (upd g en p2) ((nI en) + 1) (nI rn) cnt per cng pnd msk sr sav tkn (nI kn)) hD hS hA [0, 1, 2] rfl
        refine va_callv (va_runV (As := []) (rest := []) ⟨hx, hb, hml, hown, hts⟩ (c_M_goOn l dC dI h0 a1 a2 H.size k1 k2 (upd f en p1) (upd g en p2) ((nI en) + 1) (nI rn) cnt per cng pnd msk sr sav tkn (nI kn) (en + 1) kn (nI_1 en) (by omega) rfl (by have := hc.1; omega)) (cwV 0 hts gX1_entry_X1_goOn rfl rfl rfl (by decide +kernel) ⟨Nat.le_of_ble_eq_true rfl, Nat.le_of_ble_eq_true rfl⟩) ⟨fun a U g mk q => by obtain ⟨q0, q1, qP, qK, qD⟩ := q; exact ⟨q0, q1, qP, va_K.moved (u := U) (U := U.calling g mk a) (Vm.Alike.refl U.vm) qK, qD⟩, va_recv hK hP (ci := 1) (q0 := 0) rfl rfl, fun U hU hW => ⟨rfl, by rw [hU], by rw [hU]; exact hP, va_K.moved hW.alike hK, hD.weaken (fun _ _ _ _ => trivial)⟩⟩ rfl rfl hl.1 rfl (lv_room (Nat.le_of_ble_eq_true rfl)) dX1_entry_84 ⟨Nat.zero_le _, Nat.zero_le _⟩) hS (fun q _ h => hFc q h) hFc (fun u t H1 locs ht hvm hw_84 hB hz1 hk1 hS => ?_)
        obtain ⟨com_84, rfl⟩ : ∃ z, z = u := ⟨_, rfl⟩
        obtain ⟨hP1, hK1, hD1⟩ := hB
        rw [ht] at hP1
        try dsimp only at hw_84 hP1 hD1
        obtain ⟨hP, hD⟩ := va_join (wr := []) (w1 := rt_mw h0 a1 a2 k1 k2 (upd f en p1) (upd g en p2) ((nI en) + 1) (nI rn) cnt per cng pnd msk sr sav tkn (nI com_84)) hP hD [0, 1, 2] [] rfl rfl (by decide) (by decide) hk1 hFc hP1 hD1
        generalize H1 = H at hP hS ⊢
        have hP : va_P (dC, dI) vwCl (rt_mw h0 a1 a2 k1 k2 (upd f en p1) (upd g en p2) ((nI en) + 1) (nI rn) cnt per cng pnd msk sr sav tkn (nI com_84)) H := hP
        have hD : va_D A (rt_mw h0 a1 a2 k1 k2 (upd f en p1) (upd g en p2) ((nI en) + 1) (nI rn) cnt per cng pnd msk sr sav tkn (nI com_84)) := hD
        refine lv_iconst (v := 1) hx hb dX1_entry_87 (by decide) ?_
        have hnr : ¬ rt_ref f en p1 := fun h => ((rt_ref_m hs).mp h).elim c_6 (fun h => h.elim (fun h => c_15 ((rt_eq32 h32).mpr h)) (fun h => by have := rt_z0 (by omega) c_22; omega))
        exact W.zret (v := 1) hx hb hr rfl (fun t ht hW => ⟨⟨1, (upd f en p1, upd g en p2, (nI en) + 1, com_84), rfl, Or.inr ⟨hnr, rfl, rfl, rfl, nI_1 en, rt_come_add hs hc hnr hw_84⟩, by rw [ht]; exact hP, va_K.moved hW.alike hK, hD⟩, hS.F ht⟩) hS.2.2 dX1_entry_88
      · have hpos : 0 < en := rt_npos (by omega) c_22
        refine lv_iload_n hx hb dX1_entry_25 rfl (lv_at hl 1 rfl) ?_
        refine lv_aload_n hx hb dX1_entry_26 rfl (lv_at hl 0 rfl) ?_
        refine va_get (D := (dC, dI)) (ci := 1) (v := .ref a1) (C := RX1) (T := TX1) (N := 14) hx hb hts (fun _ h => List.mem_cons_of_mem _ (List.mem_append_right _ h)) hown hK hP 0 rfl rfl 10 (by decide) (hts (.fieldLink RX1 13 "RetiredTimerModel" "counts" "[I") (by decide +kernel)) (fun _ h9 => h9) rfl dX1_entry_27 ?_
        refine lv_aload_n hx hb dX1_entry_30 rfl (lv_at hl 0 rfl) ?_
        refine va_get (D := (dC, dI)) (ci := 1) (v := .int (nI en)) (C := RX1) (T := TX1) (N := 14) hx hb hts (fun _ h => List.mem_cons_of_mem _ (List.mem_append_right _ h)) hown hK hP 0 rfl rfl 12 (by decide) (hts (.fieldLink RX1 26 "RetiredTimerModel" "entries" "I") (by decide +kernel)) (fun _ h9 => h9) rfl dX1_entry_31 ?_
        refine lv_if_le (tgt := 46) hx hb dX1_entry_34 (by decide) (fun c_34 => absurd c_34 c_22) (fun c_34 => ?_)
        refine lv_aload_n hx hb dX1_entry_37 rfl (lv_at hl 0 rfl) ?_
        refine va_get (D := (dC, dI)) (ci := 1) (v := .int (nI en)) (C := RX1) (T := TX1) (N := 14) hx hb hts (fun _ h => List.mem_cons_of_mem _ (List.mem_append_right _ h)) hown hK hP 0 rfl rfl 12 (by decide) (hts (.fieldLink RX1 26 "RetiredTimerModel" "entries" "I") (by decide +kernel)) (fun _ h9 => h9) rfl dX1_entry_38 ?_
        refine lv_iconst (v := 1) hx hb dX1_entry_41 (by decide) ?_
        refine lv_isub hx hb dX1_entry_42 ?_
        refine lv_goto (tgt := 47) hx hb dX1_entry_43 (by decide) ?_
        refine va_iald hx hb hK hP 1 0 rfl rfl (rt_inP hpos (by omega) (by decide)) dX1_entry_47 ?_
        rw [show f ((nI en) - 1).toNatClampNeg = f (en - 1) from by rw [rt_pre1 hpos, nI_clamp (by omega)]]
        refine lv_icmp_gt (tgt := 53) hx hb dX1_entry_48 (by decide) (fun c_48 => ?_) (fun c_48 => ?_)
        · have hlt : en < 32 := by have : ¬ en = 32 := fun h => c_15 ((rt_eq32 h32).mpr h); omega
          refine lv_aload_n hx hb dX1_entry_53 rfl (lv_at hl 0 rfl) ?_
          refine va_get (D := (dC, dI)) (ci := 1) (v := .ref a1) (C := RX1) (T := TX1) (N := 14) hx hb hts (fun _ h => List.mem_cons_of_mem _ (List.mem_append_right _ h)) hown hK hP 0 rfl rfl 10 (by decide) (hts (.fieldLink RX1 13 "RetiredTimerModel" "counts" "[I") (by decide +kernel)) (fun _ h9 => h9) rfl dX1_entry_54 ?_
          refine lv_aload_n hx hb dX1_entry_57 rfl (lv_at hl 0 rfl) ?_
          refine va_get (D := (dC, dI)) (ci := 1) (v := .int (nI en)) (C := RX1) (T := TX1) (N := 14) hx hb hts (fun _ h => List.mem_cons_of_mem _ (List.mem_append_right _ h)) hown hK hP 0 rfl rfl 12 (by decide) (hts (.fieldLink RX1 26 "RetiredTimerModel" "entries" "I") (by decide +kernel)) (fun _ h9 => h9) rfl dX1_entry_58 ?_
          refine lv_iload_n hx hb dX1_entry_61 rfl (lv_at hl 1 rfl) ?_
          refine va_iast hx hb hK hP hD hS 1 0 rfl rfl (vp_in_nI (N := 32) hlt (by decide)) dX1_entry_62 (fun H locs hP hD hS => ?_)
          have hP : va_P (dC, dI) vwCl (rt_mw h0 a1 a2 k1 k2 (upd f (nI en).toNatClampNeg p1) g (nI en) (nI rn) cnt per cng pnd msk sr sav tkn (nI kn)) H := hP
          have hD : va_D A (rt_mw h0 a1 a2 k1 k2 (upd f (nI en).toNatClampNeg p1) g (nI en) (nI rn) cnt per cng pnd msk sr sav tkn (nI kn)) := hD
          rw [show (nI en).toNatClampNeg = en from nI_clamp (by omega)] at hP hD
          refine lv_aload_n hx hb dX1_entry_63 rfl (lv_at hl 0 rfl) ?_
          refine va_get (D := (dC, dI)) (ci := 1) (v := .ref a2) (C := RX1) (T := TX1) (N := 14) hx hb hts (fun _ h => List.mem_cons_of_mem _ (List.mem_append_right _ h)) hown hK hP 0 rfl rfl 11 (by decide) (hts (.fieldLink RX1 17 "RetiredTimerModel" "values" "[I") (by decide +kernel)) (fun _ h9 => h9) rfl dX1_entry_64 ?_
          refine lv_aload_n hx hb dX1_entry_67 rfl (lv_at hl 0 rfl) ?_
          refine va_get (D := (dC, dI)) (ci := 1) (v := .int (nI en)) (C := RX1) (T := TX1) (N := 14) hx hb hts (fun _ h => List.mem_cons_of_mem _ (List.mem_append_right _ h)) hown hK hP 0 rfl rfl 12 (by decide) (hts (.fieldLink RX1 26 "RetiredTimerModel" "entries" "I") (by decide +kernel)) (fun _ h9 => h9) rfl dX1_entry_68 ?_
          refine lv_iload_n hx hb dX1_entry_71 rfl (lv_at hl 2 rfl) ?_
          refine va_iast hx hb hK hP hD hS 2 1 rfl rfl (vp_in_nI (N := 32) hlt (by decide)) dX1_entry_72 (fun H locs hP hD hS => ?_)
          have hP : va_P (dC, dI) vwCl (rt_mw h0 a1 a2 k1 k2 (upd f en p1) (upd g (nI en).toNatClampNeg p2) (nI en) (nI rn) cnt per cng pnd msk sr sav tkn (nI kn)) H := hP
          have hD : va_D A (rt_mw h0 a1 a2 k1 k2 (upd f en p1) (upd g (nI en).toNatClampNeg p2) (nI en) (nI rn) cnt per cng pnd msk sr sav tkn (nI kn)) := hD
          rw [show (nI en).toNatClampNeg = en from nI_clamp (by omega)] at hP hD
          refine lv_aload_n hx hb dX1_entry_73 rfl (lv_at hl 0 rfl) ?_
          refine lv_dup hx hb dX1_entry_74 rfl ?_
          refine va_get (D := (dC, dI)) (ci := 1) (v := .int (nI en)) (C := RX1) (T := TX1) (N := 14) hx hb hts (fun _ h => List.mem_cons_of_mem _ (List.mem_append_right _ h)) hown hK hP 0 rfl rfl 12 (by decide) (hts (.fieldLink RX1 26 "RetiredTimerModel" "entries" "I") (by decide +kernel)) (fun _ h9 => h9) rfl dX1_entry_75 ?_
          refine lv_iconst (v := 1) hx hb dX1_entry_78 (by decide) ?_
          refine lv_iadd hx hb dX1_entry_79 ?_
          refine va_put (D := (dC, dI)) (ci := 1) (v := .int ((nI en) + 1)) (ty := .int) (C := RX1) (T := TX1) (N := 14) hx hb hts (fun _ h => List.mem_cons_of_mem _ (List.mem_append_right _ h)) tyX1 tyX1_ok nmX1 hown hK hP hD hS 0 rfl rfl 12 (by decide) (hts (.fieldLink RX1 26 "RetiredTimerModel" "entries" "I") (by decide +kernel)) (fun _ h9 => h9) rfl (by decide +kernel) rfl rfl (Nat.le_of_ble_eq_true rfl) dX1_entry_80 (fun H locs hP hD hS => ?_)
          have hP : va_P (dC, dI) vwCl (rt_mw h0 a1 a2 k1 k2 (upd f en p1) (upd g en p2) ((nI en) + 1) (nI rn) cnt per cng pnd msk sr sav tkn (nI kn)) H := hP
          have hD : va_D A (rt_mw h0 a1 a2 k1 k2 (upd f en p1) (upd g en p2) ((nI en) + 1) (nI rn) cnt per cng pnd msk sr sav tkn (nI kn)) := hD
          refine lv_aload_n hx hb dX1_entry_83 rfl (lv_at hl 0 rfl) ?_
          have hFc := va_free (wc := rt_mw h0 a1 a2 k1 k2 (upd f en p1) (upd g en p2) ((nI en) + 1) (nI rn) cnt per cng pnd msk sr sav tkn (nI kn)) hD hS hA [0, 1, 2] rfl
          refine va_callv (va_runV (As := []) (rest := []) ⟨hx, hb, hml, hown, hts⟩ (c_M_goOn l dC dI h0 a1 a2 H.size k1 k2 (upd f en p1) (upd g en p2) ((nI en) + 1) (nI rn) cnt per cng pnd msk sr sav tkn (nI kn) (en + 1) kn (nI_1 en) (by omega) rfl (by have := hc.1; omega)) (cwV 0 hts gX1_entry_X1_goOn rfl rfl rfl (by decide +kernel) ⟨Nat.le_of_ble_eq_true rfl, Nat.le_of_ble_eq_true rfl⟩) ⟨fun a U g mk q => by obtain ⟨q0, q1, qP, qK, qD⟩ := q; exact ⟨q0, q1, qP, va_K.moved (u := U) (U := U.calling g mk a) (Vm.Alike.refl U.vm) qK, qD⟩, va_recv hK hP (ci := 1) (q0 := 0) rfl rfl, fun U hU hW => ⟨rfl, by rw [hU], by rw [hU]; exact hP, va_K.moved hW.alike hK, hD.weaken (fun _ _ _ _ => trivial)⟩⟩ rfl rfl hl.1 rfl (lv_room (Nat.le_of_ble_eq_true rfl)) dX1_entry_84 ⟨Nat.zero_le _, Nat.zero_le _⟩) hS (fun q _ h => hFc q h) hFc (fun u t H1 locs ht hvm hw_84 hB hz1 hk1 hS => ?_)
          obtain ⟨com_84, rfl⟩ : ∃ z, z = u := ⟨_, rfl⟩
          obtain ⟨hP1, hK1, hD1⟩ := hB
          rw [ht] at hP1
          try dsimp only at hw_84 hP1 hD1
          obtain ⟨hP, hD⟩ := va_join (wr := []) (w1 := rt_mw h0 a1 a2 k1 k2 (upd f en p1) (upd g en p2) ((nI en) + 1) (nI rn) cnt per cng pnd msk sr sav tkn (nI com_84)) hP hD [0, 1, 2] [] rfl rfl (by decide) (by decide) hk1 hFc hP1 hD1
          generalize H1 = H at hP hS ⊢
          have hP : va_P (dC, dI) vwCl (rt_mw h0 a1 a2 k1 k2 (upd f en p1) (upd g en p2) ((nI en) + 1) (nI rn) cnt per cng pnd msk sr sav tkn (nI com_84)) H := hP
          have hD : va_D A (rt_mw h0 a1 a2 k1 k2 (upd f en p1) (upd g en p2) ((nI en) + 1) (nI rn) cnt per cng pnd msk sr sav tkn (nI com_84)) := hD
          refine lv_iconst (v := 1) hx hb dX1_entry_87 (by decide) ?_
          have hnr : ¬ rt_ref f en p1 := fun h => ((rt_ref_m hs).mp h).elim c_6 (fun h => h.elim (fun h => c_15 ((rt_eq32 h32).mpr h)) (fun h => rt_nle2 h.2 c_48))
          exact W.zret (v := 1) hx hb hr rfl (fun t ht hW => ⟨⟨1, (upd f en p1, upd g en p2, (nI en) + 1, com_84), rfl, Or.inr ⟨hnr, rfl, rfl, rfl, nI_1 en, rt_come_add hs hc hnr hw_84⟩, by rw [ht]; exact hP, va_K.moved hW.alike hK, hD⟩, hS.F ht⟩) hS.2.2 dX1_entry_88
        · refine lv_iconst (v := 0) hx hb dX1_entry_51 (by decide) ?_
          exact W.zret (v := 0) hx hb hr rfl (fun t ht hW => ⟨⟨0, (f, g, (nI en), kn), rfl, Or.inl ⟨(rt_ref_m hs).mpr (Or.inr (Or.inr ⟨hpos, rt_nlt c_48⟩)), rfl, rfl, rfl, rfl, rfl⟩, by rw [ht]; exact hP, va_K.moved hW.alike hK, hD⟩, hS.F ht⟩) hS.2.2 dX1_entry_52
set_option maxHeartbeats 4000000 in
set_option maxRecDepth 100000 in
theorem c_M_step (l : Launch) (dC : Nat → ClassId) (dI : Nat → Nat → Nat) (h0 a1 a2 sz : Nat) (k1 k2 : ClassId) (f g : Nat → Int32) (ent ret cnt per cng pnd msk sr sav tkn com : Int32) (en rn kn : Nat) (he : ent = nI en) (h32 : en ≤ 32) (hrn : ret = nI rn) (hk : com = nI kn) (hrl : rn + 1 < 2147483648) (hs : rt_Srt f en) (hc : rt_Come f en rn kn) :
    Met l yX1_step wsX1_step ({ frames := 1, cells := 0, slots := 0, locals := 20 }) (va_Pc [.ref h0] (rt_pre dC dI (rt_mw h0 a1 a2 k1 k2 f g ent ret cnt per cng pnd msk sr sav tkn com) [(k1, .int), (k2, .int)] sz)) (va_Qv (fun (u : Int32 × Int32 × Int32 × Nat) => u.1 = nI (rn + 1) ∧ u.2.1 = rt_sc cng per cnt ∧ u.2.2.1 = rt_sp cng per cnt pnd ∧ rt_Come f en (rn + 1) u.2.2.2) (rt_post dC dI [(k1, .int), (k2, .int)] (va_A (rt_mw h0 a1 a2 k1 k2 f g ent ret cnt per cng pnd msk sr sav tkn com) sz) (fun (u : Int32 × Int32 × Int32 × Nat) => rt_mw h0 a1 a2 k1 k2 f g ent u.1 u.2.1 per cng u.2.2.1 msk sr sav tkn (nI u.2.2.2))) (va_A (rt_mw h0 a1 a2 k1 k2 f g ent ret cnt per cng pnd msk sr sav tkn com) sz)) 0 0 (va_A (rt_mw h0 a1 a2 k1 k2 f g ent ret cnt per cng pnd msk sr sav tkn com) sz) := by
  subst he
  subst hrn
  subst hk
  refine Met.ofW (cc := cX1_step) (maxL := 1) (ret := none) (by decide) rfl ?_
  intro p e0 s m args below meth c s₁ B hml hv
  obtain ⟨rfl, hsz, hP, hK, hD0⟩ := hv
  have hx := B.exec
  have hb := B.bytes
  have hr := B.returns
  have hts := atoms_spec (ws := wsX1_step) B.pre
  have hown : s.vm.findClass RX1 = some m.cls := findClass_of_methodNamed B.named
  have hlocks := B.notSynchronized
  subst hsz
  have hD := hD0.self (sz := s.heap.size)
  generalize hAe : va_A (rt_mw h0 a1 a2 k1 k2 f g (nI en) (nI rn) cnt per cng pnd msk sr sav tkn (nI kn)) s.heap.size = A at hD ⊢
  have hA : ∀ q : Nat, s.heap.size ≤ q → A q := fun q h => by rw [← hAe]; exact Or.inr h
  have hS : va_S A s.heap s.heap [] := va_S.rf
  have hP : va_P (dC, dI) vwCl (rt_mw h0 a1 a2 k1 k2 f g (nI en) (nI rn) cnt per cng pnd msk sr sav tkn (nI kn)) s.heap := hP
  have hl := lv_entry ([.ref h0]) (n := 1) (Nat.le_of_ble_eq_true rfl)
  rw [lg_entry_eq]
  generalize (lg_sl ([.ref h0]) ++ List.replicate (1 - (lg_sl ([.ref h0])).length) Slot.unset).toArray = ls at hl ⊢
  have hl : lv_has ls 1 [(0, .ref h0)] := hl
  refine lv_aload_n hx hb dX1_step_0 rfl (lv_at hl 0 rfl) ?_
  refine lv_dup hx hb dX1_step_1 rfl ?_
  refine va_get (D := (dC, dI)) (ci := 1) (v := .int (nI rn)) (C := RX1) (T := TX1) (N := 14) hx hb hts (fun _ h => List.mem_cons_of_mem _ (List.mem_append_right _ h)) hown hK hP 0 rfl rfl 1 (by decide) (hts (.fieldLink RX1 29 "RetiredTimerModel" "retired" "I") (by decide +kernel)) (fun _ h9 => h9) rfl dX1_step_2 ?_
  refine lv_iconst (v := 1) hx hb dX1_step_5 (by decide) ?_
  refine lv_iadd hx hb dX1_step_6 ?_
  refine va_put (D := (dC, dI)) (ci := 1) (v := .int ((nI rn) + 1)) (ty := .int) (C := RX1) (T := TX1) (N := 14) hx hb hts (fun _ h => List.mem_cons_of_mem _ (List.mem_append_right _ h)) tyX1 tyX1_ok nmX1 hown hK hP hD hS 0 rfl rfl 1 (by decide) (hts (.fieldLink RX1 29 "RetiredTimerModel" "retired" "I") (by decide +kernel)) (fun _ h9 => h9) rfl (by decide +kernel) rfl rfl (Nat.le_of_ble_eq_true rfl) dX1_step_7 (fun H locs hP hD hS => ?_)
  have hP : va_P (dC, dI) vwCl (rt_mw h0 a1 a2 k1 k2 f g (nI en) ((nI rn) + 1) cnt per cng pnd msk sr sav tkn (nI kn)) H := hP
  have hD : va_D A (rt_mw h0 a1 a2 k1 k2 f g (nI en) ((nI rn) + 1) cnt per cng pnd msk sr sav tkn (nI kn)) := hD
  refine lv_aload_n hx hb dX1_step_10 rfl (lv_at hl 0 rfl) ?_
  refine va_get (D := (dC, dI)) (ci := 1) (v := .int cng) (C := RX1) (T := TX1) (N := 14) hx hb hts (fun _ h => List.mem_cons_of_mem _ (List.mem_append_right _ h)) hown hK hP 0 rfl rfl 4 (by decide) (hts (.fieldLink RX1 46 "RetiredTimerModel" "counting" "Z") (by decide +kernel)) (fun _ h9 => h9) rfl dX1_step_11 ?_
  refine lv_if_eq (tgt := 48) hx hb dX1_step_14 (by decide) (fun c_14 => ?_) (fun c_14 => ?_)
  · refine lv_aload_n hx hb dX1_step_48 rfl (lv_at hl 0 rfl) ?_
    have hFc := va_free (wc := rt_mw h0 a1 a2 k1 k2 f g (nI en) ((nI rn) + 1) cnt per cng pnd msk sr sav tkn (nI kn)) hD hS hA [0, 1, 2] rfl
    refine va_callv (va_runV (As := []) (rest := []) ⟨hx, hb, hml, hown, hts⟩ (c_M_goOn l dC dI h0 a1 a2 H.size k1 k2 f g (nI en) ((nI rn) + 1) cnt per cng pnd msk sr sav tkn (nI kn) en kn rfl h32 rfl hc.1) (cwV 0 hts gX1_step_X1_goOn rfl rfl rfl (by decide +kernel) ⟨Nat.le_of_ble_eq_true rfl, Nat.le_of_ble_eq_true rfl⟩) ⟨fun a U g mk q => by obtain ⟨q0, q1, qP, qK, qD⟩ := q; exact ⟨q0, q1, qP, va_K.moved (u := U) (U := U.calling g mk a) (Vm.Alike.refl U.vm) qK, qD⟩, va_recv hK hP (ci := 1) (q0 := 0) rfl rfl, fun U hU hW => ⟨rfl, by rw [hU], by rw [hU]; exact hP, va_K.moved hW.alike hK, hD.weaken (fun _ _ _ _ => trivial)⟩⟩ rfl rfl hl.1 rfl (lv_room (Nat.le_of_ble_eq_true rfl)) dX1_step_49 ⟨Nat.zero_le _, Nat.zero_le _⟩) hS (fun q _ h => hFc q h) hFc (fun u t H1 locs ht hvm hw_49 hB hz1 hk1 hS => ?_)
    obtain ⟨com_49, rfl⟩ : ∃ z, z = u := ⟨_, rfl⟩
    obtain ⟨hP1, hK1, hD1⟩ := hB
    rw [ht] at hP1
    try dsimp only at hw_49 hP1 hD1
    obtain ⟨hP, hD⟩ := va_join (wr := []) (w1 := rt_mw h0 a1 a2 k1 k2 f g (nI en) ((nI rn) + 1) cnt per cng pnd msk sr sav tkn (nI com_49)) hP hD [0, 1, 2] [] rfl rfl (by decide) (by decide) hk1 hFc hP1 hD1
    generalize H1 = H at hP hS ⊢
    have hP : va_P (dC, dI) vwCl (rt_mw h0 a1 a2 k1 k2 f g (nI en) ((nI rn) + 1) cnt per cng pnd msk sr sav tkn (nI com_49)) H := hP
    have hD : va_D A (rt_mw h0 a1 a2 k1 k2 f g (nI en) ((nI rn) + 1) cnt per cng pnd msk sr sav tkn (nI com_49)) := hD
    rw [nI_1] at hw_49
    exact W.vret hx hb hr (fun t ht hW => ⟨⟨((nI rn) + 1, cnt, pnd, com_49), rfl, ⟨nI_1 rn, by unfold rt_sc; rw [if_pos c_14], by unfold rt_sp; rw [if_pos c_14], rt_come_step hs hc hrl hw_49⟩, by rw [ht]; exact hP, va_K.moved hW.alike hK, hD⟩, hS.F ht⟩) hS.2.2 dX1_step_52
  · refine lv_aload_n hx hb dX1_step_17 rfl (lv_at hl 0 rfl) ?_
    refine lv_dup hx hb dX1_step_18 rfl ?_
    refine va_get (D := (dC, dI)) (ci := 1) (v := .int cnt) (C := RX1) (T := TX1) (N := 14) hx hb hts (fun _ h => List.mem_cons_of_mem _ (List.mem_append_right _ h)) hown hK hP 0 rfl rfl 2 (by decide) (hts (.fieldLink RX1 49 "RetiredTimerModel" "count" "I") (by decide +kernel)) (fun _ h9 => h9) rfl dX1_step_19 ?_
    refine lv_iconst (v := 1) hx hb dX1_step_22 (by decide) ?_
    refine lv_iadd hx hb dX1_step_23 ?_
    refine va_put (D := (dC, dI)) (ci := 1) (v := .int (cnt + 1)) (ty := .int) (C := RX1) (T := TX1) (N := 14) hx hb hts (fun _ h => List.mem_cons_of_mem _ (List.mem_append_right _ h)) tyX1 tyX1_ok nmX1 hown hK hP hD hS 0 rfl rfl 2 (by decide) (hts (.fieldLink RX1 49 "RetiredTimerModel" "count" "I") (by decide +kernel)) (fun _ h9 => h9) rfl (by decide +kernel) rfl rfl (Nat.le_of_ble_eq_true rfl) dX1_step_24 (fun H locs hP hD hS => ?_)
    have hP : va_P (dC, dI) vwCl (rt_mw h0 a1 a2 k1 k2 f g (nI en) ((nI rn) + 1) (cnt + 1) per cng pnd msk sr sav tkn (nI kn)) H := hP
    have hD : va_D A (rt_mw h0 a1 a2 k1 k2 f g (nI en) ((nI rn) + 1) (cnt + 1) per cng pnd msk sr sav tkn (nI kn)) := hD
    refine lv_aload_n hx hb dX1_step_27 rfl (lv_at hl 0 rfl) ?_
    refine va_get (D := (dC, dI)) (ci := 1) (v := .int (cnt + 1)) (C := RX1) (T := TX1) (N := 14) hx hb hts (fun _ h => List.mem_cons_of_mem _ (List.mem_append_right _ h)) hown hK hP 0 rfl rfl 2 (by decide) (hts (.fieldLink RX1 49 "RetiredTimerModel" "count" "I") (by decide +kernel)) (fun _ h9 => h9) rfl dX1_step_28 ?_
    refine lv_aload_n hx hb dX1_step_31 rfl (lv_at hl 0 rfl) ?_
    refine va_get (D := (dC, dI)) (ci := 1) (v := .int per) (C := RX1) (T := TX1) (N := 14) hx hb hts (fun _ h => List.mem_cons_of_mem _ (List.mem_append_right _ h)) hown hK hP 0 rfl rfl 3 (by decide) (hts (.fieldLink RX1 52 "RetiredTimerModel" "period" "I") (by decide +kernel)) (fun _ h9 => h9) rfl dX1_step_32 ?_
    refine lv_icmp_ne (tgt := 48) hx hb dX1_step_35 (by decide) (fun c_35 => ?_) (fun c_35 => ?_)
    · refine lv_aload_n hx hb dX1_step_48 rfl (lv_at hl 0 rfl) ?_
      have hFc := va_free (wc := rt_mw h0 a1 a2 k1 k2 f g (nI en) ((nI rn) + 1) (cnt + 1) per cng pnd msk sr sav tkn (nI kn)) hD hS hA [0, 1, 2] rfl
      refine va_callv (va_runV (As := []) (rest := []) ⟨hx, hb, hml, hown, hts⟩ (c_M_goOn l dC dI h0 a1 a2 H.size k1 k2 f g (nI en) ((nI rn) + 1) (cnt + 1) per cng pnd msk sr sav tkn (nI kn) en kn rfl h32 rfl hc.1) (cwV 0 hts gX1_step_X1_goOn rfl rfl rfl (by decide +kernel) ⟨Nat.le_of_ble_eq_true rfl, Nat.le_of_ble_eq_true rfl⟩) ⟨fun a U g mk q => by obtain ⟨q0, q1, qP, qK, qD⟩ := q; exact ⟨q0, q1, qP, va_K.moved (u := U) (U := U.calling g mk a) (Vm.Alike.refl U.vm) qK, qD⟩, va_recv hK hP (ci := 1) (q0 := 0) rfl rfl, fun U hU hW => ⟨rfl, by rw [hU], by rw [hU]; exact hP, va_K.moved hW.alike hK, hD.weaken (fun _ _ _ _ => trivial)⟩⟩ rfl rfl hl.1 rfl (lv_room (Nat.le_of_ble_eq_true rfl)) dX1_step_49 ⟨Nat.zero_le _, Nat.zero_le _⟩) hS (fun q _ h => hFc q h) hFc (fun u t H1 locs ht hvm hw_49 hB hz1 hk1 hS => ?_)
      obtain ⟨com_49, rfl⟩ : ∃ z, z = u := ⟨_, rfl⟩
      obtain ⟨hP1, hK1, hD1⟩ := hB
      rw [ht] at hP1
      try dsimp only at hw_49 hP1 hD1
      obtain ⟨hP, hD⟩ := va_join (wr := []) (w1 := rt_mw h0 a1 a2 k1 k2 f g (nI en) ((nI rn) + 1) (cnt + 1) per cng pnd msk sr sav tkn (nI com_49)) hP hD [0, 1, 2] [] rfl rfl (by decide) (by decide) hk1 hFc hP1 hD1
      generalize H1 = H at hP hS ⊢
      have hP : va_P (dC, dI) vwCl (rt_mw h0 a1 a2 k1 k2 f g (nI en) ((nI rn) + 1) (cnt + 1) per cng pnd msk sr sav tkn (nI com_49)) H := hP
      have hD : va_D A (rt_mw h0 a1 a2 k1 k2 f g (nI en) ((nI rn) + 1) (cnt + 1) per cng pnd msk sr sav tkn (nI com_49)) := hD
      rw [nI_1] at hw_49
      exact W.vret hx hb hr (fun t ht hW => ⟨⟨((nI rn) + 1, cnt + 1, pnd, com_49), rfl, ⟨nI_1 rn, by unfold rt_sc; rw [if_neg c_14, if_neg c_35], by unfold rt_sp; rw [if_neg c_14, if_neg c_35], rt_come_step hs hc hrl hw_49⟩, by rw [ht]; exact hP, va_K.moved hW.alike hK, hD⟩, hS.F ht⟩) hS.2.2 dX1_step_52
    · refine lv_aload_n hx hb dX1_step_38 rfl (lv_at hl 0 rfl) ?_
      refine lv_iconst (v := 1) hx hb dX1_step_39 (by decide) ?_
      refine va_put (D := (dC, dI)) (ci := 1) (v := .int 1) (ty := .boolean) (C := RX1) (T := TX1) (N := 14) hx hb hts (fun _ h => List.mem_cons_of_mem _ (List.mem_append_right _ h)) tyX1 tyX1_ok nmX1 hown hK hP hD hS 0 rfl rfl 5 (by decide) (hts (.fieldLink RX1 32 "RetiredTimerModel" "pending" "Z") (by decide +kernel)) (fun _ h9 => h9) rfl (by decide +kernel) rfl rfl (Nat.le_of_ble_eq_true rfl) dX1_step_40 (fun H locs hP hD hS => ?_)
      have hP : va_P (dC, dI) vwCl (rt_mw h0 a1 a2 k1 k2 f g (nI en) ((nI rn) + 1) (cnt + 1) per cng 1 msk sr sav tkn (nI kn)) H := hP
      have hD : va_D A (rt_mw h0 a1 a2 k1 k2 f g (nI en) ((nI rn) + 1) (cnt + 1) per cng 1 msk sr sav tkn (nI kn)) := hD
      refine lv_aload_n hx hb dX1_step_43 rfl (lv_at hl 0 rfl) ?_
      refine lv_iconst (v := 0) hx hb dX1_step_44 (by decide) ?_
      refine va_put (D := (dC, dI)) (ci := 1) (v := .int 0) (ty := .int) (C := RX1) (T := TX1) (N := 14) hx hb hts (fun _ h => List.mem_cons_of_mem _ (List.mem_append_right _ h)) tyX1 tyX1_ok nmX1 hown hK hP hD hS 0 rfl rfl 2 (by decide) (hts (.fieldLink RX1 49 "RetiredTimerModel" "count" "I") (by decide +kernel)) (fun _ h9 => h9) rfl (by decide +kernel) rfl rfl (Nat.le_of_ble_eq_true rfl) dX1_step_45 (fun H locs hP hD hS => ?_)
      have hP : va_P (dC, dI) vwCl (rt_mw h0 a1 a2 k1 k2 f g (nI en) ((nI rn) + 1) 0 per cng 1 msk sr sav tkn (nI kn)) H := hP
      have hD : va_D A (rt_mw h0 a1 a2 k1 k2 f g (nI en) ((nI rn) + 1) 0 per cng 1 msk sr sav tkn (nI kn)) := hD
      refine lv_aload_n hx hb dX1_step_48 rfl (lv_at hl 0 rfl) ?_
      have hFc := va_free (wc := rt_mw h0 a1 a2 k1 k2 f g (nI en) ((nI rn) + 1) 0 per cng 1 msk sr sav tkn (nI kn)) hD hS hA [0, 1, 2] rfl
      refine va_callv (va_runV (As := []) (rest := []) ⟨hx, hb, hml, hown, hts⟩ (c_M_goOn l dC dI h0 a1 a2 H.size k1 k2 f g (nI en) ((nI rn) + 1) 0 per cng 1 msk sr sav tkn (nI kn) en kn rfl h32 rfl hc.1) (cwV 0 hts gX1_step_X1_goOn rfl rfl rfl (by decide +kernel) ⟨Nat.le_of_ble_eq_true rfl, Nat.le_of_ble_eq_true rfl⟩) ⟨fun a U g mk q => by obtain ⟨q0, q1, qP, qK, qD⟩ := q; exact ⟨q0, q1, qP, va_K.moved (u := U) (U := U.calling g mk a) (Vm.Alike.refl U.vm) qK, qD⟩, va_recv hK hP (ci := 1) (q0 := 0) rfl rfl, fun U hU hW => ⟨rfl, by rw [hU], by rw [hU]; exact hP, va_K.moved hW.alike hK, hD.weaken (fun _ _ _ _ => trivial)⟩⟩ rfl rfl hl.1 rfl (lv_room (Nat.le_of_ble_eq_true rfl)) dX1_step_49 ⟨Nat.zero_le _, Nat.zero_le _⟩) hS (fun q _ h => hFc q h) hFc (fun u t H1 locs ht hvm hw_49 hB hz1 hk1 hS => ?_)
      obtain ⟨com_49, rfl⟩ : ∃ z, z = u := ⟨_, rfl⟩
      obtain ⟨hP1, hK1, hD1⟩ := hB
      rw [ht] at hP1
      try dsimp only at hw_49 hP1 hD1
      obtain ⟨hP, hD⟩ := va_join (wr := []) (w1 := rt_mw h0 a1 a2 k1 k2 f g (nI en) ((nI rn) + 1) 0 per cng 1 msk sr sav tkn (nI com_49)) hP hD [0, 1, 2] [] rfl rfl (by decide) (by decide) hk1 hFc hP1 hD1
      generalize H1 = H at hP hS ⊢
      have hP : va_P (dC, dI) vwCl (rt_mw h0 a1 a2 k1 k2 f g (nI en) ((nI rn) + 1) 0 per cng 1 msk sr sav tkn (nI com_49)) H := hP
      have hD : va_D A (rt_mw h0 a1 a2 k1 k2 f g (nI en) ((nI rn) + 1) 0 per cng 1 msk sr sav tkn (nI com_49)) := hD
      rw [nI_1] at hw_49
      exact W.vret hx hb hr (fun t ht hW => ⟨⟨((nI rn) + 1, 0, 1, com_49), rfl, ⟨nI_1 rn, by unfold rt_sc; rw [if_neg c_14, if_pos c_35], by unfold rt_sp; rw [if_neg c_14, if_pos c_35], rt_come_step hs hc hrl hw_49⟩, by rw [ht]; exact hP, va_K.moved hW.alike hK, hD⟩, hS.F ht⟩) hS.2.2 dX1_step_52
set_option maxHeartbeats 4000000 in
set_option maxRecDepth 100000 in
theorem c_M_take (l : Launch) (dC : Nat → ClassId) (dI : Nat → Nat → Nat) (h0 a1 a2 sz : Nat) (k1 k2 : ClassId) (f g : Nat → Int32) (ent ret cnt per cng pnd msk sr sav tkn com : Int32) (kn : Nat) (hk : com = nI kn) (hk32 : kn ≤ 32) :
    Met l yX1_take wsX1_take ({ frames := 2, cells := 0, slots := 0, locals := 40 }) (va_Pc [.ref h0] (rt_pre dC dI (rt_mw h0 a1 a2 k1 k2 f g ent ret cnt per cng pnd msk sr sav tkn com) [(k1, .int), (k2, .int)] sz)) (va_Qi (fun (v : Int32) (u : Int32 × Int32 × Int32) => v = rt_due sr pnd (rt_now g kn) msk ∧ u.1 = (if rt_due sr pnd (rt_now g kn) msk = 0 then sr else (sr &&& 32) ||| 1) ∧ u.2.1 = (if rt_due sr pnd (rt_now g kn) msk = 0 then sav else sr) ∧ u.2.2 = (if rt_due sr pnd (rt_now g kn) msk = 0 then tkn else tkn + 1)) (rt_post dC dI [(k1, .int), (k2, .int)] (va_A (rt_mw h0 a1 a2 k1 k2 f g ent ret cnt per cng pnd msk sr sav tkn com) sz) (fun (u : Int32 × Int32 × Int32) => rt_mw h0 a1 a2 k1 k2 f g ent ret cnt per cng pnd msk u.1 u.2.1 u.2.2 com)) (va_A (rt_mw h0 a1 a2 k1 k2 f g ent ret cnt per cng pnd msk sr sav tkn com) sz)) 0 0 (va_A (rt_mw h0 a1 a2 k1 k2 f g ent ret cnt per cng pnd msk sr sav tkn com) sz) := by
  subst hk
  refine Met.ofW (cc := cX1_take) (maxL := 2) (ret := (some .int)) (by decide) rfl ?_
  intro p e0 s m args below meth c s₁ B hml hv
  obtain ⟨rfl, hsz, hP, hK, hD0⟩ := hv
  have hx := B.exec
  have hb := B.bytes
  have hr := B.returns
  have hts := atoms_spec (ws := wsX1_take) B.pre
  have hown : s.vm.findClass RX1 = some m.cls := findClass_of_methodNamed B.named
  have hlocks := B.notSynchronized
  subst hsz
  have hD := hD0.self (sz := s.heap.size)
  generalize hAe : va_A (rt_mw h0 a1 a2 k1 k2 f g ent ret cnt per cng pnd msk sr sav tkn (nI kn)) s.heap.size = A at hD ⊢
  have hA : ∀ q : Nat, s.heap.size ≤ q → A q := fun q h => by rw [← hAe]; exact Or.inr h
  have hS : va_S A s.heap s.heap [] := va_S.rf
  have hP : va_P (dC, dI) vwCl (rt_mw h0 a1 a2 k1 k2 f g ent ret cnt per cng pnd msk sr sav tkn (nI kn)) s.heap := hP
  have hl := lv_entry ([.ref h0]) (n := 2) (Nat.le_of_ble_eq_true rfl)
  rw [lg_entry_eq]
  generalize (lg_sl ([.ref h0]) ++ List.replicate (2 - (lg_sl ([.ref h0])).length) Slot.unset).toArray = ls at hl ⊢
  have hl : lv_has ls 2 [(0, .ref h0)] := hl
  refine lv_aload_n hx hb dX1_take_0 rfl (lv_at hl 0 rfl) ?_
  refine lv_iconst (v := 0) hx hb dX1_take_1 (by decide) ?_
  refine va_put (D := (dC, dI)) (ci := 1) (v := .int 0) (ty := .int) (C := RX1) (T := TX1) (N := 14) hx hb hts (fun _ h => List.mem_cons_of_mem _ (List.mem_append_right _ h)) tyX1 tyX1_ok nmX1 hown hK hP hD hS 0 rfl rfl 0 (by decide) (hts (.fieldLink RX1 20 "RetiredTimerModel" "thrown" "I") (by decide +kernel)) (fun _ h9 => h9) rfl (by decide +kernel) rfl rfl (Nat.le_of_ble_eq_true rfl) dX1_take_2 (fun H locs hP hD hS => ?_)
  have hP : va_P (dC, dI) vwCl (rt_mw h0 a1 a2 k1 k2 f g ent ret cnt per cng pnd msk sr sav tkn (nI kn)) H := hP
  have hD : va_D A (rt_mw h0 a1 a2 k1 k2 f g ent ret cnt per cng pnd msk sr sav tkn (nI kn)) := hD
  refine lv_aload_n hx hb dX1_take_5 rfl (lv_at hl 0 rfl) ?_
  have hFc := va_free (wc := rt_mw h0 a1 a2 k1 k2 f g ent ret cnt per cng pnd msk sr sav tkn (nI kn)) hD hS hA [0, 1, 2] rfl
  refine va_calli (va_runV (As := []) (rest := []) ⟨hx, hb, hml, hown, hts⟩ (c_M_due l dC dI h0 a1 a2 H.size k1 k2 f g ent ret cnt per cng pnd msk sr sav tkn (nI kn) kn rfl hk32) (cwV 0 hts gX1_take_X1_due rfl rfl rfl (by decide +kernel) ⟨Nat.le_of_ble_eq_true rfl, Nat.le_of_ble_eq_true rfl⟩) ⟨fun a U g mk q => by obtain ⟨q0, q1, qP, qK, qD⟩ := q; exact ⟨q0, q1, qP, va_K.moved (u := U) (U := U.calling g mk a) (Vm.Alike.refl U.vm) qK, qD⟩, va_recv hK hP (ci := 1) (q0 := 0) rfl rfl, fun U hU hW => ⟨rfl, by rw [hU], by rw [hU]; exact hP, va_K.moved hW.alike hK, hD.weaken (fun _ _ _ _ => trivial)⟩⟩ rfl rfl hl.1 rfl (lv_room (Nat.le_of_ble_eq_true rfl)) dX1_take_6 ⟨Nat.zero_le _, Nat.zero_le _⟩) hS (fun q _ h => hFc q h) hFc (fun r_6 u t H1 locs ht hvm hw_6 hB hz1 hk1 hS => ?_)
  obtain ⟨hP1, hK1, hD1⟩ := hB
  rw [ht] at hP1
  try dsimp only at hw_6 hP1 hD1
  obtain ⟨hP, hD⟩ := va_join (wr := []) (w1 := rt_mw h0 a1 a2 k1 k2 f g ent ret cnt per cng pnd msk sr sav tkn (nI kn)) hP hD [0, 1, 2] [] rfl rfl (by decide) (by decide) hk1 hFc hP1 hD1
  generalize H1 = H at hP hS ⊢
  have hP : va_P (dC, dI) vwCl (rt_mw h0 a1 a2 k1 k2 f g ent ret cnt per cng pnd msk sr sav tkn (nI kn)) H := hP
  have hD : va_D A (rt_mw h0 a1 a2 k1 k2 f g ent ret cnt per cng pnd msk sr sav tkn (nI kn)) := hD
  refine lv_istore_n (lv' := [(1, .int r_6), (0, .ref h0)]) hx hb dX1_take_9 rfl hl (by decide) rfl (fun ls hl => ?_)
  refine lv_iload_n hx hb dX1_take_10 rfl (lv_at hl 0 rfl) ?_
  refine lv_if_le (tgt := 45) hx hb dX1_take_11 (by decide) (fun c_11 => ?_) (fun c_11 => ?_)
  · refine lv_iload_n hx hb dX1_take_45 rfl (lv_at hl 0 rfl) ?_
    have hz := rt_dueLe hw_6 c_11
    exact W.iret (v := r_6) hx hb hr (fun t ht hW => ⟨⟨r_6, (sr, sav, tkn), rfl, ⟨hw_6, by rw [if_pos hz], by rw [if_pos hz], by rw [if_pos hz]⟩, by rw [ht]; exact hP, va_K.moved hW.alike hK, hD⟩, hS.F ht⟩) hS.2.2 dX1_take_46
  · refine lv_aload_n hx hb dX1_take_14 rfl (lv_at hl 1 rfl) ?_
    refine lv_aload_n hx hb dX1_take_15 rfl (lv_at hl 1 rfl) ?_
    refine va_get (D := (dC, dI)) (ci := 1) (v := .int sr) (C := RX1) (T := TX1) (N := 14) hx hb hts (fun _ h => List.mem_cons_of_mem _ (List.mem_append_right _ h)) hown hK hP 0 rfl rfl 7 (by decide) (hts (.fieldLink RX1 7 "RetiredTimerModel" "sr" "I") (by decide +kernel)) (fun _ h9 => h9) rfl dX1_take_16 ?_
    refine va_put (D := (dC, dI)) (ci := 1) (v := .int sr) (ty := .int) (C := RX1) (T := TX1) (N := 14) hx hb hts (fun _ h => List.mem_cons_of_mem _ (List.mem_append_right _ h)) tyX1 tyX1_ok nmX1 hown hK hP hD hS 0 rfl rfl 8 (by decide) (hts (.fieldLink RX1 62 "RetiredTimerModel" "saved" "I") (by decide +kernel)) (fun _ h9 => h9) rfl (by decide +kernel) rfl rfl (Nat.le_of_ble_eq_true rfl) dX1_take_19 (fun H locs hP hD hS => ?_)
    have hP : va_P (dC, dI) vwCl (rt_mw h0 a1 a2 k1 k2 f g ent ret cnt per cng pnd msk sr sr tkn (nI kn)) H := hP
    have hD : va_D A (rt_mw h0 a1 a2 k1 k2 f g ent ret cnt per cng pnd msk sr sr tkn (nI kn)) := hD
    refine lv_aload_n hx hb dX1_take_22 rfl (lv_at hl 1 rfl) ?_
    refine lv_aload_n hx hb dX1_take_23 rfl (lv_at hl 1 rfl) ?_
    refine va_get (D := (dC, dI)) (ci := 1) (v := .int sr) (C := RX1) (T := TX1) (N := 14) hx hb hts (fun _ h => List.mem_cons_of_mem _ (List.mem_append_right _ h)) hown hK hP 0 rfl rfl 7 (by decide) (hts (.fieldLink RX1 7 "RetiredTimerModel" "sr" "I") (by decide +kernel)) (fun _ h9 => h9) rfl dX1_take_24 ?_
    refine lv_bipush (v := 32) hx hb dX1_take_27 (by decide) ?_
    refine lv_iand hx hb dX1_take_29 ?_
    refine lv_iconst (v := 1) hx hb dX1_take_30 (by decide) ?_
    refine lv_ior hx hb dX1_take_31 ?_
    refine va_put (D := (dC, dI)) (ci := 1) (v := .int ((sr &&& 32) ||| 1)) (ty := .int) (C := RX1) (T := TX1) (N := 14) hx hb hts (fun _ h => List.mem_cons_of_mem _ (List.mem_append_right _ h)) tyX1 tyX1_ok nmX1 hown hK hP hD hS 0 rfl rfl 7 (by decide) (hts (.fieldLink RX1 7 "RetiredTimerModel" "sr" "I") (by decide +kernel)) (fun _ h9 => h9) rfl (by decide +kernel) rfl rfl (Nat.le_of_ble_eq_true rfl) dX1_take_32 (fun H locs hP hD hS => ?_)
    have hP : va_P (dC, dI) vwCl (rt_mw h0 a1 a2 k1 k2 f g ent ret cnt per cng pnd msk ((sr &&& 32) ||| 1) sr tkn (nI kn)) H := hP
    have hD : va_D A (rt_mw h0 a1 a2 k1 k2 f g ent ret cnt per cng pnd msk ((sr &&& 32) ||| 1) sr tkn (nI kn)) := hD
    refine lv_aload_n hx hb dX1_take_35 rfl (lv_at hl 1 rfl) ?_
    refine lv_dup hx hb dX1_take_36 rfl ?_
    refine va_get (D := (dC, dI)) (ci := 1) (v := .int tkn) (C := RX1) (T := TX1) (N := 14) hx hb hts (fun _ h => List.mem_cons_of_mem _ (List.mem_append_right _ h)) hown hK hP 0 rfl rfl 9 (by decide) (hts (.fieldLink RX1 65 "RetiredTimerModel" "taken" "I") (by decide +kernel)) (fun _ h9 => h9) rfl dX1_take_37 ?_
    refine lv_iconst (v := 1) hx hb dX1_take_40 (by decide) ?_
    refine lv_iadd hx hb dX1_take_41 ?_
    refine va_put (D := (dC, dI)) (ci := 1) (v := .int (tkn + 1)) (ty := .int) (C := RX1) (T := TX1) (N := 14) hx hb hts (fun _ h => List.mem_cons_of_mem _ (List.mem_append_right _ h)) tyX1 tyX1_ok nmX1 hown hK hP hD hS 0 rfl rfl 9 (by decide) (hts (.fieldLink RX1 65 "RetiredTimerModel" "taken" "I") (by decide +kernel)) (fun _ h9 => h9) rfl (by decide +kernel) rfl rfl (Nat.le_of_ble_eq_true rfl) dX1_take_42 (fun H locs hP hD hS => ?_)
    have hP : va_P (dC, dI) vwCl (rt_mw h0 a1 a2 k1 k2 f g ent ret cnt per cng pnd msk ((sr &&& 32) ||| 1) sr (tkn + 1) (nI kn)) H := hP
    have hD : va_D A (rt_mw h0 a1 a2 k1 k2 f g ent ret cnt per cng pnd msk ((sr &&& 32) ||| 1) sr (tkn + 1) (nI kn)) := hD
    refine lv_iload_n hx hb dX1_take_45 rfl (lv_at hl 0 rfl) ?_
    have hz := rt_dueGt hw_6 c_11
    exact W.iret (v := r_6) hx hb hr (fun t ht hW => ⟨⟨r_6, ((sr &&& 32) ||| 1, sr, tkn + 1), rfl, ⟨hw_6, by rw [if_neg hz], by rw [if_neg hz], by rw [if_neg hz]⟩, by rw [ht]; exact hP, va_K.moved hW.alike hK, hD⟩, hS.F ht⟩) hS.2.2 dX1_take_46
set_option maxHeartbeats 4000000 in
set_option maxRecDepth 100000 in
theorem lp_M_linesAt {p : Program} {l : Launch} {e0 : Env} {R : Room} {s : State} {m : MethodId} {args : Array Value} {below : List Frame} {meth : Method} {c : Code} {Q : State → Prop} {dC : Nat → ClassId} {dI : Nat → Nat → Nat} {h0 a1 a2 : Nat} {k1 k2 : ClassId} {H : Heap} {locs : List Loc} {f g : Nat → Int32} {ret cnt per cng pnd msk sr sav tkn com : Int32} {p1 : Int32} {en : Nat} (hx : p.tables.exec = Jvm.exec) (hb : c.code = cX1_linesAt) (hts : ∀ w ∈ wsX1_linesAt, w.before args s = true) (hown : s.vm.findClass RX1 = some m.cls) (hK : va_K (dC, dI) vwCl [(k1, .int), (k2, .int)] s) (hP : va_P (dC, dI) vwCl (rt_mw h0 a1 a2 k1 k2 f g (nI en) ret cnt per cng pnd msk sr sav tkn com) H) (h32 : en ≤ 32)
    (kx : ∀ (ls : Array Slot), lv_has ls 4 [(0, .ref h0), (1, .int p1), (2, .int (rt_pl f g p1 en)), (3, .int (nI en))] → W p l e0 R s m args below meth c H locs 0 0 Q (F0 m 44 ls [])) :
    ∀ (n i : Nat), i + n = en → ∀ (ls : Array Slot), lv_has ls 4 [(0, .ref h0), (1, .int p1), (2, .int (rt_pl f g p1 i)), (3, .int (nI i))] → W p l e0 R s m args below meth c H locs 0 0 Q (F0 m 9 ls []) := by
  intro n
  induction n with
  | zero =>
    intro i hi ls hl
    have hie : i = en := by omega
    subst hie
    refine lv_iload_n hx hb dX1_linesAt_9 rfl (lv_at hl 3 rfl) ?_
    refine lv_aload_n hx hb dX1_linesAt_10 rfl (lv_at hl 0 rfl) ?_
    refine va_get (D := (dC, dI)) (ci := 1) (v := .int (nI i)) (C := RX1) (T := TX1) (N := 14) hx hb hts (fun _ h => List.mem_cons_of_mem _ (List.mem_append_right _ h)) hown hK hP 0 rfl rfl 12 (by decide) (hts (.fieldLink RX1 26 "RetiredTimerModel" "entries" "I") (by decide +kernel)) (fun _ h9 => h9) rfl dX1_linesAt_11 ?_
    refine lv_icmp_ge (tgt := 44) hx hb dX1_linesAt_14 (by decide) (fun c_14 => ?_) (fun c_14 => absurd (Int32.le_refl _) c_14)
    exact kx ls (lv_sub hl [0, 1, 2, 3] rfl)
  | succ n ih =>
    intro i hi ls hl
    refine lv_iload_n hx hb dX1_linesAt_9 rfl (lv_at hl 3 rfl) ?_
    refine lv_aload_n hx hb dX1_linesAt_10 rfl (lv_at hl 0 rfl) ?_
    refine va_get (D := (dC, dI)) (ci := 1) (v := .int (nI en)) (C := RX1) (T := TX1) (N := 14) hx hb hts (fun _ h => List.mem_cons_of_mem _ (List.mem_append_right _ h)) hown hK hP 0 rfl rfl 12 (by decide) (hts (.fieldLink RX1 26 "RetiredTimerModel" "entries" "I") (by decide +kernel)) (fun _ h9 => h9) rfl dX1_linesAt_11 ?_
    refine lv_icmp_ge (tgt := 44) hx hb dX1_linesAt_14 (by decide) (fun c_14 => absurd c_14 (nI_ge (by omega) (by omega))) (fun c_14 => ?_)
    refine lv_aload_n hx hb dX1_linesAt_17 rfl (lv_at hl 0 rfl) ?_
    refine va_get (D := (dC, dI)) (ci := 1) (v := .ref a1) (C := RX1) (T := TX1) (N := 14) hx hb hts (fun _ h => List.mem_cons_of_mem _ (List.mem_append_right _ h)) hown hK hP 0 rfl rfl 10 (by decide) (hts (.fieldLink RX1 13 "RetiredTimerModel" "counts" "[I") (by decide +kernel)) (fun _ h9 => h9) rfl dX1_linesAt_18 ?_
    refine lv_iload_n hx hb dX1_linesAt_21 rfl (lv_at hl 3 rfl) ?_
    refine va_iald hx hb hK hP 1 0 rfl rfl (vp_in_nI (N := 32) (by omega) (by decide)) dX1_linesAt_22 ?_
    rw [show f (nI i).toNatClampNeg = f i from by rw [nI_clamp (by omega)]]
    refine lv_iload_n hx hb dX1_linesAt_23 rfl (lv_at hl 1 rfl) ?_
    refine lv_icmp_gt (tgt := 36) hx hb dX1_linesAt_24 (by decide) (fun c_24 => ?_) (fun c_24 => ?_)
    · refine lv_iload_n hx hb dX1_linesAt_36 rfl (lv_at hl 2 rfl) ?_
      refine lv_istore_n (lv' := [(2, .int (rt_pl f g p1 i)), (0, .ref h0), (1, .int p1), (3, .int (nI i))]) hx hb dX1_linesAt_37 rfl hl (by decide) rfl (fun ls hl => ?_)
      refine lv_iinc (v := (nI i) + 1) (lv' := [(3, .int ((nI i) + 1)), (2, .int (rt_pl f g p1 i)), (0, .ref h0), (1, .int p1)]) hx hb dX1_linesAt_38 hl (k := 3) rfl rfl (by decide) rfl (fun ls hl => ?_)
      refine lv_goto (tgt := 9) hx hb dX1_linesAt_41 (by decide) ?_
      have e2 : rt_pl f g p1 (i + 1) = rt_pl f g p1 i := by simp only [rt_pl]; rw [if_neg (fun h => rt_nle2 h c_24)]
      exact ih (i + 1) (by omega) ls (by rw [e2, ← nI_1]; exact lv_sub hl [2, 3, 1, 0] rfl)
    · refine lv_aload_n hx hb dX1_linesAt_27 rfl (lv_at hl 0 rfl) ?_
      refine va_get (D := (dC, dI)) (ci := 1) (v := .ref a2) (C := RX1) (T := TX1) (N := 14) hx hb hts (fun _ h => List.mem_cons_of_mem _ (List.mem_append_right _ h)) hown hK hP 0 rfl rfl 11 (by decide) (hts (.fieldLink RX1 17 "RetiredTimerModel" "values" "[I") (by decide +kernel)) (fun _ h9 => h9) rfl dX1_linesAt_28 ?_
      refine lv_iload_n hx hb dX1_linesAt_31 rfl (lv_at hl 3 rfl) ?_
      refine va_iald hx hb hK hP 2 1 rfl rfl (vp_in_nI (N := 32) (by omega) (by decide)) dX1_linesAt_32 ?_
      rw [show g (nI i).toNatClampNeg = g i from by rw [nI_clamp (by omega)]]
      refine lv_goto (tgt := 37) hx hb dX1_linesAt_33 (by decide) ?_
      refine lv_istore_n (lv' := [(2, .int (g i)), (0, .ref h0), (1, .int p1), (3, .int (nI i))]) hx hb dX1_linesAt_37 rfl hl (by decide) rfl (fun ls hl => ?_)
      refine lv_iinc (v := (nI i) + 1) (lv' := [(3, .int ((nI i) + 1)), (2, .int (g i)), (0, .ref h0), (1, .int p1)]) hx hb dX1_linesAt_38 hl (k := 3) rfl rfl (by decide) rfl (fun ls hl => ?_)
      refine lv_goto (tgt := 9) hx hb dX1_linesAt_41 (by decide) ?_
      have e2 : rt_pl f g p1 (i + 1) = g i := by simp only [rt_pl]; rw [if_pos (rt_nlt c_24)]
      exact ih (i + 1) (by omega) ls (by rw [e2, ← nI_1]; exact lv_sub hl [2, 3, 1, 0] rfl)
set_option maxHeartbeats 4000000 in
set_option maxRecDepth 100000 in
theorem c_M_linesAt (l : Launch) (dC : Nat → ClassId) (dI : Nat → Nat → Nat) (h0 a1 a2 sz : Nat) (k1 k2 : ClassId) (f g : Nat → Int32) (ent ret cnt per cng pnd msk sr sav tkn com : Int32) (p1 : Int32) (en : Nat) (he : ent = nI en) (h32 : en ≤ 32) (hs : rt_Srt f en) :
    Met l yX1_linesAt wsX1_linesAt ({ frames := 0, cells := 0, slots := 0, locals := 0 }) (va_Pc [.ref h0, .int p1] (rt_pre dC dI (rt_mw h0 a1 a2 k1 k2 f g ent ret cnt per cng pnd msk sr sav tkn com) [(k1, .int), (k2, .int)] sz)) (va_Qi (fun (v : Int32) (u : Unit) => v = rt_pl f g p1 en) (rt_post dC dI [(k1, .int), (k2, .int)] (va_A (rt_mw h0 a1 a2 k1 k2 f g ent ret cnt per cng pnd msk sr sav tkn com) sz) (fun (u : Unit) => rt_mw h0 a1 a2 k1 k2 f g ent ret cnt per cng pnd msk sr sav tkn com)) (va_A (rt_mw h0 a1 a2 k1 k2 f g ent ret cnt per cng pnd msk sr sav tkn com) sz)) 0 0 (va_A (rt_mw h0 a1 a2 k1 k2 f g ent ret cnt per cng pnd msk sr sav tkn com) sz) := by
  subst he
  refine Met.ofW (cc := cX1_linesAt) (maxL := 4) (ret := (some .int)) (by decide) rfl ?_
  intro p e0 s m args below meth c s₁ B hml hv
  obtain ⟨rfl, hsz, hP, hK, hD0⟩ := hv
  have hx := B.exec
  have hb := B.bytes
  have hr := B.returns
  have hts := atoms_spec (ws := wsX1_linesAt) B.pre
  have hown : s.vm.findClass RX1 = some m.cls := findClass_of_methodNamed B.named
  have hlocks := B.notSynchronized
  subst hsz
  have hD := hD0.self (sz := s.heap.size)
  generalize hAe : va_A (rt_mw h0 a1 a2 k1 k2 f g (nI en) ret cnt per cng pnd msk sr sav tkn com) s.heap.size = A at hD ⊢
  have hA : ∀ q : Nat, s.heap.size ≤ q → A q := fun q h => by rw [← hAe]; exact Or.inr h
  have hS : va_S A s.heap s.heap [] := va_S.rf
  have hP : va_P (dC, dI) vwCl (rt_mw h0 a1 a2 k1 k2 f g (nI en) ret cnt per cng pnd msk sr sav tkn com) s.heap := hP
  have hl := lv_entry ([.ref h0, .int p1]) (n := 4) (Nat.le_of_ble_eq_true rfl)
  rw [lg_entry_eq]
  generalize (lg_sl ([.ref h0, .int p1]) ++ List.replicate (4 - (lg_sl ([.ref h0, .int p1])).length) Slot.unset).toArray = ls at hl ⊢
  have hl : lv_has ls 4 [(0, .ref h0), (1, .int p1)] := hl
  refine lv_aload_n hx hb dX1_linesAt_0 rfl (lv_at hl 0 rfl) ?_
  refine lv_iconst (v := 0) hx hb dX1_linesAt_1 (by decide) ?_
  refine va_put (D := (dC, dI)) (ci := 1) (v := .int 0) (ty := .int) (C := RX1) (T := TX1) (N := 14) hx hb hts (fun _ h => List.mem_cons_of_mem _ (List.mem_append_right _ h)) tyX1 tyX1_ok nmX1 hown hK hP hD hS 0 rfl rfl 0 (by decide) (hts (.fieldLink RX1 20 "RetiredTimerModel" "thrown" "I") (by decide +kernel)) (fun _ h9 => h9) rfl (by decide +kernel) rfl rfl (Nat.le_of_ble_eq_true rfl) dX1_linesAt_2 (fun H locs hP hD hS => ?_)
  have hP : va_P (dC, dI) vwCl (rt_mw h0 a1 a2 k1 k2 f g (nI en) ret cnt per cng pnd msk sr sav tkn com) H := hP
  have hD : va_D A (rt_mw h0 a1 a2 k1 k2 f g (nI en) ret cnt per cng pnd msk sr sav tkn com) := hD
  refine lv_iconst (v := 0) hx hb dX1_linesAt_5 (by decide) ?_
  refine lv_istore_n (lv' := [(2, .int 0), (0, .ref h0), (1, .int p1)]) hx hb dX1_linesAt_6 rfl hl (by decide) rfl (fun ls hl => ?_)
  refine lv_iconst (v := 0) hx hb dX1_linesAt_7 (by decide) ?_
  refine lv_istore_n (lv' := [(3, .int 0), (2, .int 0), (0, .ref h0), (1, .int p1)]) hx hb dX1_linesAt_8 rfl hl (by decide) rfl (fun ls hl => ?_)
  refine lp_M_linesAt hx hb hts hown hK hP h32 (fun ls hl => ?_) en 0 (by omega) ls (lv_sub hl [2, 3, 1, 0] rfl)
  refine lv_iload_n hx hb dX1_linesAt_44 rfl (lv_at hl 1 rfl) ?_
  refine lv_if_ge (tgt := 52) hx hb dX1_linesAt_45 (by decide) (fun c_45 => ?_) (fun c_45 => ?_)
  · refine lv_iload_n hx hb dX1_linesAt_52 rfl (lv_at hl 2 rfl) ?_
    exact W.iret (v := rt_pl f g p1 en) hx hb hr (fun t ht hW => ⟨⟨rt_pl f g p1 en, (), rfl, rfl, by rw [ht]; exact hP, va_K.moved hW.alike hK, hD⟩, hS.F ht⟩) hS.2.2 dX1_linesAt_53
  · refine lv_iconst (v := 0) hx hb dX1_linesAt_48 (by decide) ?_
    refine lv_goto (tgt := 53) hx hb dX1_linesAt_49 (by decide) ?_
    exact W.iret (v := 0) hx hb hr (fun t ht hW => ⟨⟨0, (), rfl, (rt_pl_neg hs (rt_nle c_45)).symm, by rw [ht]; exact hP, va_K.moved hW.alike hK, hD⟩, hS.F ht⟩) hS.2.2 dX1_linesAt_53
set_option maxHeartbeats 4000000 in
set_option maxRecDepth 100000 in
theorem c_M_entryOf (l : Launch) (dC : Nat → ClassId) (dI : Nat → Nat → Nat) (h0 a1 a2 sz : Nat) (k1 k2 : ClassId) (f g : Nat → Int32) (ent ret cnt per cng pnd msk sr sav tkn com : Int32) (p1 : Int32) (p2 : Int32) (en : Nat) (he : ent = nI en) (h32 : en ≤ 32) :
    Met l yX1_entryOf wsX1_entryOf ({ frames := 0, cells := 0, slots := 0, locals := 0 }) (va_Pc [.ref h0, .int p1, .int p2] (rt_pre dC dI (rt_mw h0 a1 a2 k1 k2 f g ent ret cnt per cng pnd msk sr sav tkn com) [(k1, .int), (k2, .int)] sz)) (va_Qi (fun (v : Int32) (u : Unit) => v = rt_eo f g en p1 p2) (rt_post dC dI [(k1, .int), (k2, .int)] (va_A (rt_mw h0 a1 a2 k1 k2 f g ent ret cnt per cng pnd msk sr sav tkn com) sz) (fun (u : Unit) => rt_mw h0 a1 a2 k1 k2 f g ent ret cnt per cng pnd msk sr sav tkn com)) (va_A (rt_mw h0 a1 a2 k1 k2 f g ent ret cnt per cng pnd msk sr sav tkn com) sz)) 0 0 (va_A (rt_mw h0 a1 a2 k1 k2 f g ent ret cnt per cng pnd msk sr sav tkn com) sz) := by
  subst he
  refine Met.ofW (cc := cX1_entryOf) (maxL := 3) (ret := (some .int)) (by decide) rfl ?_
  intro p e0 s m args below meth c s₁ B hml hv
  obtain ⟨rfl, hsz, hP, hK, hD0⟩ := hv
  have hx := B.exec
  have hb := B.bytes
  have hr := B.returns
  have hts := atoms_spec (ws := wsX1_entryOf) B.pre
  have hown : s.vm.findClass RX1 = some m.cls := findClass_of_methodNamed B.named
  have hlocks := B.notSynchronized
  subst hsz
  have hD := hD0.self (sz := s.heap.size)
  generalize hAe : va_A (rt_mw h0 a1 a2 k1 k2 f g (nI en) ret cnt per cng pnd msk sr sav tkn com) s.heap.size = A at hD ⊢
  have hA : ∀ q : Nat, s.heap.size ≤ q → A q := fun q h => by rw [← hAe]; exact Or.inr h
  have hS : va_S A s.heap s.heap [] := va_S.rf
  have hP : va_P (dC, dI) vwCl (rt_mw h0 a1 a2 k1 k2 f g (nI en) ret cnt per cng pnd msk sr sav tkn com) s.heap := hP
  have hl := lv_entry ([.ref h0, .int p1, .int p2]) (n := 3) (Nat.le_of_ble_eq_true rfl)
  rw [lg_entry_eq]
  generalize (lg_sl ([.ref h0, .int p1, .int p2]) ++ List.replicate (3 - (lg_sl ([.ref h0, .int p1, .int p2])).length) Slot.unset).toArray = ls at hl ⊢
  have hl : lv_has ls 3 [(0, .ref h0), (1, .int p1), (2, .int p2)] := hl
  refine lv_aload_n hx hb dX1_entryOf_0 rfl (lv_at hl 0 rfl) ?_
  refine lv_iconst (v := 0) hx hb dX1_entryOf_1 (by decide) ?_
  refine va_put (D := (dC, dI)) (ci := 1) (v := .int 0) (ty := .int) (C := RX1) (T := TX1) (N := 14) hx hb hts (fun _ h => List.mem_cons_of_mem _ (List.mem_append_right _ h)) tyX1 tyX1_ok nmX1 hown hK hP hD hS 0 rfl rfl 0 (by decide) (hts (.fieldLink RX1 20 "RetiredTimerModel" "thrown" "I") (by decide +kernel)) (fun _ h9 => h9) rfl (by decide +kernel) rfl rfl (Nat.le_of_ble_eq_true rfl) dX1_entryOf_2 (fun H locs hP hD hS => ?_)
  have hP : va_P (dC, dI) vwCl (rt_mw h0 a1 a2 k1 k2 f g (nI en) ret cnt per cng pnd msk sr sav tkn com) H := hP
  have hD : va_D A (rt_mw h0 a1 a2 k1 k2 f g (nI en) ret cnt per cng pnd msk sr sav tkn com) := hD
  refine lv_iload_n hx hb dX1_entryOf_5 rfl (lv_at hl 1 rfl) ?_
  refine lv_if_lt (tgt := 17) hx hb dX1_entryOf_6 (by decide) (fun c_6 => ?_) (fun c_6 => ?_)
  · refine lv_iconst (v := -1) hx hb dX1_entryOf_17 (by decide) ?_
    refine lv_goto (tgt := 40) hx hb dX1_entryOf_18 (by decide) ?_
    exact W.iret (v := (-1)) hx hb hr (fun t ht hW => ⟨⟨(-1), (), rfl, by unfold rt_eo; rw [if_pos (Or.inl c_6)], by rw [ht]; exact hP, va_K.moved hW.alike hK, hD⟩, hS.F ht⟩) hS.2.2 dX1_entryOf_40
  · refine lv_iload_n hx hb dX1_entryOf_9 rfl (lv_at hl 1 rfl) ?_
    refine lv_aload_n hx hb dX1_entryOf_10 rfl (lv_at hl 0 rfl) ?_
    refine va_get (D := (dC, dI)) (ci := 1) (v := .int (nI en)) (C := RX1) (T := TX1) (N := 14) hx hb hts (fun _ h => List.mem_cons_of_mem _ (List.mem_append_right _ h)) hown hK hP 0 rfl rfl 12 (by decide) (hts (.fieldLink RX1 26 "RetiredTimerModel" "entries" "I") (by decide +kernel)) (fun _ h9 => h9) rfl dX1_entryOf_11 ?_
    refine lv_icmp_lt (tgt := 21) hx hb dX1_entryOf_14 (by decide) (fun c_14 => ?_) (fun c_14 => ?_)
    · refine lv_iload_n hx hb dX1_entryOf_21 rfl (lv_at hl 2 rfl) ?_
      refine lv_if_eq (tgt := 34) hx hb dX1_entryOf_22 (by decide) (fun c_22 => ?_) (fun c_22 => ?_)
      · refine lv_aload_n hx hb dX1_entryOf_34 rfl (lv_at hl 0 rfl) ?_
        refine va_get (D := (dC, dI)) (ci := 1) (v := .ref a1) (C := RX1) (T := TX1) (N := 14) hx hb hts (fun _ h => List.mem_cons_of_mem _ (List.mem_append_right _ h)) hown hK hP 0 rfl rfl 10 (by decide) (hts (.fieldLink RX1 13 "RetiredTimerModel" "counts" "[I") (by decide +kernel)) (fun _ h9 => h9) rfl dX1_entryOf_35 ?_
        refine lv_iload_n hx hb dX1_entryOf_38 rfl (lv_at hl 1 rfl) ?_
        refine va_iald hx hb hK hP 1 0 rfl rfl (rt_idx h32 c_6 (fun h => rt_nle2 h c_14)) dX1_entryOf_39 ?_
        exact W.iret (v := f p1.toNatClampNeg) hx hb hr (fun t ht hW => ⟨⟨f p1.toNatClampNeg, (), rfl, by unfold rt_eo; rw [if_neg (fun h => h.elim c_6 (fun h => rt_nle2 h c_14)), if_pos c_22], by rw [ht]; exact hP, va_K.moved hW.alike hK, hD⟩, hS.F ht⟩) hS.2.2 dX1_entryOf_40
      · refine lv_aload_n hx hb dX1_entryOf_25 rfl (lv_at hl 0 rfl) ?_
        refine va_get (D := (dC, dI)) (ci := 1) (v := .ref a2) (C := RX1) (T := TX1) (N := 14) hx hb hts (fun _ h => List.mem_cons_of_mem _ (List.mem_append_right _ h)) hown hK hP 0 rfl rfl 11 (by decide) (hts (.fieldLink RX1 17 "RetiredTimerModel" "values" "[I") (by decide +kernel)) (fun _ h9 => h9) rfl dX1_entryOf_26 ?_
        refine lv_iload_n hx hb dX1_entryOf_29 rfl (lv_at hl 1 rfl) ?_
        refine va_iald hx hb hK hP 2 1 rfl rfl (rt_idx h32 c_6 (fun h => rt_nle2 h c_14)) dX1_entryOf_30 ?_
        refine lv_goto (tgt := 40) hx hb dX1_entryOf_31 (by decide) ?_
        exact W.iret (v := g p1.toNatClampNeg) hx hb hr (fun t ht hW => ⟨⟨g p1.toNatClampNeg, (), rfl, by unfold rt_eo; rw [if_neg (fun h => h.elim c_6 (fun h => rt_nle2 h c_14)), if_neg c_22], by rw [ht]; exact hP, va_K.moved hW.alike hK, hD⟩, hS.F ht⟩) hS.2.2 dX1_entryOf_40
    · refine lv_iconst (v := -1) hx hb dX1_entryOf_17 (by decide) ?_
      refine lv_goto (tgt := 40) hx hb dX1_entryOf_18 (by decide) ?_
      exact W.iret (v := (-1)) hx hb hr (fun t ht hW => ⟨⟨(-1), (), rfl, by unfold rt_eo; rw [if_pos (Or.inr (rt_nlt c_14))], by rw [ht]; exact hP, va_K.moved hW.alike hK, hD⟩, hS.F ht⟩) hS.2.2 dX1_entryOf_40
