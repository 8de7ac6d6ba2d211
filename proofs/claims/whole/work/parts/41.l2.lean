set_option maxHeartbeats 4000000 in
set_option maxRecDepth 100000 in
theorem law_c0 {p : Program} {l : Launch} {e0 : Env} {s : State} {m : MethodId} {below : List Frame} {meth : Method} {c : Code} {dC : Nat → ClassId} {dI : Nat → Nat → Nat} {b L : Nat} {xs : Nat → Int32} (hL : L ≤ 2048) (C0 : lw_At p s m meth c b L xs) {q0 q1 q2 q3 q4 q5 : Nat} {k1 k2 k3 k4 : ClassId} (hK : va_K (dC, dI) vwCl [(k1, .int), (k2, .int), (k3, .int), (k4, .int)] s) {i : Nat} (hi : i + 4 ≤ L) (kk : ∀ (f g : Nat → Int32) (en rn kn pn : Nat) (cnt cng pnd msk sr sav tkn : Int32), rt_Inv f en rn kn pn → ∀ (H : Heap) (locs : List Loc) (ls : Array Slot), va_P (dC, dI) vwCl (rt_xw q0 q1 q2 k1 k2 f g (nI en) (nI rn) cnt (nI pn) cng pnd msk sr sav tkn ++ rt_mw q3 q4 q5 k3 k4 f g (nI en) (nI rn) cnt (nI pn) cng pnd msk sr sav tkn (nI kn)) H → va_D (fun q : Nat => s.heap.size ≤ q) (rt_xw q0 q1 q2 k1 k2 f g (nI en) (nI rn) cnt (nI pn) cng pnd msk sr sav tkn ++ rt_mw q3 q4 q5 k3 k4 f g (nI en) (nI rn) cnt (nI pn) cng pnd msk sr sav tkn (nI kn)) → va_S (fun q : Nat => s.heap.size ≤ q) s.heap H locs → lv_has ls 4 [(0, .ref b), (1, .ref q0), (2, .ref q3), (3, .int (nI i))] → W p l e0 room_1 s m #[Value.ref b] below meth c H locs 6 154 (lw_Z below #[Value.ref b] s) (F0 m 435 ls [])) :
    ∀ (f g : Nat → Int32) (en rn kn pn : Nat) (cnt cng pnd msk sr sav tkn : Int32), rt_Inv f en rn kn pn → ∀ (H : Heap) (locs : List Loc) (ls : Array Slot), va_P (dC, dI) vwCl (rt_xw q0 q1 q2 k1 k2 f g (nI en) (nI rn) cnt (nI pn) cng pnd msk sr sav tkn ++ rt_mw q3 q4 q5 k3 k4 f g (nI en) (nI rn) cnt (nI pn) cng pnd msk sr sav tkn (nI kn)) H → va_D (fun q : Nat => s.heap.size ≤ q) (rt_xw q0 q1 q2 k1 k2 f g (nI en) (nI rn) cnt (nI pn) cng pnd msk sr sav tkn ++ rt_mw q3 q4 q5 k3 k4 f g (nI en) (nI rn) cnt (nI pn) cng pnd msk sr sav tkn (nI kn)) → va_S (fun q : Nat => s.heap.size ≤ q) s.heap H locs → lv_has ls 4 [(0, .ref b), (1, .ref q0), (2, .ref q3), (3, .int (nI i))] → W p l e0 room_1 s m #[Value.ref b] below meth c H locs 6 154 (lw_Z below #[Value.ref b] s) (F0 m 100 ls []) := by
  obtain ⟨hx, hb, hr, hml, hown, htb, hX, hbl, hlocks, hgv⟩ := C0
  have hts := fun w h => htb w (wsL_law_in w h)
  have hA : ∀ q : Nat, s.heap.size ≤ q → (fun q : Nat => s.heap.size ≤ q) q := fun _ h => h
  have hbA : ¬ (fun q : Nat => s.heap.size ≤ q) b := Nat.not_le.mpr hbl
  intro f g en rn kn pn cnt cng pnd msk sr sav tkn hI H locs ls hP hD hS hl
  obtain ⟨h32, hrl, hpl, hs, hc⟩ := id hI
  refine lv_aload_n hx hb dL_law_100 rfl (lv_at hl 1 rfl) ?_
  refine lv_aload_n hx hb dL_law_101 rfl (lv_at hl 0 rfl) ?_
  refine lv_iload_n hx hb dL_law_102 rfl (lv_at hl 3 rfl) ?_
  refine lv_iconst (v := 1) hx hb dL_law_103 (by decide) ?_
  refine lv_iadd hx hb dL_law_104 ?_
  refine va_sld hx hb hX hbl hbA hS (rt_in1 hi hL) dL_law_105 ?_
  refine lv_aload_n hx hb dL_law_106 rfl (lv_at hl 0 rfl) ?_
  refine lv_iload_n hx hb dL_law_107 rfl (lv_at hl 3 rfl) ?_
  refine lv_iconst (v := 2) hx hb dL_law_108 (by decide) ?_
  refine lv_iadd hx hb dL_law_109 ?_
  refine va_sld hx hb hX hbl hbA hS (rt_in2 hi hL) dL_law_110 ?_
  have hPc := hP.sub (ws' := rt_xw q0 q1 q2 k1 k2 f g (nI en) (nI rn) cnt (nI pn) cng pnd msk sr sav tkn) [0, 1, 2] rfl
  have hDc := hD.sub (ws' := rt_xw q0 q1 q2 k1 k2 f g (nI en) (nI rn) cnt (nI pn) cng pnd msk sr sav tkn) [0, 1, 2] (by decide) rfl
  have hKc := hK.sub (tys' := [(k1, .int), (k2, .int)]) [0, 1] rfl
  have hFc := va_free (wc := rt_xw q0 q1 q2 k1 k2 f g (nI en) (nI rn) cnt (nI pn) cng pnd msk sr sav tkn) hD hS hA [0, 1, 2] rfl
  refine va_calli (va_runV (As := [.int (xs ((nI i) + 1).toNatClampNeg), .int (xs ((nI i) + 2).toNatClampNeg)]) (rest := []) ⟨hx, hb, hml, hown, hts⟩ (c_X_entry l dC dI q0 q1 q2 H.size k1 k2 f g (nI en) (nI rn) cnt (nI pn) cng pnd msk sr sav tkn (xs ((nI i) + 1).toNatClampNeg) (xs ((nI i) + 2).toNatClampNeg) en rfl h32) (cwV 2 hts gL_law_X0_entry rfl rfl rfl (by decide +kernel) ⟨Nat.le_of_ble_eq_true rfl, Nat.le_of_ble_eq_true rfl⟩) ⟨fun a U g mk q => by obtain ⟨q0, q1, qP, qK, qD⟩ := q; exact ⟨q0, q1, qP, va_K.moved (u := U) (U := U.calling g mk a) (Vm.Alike.refl U.vm) qK, qD⟩, va_recv hKc hPc (ci := 0) (q0 := 0) rfl rfl, fun U hU hW => ⟨rfl, by rw [hU], by rw [hU]; exact hPc, va_K.moved hW.alike hKc, hDc.weaken (fun _ _ _ _ => trivial)⟩⟩ rfl rfl hl.1 rfl (lv_room (Nat.le_of_ble_eq_true rfl)) dL_law_111 ⟨Nat.le_of_ble_eq_true rfl, Nat.le_of_ble_eq_true rfl⟩) hS (fun q _ h => hFc q h) hFc (fun r_111 u t H1 locs ht hvm hw_111 hB hz1 hk1 hS => ?_)
  obtain ⟨f_111, g_111, ent_111⟩ := u
  obtain ⟨hP1, hK1, hD1⟩ := hB
  rw [ht] at hP1
  try dsimp only at hw_111 hP1 hD1
  obtain ⟨hP, hD⟩ := va_join (wr := rt_mw q3 q4 q5 k3 k4 f g (nI en) (nI rn) cnt (nI pn) cng pnd msk sr sav tkn (nI kn)) (w1 := rt_xw q0 q1 q2 k1 k2 f_111 g_111 ent_111 (nI rn) cnt (nI pn) cng pnd msk sr sav tkn) hP hD [0, 1, 2] [3, 4, 5] rfl rfl (by decide) (by decide) hk1 hFc hP1 hD1
  have hP := hP.sub (ws' := rt_xw q0 q1 q2 k1 k2 f_111 g_111 ent_111 (nI rn) cnt (nI pn) cng pnd msk sr sav tkn ++ rt_mw q3 q4 q5 k3 k4 f g (nI en) (nI rn) cnt (nI pn) cng pnd msk sr sav tkn (nI kn)) [3, 4, 5, 0, 1, 2] rfl
  have hD := hD.sub (ws' := rt_xw q0 q1 q2 k1 k2 f_111 g_111 ent_111 (nI rn) cnt (nI pn) cng pnd msk sr sav tkn ++ rt_mw q3 q4 q5 k3 k4 f g (nI en) (nI rn) cnt (nI pn) cng pnd msk sr sav tkn (nI kn)) [3, 4, 5, 0, 1, 2] (by decide) rfl
  generalize H1 = H at hP hS ⊢
  have hP : va_P (dC, dI) vwCl (rt_xw q0 q1 q2 k1 k2 f_111 g_111 ent_111 (nI rn) cnt (nI pn) cng pnd msk sr sav tkn ++ rt_mw q3 q4 q5 k3 k4 f g (nI en) (nI rn) cnt (nI pn) cng pnd msk sr sav tkn (nI kn)) H := hP
  have hD : va_D (fun q : Nat => s.heap.size ≤ q) (rt_xw q0 q1 q2 k1 k2 f_111 g_111 ent_111 (nI rn) cnt (nI pn) cng pnd msk sr sav tkn ++ rt_mw q3 q4 q5 k3 k4 f g (nI en) (nI rn) cnt (nI pn) cng pnd msk sr sav tkn (nI kn)) := hD
  refine lv_aload_n hx hb dL_law_114 rfl (lv_at hl 2 rfl) ?_
  refine lv_aload_n hx hb dL_law_115 rfl (lv_at hl 0 rfl) ?_
  refine lv_iload_n hx hb dL_law_116 rfl (lv_at hl 3 rfl) ?_
  refine lv_iconst (v := 1) hx hb dL_law_117 (by decide) ?_
  refine lv_iadd hx hb dL_law_118 ?_
  refine va_sld hx hb hX hbl hbA hS (rt_in1 hi hL) dL_law_119 ?_
  refine lv_aload_n hx hb dL_law_120 rfl (lv_at hl 0 rfl) ?_
  refine lv_iload_n hx hb dL_law_121 rfl (lv_at hl 3 rfl) ?_
  refine lv_iconst (v := 2) hx hb dL_law_122 (by decide) ?_
  refine lv_iadd hx hb dL_law_123 ?_
  refine va_sld hx hb hX hbl hbA hS (rt_in2 hi hL) dL_law_124 ?_
  have hPc := hP.sub (ws' := rt_mw q3 q4 q5 k3 k4 f g (nI en) (nI rn) cnt (nI pn) cng pnd msk sr sav tkn (nI kn)) [3, 4, 5] rfl
  have hDc := hD.sub (ws' := rt_mw q3 q4 q5 k3 k4 f g (nI en) (nI rn) cnt (nI pn) cng pnd msk sr sav tkn (nI kn)) [3, 4, 5] (by decide) rfl
  have hKc := hK.sub (tys' := [(k3, .int), (k4, .int)]) [2, 3] rfl
  have hFc := va_free (wc := rt_mw q3 q4 q5 k3 k4 f g (nI en) (nI rn) cnt (nI pn) cng pnd msk sr sav tkn (nI kn)) hD hS hA [3, 4, 5] rfl
  refine va_calli (va_runV (As := [.int (xs ((nI i) + 1).toNatClampNeg), .int (xs ((nI i) + 2).toNatClampNeg)]) (rest := [.int r_111]) ⟨hx, hb, hml, hown, hts⟩ (c_M_entry l dC dI q3 q4 q5 H.size k3 k4 f g (nI en) (nI rn) cnt (nI pn) cng pnd msk sr sav tkn (nI kn) (xs ((nI i) + 1).toNatClampNeg) (xs ((nI i) + 2).toNatClampNeg) en rn kn rfl h32 rfl rfl hs hc) (cwV 2 hts gL_law_X1_entry rfl rfl rfl (by decide +kernel) ⟨Nat.le_of_ble_eq_true rfl, Nat.le_of_ble_eq_true rfl⟩) ⟨fun a U g mk q => by obtain ⟨q0, q1, qP, qK, qD⟩ := q; exact ⟨q0, q1, qP, va_K.moved (u := U) (U := U.calling g mk a) (Vm.Alike.refl U.vm) qK, qD⟩, va_recv hKc hPc (ci := 1) (q0 := 0) rfl rfl, fun U hU hW => ⟨rfl, by rw [hU], by rw [hU]; exact hPc, va_K.moved hW.alike hKc, hDc.weaken (fun _ _ _ _ => trivial)⟩⟩ rfl rfl hl.1 rfl (lv_room (Nat.le_of_ble_eq_true rfl)) dL_law_125 ⟨Nat.le_of_ble_eq_true rfl, Nat.le_of_ble_eq_true rfl⟩) hS (fun q _ h => hFc q h) hFc (fun r_125 u t H1 locs ht hvm hw_125 hB hz1 hk1 hS => ?_)
  obtain ⟨f_125, g_125, ent_125, com_125⟩ := u
  obtain ⟨hP1, hK1, hD1⟩ := hB
  rw [ht] at hP1
  try dsimp only at hw_125 hP1 hD1
  obtain ⟨hP, hD⟩ := va_join (wr := rt_xw q0 q1 q2 k1 k2 f_111 g_111 ent_111 (nI rn) cnt (nI pn) cng pnd msk sr sav tkn) (w1 := rt_mw q3 q4 q5 k3 k4 f_125 g_125 ent_125 (nI rn) cnt (nI pn) cng pnd msk sr sav tkn (nI com_125)) hP hD [3, 4, 5] [0, 1, 2] rfl rfl (by decide) (by decide) hk1 hFc hP1 hD1
  generalize H1 = H at hP hS ⊢
  have hP : va_P (dC, dI) vwCl (rt_xw q0 q1 q2 k1 k2 f_111 g_111 ent_111 (nI rn) cnt (nI pn) cng pnd msk sr sav tkn ++ rt_mw q3 q4 q5 k3 k4 f_125 g_125 ent_125 (nI rn) cnt (nI pn) cng pnd msk sr sav tkn (nI com_125)) H := hP
  have hD : va_D (fun q : Nat => s.heap.size ≤ q) (rt_xw q0 q1 q2 k1 k2 f_111 g_111 ent_111 (nI rn) cnt (nI pn) cng pnd msk sr sav tkn ++ rt_mw q3 q4 q5 k3 k4 f_125 g_125 ent_125 (nI rn) cnt (nI pn) cng pnd msk sr sav tkn (nI com_125)) := hD
  rcases hw_111 with ⟨x1, x2, x3, x4, x5⟩ | ⟨x1, x2, x3, x4, x5⟩
  · rcases hw_125 with ⟨y1, y2, y3, y4, y5, y6⟩ | ⟨y1, y2, y3, y4, y5, y6⟩
    · have hz9 := x2.symm
      subst hz9
      have hz9 := x3.symm
      subst hz9
      have hz9 := x4.symm
      subst hz9
      have hz9 := x5.symm
      subst hz9
      have hz9 := y2.symm
      subst hz9
      have hz9 := y3.symm
      subst hz9
      have hz9 := y4.symm
      subst hz9
      have hz9 := y5.symm
      subst hz9
      have hz9 := y6.symm
      subst hz9
      refine lv_icmp_eq (tgt := 435) hx hb dL_law_128 (by decide) (fun c_128 => ?_) (fun c_128 => absurd rfl c_128)
      exact kk f g en rn kn pn cnt cng pnd msk sr sav tkn hI H locs ls hP hD hS hl
    · exact absurd x1 y1
  · rcases hw_125 with ⟨y1, y2, y3, y4, y5, y6⟩ | ⟨y1, y2, y3, y4, y5, y6⟩
    · exact absurd y1 x1
    · have hz9 := x2.symm
      subst hz9
      have hz9 := x3.symm
      subst hz9
      have hz9 := x4.symm
      subst hz9
      have hz9 := x5.symm
      subst hz9
      have hz9 := y2.symm
      subst hz9
      have hz9 := y3.symm
      subst hz9
      have hz9 := y4.symm
      subst hz9
      have hz9 := y5.symm
      subst hz9
      refine lv_icmp_eq (tgt := 435) hx hb dL_law_128 (by decide) (fun c_128 => ?_) (fun c_128 => absurd rfl c_128)
      exact kk (upd f en (xs (nI i + 1).toNatClampNeg)) (upd g en (xs (nI i + 2).toNatClampNeg)) (en + 1) rn com_125 pn cnt cng pnd msk sr sav tkn ⟨by have : ¬ en = 32 := fun h => x1 (Or.inl h); omega, hrl, hpl, rt_srt_add hs x1, y6⟩ H locs ls hP hD hS hl
set_option maxHeartbeats 4000000 in
set_option maxRecDepth 100000 in
theorem law_c1 {p : Program} {l : Launch} {e0 : Env} {s : State} {m : MethodId} {below : List Frame} {meth : Method} {c : Code} {dC : Nat → ClassId} {dI : Nat → Nat → Nat} {b L : Nat} {xs : Nat → Int32} (hL : L ≤ 2048) (C0 : lw_At p s m meth c b L xs) {q0 q1 q2 q3 q4 q5 : Nat} {k1 k2 k3 k4 : ClassId} (hK : va_K (dC, dI) vwCl [(k1, .int), (k2, .int), (k3, .int), (k4, .int)] s) {i : Nat} (hi : i + 4 ≤ L) (kk : ∀ (f g : Nat → Int32) (en rn kn pn : Nat) (cnt cng pnd msk sr sav tkn : Int32), rt_Inv f en rn kn pn → ∀ (H : Heap) (locs : List Loc) (ls : Array Slot), va_P (dC, dI) vwCl (rt_xw q0 q1 q2 k1 k2 f g (nI en) (nI rn) cnt (nI pn) cng pnd msk sr sav tkn ++ rt_mw q3 q4 q5 k3 k4 f g (nI en) (nI rn) cnt (nI pn) cng pnd msk sr sav tkn (nI kn)) H → va_D (fun q : Nat => s.heap.size ≤ q) (rt_xw q0 q1 q2 k1 k2 f g (nI en) (nI rn) cnt (nI pn) cng pnd msk sr sav tkn ++ rt_mw q3 q4 q5 k3 k4 f g (nI en) (nI rn) cnt (nI pn) cng pnd msk sr sav tkn (nI kn)) → va_S (fun q : Nat => s.heap.size ≤ q) s.heap H locs → lv_has ls 4 [(0, .ref b), (1, .ref q0), (2, .ref q3), (3, .int (nI i))] → W p l e0 room_1 s m #[Value.ref b] below meth c H locs 6 154 (lw_Z below #[Value.ref b] s) (F0 m 435 ls [])) :
    ∀ (f g : Nat → Int32) (en rn kn pn : Nat) (cnt cng pnd msk sr sav tkn : Int32), rt_Inv f en rn kn pn → ∀ (H : Heap) (locs : List Loc) (ls : Array Slot), va_P (dC, dI) vwCl (rt_xw q0 q1 q2 k1 k2 f g (nI en) (nI rn) cnt (nI pn) cng pnd msk sr sav tkn ++ rt_mw q3 q4 q5 k3 k4 f g (nI en) (nI rn) cnt (nI pn) cng pnd msk sr sav tkn (nI kn)) H → va_D (fun q : Nat => s.heap.size ≤ q) (rt_xw q0 q1 q2 k1 k2 f g (nI en) (nI rn) cnt (nI pn) cng pnd msk sr sav tkn ++ rt_mw q3 q4 q5 k3 k4 f g (nI en) (nI rn) cnt (nI pn) cng pnd msk sr sav tkn (nI kn)) → va_S (fun q : Nat => s.heap.size ≤ q) s.heap H locs → lv_has ls 4 [(0, .ref b), (1, .ref q0), (2, .ref q3), (3, .int (nI i))] → W p l e0 room_1 s m #[Value.ref b] below meth c H locs 6 154 (lw_Z below #[Value.ref b] s) (F0 m 133 ls []) := by
  obtain ⟨hx, hb, hr, hml, hown, htb, hX, hbl, hlocks, hgv⟩ := C0
  have hts := fun w h => htb w (wsL_law_in w h)
  have hA : ∀ q : Nat, s.heap.size ≤ q → (fun q : Nat => s.heap.size ≤ q) q := fun _ h => h
  have hbA : ¬ (fun q : Nat => s.heap.size ≤ q) b := Nat.not_le.mpr hbl
  intro f g en rn kn pn cnt cng pnd msk sr sav tkn hI H locs ls hP hD hS hl
  obtain ⟨h32, hrl, hpl, hs, hc⟩ := id hI
  refine lv_aload_n hx hb dL_law_133 rfl (lv_at hl 1 rfl) ?_
  refine lv_aload_n hx hb dL_law_134 rfl (lv_at hl 0 rfl) ?_
  refine lv_iload_n hx hb dL_law_135 rfl (lv_at hl 3 rfl) ?_
  refine lv_iconst (v := 1) hx hb dL_law_136 (by decide) ?_
  refine lv_iadd hx hb dL_law_137 ?_
  refine va_sld hx hb hX hbl hbA hS (rt_in1 hi hL) dL_law_138 ?_
  have hPc := hP.sub (ws' := rt_xw q0 q1 q2 k1 k2 f g (nI en) (nI rn) cnt (nI pn) cng pnd msk sr sav tkn) [0, 1, 2] rfl
  have hDc := hD.sub (ws' := rt_xw q0 q1 q2 k1 k2 f g (nI en) (nI rn) cnt (nI pn) cng pnd msk sr sav tkn) [0, 1, 2] (by decide) rfl
  have hKc := hK.sub (tys' := [(k1, .int), (k2, .int)]) [0, 1] rfl
  have hFc := va_free (wc := rt_xw q0 q1 q2 k1 k2 f g (nI en) (nI rn) cnt (nI pn) cng pnd msk sr sav tkn) hD hS hA [0, 1, 2] rfl
  refine va_calli (va_runV (As := [.int (xs ((nI i) + 1).toNatClampNeg)]) (rest := []) ⟨hx, hb, hml, hown, hts⟩ (c_X_steps l dC dI q0 q1 q2 H.size k1 k2 f g (nI en) (nI rn) cnt (nI pn) cng pnd msk sr sav tkn (xs ((nI i) + 1).toNatClampNeg) en rn pn rfl h32 rfl hrl rfl hpl hs.2) (cwV 1 hts gL_law_X0_steps rfl rfl rfl (by decide +kernel) ⟨Nat.le_of_ble_eq_true rfl, Nat.le_of_ble_eq_true rfl⟩) ⟨fun a U g mk q => by obtain ⟨q0, q1, qP, qK, qD⟩ := q; exact ⟨q0, q1, qP, va_K.moved (u := U) (U := U.calling g mk a) (Vm.Alike.refl U.vm) qK, qD⟩, va_recv hKc hPc (ci := 0) (q0 := 0) rfl rfl, fun U hU hW => ⟨rfl, by rw [hU], by rw [hU]; exact hPc, va_K.moved hW.alike hKc, hDc.weaken (fun _ _ _ _ => trivial)⟩⟩ rfl rfl hl.1 rfl (lv_room (Nat.le_of_ble_eq_true rfl)) dL_law_139 ⟨Nat.le_of_ble_eq_true rfl, Nat.le_of_ble_eq_true rfl⟩) hS (fun q _ h => hFc q h) hFc (fun r_139 u t H1 locs ht hvm hw_139 hB hz1 hk1 hS => ?_)
  obtain ⟨ret_139, cnt_139, pnd_139⟩ := u
  obtain ⟨hP1, hK1, hD1⟩ := hB
  rw [ht] at hP1
  try dsimp only at hw_139 hP1 hD1
  obtain ⟨hP, hD⟩ := va_join (wr := rt_mw q3 q4 q5 k3 k4 f g (nI en) (nI rn) cnt (nI pn) cng pnd msk sr sav tkn (nI kn)) (w1 := rt_xw q0 q1 q2 k1 k2 f g (nI en) ret_139 cnt_139 (nI pn) cng pnd_139 msk sr sav tkn) hP hD [0, 1, 2] [3, 4, 5] rfl rfl (by decide) (by decide) hk1 hFc hP1 hD1
  have hP := hP.sub (ws' := rt_xw q0 q1 q2 k1 k2 f g (nI en) ret_139 cnt_139 (nI pn) cng pnd_139 msk sr sav tkn ++ rt_mw q3 q4 q5 k3 k4 f g (nI en) (nI rn) cnt (nI pn) cng pnd msk sr sav tkn (nI kn)) [3, 4, 5, 0, 1, 2] rfl
  have hD := hD.sub (ws' := rt_xw q0 q1 q2 k1 k2 f g (nI en) ret_139 cnt_139 (nI pn) cng pnd_139 msk sr sav tkn ++ rt_mw q3 q4 q5 k3 k4 f g (nI en) (nI rn) cnt (nI pn) cng pnd msk sr sav tkn (nI kn)) [3, 4, 5, 0, 1, 2] (by decide) rfl
  generalize H1 = H at hP hS ⊢
  have hP : va_P (dC, dI) vwCl (rt_xw q0 q1 q2 k1 k2 f g (nI en) ret_139 cnt_139 (nI pn) cng pnd_139 msk sr sav tkn ++ rt_mw q3 q4 q5 k3 k4 f g (nI en) (nI rn) cnt (nI pn) cng pnd msk sr sav tkn (nI kn)) H := hP
  have hD : va_D (fun q : Nat => s.heap.size ≤ q) (rt_xw q0 q1 q2 k1 k2 f g (nI en) ret_139 cnt_139 (nI pn) cng pnd_139 msk sr sav tkn ++ rt_mw q3 q4 q5 k3 k4 f g (nI en) (nI rn) cnt (nI pn) cng pnd msk sr sav tkn (nI kn)) := hD
  refine lv_aload_n hx hb dL_law_142 rfl (lv_at hl 2 rfl) ?_
  refine lv_aload_n hx hb dL_law_143 rfl (lv_at hl 0 rfl) ?_
  refine lv_iload_n hx hb dL_law_144 rfl (lv_at hl 3 rfl) ?_
  refine lv_iconst (v := 1) hx hb dL_law_145 (by decide) ?_
  refine lv_iadd hx hb dL_law_146 ?_
  refine va_sld hx hb hX hbl hbA hS (rt_in1 hi hL) dL_law_147 ?_
  have hPc := hP.sub (ws' := rt_mw q3 q4 q5 k3 k4 f g (nI en) (nI rn) cnt (nI pn) cng pnd msk sr sav tkn (nI kn)) [3, 4, 5] rfl
  have hDc := hD.sub (ws' := rt_mw q3 q4 q5 k3 k4 f g (nI en) (nI rn) cnt (nI pn) cng pnd msk sr sav tkn (nI kn)) [3, 4, 5] (by decide) rfl
  have hKc := hK.sub (tys' := [(k3, .int), (k4, .int)]) [2, 3] rfl
  have hFc := va_free (wc := rt_mw q3 q4 q5 k3 k4 f g (nI en) (nI rn) cnt (nI pn) cng pnd msk sr sav tkn (nI kn)) hD hS hA [3, 4, 5] rfl
  refine va_calli (va_runV (As := [.int (xs ((nI i) + 1).toNatClampNeg)]) (rest := [.int r_139]) ⟨hx, hb, hml, hown, hts⟩ (c_M_steps l dC dI q3 q4 q5 H.size k3 k4 f g (nI en) (nI rn) cnt (nI pn) cng pnd msk sr sav tkn (nI kn) (xs ((nI i) + 1).toNatClampNeg) en rn kn pn rfl h32 rfl rfl rfl hrl hpl hs hc) (cwV 1 hts gL_law_X1_steps rfl rfl rfl (by decide +kernel) ⟨Nat.le_of_ble_eq_true rfl, Nat.le_of_ble_eq_true rfl⟩) ⟨fun a U g mk q => by obtain ⟨q0, q1, qP, qK, qD⟩ := q; exact ⟨q0, q1, qP, va_K.moved (u := U) (U := U.calling g mk a) (Vm.Alike.refl U.vm) qK, qD⟩, va_recv hKc hPc (ci := 1) (q0 := 0) rfl rfl, fun U hU hW => ⟨rfl, by rw [hU], by rw [hU]; exact hPc, va_K.moved hW.alike hKc, hDc.weaken (fun _ _ _ _ => trivial)⟩⟩ rfl rfl hl.1 rfl (lv_room (Nat.le_of_ble_eq_true rfl)) dL_law_148 ⟨Nat.le_of_ble_eq_true rfl, Nat.le_of_ble_eq_true rfl⟩) hS (fun q _ h => hFc q h) hFc (fun r_148 u t H1 locs ht hvm hw_148 hB hz1 hk1 hS => ?_)
  obtain ⟨ret_148, cnt_148, pnd_148, com_148⟩ := u
  obtain ⟨hP1, hK1, hD1⟩ := hB
  rw [ht] at hP1
  try dsimp only at hw_148 hP1 hD1
  obtain ⟨hP, hD⟩ := va_join (wr := rt_xw q0 q1 q2 k1 k2 f g (nI en) ret_139 cnt_139 (nI pn) cng pnd_139 msk sr sav tkn) (w1 := rt_mw q3 q4 q5 k3 k4 f g (nI en) ret_148 cnt_148 (nI pn) cng pnd_148 msk sr sav tkn (nI com_148)) hP hD [3, 4, 5] [0, 1, 2] rfl rfl (by decide) (by decide) hk1 hFc hP1 hD1
  generalize H1 = H at hP hS ⊢
  have hP : va_P (dC, dI) vwCl (rt_xw q0 q1 q2 k1 k2 f g (nI en) ret_139 cnt_139 (nI pn) cng pnd_139 msk sr sav tkn ++ rt_mw q3 q4 q5 k3 k4 f g (nI en) ret_148 cnt_148 (nI pn) cng pnd_148 msk sr sav tkn (nI com_148)) H := hP
  have hD : va_D (fun q : Nat => s.heap.size ≤ q) (rt_xw q0 q1 q2 k1 k2 f g (nI en) ret_139 cnt_139 (nI pn) cng pnd_139 msk sr sav tkn ++ rt_mw q3 q4 q5 k3 k4 f g (nI en) ret_148 cnt_148 (nI pn) cng pnd_148 msk sr sav tkn (nI com_148)) := hD
  obtain ⟨x1, x2, x3, x4⟩ := hw_139
  obtain ⟨y1, y2, y3, y4, y5⟩ := hw_148
  have hz9 := x1.symm
  subst hz9
  have hz9 := x2.symm
  subst hz9
  have hz9 := x3.symm
  subst hz9
  have hz9 := x4.symm
  subst hz9
  have hz9 := y1.symm
  subst hz9
  have hz9 := y2.symm
  subst hz9
  have hz9 := y3.symm
  subst hz9
  have hz9 := y4.symm
  subst hz9
  refine lv_icmp_eq (tgt := 435) hx hb dL_law_151 (by decide) (fun c_151 => ?_) (fun c_151 => absurd (rfl) c_151)
  exact kk f g en (rn + rt_tn f g en rn cnt (nI pn) cng pnd msk sr (xs (nI i + 1).toNatClampNeg)) com_148 pn (rt_cc cng (nI pn) cnt (nI (rt_tn f g en rn cnt (nI pn) cng pnd msk sr (xs (nI i + 1).toNatClampNeg)))) cng (rt_cp cng (nI pn) cnt pnd (nI (rt_tn f g en rn cnt (nI pn) cng pnd msk sr (xs (nI i + 1).toNatClampNeg)))) msk sr sav tkn (⟨h32, rt_tn_bound hrl hpl hs.2, hpl, hs, y5⟩) H locs ls hP hD hS hl
set_option maxHeartbeats 4000000 in
set_option maxRecDepth 100000 in
theorem law_c2 {p : Program} {l : Launch} {e0 : Env} {s : State} {m : MethodId} {below : List Frame} {meth : Method} {c : Code} {dC : Nat → ClassId} {dI : Nat → Nat → Nat} {b L : Nat} {xs : Nat → Int32} (hL : L ≤ 2048) (C0 : lw_At p s m meth c b L xs) {q0 q1 q2 q3 q4 q5 : Nat} {k1 k2 k3 k4 : ClassId} (hK : va_K (dC, dI) vwCl [(k1, .int), (k2, .int), (k3, .int), (k4, .int)] s) {i : Nat} (hi : i + 4 ≤ L) (kk : ∀ (f g : Nat → Int32) (en rn kn pn : Nat) (cnt cng pnd msk sr sav tkn : Int32), rt_Inv f en rn kn pn → ∀ (H : Heap) (locs : List Loc) (ls : Array Slot), va_P (dC, dI) vwCl (rt_xw q0 q1 q2 k1 k2 f g (nI en) (nI rn) cnt (nI pn) cng pnd msk sr sav tkn ++ rt_mw q3 q4 q5 k3 k4 f g (nI en) (nI rn) cnt (nI pn) cng pnd msk sr sav tkn (nI kn)) H → va_D (fun q : Nat => s.heap.size ≤ q) (rt_xw q0 q1 q2 k1 k2 f g (nI en) (nI rn) cnt (nI pn) cng pnd msk sr sav tkn ++ rt_mw q3 q4 q5 k3 k4 f g (nI en) (nI rn) cnt (nI pn) cng pnd msk sr sav tkn (nI kn)) → va_S (fun q : Nat => s.heap.size ≤ q) s.heap H locs → lv_has ls 4 [(0, .ref b), (1, .ref q0), (2, .ref q3), (3, .int (nI i))] → W p l e0 room_1 s m #[Value.ref b] below meth c H locs 6 154 (lw_Z below #[Value.ref b] s) (F0 m 435 ls [])) :
    ∀ (f g : Nat → Int32) (en rn kn pn : Nat) (cnt cng pnd msk sr sav tkn : Int32), rt_Inv f en rn kn pn → ∀ (H : Heap) (locs : List Loc) (ls : Array Slot), va_P (dC, dI) vwCl (rt_xw q0 q1 q2 k1 k2 f g (nI en) (nI rn) cnt (nI pn) cng pnd msk sr sav tkn ++ rt_mw q3 q4 q5 k3 k4 f g (nI en) (nI rn) cnt (nI pn) cng pnd msk sr sav tkn (nI kn)) H → va_D (fun q : Nat => s.heap.size ≤ q) (rt_xw q0 q1 q2 k1 k2 f g (nI en) (nI rn) cnt (nI pn) cng pnd msk sr sav tkn ++ rt_mw q3 q4 q5 k3 k4 f g (nI en) (nI rn) cnt (nI pn) cng pnd msk sr sav tkn (nI kn)) → va_S (fun q : Nat => s.heap.size ≤ q) s.heap H locs → lv_has ls 4 [(0, .ref b), (1, .ref q0), (2, .ref q3), (3, .int (nI i))] → W p l e0 room_1 s m #[Value.ref b] below meth c H locs 6 154 (lw_Z below #[Value.ref b] s) (F0 m 156 ls []) := by
  obtain ⟨hx, hb, hr, hml, hown, htb, hX, hbl, hlocks, hgv⟩ := C0
  have hts := fun w h => htb w (wsL_law_in w h)
  have hA : ∀ q : Nat, s.heap.size ≤ q → (fun q : Nat => s.heap.size ≤ q) q := fun _ h => h
  have hbA : ¬ (fun q : Nat => s.heap.size ≤ q) b := Nat.not_le.mpr hbl
  intro f g en rn kn pn cnt cng pnd msk sr sav tkn hI H locs ls hP hD hS hl
  obtain ⟨h32, hrl, hpl, hs, hc⟩ := id hI
  refine lv_aload_n hx hb dL_law_156 rfl (lv_at hl 1 rfl) ?_
  have hPc := hP.sub (ws' := rt_xw q0 q1 q2 k1 k2 f g (nI en) (nI rn) cnt (nI pn) cng pnd msk sr sav tkn) [0, 1, 2] rfl
  have hDc := hD.sub (ws' := rt_xw q0 q1 q2 k1 k2 f g (nI en) (nI rn) cnt (nI pn) cng pnd msk sr sav tkn) [0, 1, 2] (by decide) rfl
  have hKc := hK.sub (tys' := [(k1, .int), (k2, .int)]) [0, 1] rfl
  have hFc := va_free (wc := rt_xw q0 q1 q2 k1 k2 f g (nI en) (nI rn) cnt (nI pn) cng pnd msk sr sav tkn) hD hS hA [0, 1, 2] rfl
  refine va_calli (va_runV (As := []) (rest := []) ⟨hx, hb, hml, hown, hts⟩ (c_X_take l dC dI q0 q1 q2 H.size k1 k2 f g (nI en) (nI rn) cnt (nI pn) cng pnd msk sr sav tkn en rfl h32) (cwV 0 hts gL_law_X0_take rfl rfl rfl (by decide +kernel) ⟨Nat.le_of_ble_eq_true rfl, Nat.le_of_ble_eq_true rfl⟩) ⟨fun a U g mk q => by obtain ⟨q0, q1, qP, qK, qD⟩ := q; exact ⟨q0, q1, qP, va_K.moved (u := U) (U := U.calling g mk a) (Vm.Alike.refl U.vm) qK, qD⟩, va_recv hKc hPc (ci := 0) (q0 := 0) rfl rfl, fun U hU hW => ⟨rfl, by rw [hU], by rw [hU]; exact hPc, va_K.moved hW.alike hKc, hDc.weaken (fun _ _ _ _ => trivial)⟩⟩ rfl rfl hl.1 rfl (lv_room (Nat.le_of_ble_eq_true rfl)) dL_law_157 ⟨Nat.le_of_ble_eq_true rfl, Nat.le_of_ble_eq_true rfl⟩) hS (fun q _ h => hFc q h) hFc (fun r_157 u t H1 locs ht hvm hw_157 hB hz1 hk1 hS => ?_)
  obtain ⟨sr_157, sav_157, tkn_157⟩ := u
  obtain ⟨hP1, hK1, hD1⟩ := hB
  rw [ht] at hP1
  try dsimp only at hw_157 hP1 hD1
  obtain ⟨hP, hD⟩ := va_join (wr := rt_mw q3 q4 q5 k3 k4 f g (nI en) (nI rn) cnt (nI pn) cng pnd msk sr sav tkn (nI kn)) (w1 := rt_xw q0 q1 q2 k1 k2 f g (nI en) (nI rn) cnt (nI pn) cng pnd msk sr_157 sav_157 tkn_157) hP hD [0, 1, 2] [3, 4, 5] rfl rfl (by decide) (by decide) hk1 hFc hP1 hD1
  have hP := hP.sub (ws' := rt_xw q0 q1 q2 k1 k2 f g (nI en) (nI rn) cnt (nI pn) cng pnd msk sr_157 sav_157 tkn_157 ++ rt_mw q3 q4 q5 k3 k4 f g (nI en) (nI rn) cnt (nI pn) cng pnd msk sr sav tkn (nI kn)) [3, 4, 5, 0, 1, 2] rfl
  have hD := hD.sub (ws' := rt_xw q0 q1 q2 k1 k2 f g (nI en) (nI rn) cnt (nI pn) cng pnd msk sr_157 sav_157 tkn_157 ++ rt_mw q3 q4 q5 k3 k4 f g (nI en) (nI rn) cnt (nI pn) cng pnd msk sr sav tkn (nI kn)) [3, 4, 5, 0, 1, 2] (by decide) rfl
  generalize H1 = H at hP hS ⊢
  have hP : va_P (dC, dI) vwCl (rt_xw q0 q1 q2 k1 k2 f g (nI en) (nI rn) cnt (nI pn) cng pnd msk sr_157 sav_157 tkn_157 ++ rt_mw q3 q4 q5 k3 k4 f g (nI en) (nI rn) cnt (nI pn) cng pnd msk sr sav tkn (nI kn)) H := hP
  have hD : va_D (fun q : Nat => s.heap.size ≤ q) (rt_xw q0 q1 q2 k1 k2 f g (nI en) (nI rn) cnt (nI pn) cng pnd msk sr_157 sav_157 tkn_157 ++ rt_mw q3 q4 q5 k3 k4 f g (nI en) (nI rn) cnt (nI pn) cng pnd msk sr sav tkn (nI kn)) := hD
  refine lv_aload_n hx hb dL_law_160 rfl (lv_at hl 2 rfl) ?_
  have hPc := hP.sub (ws' := rt_mw q3 q4 q5 k3 k4 f g (nI en) (nI rn) cnt (nI pn) cng pnd msk sr sav tkn (nI kn)) [3, 4, 5] rfl
  have hDc := hD.sub (ws' := rt_mw q3 q4 q5 k3 k4 f g (nI en) (nI rn) cnt (nI pn) cng pnd msk sr sav tkn (nI kn)) [3, 4, 5] (by decide) rfl
  have hKc := hK.sub (tys' := [(k3, .int), (k4, .int)]) [2, 3] rfl
  have hFc := va_free (wc := rt_mw q3 q4 q5 k3 k4 f g (nI en) (nI rn) cnt (nI pn) cng pnd msk sr sav tkn (nI kn)) hD hS hA [3, 4, 5] rfl
  refine va_calli (va_runV (As := []) (rest := [.int r_157]) ⟨hx, hb, hml, hown, hts⟩ (c_M_take l dC dI q3 q4 q5 H.size k3 k4 f g (nI en) (nI rn) cnt (nI pn) cng pnd msk sr sav tkn (nI kn) kn rfl (by have := hc.1; omega)) (cwV 0 hts gL_law_X1_take rfl rfl rfl (by decide +kernel) ⟨Nat.le_of_ble_eq_true rfl, Nat.le_of_ble_eq_true rfl⟩) ⟨fun a U g mk q => by obtain ⟨q0, q1, qP, qK, qD⟩ := q; exact ⟨q0, q1, qP, va_K.moved (u := U) (U := U.calling g mk a) (Vm.Alike.refl U.vm) qK, qD⟩, va_recv hKc hPc (ci := 1) (q0 := 0) rfl rfl, fun U hU hW => ⟨rfl, by rw [hU], by rw [hU]; exact hPc, va_K.moved hW.alike hKc, hDc.weaken (fun _ _ _ _ => trivial)⟩⟩ rfl rfl hl.1 rfl (lv_room (Nat.le_of_ble_eq_true rfl)) dL_law_161 ⟨Nat.le_of_ble_eq_true rfl, Nat.le_of_ble_eq_true rfl⟩) hS (fun q _ h => hFc q h) hFc (fun r_161 u t H1 locs ht hvm hw_161 hB hz1 hk1 hS => ?_)
  obtain ⟨sr_161, sav_161, tkn_161⟩ := u
  obtain ⟨hP1, hK1, hD1⟩ := hB
  rw [ht] at hP1
  try dsimp only at hw_161 hP1 hD1
  obtain ⟨hP, hD⟩ := va_join (wr := rt_xw q0 q1 q2 k1 k2 f g (nI en) (nI rn) cnt (nI pn) cng pnd msk sr_157 sav_157 tkn_157) (w1 := rt_mw q3 q4 q5 k3 k4 f g (nI en) (nI rn) cnt (nI pn) cng pnd msk sr_161 sav_161 tkn_161 (nI kn)) hP hD [3, 4, 5] [0, 1, 2] rfl rfl (by decide) (by decide) hk1 hFc hP1 hD1
  generalize H1 = H at hP hS ⊢
  have hP : va_P (dC, dI) vwCl (rt_xw q0 q1 q2 k1 k2 f g (nI en) (nI rn) cnt (nI pn) cng pnd msk sr_157 sav_157 tkn_157 ++ rt_mw q3 q4 q5 k3 k4 f g (nI en) (nI rn) cnt (nI pn) cng pnd msk sr_161 sav_161 tkn_161 (nI kn)) H := hP
  have hD : va_D (fun q : Nat => s.heap.size ≤ q) (rt_xw q0 q1 q2 k1 k2 f g (nI en) (nI rn) cnt (nI pn) cng pnd msk sr_157 sav_157 tkn_157 ++ rt_mw q3 q4 q5 k3 k4 f g (nI en) (nI rn) cnt (nI pn) cng pnd msk sr_161 sav_161 tkn_161 (nI kn)) := hD
  rw [rt_pl_now hc] at hw_157
  obtain ⟨x1, x2, x3, x4⟩ := hw_157
  obtain ⟨y1, y2, y3, y4⟩ := hw_161
  have hz9 := x1.symm
  subst hz9
  have hz9 := x2.symm
  subst hz9
  have hz9 := x3.symm
  subst hz9
  have hz9 := x4.symm
  subst hz9
  have hz9 := y1.symm
  subst hz9
  have hz9 := y2.symm
  subst hz9
  have hz9 := y3.symm
  subst hz9
  have hz9 := y4.symm
  subst hz9
  refine lv_icmp_eq (tgt := 435) hx hb dL_law_164 (by decide) (fun c_164 => ?_) (fun c_164 => absurd (rfl) c_164)
  exact kk f g en rn kn pn cnt cng pnd msk (if rt_due sr pnd (rt_now g kn) msk = 0 then sr else (sr &&& 32) ||| 1) (if rt_due sr pnd (rt_now g kn) msk = 0 then sav else sr) (if rt_due sr pnd (rt_now g kn) msk = 0 then tkn else tkn + 1) (hI) H locs ls hP hD hS hl
