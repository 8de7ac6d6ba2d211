set_option maxHeartbeats 4000000 in
set_option maxRecDepth 100000 in
theorem law_c9 {p : Program} {l : Launch} {e0 : Env} {s : State} {m : MethodId} {below : List Frame} {meth : Method} {c : Code} {dC : Nat → ClassId} {dI : Nat → Nat → Nat} {b L : Nat} {xs : Nat → Int32} (hL : L ≤ 2048) (C0 : lw_At p s m meth c b L xs) {q0 q1 q2 q3 q4 q5 : Nat} {k1 k2 k3 k4 : ClassId} (hK : va_K (dC, dI) vwCl [(k1, .int), (k2, .int), (k3, .int), (k4, .int)] s) {i : Nat} (hi : i + 4 ≤ L) (kk : ∀ (f g : Nat → Int32) (en rn kn pn : Nat) (cnt cng pnd msk sr sav tkn : Int32), rt_Inv f en rn kn pn → ∀ (H : Heap) (locs : List Loc) (ls : Array Slot), va_P (dC, dI) vwCl (rt_xw q0 q1 q2 k1 k2 f g (nI en) (nI rn) cnt (nI pn) cng pnd msk sr sav tkn ++ rt_mw q3 q4 q5 k3 k4 f g (nI en) (nI rn) cnt (nI pn) cng pnd msk sr sav tkn (nI kn)) H → va_D (fun q : Nat => s.heap.size ≤ q) (rt_xw q0 q1 q2 k1 k2 f g (nI en) (nI rn) cnt (nI pn) cng pnd msk sr sav tkn ++ rt_mw q3 q4 q5 k3 k4 f g (nI en) (nI rn) cnt (nI pn) cng pnd msk sr sav tkn (nI kn)) → va_S (fun q : Nat => s.heap.size ≤ q) s.heap H locs → lv_has ls 4 [(0, .ref b), (1, .ref q0), (2, .ref q3), (3, .int (nI i))] → W p l e0 room_1 s m #[Value.ref b] below meth c H locs 6 154 (lw_Z below #[Value.ref b] s) (F0 m 435 ls [])) :
    ∀ (f g : Nat → Int32) (en rn kn pn : Nat) (cnt cng pnd msk sr sav tkn : Int32), rt_Inv f en rn kn pn → ∀ (H : Heap) (locs : List Loc) (ls : Array Slot), va_P (dC, dI) vwCl (rt_xw q0 q1 q2 k1 k2 f g (nI en) (nI rn) cnt (nI pn) cng pnd msk sr sav tkn ++ rt_mw q3 q4 q5 k3 k4 f g (nI en) (nI rn) cnt (nI pn) cng pnd msk sr sav tkn (nI kn)) H → va_D (fun q : Nat => s.heap.size ≤ q) (rt_xw q0 q1 q2 k1 k2 f g (nI en) (nI rn) cnt (nI pn) cng pnd msk sr sav tkn ++ rt_mw q3 q4 q5 k3 k4 f g (nI en) (nI rn) cnt (nI pn) cng pnd msk sr sav tkn (nI kn)) → va_S (fun q : Nat => s.heap.size ≤ q) s.heap H locs → lv_has ls 4 [(0, .ref b), (1, .ref q0), (2, .ref q3), (3, .int (nI i))] → W p l e0 room_1 s m #[Value.ref b] below meth c H locs 6 154 (lw_Z below #[Value.ref b] s) (F0 m 327 ls []) := by
  obtain ⟨hx, hb, hr, hml, hown, htb, hX, hbl, hlocks, hgv⟩ := C0
  have hts := fun w h => htb w (wsL_law_in w h)
  have hA : ∀ q : Nat, s.heap.size ≤ q → (fun q : Nat => s.heap.size ≤ q) q := fun _ h => h
  have hbA : ¬ (fun q : Nat => s.heap.size ≤ q) b := Nat.not_le.mpr hbl
  intro f g en rn kn pn cnt cng pnd msk sr sav tkn hI H locs ls hP hD hS hl
  obtain ⟨h32, hrl, hpl, hs, hc⟩ := id hI
  refine lv_aload_n hx hb dL_law_327 rfl (lv_at hl 1 rfl) ?_
  have hPc := hP.sub (ws' := rt_xw q0 q1 q2 k1 k2 f g (nI en) (nI rn) cnt (nI pn) cng pnd msk sr sav tkn) [0, 1, 2] rfl
  have hDc := hD.sub (ws' := rt_xw q0 q1 q2 k1 k2 f g (nI en) (nI rn) cnt (nI pn) cng pnd msk sr sav tkn) [0, 1, 2] (by decide) rfl
  have hKc := hK.sub (tys' := [(k1, .int), (k2, .int)]) [0, 1] rfl
  have hFc := va_free (wc := rt_xw q0 q1 q2 k1 k2 f g (nI en) (nI rn) cnt (nI pn) cng pnd msk sr sav tkn) hD hS hA [0, 1, 2] rfl
  refine va_calli (va_runV (As := []) (rest := []) ⟨hx, hb, hml, hown, hts⟩ (c_X_until l dC dI q0 q1 q2 H.size k1 k2 f g (nI en) (nI rn) cnt (nI pn) cng pnd msk sr sav tkn en rn rfl h32 rfl) (cwV 0 hts gL_law_X0_until rfl rfl rfl (by decide +kernel) ⟨Nat.le_of_ble_eq_true rfl, Nat.le_of_ble_eq_true rfl⟩) ⟨fun a U g mk q => by obtain ⟨q0, q1, qP, qK, qD⟩ := q; exact ⟨q0, q1, qP, va_K.moved (u := U) (U := U.calling g mk a) (Vm.Alike.refl U.vm) qK, qD⟩, va_recv hKc hPc (ci := 0) (q0 := 0) rfl rfl, fun U hU hW => ⟨rfl, by rw [hU], by rw [hU]; exact hPc, va_K.moved hW.alike hKc, hDc.weaken (fun _ _ _ _ => trivial)⟩⟩ rfl rfl hl.1 rfl (lv_room (Nat.le_of_ble_eq_true rfl)) dL_law_328 ⟨Nat.le_of_ble_eq_true rfl, Nat.le_of_ble_eq_true rfl⟩) hS (fun q _ h => hFc q h) hFc (fun r_328 u t H1 locs ht hvm hw_328 hB hz1 hk1 hS => ?_)
  obtain ⟨hP1, hK1, hD1⟩ := hB
  rw [ht] at hP1
  try dsimp only at hw_328 hP1 hD1
  obtain ⟨hP, hD⟩ := va_join (wr := rt_mw q3 q4 q5 k3 k4 f g (nI en) (nI rn) cnt (nI pn) cng pnd msk sr sav tkn (nI kn)) (w1 := rt_xw q0 q1 q2 k1 k2 f g (nI en) (nI rn) cnt (nI pn) cng pnd msk sr sav tkn) hP hD [0, 1, 2] [3, 4, 5] rfl rfl (by decide) (by decide) hk1 hFc hP1 hD1
  have hP := hP.sub (ws' := rt_xw q0 q1 q2 k1 k2 f g (nI en) (nI rn) cnt (nI pn) cng pnd msk sr sav tkn ++ rt_mw q3 q4 q5 k3 k4 f g (nI en) (nI rn) cnt (nI pn) cng pnd msk sr sav tkn (nI kn)) [3, 4, 5, 0, 1, 2] rfl
  have hD := hD.sub (ws' := rt_xw q0 q1 q2 k1 k2 f g (nI en) (nI rn) cnt (nI pn) cng pnd msk sr sav tkn ++ rt_mw q3 q4 q5 k3 k4 f g (nI en) (nI rn) cnt (nI pn) cng pnd msk sr sav tkn (nI kn)) [3, 4, 5, 0, 1, 2] (by decide) rfl
  generalize H1 = H at hP hS ⊢
  have hP : va_P (dC, dI) vwCl (rt_xw q0 q1 q2 k1 k2 f g (nI en) (nI rn) cnt (nI pn) cng pnd msk sr sav tkn ++ rt_mw q3 q4 q5 k3 k4 f g (nI en) (nI rn) cnt (nI pn) cng pnd msk sr sav tkn (nI kn)) H := hP
  have hD : va_D (fun q : Nat => s.heap.size ≤ q) (rt_xw q0 q1 q2 k1 k2 f g (nI en) (nI rn) cnt (nI pn) cng pnd msk sr sav tkn ++ rt_mw q3 q4 q5 k3 k4 f g (nI en) (nI rn) cnt (nI pn) cng pnd msk sr sav tkn (nI kn)) := hD
  refine lv_aload_n hx hb dL_law_331 rfl (lv_at hl 2 rfl) ?_
  have hPc := hP.sub (ws' := rt_mw q3 q4 q5 k3 k4 f g (nI en) (nI rn) cnt (nI pn) cng pnd msk sr sav tkn (nI kn)) [3, 4, 5] rfl
  have hDc := hD.sub (ws' := rt_mw q3 q4 q5 k3 k4 f g (nI en) (nI rn) cnt (nI pn) cng pnd msk sr sav tkn (nI kn)) [3, 4, 5] (by decide) rfl
  have hKc := hK.sub (tys' := [(k3, .int), (k4, .int)]) [2, 3] rfl
  have hFc := va_free (wc := rt_mw q3 q4 q5 k3 k4 f g (nI en) (nI rn) cnt (nI pn) cng pnd msk sr sav tkn (nI kn)) hD hS hA [3, 4, 5] rfl
  refine va_calli (va_runV (As := []) (rest := [.int r_328]) ⟨hx, hb, hml, hown, hts⟩ (c_M_until l dC dI q3 q4 q5 H.size k3 k4 f g (nI en) (nI rn) cnt (nI pn) cng pnd msk sr sav tkn (nI kn) en rn kn pn rfl h32 rfl rfl rfl hrl hpl hs hc) (cwV 0 htb gL_law_X1_until rfl rfl rfl (by decide +kernel) ⟨Nat.le_of_ble_eq_true rfl, Nat.le_of_ble_eq_true rfl⟩) ⟨fun a U g mk q => by obtain ⟨q0, q1, qP, qK, qD⟩ := q; exact ⟨q0, q1, qP, va_K.moved (u := U) (U := U.calling g mk a) (Vm.Alike.refl U.vm) qK, qD⟩, va_recv hKc hPc (ci := 1) (q0 := 0) rfl rfl, fun U hU hW => ⟨rfl, by rw [hU], by rw [hU]; exact hPc, va_K.moved hW.alike hKc, hDc.weaken (fun _ _ _ _ => trivial)⟩⟩ rfl rfl hl.1 rfl (lv_room (Nat.le_of_ble_eq_true rfl)) dL_law_332 ⟨Nat.le_of_ble_eq_true rfl, Nat.le_of_ble_eq_true rfl⟩) hS (fun q _ h => hFc q h) hFc (fun r_332 u t H1 locs ht hvm hw_332 hB hz1 hk1 hS => ?_)
  obtain ⟨hP1, hK1, hD1⟩ := hB
  rw [ht] at hP1
  try dsimp only at hw_332 hP1 hD1
  obtain ⟨hP, hD⟩ := va_join (wr := rt_xw q0 q1 q2 k1 k2 f g (nI en) (nI rn) cnt (nI pn) cng pnd msk sr sav tkn) (w1 := rt_mw q3 q4 q5 k3 k4 f g (nI en) (nI rn) cnt (nI pn) cng pnd msk sr sav tkn (nI kn)) hP hD [3, 4, 5] [0, 1, 2] rfl rfl (by decide) (by decide) hk1 hFc hP1 hD1
  generalize H1 = H at hP hS ⊢
  have hP : va_P (dC, dI) vwCl (rt_xw q0 q1 q2 k1 k2 f g (nI en) (nI rn) cnt (nI pn) cng pnd msk sr sav tkn ++ rt_mw q3 q4 q5 k3 k4 f g (nI en) (nI rn) cnt (nI pn) cng pnd msk sr sav tkn (nI kn)) H := hP
  have hD : va_D (fun q : Nat => s.heap.size ≤ q) (rt_xw q0 q1 q2 k1 k2 f g (nI en) (nI rn) cnt (nI pn) cng pnd msk sr sav tkn ++ rt_mw q3 q4 q5 k3 k4 f g (nI en) (nI rn) cnt (nI pn) cng pnd msk sr sav tkn (nI kn)) := hD
  refine lv_icmp_eq (tgt := 435) hx hb dL_law_335 (by decide) (fun c_335 => ?_) (fun c_335 => absurd (hw_328.trans hw_332.symm) c_335)
  exact kk f g en rn kn pn cnt cng pnd msk sr sav tkn (hI) H locs ls hP hD hS hl
set_option maxHeartbeats 4000000 in
set_option maxRecDepth 100000 in
theorem law_c10 {p : Program} {l : Launch} {e0 : Env} {s : State} {m : MethodId} {below : List Frame} {meth : Method} {c : Code} {dC : Nat → ClassId} {dI : Nat → Nat → Nat} {b L : Nat} {xs : Nat → Int32} (hL : L ≤ 2048) (C0 : lw_At p s m meth c b L xs) {q0 q1 q2 q3 q4 q5 : Nat} {k1 k2 k3 k4 : ClassId} (hK : va_K (dC, dI) vwCl [(k1, .int), (k2, .int), (k3, .int), (k4, .int)] s) {i : Nat} (hi : i + 4 ≤ L) (kk : ∀ (f g : Nat → Int32) (en rn kn pn : Nat) (cnt cng pnd msk sr sav tkn : Int32), rt_Inv f en rn kn pn → ∀ (H : Heap) (locs : List Loc) (ls : Array Slot), va_P (dC, dI) vwCl (rt_xw q0 q1 q2 k1 k2 f g (nI en) (nI rn) cnt (nI pn) cng pnd msk sr sav tkn ++ rt_mw q3 q4 q5 k3 k4 f g (nI en) (nI rn) cnt (nI pn) cng pnd msk sr sav tkn (nI kn)) H → va_D (fun q : Nat => s.heap.size ≤ q) (rt_xw q0 q1 q2 k1 k2 f g (nI en) (nI rn) cnt (nI pn) cng pnd msk sr sav tkn ++ rt_mw q3 q4 q5 k3 k4 f g (nI en) (nI rn) cnt (nI pn) cng pnd msk sr sav tkn (nI kn)) → va_S (fun q : Nat => s.heap.size ≤ q) s.heap H locs → lv_has ls 4 [(0, .ref b), (1, .ref q0), (2, .ref q3), (3, .int (nI i))] → W p l e0 room_1 s m #[Value.ref b] below meth c H locs 6 154 (lw_Z below #[Value.ref b] s) (F0 m 435 ls [])) :
    ∀ (f g : Nat → Int32) (en rn kn pn : Nat) (cnt cng pnd msk sr sav tkn : Int32), rt_Inv f en rn kn pn → ∀ (H : Heap) (locs : List Loc) (ls : Array Slot), va_P (dC, dI) vwCl (rt_xw q0 q1 q2 k1 k2 f g (nI en) (nI rn) cnt (nI pn) cng pnd msk sr sav tkn ++ rt_mw q3 q4 q5 k3 k4 f g (nI en) (nI rn) cnt (nI pn) cng pnd msk sr sav tkn (nI kn)) H → va_D (fun q : Nat => s.heap.size ≤ q) (rt_xw q0 q1 q2 k1 k2 f g (nI en) (nI rn) cnt (nI pn) cng pnd msk sr sav tkn ++ rt_mw q3 q4 q5 k3 k4 f g (nI en) (nI rn) cnt (nI pn) cng pnd msk sr sav tkn (nI kn)) → va_S (fun q : Nat => s.heap.size ≤ q) s.heap H locs → lv_has ls 4 [(0, .ref b), (1, .ref q0), (2, .ref q3), (3, .int (nI i))] → W p l e0 room_1 s m #[Value.ref b] below meth c H locs 6 154 (lw_Z below #[Value.ref b] s) (F0 m 340 ls []) := by
  obtain ⟨hx, hb, hr, hml, hown, htb, hX, hbl, hlocks, hgv⟩ := C0
  have hts := fun w h => htb w (wsL_law_in w h)
  have hA : ∀ q : Nat, s.heap.size ≤ q → (fun q : Nat => s.heap.size ≤ q) q := fun _ h => h
  have hbA : ¬ (fun q : Nat => s.heap.size ≤ q) b := Nat.not_le.mpr hbl
  intro f g en rn kn pn cnt cng pnd msk sr sav tkn hI H locs ls hP hD hS hl
  obtain ⟨h32, hrl, hpl, hs, hc⟩ := id hI
  refine lv_aload_n hx hb dL_law_340 rfl (lv_at hl 1 rfl) ?_
  refine lv_aload_n hx hb dL_law_341 rfl (lv_at hl 0 rfl) ?_
  refine lv_iload_n hx hb dL_law_342 rfl (lv_at hl 3 rfl) ?_
  refine lv_iconst (v := 1) hx hb dL_law_343 (by decide) ?_
  refine lv_iadd hx hb dL_law_344 ?_
  refine va_sld hx hb hX hbl hbA hS (rt_in1 hi hL) dL_law_345 ?_
  have hPc := hP.sub (ws' := rt_xw q0 q1 q2 k1 k2 f g (nI en) (nI rn) cnt (nI pn) cng pnd msk sr sav tkn) [0, 1, 2] rfl
  have hDc := hD.sub (ws' := rt_xw q0 q1 q2 k1 k2 f g (nI en) (nI rn) cnt (nI pn) cng pnd msk sr sav tkn) [0, 1, 2] (by decide) rfl
  have hKc := hK.sub (tys' := [(k1, .int), (k2, .int)]) [0, 1] rfl
  have hFc := va_free (wc := rt_xw q0 q1 q2 k1 k2 f g (nI en) (nI rn) cnt (nI pn) cng pnd msk sr sav tkn) hD hS hA [0, 1, 2] rfl
  refine va_calli (va_runV (As := [.int (xs ((nI i) + 1).toNatClampNeg)]) (rest := []) ⟨hx, hb, hml, hown, hts⟩ (c_X_linesAt l dC dI q0 q1 q2 H.size k1 k2 f g (nI en) (nI rn) cnt (nI pn) cng pnd msk sr sav tkn (xs ((nI i) + 1).toNatClampNeg) en rfl h32) (cwV 1 hts gL_law_X0_linesAt rfl rfl rfl (by decide +kernel) ⟨Nat.le_of_ble_eq_true rfl, Nat.le_of_ble_eq_true rfl⟩) ⟨fun a U g mk q => by obtain ⟨q0, q1, qP, qK, qD⟩ := q; exact ⟨q0, q1, qP, va_K.moved (u := U) (U := U.calling g mk a) (Vm.Alike.refl U.vm) qK, qD⟩, va_recv hKc hPc (ci := 0) (q0 := 0) rfl rfl, fun U hU hW => ⟨rfl, by rw [hU], by rw [hU]; exact hPc, va_K.moved hW.alike hKc, hDc.weaken (fun _ _ _ _ => trivial)⟩⟩ rfl rfl hl.1 rfl (lv_room (Nat.le_of_ble_eq_true rfl)) dL_law_346 ⟨Nat.le_of_ble_eq_true rfl, Nat.le_of_ble_eq_true rfl⟩) hS (fun q _ h => hFc q h) hFc (fun r_346 u t H1 locs ht hvm hw_346 hB hz1 hk1 hS => ?_)
  obtain ⟨hP1, hK1, hD1⟩ := hB
  rw [ht] at hP1
  try dsimp only at hw_346 hP1 hD1
  obtain ⟨hP, hD⟩ := va_join (wr := rt_mw q3 q4 q5 k3 k4 f g (nI en) (nI rn) cnt (nI pn) cng pnd msk sr sav tkn (nI kn)) (w1 := rt_xw q0 q1 q2 k1 k2 f g (nI en) (nI rn) cnt (nI pn) cng pnd msk sr sav tkn) hP hD [0, 1, 2] [3, 4, 5] rfl rfl (by decide) (by decide) hk1 hFc hP1 hD1
  have hP := hP.sub (ws' := rt_xw q0 q1 q2 k1 k2 f g (nI en) (nI rn) cnt (nI pn) cng pnd msk sr sav tkn ++ rt_mw q3 q4 q5 k3 k4 f g (nI en) (nI rn) cnt (nI pn) cng pnd msk sr sav tkn (nI kn)) [3, 4, 5, 0, 1, 2] rfl
  have hD := hD.sub (ws' := rt_xw q0 q1 q2 k1 k2 f g (nI en) (nI rn) cnt (nI pn) cng pnd msk sr sav tkn ++ rt_mw q3 q4 q5 k3 k4 f g (nI en) (nI rn) cnt (nI pn) cng pnd msk sr sav tkn (nI kn)) [3, 4, 5, 0, 1, 2] (by decide) rfl
  generalize H1 = H at hP hS ⊢
  have hP : va_P (dC, dI) vwCl (rt_xw q0 q1 q2 k1 k2 f g (nI en) (nI rn) cnt (nI pn) cng pnd msk sr sav tkn ++ rt_mw q3 q4 q5 k3 k4 f g (nI en) (nI rn) cnt (nI pn) cng pnd msk sr sav tkn (nI kn)) H := hP
  have hD : va_D (fun q : Nat => s.heap.size ≤ q) (rt_xw q0 q1 q2 k1 k2 f g (nI en) (nI rn) cnt (nI pn) cng pnd msk sr sav tkn ++ rt_mw q3 q4 q5 k3 k4 f g (nI en) (nI rn) cnt (nI pn) cng pnd msk sr sav tkn (nI kn)) := hD
  refine lv_aload_n hx hb dL_law_349 rfl (lv_at hl 2 rfl) ?_
  refine lv_aload_n hx hb dL_law_350 rfl (lv_at hl 0 rfl) ?_
  refine lv_iload_n hx hb dL_law_351 rfl (lv_at hl 3 rfl) ?_
  refine lv_iconst (v := 1) hx hb dL_law_352 (by decide) ?_
  refine lv_iadd hx hb dL_law_353 ?_
  refine va_sld hx hb hX hbl hbA hS (rt_in1 hi hL) dL_law_354 ?_
  have hPc := hP.sub (ws' := rt_mw q3 q4 q5 k3 k4 f g (nI en) (nI rn) cnt (nI pn) cng pnd msk sr sav tkn (nI kn)) [3, 4, 5] rfl
  have hDc := hD.sub (ws' := rt_mw q3 q4 q5 k3 k4 f g (nI en) (nI rn) cnt (nI pn) cng pnd msk sr sav tkn (nI kn)) [3, 4, 5] (by decide) rfl
  have hKc := hK.sub (tys' := [(k3, .int), (k4, .int)]) [2, 3] rfl
  have hFc := va_free (wc := rt_mw q3 q4 q5 k3 k4 f g (nI en) (nI rn) cnt (nI pn) cng pnd msk sr sav tkn (nI kn)) hD hS hA [3, 4, 5] rfl
  refine va_calli (va_runV (As := [.int (xs ((nI i) + 1).toNatClampNeg)]) (rest := [.int r_346]) ⟨hx, hb, hml, hown, hts⟩ (c_M_linesAt l dC dI q3 q4 q5 H.size k3 k4 f g (nI en) (nI rn) cnt (nI pn) cng pnd msk sr sav tkn (nI kn) (xs ((nI i) + 1).toNatClampNeg) en rfl h32 hs) (cwV 1 htb gL_law_X1_linesAt rfl rfl rfl (by decide +kernel) ⟨Nat.le_of_ble_eq_true rfl, Nat.le_of_ble_eq_true rfl⟩) ⟨fun a U g mk q => by obtain ⟨q0, q1, qP, qK, qD⟩ := q; exact ⟨q0, q1, qP, va_K.moved (u := U) (U := U.calling g mk a) (Vm.Alike.refl U.vm) qK, qD⟩, va_recv hKc hPc (ci := 1) (q0 := 0) rfl rfl, fun U hU hW => ⟨rfl, by rw [hU], by rw [hU]; exact hPc, va_K.moved hW.alike hKc, hDc.weaken (fun _ _ _ _ => trivial)⟩⟩ rfl rfl hl.1 rfl (lv_room (Nat.le_of_ble_eq_true rfl)) dL_law_355 ⟨Nat.le_of_ble_eq_true rfl, Nat.le_of_ble_eq_true rfl⟩) hS (fun q _ h => hFc q h) hFc (fun r_355 u t H1 locs ht hvm hw_355 hB hz1 hk1 hS => ?_)
  obtain ⟨hP1, hK1, hD1⟩ := hB
  rw [ht] at hP1
  try dsimp only at hw_355 hP1 hD1
  obtain ⟨hP, hD⟩ := va_join (wr := rt_xw q0 q1 q2 k1 k2 f g (nI en) (nI rn) cnt (nI pn) cng pnd msk sr sav tkn) (w1 := rt_mw q3 q4 q5 k3 k4 f g (nI en) (nI rn) cnt (nI pn) cng pnd msk sr sav tkn (nI kn)) hP hD [3, 4, 5] [0, 1, 2] rfl rfl (by decide) (by decide) hk1 hFc hP1 hD1
  generalize H1 = H at hP hS ⊢
  have hP : va_P (dC, dI) vwCl (rt_xw q0 q1 q2 k1 k2 f g (nI en) (nI rn) cnt (nI pn) cng pnd msk sr sav tkn ++ rt_mw q3 q4 q5 k3 k4 f g (nI en) (nI rn) cnt (nI pn) cng pnd msk sr sav tkn (nI kn)) H := hP
  have hD : va_D (fun q : Nat => s.heap.size ≤ q) (rt_xw q0 q1 q2 k1 k2 f g (nI en) (nI rn) cnt (nI pn) cng pnd msk sr sav tkn ++ rt_mw q3 q4 q5 k3 k4 f g (nI en) (nI rn) cnt (nI pn) cng pnd msk sr sav tkn (nI kn)) := hD
  refine lv_icmp_eq (tgt := 435) hx hb dL_law_358 (by decide) (fun c_358 => ?_) (fun c_358 => absurd (hw_346.trans hw_355.symm) c_358)
  exact kk f g en rn kn pn cnt cng pnd msk sr sav tkn (hI) H locs ls hP hD hS hl
set_option maxHeartbeats 4000000 in
set_option maxRecDepth 100000 in
theorem law_c11 {p : Program} {l : Launch} {e0 : Env} {s : State} {m : MethodId} {below : List Frame} {meth : Method} {c : Code} {dC : Nat → ClassId} {dI : Nat → Nat → Nat} {b L : Nat} {xs : Nat → Int32} (hL : L ≤ 2048) (C0 : lw_At p s m meth c b L xs) {q0 q1 q2 q3 q4 q5 : Nat} {k1 k2 k3 k4 : ClassId} (hK : va_K (dC, dI) vwCl [(k1, .int), (k2, .int), (k3, .int), (k4, .int)] s) {i : Nat} (hi : i + 4 ≤ L) (kk : ∀ (f g : Nat → Int32) (en rn kn pn : Nat) (cnt cng pnd msk sr sav tkn : Int32), rt_Inv f en rn kn pn → ∀ (H : Heap) (locs : List Loc) (ls : Array Slot), va_P (dC, dI) vwCl (rt_xw q0 q1 q2 k1 k2 f g (nI en) (nI rn) cnt (nI pn) cng pnd msk sr sav tkn ++ rt_mw q3 q4 q5 k3 k4 f g (nI en) (nI rn) cnt (nI pn) cng pnd msk sr sav tkn (nI kn)) H → va_D (fun q : Nat => s.heap.size ≤ q) (rt_xw q0 q1 q2 k1 k2 f g (nI en) (nI rn) cnt (nI pn) cng pnd msk sr sav tkn ++ rt_mw q3 q4 q5 k3 k4 f g (nI en) (nI rn) cnt (nI pn) cng pnd msk sr sav tkn (nI kn)) → va_S (fun q : Nat => s.heap.size ≤ q) s.heap H locs → lv_has ls 4 [(0, .ref b), (1, .ref q0), (2, .ref q3), (3, .int (nI i))] → W p l e0 room_1 s m #[Value.ref b] below meth c H locs 6 154 (lw_Z below #[Value.ref b] s) (F0 m 435 ls [])) :
    ∀ (f g : Nat → Int32) (en rn kn pn : Nat) (cnt cng pnd msk sr sav tkn : Int32), rt_Inv f en rn kn pn → ∀ (H : Heap) (locs : List Loc) (ls : Array Slot), va_P (dC, dI) vwCl (rt_xw q0 q1 q2 k1 k2 f g (nI en) (nI rn) cnt (nI pn) cng pnd msk sr sav tkn ++ rt_mw q3 q4 q5 k3 k4 f g (nI en) (nI rn) cnt (nI pn) cng pnd msk sr sav tkn (nI kn)) H → va_D (fun q : Nat => s.heap.size ≤ q) (rt_xw q0 q1 q2 k1 k2 f g (nI en) (nI rn) cnt (nI pn) cng pnd msk sr sav tkn ++ rt_mw q3 q4 q5 k3 k4 f g (nI en) (nI rn) cnt (nI pn) cng pnd msk sr sav tkn (nI kn)) → va_S (fun q : Nat => s.heap.size ≤ q) s.heap H locs → lv_has ls 4 [(0, .ref b), (1, .ref q0), (2, .ref q3), (3, .int (nI i))] → W p l e0 room_1 s m #[Value.ref b] below meth c H locs 6 154 (lw_Z below #[Value.ref b] s) (F0 m 363 ls []) := by
  obtain ⟨hx, hb, hr, hml, hown, htb, hX, hbl, hlocks, hgv⟩ := C0
  have hts := fun w h => htb w (wsL_law_in w h)
  have hA : ∀ q : Nat, s.heap.size ≤ q → (fun q : Nat => s.heap.size ≤ q) q := fun _ h => h
  have hbA : ¬ (fun q : Nat => s.heap.size ≤ q) b := Nat.not_le.mpr hbl
  intro f g en rn kn pn cnt cng pnd msk sr sav tkn hI H locs ls hP hD hS hl
  obtain ⟨h32, hrl, hpl, hs, hc⟩ := id hI
  refine lv_aload_n hx hb dL_law_363 rfl (lv_at hl 1 rfl) ?_
  refine lv_aload_n hx hb dL_law_364 rfl (lv_at hl 0 rfl) ?_
  refine lv_iload_n hx hb dL_law_365 rfl (lv_at hl 3 rfl) ?_
  refine lv_iconst (v := 1) hx hb dL_law_366 (by decide) ?_
  refine lv_iadd hx hb dL_law_367 ?_
  refine va_sld hx hb hX hbl hbA hS (rt_in1 hi hL) dL_law_368 ?_
  refine lv_aload_n hx hb dL_law_369 rfl (lv_at hl 0 rfl) ?_
  refine lv_iload_n hx hb dL_law_370 rfl (lv_at hl 3 rfl) ?_
  refine lv_iconst (v := 2) hx hb dL_law_371 (by decide) ?_
  refine lv_iadd hx hb dL_law_372 ?_
  refine va_sld hx hb hX hbl hbA hS (rt_in2 hi hL) dL_law_373 ?_
  refine lv_if_eq (tgt := 381) hx hb dL_law_374 (by decide) (fun c_374 => ?_) (fun c_374 => ?_)
  · refine lv_iconst (v := 0) hx hb dL_law_381 (by decide) ?_
    have hPc := hP.sub (ws' := rt_xw q0 q1 q2 k1 k2 f g (nI en) (nI rn) cnt (nI pn) cng pnd msk sr sav tkn) [0, 1, 2] rfl
    have hDc := hD.sub (ws' := rt_xw q0 q1 q2 k1 k2 f g (nI en) (nI rn) cnt (nI pn) cng pnd msk sr sav tkn) [0, 1, 2] (by decide) rfl
    have hKc := hK.sub (tys' := [(k1, .int), (k2, .int)]) [0, 1] rfl
    have hFc := va_free (wc := rt_xw q0 q1 q2 k1 k2 f g (nI en) (nI rn) cnt (nI pn) cng pnd msk sr sav tkn) hD hS hA [0, 1, 2] rfl
    refine va_calli (va_runV (As := [.int (xs ((nI i) + 1).toNatClampNeg), .int 0]) (rest := []) ⟨hx, hb, hml, hown, hts⟩ (c_X_entryOf l dC dI q0 q1 q2 H.size k1 k2 f g (nI en) (nI rn) cnt (nI pn) cng pnd msk sr sav tkn (xs ((nI i) + 1).toNatClampNeg) 0 en rfl h32) (cwV 2 hts gL_law_X0_entryOf rfl rfl rfl (by decide +kernel) ⟨Nat.le_of_ble_eq_true rfl, Nat.le_of_ble_eq_true rfl⟩) ⟨fun a U g mk q => by obtain ⟨q0, q1, qP, qK, qD⟩ := q; exact ⟨q0, q1, qP, va_K.moved (u := U) (U := U.calling g mk a) (Vm.Alike.refl U.vm) qK, qD⟩, va_recv hKc hPc (ci := 0) (q0 := 0) rfl rfl, fun U hU hW => ⟨rfl, by rw [hU], by rw [hU]; exact hPc, va_K.moved hW.alike hKc, hDc.weaken (fun _ _ _ _ => trivial)⟩⟩ rfl rfl hl.1 rfl (lv_room (Nat.le_of_ble_eq_true rfl)) dL_law_382 ⟨Nat.le_of_ble_eq_true rfl, Nat.le_of_ble_eq_true rfl⟩) hS (fun q _ h => hFc q h) hFc (fun r_382 u t H1 locs ht hvm hw_382 hB hz1 hk1 hS => ?_)
    obtain ⟨hP1, hK1, hD1⟩ := hB
    rw [ht] at hP1
    try dsimp only at hw_382 hP1 hD1
    obtain ⟨hP, hD⟩ := va_join (wr := rt_mw q3 q4 q5 k3 k4 f g (nI en) (nI rn) cnt (nI pn) cng pnd msk sr sav tkn (nI kn)) (w1 := rt_xw q0 q1 q2 k1 k2 f g (nI en) (nI rn) cnt (nI pn) cng pnd msk sr sav tkn) hP hD [0, 1, 2] [3, 4, 5] rfl rfl (by decide) (by decide) hk1 hFc hP1 hD1
    have hP := hP.sub (ws' := rt_xw q0 q1 q2 k1 k2 f g (nI en) (nI rn) cnt (nI pn) cng pnd msk sr sav tkn ++ rt_mw q3 q4 q5 k3 k4 f g (nI en) (nI rn) cnt (nI pn) cng pnd msk sr sav tkn (nI kn)) [3, 4, 5, 0, 1, 2] rfl
    have hD := hD.sub (ws' := rt_xw q0 q1 q2 k1 k2 f g (nI en) (nI rn) cnt (nI pn) cng pnd msk sr sav tkn ++ rt_mw q3 q4 q5 k3 k4 f g (nI en) (nI rn) cnt (nI pn) cng pnd msk sr sav tkn (nI kn)) [3, 4, 5, 0, 1, 2] (by decide) rfl
    generalize H1 = H at hP hS ⊢
    have hP : va_P (dC, dI) vwCl (rt_xw q0 q1 q2 k1 k2 f g (nI en) (nI rn) cnt (nI pn) cng pnd msk sr sav tkn ++ rt_mw q3 q4 q5 k3 k4 f g (nI en) (nI rn) cnt (nI pn) cng pnd msk sr sav tkn (nI kn)) H := hP
    have hD : va_D (fun q : Nat => s.heap.size ≤ q) (rt_xw q0 q1 q2 k1 k2 f g (nI en) (nI rn) cnt (nI pn) cng pnd msk sr sav tkn ++ rt_mw q3 q4 q5 k3 k4 f g (nI en) (nI rn) cnt (nI pn) cng pnd msk sr sav tkn (nI kn)) := hD
    refine lv_aload_n hx hb dL_law_385 rfl (lv_at hl 2 rfl) ?_
    refine lv_aload_n hx hb dL_law_386 rfl (lv_at hl 0 rfl) ?_
    refine lv_iload_n hx hb dL_law_387 rfl (lv_at hl 3 rfl) ?_
    refine lv_iconst (v := 1) hx hb dL_law_388 (by decide) ?_
    refine lv_iadd hx hb dL_law_389 ?_
    refine va_sld hx hb hX hbl hbA hS (rt_in1 hi hL) dL_law_390 ?_
    refine lv_aload_n hx hb dL_law_391 rfl (lv_at hl 0 rfl) ?_
    refine lv_iload_n hx hb dL_law_392 rfl (lv_at hl 3 rfl) ?_
    refine lv_iconst (v := 2) hx hb dL_law_393 (by decide) ?_
    refine lv_iadd hx hb dL_law_394 ?_
    refine va_sld hx hb hX hbl hbA hS (rt_in2 hi hL) dL_law_395 ?_
    refine lv_if_eq (tgt := 403) hx hb dL_law_396 (by decide) (fun c_396 => ?_) (fun c_396 => absurd c_374 c_396)
    refine lv_iconst (v := 0) hx hb dL_law_403 (by decide) ?_
    have hPc := hP.sub (ws' := rt_mw q3 q4 q5 k3 k4 f g (nI en) (nI rn) cnt (nI pn) cng pnd msk sr sav tkn (nI kn)) [3, 4, 5] rfl
    have hDc := hD.sub (ws' := rt_mw q3 q4 q5 k3 k4 f g (nI en) (nI rn) cnt (nI pn) cng pnd msk sr sav tkn (nI kn)) [3, 4, 5] (by decide) rfl
    have hKc := hK.sub (tys' := [(k3, .int), (k4, .int)]) [2, 3] rfl
    have hFc := va_free (wc := rt_mw q3 q4 q5 k3 k4 f g (nI en) (nI rn) cnt (nI pn) cng pnd msk sr sav tkn (nI kn)) hD hS hA [3, 4, 5] rfl
    refine va_calli (va_runV (As := [.int (xs ((nI i) + 1).toNatClampNeg), .int 0]) (rest := [.int r_382]) ⟨hx, hb, hml, hown, hts⟩ (c_M_entryOf l dC dI q3 q4 q5 H.size k3 k4 f g (nI en) (nI rn) cnt (nI pn) cng pnd msk sr sav tkn (nI kn) (xs ((nI i) + 1).toNatClampNeg) 0 en rfl h32) (cwV 2 htb gL_law_X1_entryOf rfl rfl rfl (by decide +kernel) ⟨Nat.le_of_ble_eq_true rfl, Nat.le_of_ble_eq_true rfl⟩) ⟨fun a U g mk q => by obtain ⟨q0, q1, qP, qK, qD⟩ := q; exact ⟨q0, q1, qP, va_K.moved (u := U) (U := U.calling g mk a) (Vm.Alike.refl U.vm) qK, qD⟩, va_recv hKc hPc (ci := 1) (q0 := 0) rfl rfl, fun U hU hW => ⟨rfl, by rw [hU], by rw [hU]; exact hPc, va_K.moved hW.alike hKc, hDc.weaken (fun _ _ _ _ => trivial)⟩⟩ rfl rfl hl.1 rfl (lv_room (Nat.le_of_ble_eq_true rfl)) dL_law_404 ⟨Nat.le_of_ble_eq_true rfl, Nat.le_of_ble_eq_true rfl⟩) hS (fun q _ h => hFc q h) hFc (fun r_404 u t H1 locs ht hvm hw_404 hB hz1 hk1 hS => ?_)
    obtain ⟨hP1, hK1, hD1⟩ := hB
    rw [ht] at hP1
    try dsimp only at hw_404 hP1 hD1
    obtain ⟨hP, hD⟩ := va_join (wr := rt_xw q0 q1 q2 k1 k2 f g (nI en) (nI rn) cnt (nI pn) cng pnd msk sr sav tkn) (w1 := rt_mw q3 q4 q5 k3 k4 f g (nI en) (nI rn) cnt (nI pn) cng pnd msk sr sav tkn (nI kn)) hP hD [3, 4, 5] [0, 1, 2] rfl rfl (by decide) (by decide) hk1 hFc hP1 hD1
    generalize H1 = H at hP hS ⊢
    have hP : va_P (dC, dI) vwCl (rt_xw q0 q1 q2 k1 k2 f g (nI en) (nI rn) cnt (nI pn) cng pnd msk sr sav tkn ++ rt_mw q3 q4 q5 k3 k4 f g (nI en) (nI rn) cnt (nI pn) cng pnd msk sr sav tkn (nI kn)) H := hP
    have hD : va_D (fun q : Nat => s.heap.size ≤ q) (rt_xw q0 q1 q2 k1 k2 f g (nI en) (nI rn) cnt (nI pn) cng pnd msk sr sav tkn ++ rt_mw q3 q4 q5 k3 k4 f g (nI en) (nI rn) cnt (nI pn) cng pnd msk sr sav tkn (nI kn)) := hD
    refine lv_icmp_eq (tgt := 435) hx hb dL_law_407 (by decide) (fun c_407 => ?_) (fun c_407 => absurd (hw_382.trans hw_404.symm) c_407)
    exact kk f g en rn kn pn cnt cng pnd msk sr sav tkn (hI) H locs ls hP hD hS hl
  · refine lv_iconst (v := 1) hx hb dL_law_377 (by decide) ?_
    refine lv_goto (tgt := 382) hx hb dL_law_378 (by decide) ?_
    have hPc := hP.sub (ws' := rt_xw q0 q1 q2 k1 k2 f g (nI en) (nI rn) cnt (nI pn) cng pnd msk sr sav tkn) [0, 1, 2] rfl
    have hDc := hD.sub (ws' := rt_xw q0 q1 q2 k1 k2 f g (nI en) (nI rn) cnt (nI pn) cng pnd msk sr sav tkn) [0, 1, 2] (by decide) rfl
    have hKc := hK.sub (tys' := [(k1, .int), (k2, .int)]) [0, 1] rfl
    have hFc := va_free (wc := rt_xw q0 q1 q2 k1 k2 f g (nI en) (nI rn) cnt (nI pn) cng pnd msk sr sav tkn) hD hS hA [0, 1, 2] rfl
    refine va_calli (va_runV (As := [.int (xs ((nI i) + 1).toNatClampNeg), .int 1]) (rest := []) ⟨hx, hb, hml, hown, hts⟩ (c_X_entryOf l dC dI q0 q1 q2 H.size k1 k2 f g (nI en) (nI rn) cnt (nI pn) cng pnd msk sr sav tkn (xs ((nI i) + 1).toNatClampNeg) 1 en rfl h32) (cwV 2 hts gL_law_X0_entryOf rfl rfl rfl (by decide +kernel) ⟨Nat.le_of_ble_eq_true rfl, Nat.le_of_ble_eq_true rfl⟩) ⟨fun a U g mk q => by obtain ⟨q0, q1, qP, qK, qD⟩ := q; exact ⟨q0, q1, qP, va_K.moved (u := U) (U := U.calling g mk a) (Vm.Alike.refl U.vm) qK, qD⟩, va_recv hKc hPc (ci := 0) (q0 := 0) rfl rfl, fun U hU hW => ⟨rfl, by rw [hU], by rw [hU]; exact hPc, va_K.moved hW.alike hKc, hDc.weaken (fun _ _ _ _ => trivial)⟩⟩ rfl rfl hl.1 rfl (lv_room (Nat.le_of_ble_eq_true rfl)) dL_law_382 ⟨Nat.le_of_ble_eq_true rfl, Nat.le_of_ble_eq_true rfl⟩) hS (fun q _ h => hFc q h) hFc (fun r_382 u t H1 locs ht hvm hw_382 hB hz1 hk1 hS => ?_)
    obtain ⟨hP1, hK1, hD1⟩ := hB
    rw [ht] at hP1
    try dsimp only at hw_382 hP1 hD1
    obtain ⟨hP, hD⟩ := va_join (wr := rt_mw q3 q4 q5 k3 k4 f g (nI en) (nI rn) cnt (nI pn) cng pnd msk sr sav tkn (nI kn)) (w1 := rt_xw q0 q1 q2 k1 k2 f g (nI en) (nI rn) cnt (nI pn) cng pnd msk sr sav tkn) hP hD [0, 1, 2] [3, 4, 5] rfl rfl (by decide) (by decide) hk1 hFc hP1 hD1
    have hP := hP.sub (ws' := rt_xw q0 q1 q2 k1 k2 f g (nI en) (nI rn) cnt (nI pn) cng pnd msk sr sav tkn ++ rt_mw q3 q4 q5 k3 k4 f g (nI en) (nI rn) cnt (nI pn) cng pnd msk sr sav tkn (nI kn)) [3, 4, 5, 0, 1, 2] rfl
    have hD := hD.sub (ws' := rt_xw q0 q1 q2 k1 k2 f g (nI en) (nI rn) cnt (nI pn) cng pnd msk sr sav tkn ++ rt_mw q3 q4 q5 k3 k4 f g (nI en) (nI rn) cnt (nI pn) cng pnd msk sr sav tkn (nI kn)) [3, 4, 5, 0, 1, 2] (by decide) rfl
    generalize H1 = H at hP hS ⊢
    have hP : va_P (dC, dI) vwCl (rt_xw q0 q1 q2 k1 k2 f g (nI en) (nI rn) cnt (nI pn) cng pnd msk sr sav tkn ++ rt_mw q3 q4 q5 k3 k4 f g (nI en) (nI rn) cnt (nI pn) cng pnd msk sr sav tkn (nI kn)) H := hP
    have hD : va_D (fun q : Nat => s.heap.size ≤ q) (rt_xw q0 q1 q2 k1 k2 f g (nI en) (nI rn) cnt (nI pn) cng pnd msk sr sav tkn ++ rt_mw q3 q4 q5 k3 k4 f g (nI en) (nI rn) cnt (nI pn) cng pnd msk sr sav tkn (nI kn)) := hD
    refine lv_aload_n hx hb dL_law_385 rfl (lv_at hl 2 rfl) ?_
    refine lv_aload_n hx hb dL_law_386 rfl (lv_at hl 0 rfl) ?_
    refine lv_iload_n hx hb dL_law_387 rfl (lv_at hl 3 rfl) ?_
    refine lv_iconst (v := 1) hx hb dL_law_388 (by decide) ?_
    refine lv_iadd hx hb dL_law_389 ?_
    refine va_sld hx hb hX hbl hbA hS (rt_in1 hi hL) dL_law_390 ?_
    refine lv_aload_n hx hb dL_law_391 rfl (lv_at hl 0 rfl) ?_
    refine lv_iload_n hx hb dL_law_392 rfl (lv_at hl 3 rfl) ?_
    refine lv_iconst (v := 2) hx hb dL_law_393 (by decide) ?_
    refine lv_iadd hx hb dL_law_394 ?_
    refine va_sld hx hb hX hbl hbA hS (rt_in2 hi hL) dL_law_395 ?_
    refine lv_if_eq (tgt := 403) hx hb dL_law_396 (by decide) (fun c_396 => absurd c_396 c_374) (fun c_396 => ?_)
    refine lv_iconst (v := 1) hx hb dL_law_399 (by decide) ?_
    refine lv_goto (tgt := 404) hx hb dL_law_400 (by decide) ?_
    have hPc := hP.sub (ws' := rt_mw q3 q4 q5 k3 k4 f g (nI en) (nI rn) cnt (nI pn) cng pnd msk sr sav tkn (nI kn)) [3, 4, 5] rfl
    have hDc := hD.sub (ws' := rt_mw q3 q4 q5 k3 k4 f g (nI en) (nI rn) cnt (nI pn) cng pnd msk sr sav tkn (nI kn)) [3, 4, 5] (by decide) rfl
    have hKc := hK.sub (tys' := [(k3, .int), (k4, .int)]) [2, 3] rfl
    have hFc := va_free (wc := rt_mw q3 q4 q5 k3 k4 f g (nI en) (nI rn) cnt (nI pn) cng pnd msk sr sav tkn (nI kn)) hD hS hA [3, 4, 5] rfl
    refine va_calli (va_runV (As := [.int (xs ((nI i) + 1).toNatClampNeg), .int 1]) (rest := [.int r_382]) ⟨hx, hb, hml, hown, hts⟩ (c_M_entryOf l dC dI q3 q4 q5 H.size k3 k4 f g (nI en) (nI rn) cnt (nI pn) cng pnd msk sr sav tkn (nI kn) (xs ((nI i) + 1).toNatClampNeg) 1 en rfl h32) (cwV 2 htb gL_law_X1_entryOf rfl rfl rfl (by decide +kernel) ⟨Nat.le_of_ble_eq_true rfl, Nat.le_of_ble_eq_true rfl⟩) ⟨fun a U g mk q => by obtain ⟨q0, q1, qP, qK, qD⟩ := q; exact ⟨q0, q1, qP, va_K.moved (u := U) (U := U.calling g mk a) (Vm.Alike.refl U.vm) qK, qD⟩, va_recv hKc hPc (ci := 1) (q0 := 0) rfl rfl, fun U hU hW => ⟨rfl, by rw [hU], by rw [hU]; exact hPc, va_K.moved hW.alike hKc, hDc.weaken (fun _ _ _ _ => trivial)⟩⟩ rfl rfl hl.1 rfl (lv_room (Nat.le_of_ble_eq_true rfl)) dL_law_404 ⟨Nat.le_of_ble_eq_true rfl, Nat.le_of_ble_eq_true rfl⟩) hS (fun q _ h => hFc q h) hFc (fun r_404 u t H1 locs ht hvm hw_404 hB hz1 hk1 hS => ?_)
    obtain ⟨hP1, hK1, hD1⟩ := hB
    rw [ht] at hP1
    try dsimp only at hw_404 hP1 hD1
    obtain ⟨hP, hD⟩ := va_join (wr := rt_xw q0 q1 q2 k1 k2 f g (nI en) (nI rn) cnt (nI pn) cng pnd msk sr sav tkn) (w1 := rt_mw q3 q4 q5 k3 k4 f g (nI en) (nI rn) cnt (nI pn) cng pnd msk sr sav tkn (nI kn)) hP hD [3, 4, 5] [0, 1, 2] rfl rfl (by decide) (by decide) hk1 hFc hP1 hD1
    generalize H1 = H at hP hS ⊢
    have hP : va_P (dC, dI) vwCl (rt_xw q0 q1 q2 k1 k2 f g (nI en) (nI rn) cnt (nI pn) cng pnd msk sr sav tkn ++ rt_mw q3 q4 q5 k3 k4 f g (nI en) (nI rn) cnt (nI pn) cng pnd msk sr sav tkn (nI kn)) H := hP
    have hD : va_D (fun q : Nat => s.heap.size ≤ q) (rt_xw q0 q1 q2 k1 k2 f g (nI en) (nI rn) cnt (nI pn) cng pnd msk sr sav tkn ++ rt_mw q3 q4 q5 k3 k4 f g (nI en) (nI rn) cnt (nI pn) cng pnd msk sr sav tkn (nI kn)) := hD
    refine lv_icmp_eq (tgt := 435) hx hb dL_law_407 (by decide) (fun c_407 => ?_) (fun c_407 => absurd (hw_382.trans hw_404.symm) c_407)
    exact kk f g en rn kn pn cnt cng pnd msk sr sav tkn (hI) H locs ls hP hD hS hl
set_option maxHeartbeats 4000000 in
set_option maxRecDepth 100000 in
theorem law_c12 {p : Program} {l : Launch} {e0 : Env} {s : State} {m : MethodId} {below : List Frame} {meth : Method} {c : Code} {dC : Nat → ClassId} {dI : Nat → Nat → Nat} {b L : Nat} {xs : Nat → Int32} (hL : L ≤ 2048) (C0 : lw_At p s m meth c b L xs) {q0 q1 q2 q3 q4 q5 : Nat} {k1 k2 k3 k4 : ClassId} (hK : va_K (dC, dI) vwCl [(k1, .int), (k2, .int), (k3, .int), (k4, .int)] s) {i : Nat} (hi : i + 4 ≤ L) (kk : ∀ (f g : Nat → Int32) (en rn kn pn : Nat) (cnt cng pnd msk sr sav tkn : Int32), rt_Inv f en rn kn pn → ∀ (H : Heap) (locs : List Loc) (ls : Array Slot), va_P (dC, dI) vwCl (rt_xw q0 q1 q2 k1 k2 f g (nI en) (nI rn) cnt (nI pn) cng pnd msk sr sav tkn ++ rt_mw q3 q4 q5 k3 k4 f g (nI en) (nI rn) cnt (nI pn) cng pnd msk sr sav tkn (nI kn)) H → va_D (fun q : Nat => s.heap.size ≤ q) (rt_xw q0 q1 q2 k1 k2 f g (nI en) (nI rn) cnt (nI pn) cng pnd msk sr sav tkn ++ rt_mw q3 q4 q5 k3 k4 f g (nI en) (nI rn) cnt (nI pn) cng pnd msk sr sav tkn (nI kn)) → va_S (fun q : Nat => s.heap.size ≤ q) s.heap H locs → lv_has ls 4 [(0, .ref b), (1, .ref q0), (2, .ref q3), (3, .int (nI i))] → W p l e0 room_1 s m #[Value.ref b] below meth c H locs 6 154 (lw_Z below #[Value.ref b] s) (F0 m 435 ls [])) :
    ∀ (f g : Nat → Int32) (en rn kn pn : Nat) (cnt cng pnd msk sr sav tkn : Int32), rt_Inv f en rn kn pn → ∀ (H : Heap) (locs : List Loc) (ls : Array Slot), va_P (dC, dI) vwCl (rt_xw q0 q1 q2 k1 k2 f g (nI en) (nI rn) cnt (nI pn) cng pnd msk sr sav tkn ++ rt_mw q3 q4 q5 k3 k4 f g (nI en) (nI rn) cnt (nI pn) cng pnd msk sr sav tkn (nI kn)) H → va_D (fun q : Nat => s.heap.size ≤ q) (rt_xw q0 q1 q2 k1 k2 f g (nI en) (nI rn) cnt (nI pn) cng pnd msk sr sav tkn ++ rt_mw q3 q4 q5 k3 k4 f g (nI en) (nI rn) cnt (nI pn) cng pnd msk sr sav tkn (nI kn)) → va_S (fun q : Nat => s.heap.size ≤ q) s.heap H locs → lv_has ls 4 [(0, .ref b), (1, .ref q0), (2, .ref q3), (3, .int (nI i))] → W p l e0 room_1 s m #[Value.ref b] below meth c H locs 6 154 (lw_Z below #[Value.ref b] s) (F0 m 412 ls []) := by
  obtain ⟨hx, hb, hr, hml, hown, htb, hX, hbl, hlocks, hgv⟩ := C0
  have hts := fun w h => htb w (wsL_law_in w h)
  have hA : ∀ q : Nat, s.heap.size ≤ q → (fun q : Nat => s.heap.size ≤ q) q := fun _ h => h
  have hbA : ¬ (fun q : Nat => s.heap.size ≤ q) b := Nat.not_le.mpr hbl
  intro f g en rn kn pn cnt cng pnd msk sr sav tkn hI H locs ls hP hD hS hl
  obtain ⟨h32, hrl, hpl, hs, hc⟩ := id hI
  refine lv_aload_n hx hb dL_law_412 rfl (lv_at hl 1 rfl) ?_
  refine lv_aload_n hx hb dL_law_413 rfl (lv_at hl 0 rfl) ?_
  refine lv_iload_n hx hb dL_law_414 rfl (lv_at hl 3 rfl) ?_
  refine lv_iconst (v := 1) hx hb dL_law_415 (by decide) ?_
  refine lv_iadd hx hb dL_law_416 ?_
  refine va_sld hx hb hX hbl hbA hS (rt_in1 hi hL) dL_law_417 ?_
  have hPc := hP.sub (ws' := rt_xw q0 q1 q2 k1 k2 f g (nI en) (nI rn) cnt (nI pn) cng pnd msk sr sav tkn) [0, 1, 2] rfl
  have hDc := hD.sub (ws' := rt_xw q0 q1 q2 k1 k2 f g (nI en) (nI rn) cnt (nI pn) cng pnd msk sr sav tkn) [0, 1, 2] (by decide) rfl
  have hKc := hK.sub (tys' := [(k1, .int), (k2, .int)]) [0, 1] rfl
  have hFc := va_free (wc := rt_xw q0 q1 q2 k1 k2 f g (nI en) (nI rn) cnt (nI pn) cng pnd msk sr sav tkn) hD hS hA [0, 1, 2] rfl
  refine va_calli (va_runV (As := [.int (xs ((nI i) + 1).toNatClampNeg)]) (rest := []) ⟨hx, hb, hml, hown, hts⟩ (c_X_look l dC dI q0 q1 q2 H.size k1 k2 f g (nI en) (nI rn) cnt (nI pn) cng pnd msk sr sav tkn (xs ((nI i) + 1).toNatClampNeg) en rn rfl h32 rfl) (cwV 1 hts gL_law_X0_look rfl rfl rfl (by decide +kernel) ⟨Nat.le_of_ble_eq_true rfl, Nat.le_of_ble_eq_true rfl⟩) ⟨fun a U g mk q => by obtain ⟨q0, q1, qP, qK, qD⟩ := q; exact ⟨q0, q1, qP, va_K.moved (u := U) (U := U.calling g mk a) (Vm.Alike.refl U.vm) qK, qD⟩, va_recv hKc hPc (ci := 0) (q0 := 0) rfl rfl, fun U hU hW => ⟨rfl, by rw [hU], by rw [hU]; exact hPc, va_K.moved hW.alike hKc, hDc.weaken (fun _ _ _ _ => trivial)⟩⟩ rfl rfl hl.1 rfl (lv_room (Nat.le_of_ble_eq_true rfl)) dL_law_418 ⟨Nat.le_of_ble_eq_true rfl, Nat.le_of_ble_eq_true rfl⟩) hS (fun q _ h => hFc q h) hFc (fun r_418 u t H1 locs ht hvm hw_418 hB hz1 hk1 hS => ?_)
  obtain ⟨hP1, hK1, hD1⟩ := hB
  rw [ht] at hP1
  try dsimp only at hw_418 hP1 hD1
  obtain ⟨hP, hD⟩ := va_join (wr := rt_mw q3 q4 q5 k3 k4 f g (nI en) (nI rn) cnt (nI pn) cng pnd msk sr sav tkn (nI kn)) (w1 := rt_xw q0 q1 q2 k1 k2 f g (nI en) (nI rn) cnt (nI pn) cng pnd msk sr sav tkn) hP hD [0, 1, 2] [3, 4, 5] rfl rfl (by decide) (by decide) hk1 hFc hP1 hD1
  have hP := hP.sub (ws' := rt_xw q0 q1 q2 k1 k2 f g (nI en) (nI rn) cnt (nI pn) cng pnd msk sr sav tkn ++ rt_mw q3 q4 q5 k3 k4 f g (nI en) (nI rn) cnt (nI pn) cng pnd msk sr sav tkn (nI kn)) [3, 4, 5, 0, 1, 2] rfl
  have hD := hD.sub (ws' := rt_xw q0 q1 q2 k1 k2 f g (nI en) (nI rn) cnt (nI pn) cng pnd msk sr sav tkn ++ rt_mw q3 q4 q5 k3 k4 f g (nI en) (nI rn) cnt (nI pn) cng pnd msk sr sav tkn (nI kn)) [3, 4, 5, 0, 1, 2] (by decide) rfl
  generalize H1 = H at hP hS ⊢
  have hP : va_P (dC, dI) vwCl (rt_xw q0 q1 q2 k1 k2 f g (nI en) (nI rn) cnt (nI pn) cng pnd msk sr sav tkn ++ rt_mw q3 q4 q5 k3 k4 f g (nI en) (nI rn) cnt (nI pn) cng pnd msk sr sav tkn (nI kn)) H := hP
  have hD : va_D (fun q : Nat => s.heap.size ≤ q) (rt_xw q0 q1 q2 k1 k2 f g (nI en) (nI rn) cnt (nI pn) cng pnd msk sr sav tkn ++ rt_mw q3 q4 q5 k3 k4 f g (nI en) (nI rn) cnt (nI pn) cng pnd msk sr sav tkn (nI kn)) := hD
  refine lv_aload_n hx hb dL_law_421 rfl (lv_at hl 2 rfl) ?_
  refine lv_aload_n hx hb dL_law_422 rfl (lv_at hl 0 rfl) ?_
  refine lv_iload_n hx hb dL_law_423 rfl (lv_at hl 3 rfl) ?_
  refine lv_iconst (v := 1) hx hb dL_law_424 (by decide) ?_
  refine lv_iadd hx hb dL_law_425 ?_
  refine va_sld hx hb hX hbl hbA hS (rt_in1 hi hL) dL_law_426 ?_
  have hPc := hP.sub (ws' := rt_mw q3 q4 q5 k3 k4 f g (nI en) (nI rn) cnt (nI pn) cng pnd msk sr sav tkn (nI kn)) [3, 4, 5] rfl
  have hDc := hD.sub (ws' := rt_mw q3 q4 q5 k3 k4 f g (nI en) (nI rn) cnt (nI pn) cng pnd msk sr sav tkn (nI kn)) [3, 4, 5] (by decide) rfl
  have hKc := hK.sub (tys' := [(k3, .int), (k4, .int)]) [2, 3] rfl
  have hFc := va_free (wc := rt_mw q3 q4 q5 k3 k4 f g (nI en) (nI rn) cnt (nI pn) cng pnd msk sr sav tkn (nI kn)) hD hS hA [3, 4, 5] rfl
  refine va_calli (va_runV (As := [.int (xs ((nI i) + 1).toNatClampNeg)]) (rest := [.int r_418]) ⟨hx, hb, hml, hown, hts⟩ (c_M_look l dC dI q3 q4 q5 H.size k3 k4 f g (nI en) (nI rn) cnt (nI pn) cng pnd msk sr sav tkn (nI kn) (xs ((nI i) + 1).toNatClampNeg) en rn kn rfl rfl rfl (by have := hc.1; omega)) (cwV 1 htb gL_law_X1_look rfl rfl rfl (by decide +kernel) ⟨Nat.le_of_ble_eq_true rfl, Nat.le_of_ble_eq_true rfl⟩) ⟨fun a U g mk q => by obtain ⟨q0, q1, qP, qK, qD⟩ := q; exact ⟨q0, q1, qP, va_K.moved (u := U) (U := U.calling g mk a) (Vm.Alike.refl U.vm) qK, qD⟩, va_recv hKc hPc (ci := 1) (q0 := 0) rfl rfl, fun U hU hW => ⟨rfl, by rw [hU], by rw [hU]; exact hPc, va_K.moved hW.alike hKc, hDc.weaken (fun _ _ _ _ => trivial)⟩⟩ rfl rfl hl.1 rfl (lv_room (Nat.le_of_ble_eq_true rfl)) dL_law_427 ⟨Nat.le_of_ble_eq_true rfl, Nat.le_of_ble_eq_true rfl⟩) hS (fun q _ h => hFc q h) hFc (fun r_427 u t H1 locs ht hvm hw_427 hB hz1 hk1 hS => ?_)
  obtain ⟨hP1, hK1, hD1⟩ := hB
  rw [ht] at hP1
  try dsimp only at hw_427 hP1 hD1
  obtain ⟨hP, hD⟩ := va_join (wr := rt_xw q0 q1 q2 k1 k2 f g (nI en) (nI rn) cnt (nI pn) cng pnd msk sr sav tkn) (w1 := rt_mw q3 q4 q5 k3 k4 f g (nI en) (nI rn) cnt (nI pn) cng pnd msk sr sav tkn (nI kn)) hP hD [3, 4, 5] [0, 1, 2] rfl rfl (by decide) (by decide) hk1 hFc hP1 hD1
  generalize H1 = H at hP hS ⊢
  have hP : va_P (dC, dI) vwCl (rt_xw q0 q1 q2 k1 k2 f g (nI en) (nI rn) cnt (nI pn) cng pnd msk sr sav tkn ++ rt_mw q3 q4 q5 k3 k4 f g (nI en) (nI rn) cnt (nI pn) cng pnd msk sr sav tkn (nI kn)) H := hP
  have hD : va_D (fun q : Nat => s.heap.size ≤ q) (rt_xw q0 q1 q2 k1 k2 f g (nI en) (nI rn) cnt (nI pn) cng pnd msk sr sav tkn ++ rt_mw q3 q4 q5 k3 k4 f g (nI en) (nI rn) cnt (nI pn) cng pnd msk sr sav tkn (nI kn)) := hD
  rw [rt_pl_now hc] at hw_418
  refine lv_icmp_eq (tgt := 435) hx hb dL_law_430 (by decide) (fun c_430 => ?_) (fun c_430 => absurd (rt_lk_eq (A := rt_lk en rn cnt (nI pn) cng pnd msk sr sav tkn (rt_now g kn)) hw_418 hw_427) c_430)
  exact kk f g en rn kn pn cnt cng pnd msk sr sav tkn (hI) H locs ls hP hD hS hl
