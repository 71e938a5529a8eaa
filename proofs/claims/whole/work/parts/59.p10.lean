/-! an instruction, a call by an instruction, a step, a run -/
theorem s_obey {a b : eS} {c : Nat} {w : Int32} (h : Rel a b) (hc : c ≤ 6) (h1 : b 13 1 = nI c) (h2 : a 9 2 = if c = 6 then (-1 : Int32) else nI c) (h11 : ¬ (w &&& 15) = 11) : SimU (f_W_obey c w a) (mObey (b 12 c) w b) := by
  obtain ⟨o, ho, eo⟩ := pk_andE w (m := 15) 4 (by decide)
  obtain ⟨j4, hj4, e4⟩ := pk_andE (w >>> ((4 : Int32) &&& 31)) (m := 7) 3 (by decide)
  obtain ⟨j7, hj7, e7⟩ := pk_andE (w >>> ((7 : Int32) &&& 31)) (m := 7) 3 (by decide)
  obtain ⟨j10, hj10, e10⟩ := pk_andE (w >>> ((10 : Int32) &&& 31)) (m := 7) 3 (by decide)
  unfold f_W_obey mObey
  rw [eo, e4, e7, e10]
  generalize (w >>> ((16 : Int32) &&& 31)) = I
  rw [nm_s, nm_s, pC_get hj7, bnd_s, nm_s, pC_get hj10, bnd_s, nm_s, nm_s, nm_s, nm_s, nm_s, h1, lit_mul (N := 8) (n := 8) rfl, nI_add, ix_nI (by omega) (by decide), nm_s, nI_add, ix_nI (by omega) (by decide), nm_s, nm_s, cl_nI (by omega), cl_nI (by omega), h.2.1.1 c (by omega) j7 hj7, h.2.1.1 c (by omega) j10 hj10]
  generalize b 11 (8 * c + j7) = X
  generalize b 11 (8 * c + j10) = Y
  have fl : SimU (f_W_obey_56 a) (f_M_step_255 (b 12 c) 0 (nI (8 * c)) (nI j4) X I b) := by
    obtain ⟨a', b', q1, q2, q3⟩ := s_fault (k := 4) h hc h1 h2
    have e1 : f_M_step_255 (b 12 c) 0 (nI (8 * c)) (nI j4) X I b = bnd (f_M_fault 4 b) (fun _ s2 => some ((), s2)) := rfl
    unfold f_W_obey_56
    rw [e1, q1, q2]
    exact SimU.of q3
  have hfl : ∀ x : Int32, ¬ x = 7 → ¬ x = 8 → ¬ x = 9 → ¬ x = 10 → ¬ x = 11 → f_M_step_255 (b 12 c) x (nI (8 * c)) (nI j4) X I b = f_M_step_255 (b 12 c) 0 (nI (8 * c)) (nI j4) X I b := by
    intro x x7 x8 x9 x10 x11
    unfold f_M_step_255
    rw [if_neg x7, if_neg x8, if_neg x9, if_neg x10, if_neg x11]
    rfl
  rcases (show o = 0 ∨ o = 1 ∨ o = 2 ∨ o = 3 ∨ o = 4 ∨ o = 5 ∨ o = 6 ∨ o = 7 ∨ o = 8 ∨ o = 9 ∨ o = 10 ∨ o = 11 ∨ o = 12 ∨ o = 13 ∨ o = 14 ∨ o = 15 by omega) with rfl | rfl | rfl | rfl | rfl | rfl | rfl | rfl | rfl | rfl | rfl | rfl | rfl | rfl | rfl | rfl
  · rw [if_pos (by decide), if_pos (by decide)]; exact fl
  · rw [if_neg (by decide), if_pos (by decide), if_neg (by decide), if_neg (by decide), if_neg (by decide), if_neg (by decide), if_pos (by decide)]
    exact s_set h hc h1 hj4
  · rw [if_neg (by decide), if_pos (by decide), if_neg (by decide), if_neg (by decide), if_neg (by decide), if_neg (by decide), if_neg (by decide), if_pos (by decide)]
    exact s_set h hc h1 hj4
  · rw [if_neg (by decide), if_pos (by decide), if_neg (by decide), if_neg (by decide), if_neg (by decide), if_neg (by decide), if_neg (by decide), if_neg (by decide), if_pos (by decide)]
    exact s_set h hc h1 hj4
  · rw [if_neg (by decide), if_pos (by decide), if_neg (by decide), if_neg (by decide), if_neg (by decide), if_neg (by decide), if_neg (by decide), if_neg (by decide), if_neg (by decide), if_pos (by decide)]
    exact s_set h hc h1 hj4
  · rw [if_neg (by decide), if_pos (by decide), if_neg (by decide), if_neg (by decide), if_neg (by decide), if_neg (by decide), if_neg (by decide), if_neg (by decide), if_neg (by decide), if_neg (by decide), if_pos (by decide)]
    exact s_set h hc h1 hj4
  · rw [if_neg (by decide), if_pos (by decide), if_neg (by decide), if_neg (by decide), if_neg (by decide), if_neg (by decide), if_neg (by decide), if_neg (by decide), if_neg (by decide), if_neg (by decide), if_neg (by decide)]
    exact s_set h hc h1 hj4
  · rw [if_neg (by decide), if_pos (by decide), if_pos (by decide), if_neg (by decide), if_pos (by decide)]
    exact s_access h hc h1 h2 hj4 true X Y I rfl
  · rw [if_neg (by decide), if_pos (by decide), if_neg (by decide), if_pos (by decide), if_neg (by decide), if_pos (by decide)]
    exact s_access h hc h1 h2 hj4 false X Y I rfl
  · rw [if_neg (by decide), if_pos (by decide), if_neg (by decide), if_neg (by decide), if_neg (by decide), if_pos (by decide)]
    have e1 : f_W_obey_92 c 9 (nI j4) X Y I a = bnd (f_C_get c (nI j4) (wr a 8 c (a 8 c + 1))) (fun r36 s37 => if r36 = X then f_W_obey_288 I c 1 s37 else f_W_obey_288 I c 0 s37) := rfl
    have e2 : f_M_step_255 (b 12 c) 9 (nI (8 * c)) (nI j4) X I b = ix (nI (8 * c) + nI j4) 56 (nm (b 11 (Int32.toNatClampNeg (nI (8 * c) + nI j4))) fun v1 => if v1 = X then f_M_step_349 (b 12 c) I 1 b else f_M_step_349 (b 12 c) I 0 b) := rfl
    show SimU (f_W_obey_92 c 9 (nI j4) X Y I a) (f_M_step_255 (b 12 c) 9 (nI (8 * c)) (nI j4) X I b)
    rw [e1, e2, pC_get hj4, bnd_s, nI_add, ix_nI (by omega) (by decide), nm_s, cl_nI (by omega), wr_ne a c (a 8 c + 1) (show 10 + c ≠ 8 by omega), h.2.1.1 c (by omega) j4 hj4]
    by_cases q : b 11 (8 * c + j4) = X
    · rw [if_pos q, if_pos q]; exact s_br h hc h1
    · rw [if_neg q, if_neg q]; exact s_br h hc h1
  · rw [if_neg (by decide), if_pos (by decide), if_neg (by decide), if_neg (by decide), if_neg (by decide), if_pos (by decide)]
    have e1 : f_W_obey_92 c 10 (nI j4) X Y I a = bnd (f_C_get c (nI j4) (wr a 8 c (a 8 c + 1))) (fun r39 s40 => if X ≤ r39 then f_W_obey_313 I c 0 s40 else f_W_obey_313 I c 1 s40) := rfl
    have e2 : f_M_step_255 (b 12 c) 10 (nI (8 * c)) (nI j4) X I b = ix (nI (8 * c) + nI j4) 56 (nm (b 11 (Int32.toNatClampNeg (nI (8 * c) + nI j4))) fun v1 => if X ≤ v1 then f_M_step_349 (b 12 c) I 0 b else f_M_step_349 (b 12 c) I 1 b) := rfl
    show SimU (f_W_obey_92 c 10 (nI j4) X Y I a) (f_M_step_255 (b 12 c) 10 (nI (8 * c)) (nI j4) X I b)
    rw [e1, e2, pC_get hj4, bnd_s, nI_add, ix_nI (by omega) (by decide), nm_s, cl_nI (by omega), wr_ne a c (a 8 c + 1) (show 10 + c ≠ 8 by omega), h.2.1.1 c (by omega) j4 hj4]
    by_cases q : X ≤ b 11 (8 * c + j4)
    · rw [if_pos q, if_pos q]; exact s_br h hc h1
    · rw [if_neg q, if_neg q]; exact s_br h hc h1
  · exact absurd eo h11
  · rw [if_neg (by decide), if_neg (by decide), if_neg (by decide), if_pos (by decide), hfl _ (by decide) (by decide) (by decide) (by decide) (by decide)]; exact fl
  · rw [if_neg (by decide), if_neg (by decide), if_neg (by decide), if_pos (by decide), hfl _ (by decide) (by decide) (by decide) (by decide) (by decide)]; exact fl
  · rw [if_neg (by decide), if_neg (by decide), if_neg (by decide), if_pos (by decide), hfl _ (by decide) (by decide) (by decide) (by decide) (by decide)]; exact fl
  · rw [if_neg (by decide), if_neg (by decide), if_neg (by decide), if_pos (by decide), hfl _ (by decide) (by decide) (by decide) (by decide) (by decide)]; exact fl
theorem pM_put1 {b : eS} {c : Nat} {v : Int32} (hc : c ≤ 6) (h1 : b 13 1 = nI c) : f_M_put 1 v b = some ((), wr b 11 (8 * c + 1) v) := pM_put (j := 1) hc h1 (by decide)
theorem s_put1 {a b : eS} {c : Nat} {v : Int32} (h : Rel a b) (hc : c ≤ 6) (h1 : b 13 1 = nI c) : SimU (bnd (f_C_put c 1 v a) fun _ s => some ((), s)) (bnd (f_M_put 1 v b) fun _ s => some ((), s)) := by
  rw [pC_put1, pM_put1 hc h1, bnd_s, bnd_s]
  exact SimU.of (rel_reg h (by omega) (by decide) (by decide))
theorem s_ask {a b : eS} {c : Nat} {f : Int32} (h : Rel a b) (hc : c ≤ 6) (h1 : b 13 1 = nI c) (h2 : a 9 2 = if c = 6 then (-1 : Int32) else nI c) : SimU (f_W_obeyCall c f a) (f_M_ask f b) := by
  have g1 : f_C_get c 1 a = some (b 11 (8 * c + 1), a) := by rw [show f_C_get c 1 a = some (a (10 + c) 1, a) from pC_get (k := 1) (by decide), h.2.1.1 c (by omega) 1 (by decide)]
  have g2 : f_C_get c 2 a = some (b 11 (8 * c + 2), a) := by rw [show f_C_get c 2 a = some (a (10 + c) 2, a) from pC_get (k := 2) (by decide), h.2.1.1 c (by omega) 2 (by decide)]
  have g3 : f_C_get c 3 a = some (b 11 (8 * c + 3), a) := by rw [show f_C_get c 3 a = some (a (10 + c) 3, a) from pC_get (k := 3) (by decide), h.2.1.1 c (by omega) 3 (by decide)]
  have l1 : nI (8 * c) + (1 : Int32) = nI (8 * c + 1) := nI_add _ 1
  have l2 : nI (8 * c) + (2 : Int32) = nI (8 * c + 2) := nI_add _ 2
  have l3 : nI (8 * c) + (3 : Int32) = nI (8 * c + 3) := nI_add _ 3
  have R1 := rel_next (c := c) h
  unfold f_W_obeyCall f_W_obeyCall_65 f_M_ask f_M_ask_216 f_M_ask_214 f_M_ask_216
  rw [g1, bnd_s, nm_s, g2, bnd_s, nm_s, g3, bnd_s, nm_s, nm_s, nm_s, h1, lit_mul (N := 8) (n := 8) rfl, l1, ix_nI (by omega) (by decide), nm_s, l2, ix_nI (by omega) (by decide), nm_s, l3, ix_nI (by omega) (by decide), nm_s, ix_nI (by omega) (by decide), ix_nI (by omega) (by decide), nm_s, nm_s, cl_nI (by omega), cl_nI (by omega), cl_nI (by omega), cl_nI (by omega), h2]
  generalize b 11 (8 * c + 1) = x
  generalize b 11 (8 * c + 2) = y
  generalize b 11 (8 * c + 3) = z
  have w1 : (wr b 12 c (b 12 c + 1)) 13 1 = nI c := h1
  have w2 : (wr a 8 c (a 8 c + 1)) 9 2 = if c = 6 then (-1 : Int32) else nI c := h2
  rw [w1]
  generalize wr b 12 c (b 12 c + 1) = b1 at *
  generalize wr a 8 c (a 8 c + 1) = a1 at *
  by_cases c6 : c = 6
  · subst c6
    rw [if_pos rfl, if_pos rfl, if_pos (show nI 6 = (6 : Int32) from rfl)]
    obtain ⟨r, a2, b2, s1, s2, s3⟩ := s_system R1 w1 f x y z
    rw [s1, s2, bnd_s, bnd_s, nm_s, nm_s]
    obtain ⟨c', h6, v1, v2, -⟩ := s3.2.2.2.2.1
    rw [v1, v2]
    by_cases q6 : c' = 6
    · subst q6
      rw [if_pos rfl, if_pos rfl, if_pos (show nI 6 = (6 : Int32) from rfl)]
      exact s_put1 s3 (by decide) v1
    · rw [if_neg q6, if_neg (nI_m1 (by omega)), if_neg (show ¬ nI c' = (6 : Int32) from nI_ne (b := 6) (by omega) (by decide) q6)]
      exact SimU.of s3
  · rw [if_neg c6] at w2 ⊢
    rw [if_neg (nI_m1 (by omega)), if_neg (show ¬ nI c = (6 : Int32) from nI_ne (b := 6) (by omega) (by decide) c6)]
    unfold f_W_enclaveCall
    rw [w2, nI_d2 (by omega), ix_nI (by omega) (by decide), nm_s, cl_nI (by omega)]
    obtain ⟨c', h6, v1, v2, v3⟩ := R1.2.2.2.2.1
    have cc : c' = c := (nI_eq (by omega) (by omega)).mp (v1.symm.trans w1)
    subst cc
    obtain ⟨st, h3, e3, z0, z1, -⟩ := R1.2.2.2.2.2.2.1 (c' / 2) (by omega)
    have s2 : st = 2 := (nI_eq (by omega) (by decide)).mp (e3.symm.trans (v3 (by omega)).1)
    subst s2
    obtain ⟨n, ld, e8, -, -, -, em, -, hn⟩ := z1 (by decide)
    have hms : f_M_measured (nI (c' / 2)) b1 = some (a1 4 (c' / 2), b1) := by rw [em]; exact pM_measured (by omega) e8 (by omega)
    have fin : ∀ v : Int32, SimU (if a1 9 2 = nI c' then bnd (f_C_put c' 1 v a1) fun _ s3 => some ((), s3) else some ((), a1)) (bnd (f_M_put 1 v b1) fun _ s2 => some ((), s2)) := by
      intro v
      rw [if_pos w2]
      exact s_put1 R1 hc w1
    by_cases f16 : f = 16
    · rw [if_pos f16, if_pos f16, pW_leave (by omega) w2, bnd_s, bnd_s, nm_s, ix_nI (by omega) (by decide), nm_s, cl_nI (by omega), pM_leave (b := wr b1 9 c' 1) (c := c') (by omega) w1, bnd_s, if_neg (show ¬ (lvW a1 c' 1 1 x) 9 2 = nI c' from fun q => nI_m1 (a := c') (by omega) q.symm)]
      exact SimU.of (rel_leave (q := 1) R1 (by omega) w1 (by decide) (by decide))
    · rw [if_neg f16, if_neg f16]
      by_cases f17 : f = 17
      · rw [if_pos f17, if_pos f17, pW_mac, bnd_s, bnd_s, nm_s, hms, bnd_s, pM_mac, bnd_s, nm_s, R1.2.2.1.1]
        exact fin _
      · rw [if_neg f17, if_neg f17]
        by_cases f18 : f = 18
        · rw [if_pos f18, if_pos f18, pW_mix, bnd_s, pW_mix, bnd_s, bnd_s, nm_s, hms, bnd_s, pM_mix, bnd_s, nm_s, pM_mix, bnd_s, nm_s, R1.2.2.1.1]
          exact fin _
        · rw [if_neg f18, if_neg f18]
          by_cases f19 : f = 19
          · rw [if_pos f19, if_pos f19, pW_mac, bnd_s, pM_mac, bnd_s, R1.2.2.1.1]
            by_cases q : macF (b1 13 0) x y = z
            · rw [if_pos q, if_pos q, bnd_s, nm_s, nm_s]
              exact fin _
            · rw [if_neg q, if_neg q, bnd_s, nm_s, nm_s]
              exact fin _
          · rw [if_neg f19, if_neg f19, bnd_s, nm_s]
            exact fin _
