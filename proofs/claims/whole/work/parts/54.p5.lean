/-! seal, thread, load -/
theorem tc2_0 {x y : Int32} (h : ¬ y = 0 → ¬ x = 0) : tc2 x y = 0 ↔ x = 0 := by
  unfold tc2
  by_cases hx : x = 0 <;> by_cases hy : y = 0 <;> simp [hx, hy]
  exact h hy hx
theorem tc2_le (x y : Int32) : tc2 x y ≤ 2 := by
  unfold tc2
  by_cases hx : x = 0 <;> by_cases hy : y = 0 <;> simp [hx, hy]
theorem s_seal {a b : eS} (h : Rel a b) (hw : b 13 1 = 6) (e y z : Int32) : Sim (f_W_seal e a) (f_M_system 4 e y z b) := by
  unfold f_W_seal f_W_seal_32 f_M_system
  rw [show f_M_outside ((4 : Int32) - 1) 10 b = some (0, b) from rfl, bnd_s, if_pos rfl, show f_M_bad 4 e y z b = bnd (f_M_outside e 2 b) (fun r1 s2 => if r1 = 0 then some (0, s2) else some (1, s2)) from rfl]
  rcases rng e 3 (by decide) with he | ⟨i, hi, rfl⟩
  · rw [pW_isEnclave_n he, pM_out_n (N := 2) (n := 2) rfl (by decide) he, bnd_s, bnd_s, if_pos rfl, if_neg (by decide), bnd_s, if_neg (by decide)]; exact Sim.of h
  · rw [pW_isEnclave hi, pM_out (N := 2) (n := 2) rfl (by decide) hi, bnd_s, bnd_s, if_neg (by decide), if_pos rfl, bnd_s, if_pos rfl, show f_M_wrongState 4 (nI i) y b = ix (nI i) 3 (if b 3 (Int32.toNatClampNeg (nI i)) = 1 then ix (2 * nI i) 6 (if b 9 (Int32.toNatClampNeg (2 * nI i)) = 0 then some (1, b) else some (0, b)) else some (1, b)) from rfl, ix_nI hi (by decide), ix_nI hi (by decide), cl_nI (show i < 2 ^ 31 by omega), nm_s, h.1.2.1]
    by_cases hs : b 3 i = 1
    · obtain ⟨st, h3, e3, z0, z1, z2⟩ := h.2.2.2.2.2.2.1 i hi
      have s1 : st = 1 := (nI_eq (by omega) (by decide)).mp (e3.symm.trans hs)
      subst s1
      obtain ⟨n, ld, e8, e6, e5, h8, e4, hb1, hn⟩ := z1 (by decide)
      have hle := tc2_le (b 9 (2 * i)) (b 9 (2 * i + 1))
      have hb2 := hb1 rfl
      unfold thc at hb2
      rw [if_pos hs, if_pos hs, pV_tc, bnd_s, lit_mul (N := 2) (n := 2) rfl, ix_nI (by omega) (by decide), cl_nI (by omega), h.1.2.2.1]
      by_cases ht : b 9 (2 * i) = 0
      · rw [if_pos ht, (tc2_0 z2).mpr ht, if_pos (show nI 0 = 0 from rfl), bnd_s, if_neg (by decide)]; exact Sim.of h
      · have ht2 : ¬ nI (tc2 (b 9 (2 * i)) (b 9 (2 * i + 1))) = 0 := nI_ne (b := 0) (by omega) (by decide) (fun q => ht ((tc2_0 z2).mp q))
        have hr := rel_state (st := 2) h hi (by rw [hs]; decide) (by decide) (by decide) hw
        have h2 : (wr b 3 i (nI 2)) 3 i = 2 := upd_same _ _ _
        rw [if_neg ht, if_neg ht2, bnd_s, if_pos rfl, show f_M_taken 4 (nI i) y z b = some (0, b) from rfl, bnd_s, if_pos rfl, show f_M_full 4 (nI i) b = some (0, b) from rfl, bnd_s, if_pos rfl, if_neg (by decide), if_neg (by decide), show f_M_perform 4 (nI i) y z b = ix (nI i) 3 (nm (wr b 3 (Int32.toNatClampNeg (nI i)) 2) fun s11 => bnd (f_M_add (nI i) 4 s11) fun _ s13 => some ((), s13)) from rfl, ix_nI hi (by decide), nm_s, nm_s, cl_nI (by omega), pV_add, bnd_s, pM_add (b := wr b 3 i 2) hi e8 (by omega), bnd_s, bnd_s]
        exact Sim.of (rel_add hr hi (show ¬ (wr b 3 i (nI 2)) 3 i = 0 by rw [h2]; decide) e8 (fun _ _ _ q => absurd (h2.symm.trans q) (by decide)) (by omega))
    · rw [if_neg hs, if_neg hs, bnd_s, if_neg (by decide)]; exact Sim.of h
theorem rel_thread {a b : eS} {e t : Nat} {en : Int32} (h : Rel a b) (he : e < 3) (ht : t < 2) (hs : b 3 e = 1) (h0 : t = 0 → b 9 (2 * e) = 0) (h1 : t = 1 → ¬ b 9 (2 * e) = 0 ∧ b 9 (2 * e + 1) = 0) (h01 : t = 0 → b 9 (2 * e + 1) = 0) : Rel (wr (wr a 6 (2 * e + t) 1) 7 (2 * e + t) en) (wr (wr b 9 (2 * e + t) 1) 10 (2 * e + t) en) ∧ thc (upd (b 9) (2 * e + t) 1) e = thc (b 9) e + 1 := by
  obtain ⟨hG, hR, hS, hX, hW, hK, hE, hT⟩ := h
  have hthc : thc (upd (b 9) (2 * e + t) 1) e = thc (b 9) e + 1 := by
    unfold thc tc2
    rcases (show t = 0 ∨ t = 1 by omega) with rfl | rfl
    · rw [show 2 * e + 0 = 2 * e from rfl, upd_same, upd_ne _ _ (show 2 * e + 1 ≠ 2 * e by omega), h0 rfl, h01 rfl]; decide
    · rw [upd_same, upd_ne _ _ (show 2 * e ≠ 2 * e + 1 by omega), (h1 rfl).2, if_neg (h1 rfl).1]; decide
  refine ⟨⟨⟨hG.1, hG.2.1, congrArg (fun m => upd m (2 * e + t) 1) hG.2.2.1, congrArg (fun m => upd m (2 * e + t) en) hG.2.2.2.1, hG.2.2.2.2⟩, (hR.wr (by decide)).wr (by decide), hS, hX, ?_, hK, fun e' he' => ?_, fun t' ht' => ?_⟩, hthc⟩
  · obtain ⟨c, h6, w1, w2, w3⟩ := hW
    refine ⟨c, h6, w1, w2, fun q => ⟨(w3 q).1, ?_⟩⟩
    show ¬ upd (b 9) (2 * e + t) 1 c = 0
    by_cases ee : c = 2 * e + t
    · rw [ee, upd_same]; decide
    · rw [upd_ne _ _ ee]; exact (w3 q).2
  · show ER (a 4) (a 5) (b 3) (b 6) (b 7) (b 8) (upd (b 9) (2 * e + t) 1) e'
    obtain ⟨st, h3, e3, z0, z1, z2⟩ := hE e' he'
    by_cases ee : e' = e
    · subst ee
      have s1 : st = 1 := (nI_eq (by omega) (by decide)).mp (e3.symm.trans hs)
      subst s1
      obtain ⟨n, ld, e8, e6, e5, h8, e4, hb1, hn⟩ := z1 (by decide)
      refine ⟨1, h3, e3, fun q => absurd q (by decide), fun _ => ⟨n, ld, e8, e6, e5, h8, e4, fun _ => by rw [hthc]; have := hb1 rfl; omega, hn⟩, fun _ => ?_⟩
      rcases (show t = 0 ∨ t = 1 by omega) with rfl | rfl
      · rw [show 2 * e' + 0 = 2 * e' from rfl, upd_same]; decide
      · rw [upd_ne _ _ (show 2 * e' ≠ 2 * e' + 1 by omega)]; exact (h1 rfl).1
    · have q1 : upd (b 9) (2 * e + t) 1 (2 * e') = b 9 (2 * e') := upd_ne _ _ (by omega)
      have q2 : upd (b 9) (2 * e + t) 1 (2 * e' + 1) = b 9 (2 * e' + 1) := upd_ne _ _ (by omega)
      refine ⟨st, h3, e3, fun q => ⟨(z0 q).1, by rw [q1]; exact (z0 q).2.1, by rw [q2]; exact (z0 q).2.2⟩, fun q => ?_, by rw [q1, q2]; exact z2⟩
      obtain ⟨n, ld, e8, e6, e5, h8, e4, hb1, hn⟩ := z1 q
      exact ⟨n, ld, e8, e6, e5, h8, e4, fun q2' => by unfold thc; rw [q1, q2]; exact hb1 q2', hn⟩
  · show ∃ q, q ≤ 3 ∧ upd (b 9) (2 * e + t) 1 t' = nI q
    by_cases ee : t' = 2 * e + t
    · exact ⟨1, by decide, by rw [ee, upd_same]; rfl⟩
    · rw [upd_ne _ _ ee]; exact hT t' ht'
/-- two adds, one after the other -/
theorem rel_add2 {a b : eS} {e n : Nat} {x y : Int32} (h : Rel a b) (he : e < 3) (hst : ¬ b 3 e = 0) (hn : b 8 e = nI n) (hb : ∀ ld : Nat, ld ≤ 8 → b 6 e = nI ld → b 3 e = 1 → n + 2 ≤ 3 + 18 * ld + 2 * thc (b 9) e) (h152 : n + 2 ≤ 152) : ∃ a' b', (bnd (f_V_add e x a) fun _ s => f_V_add e y s) = some ((), a') ∧ (bnd (f_M_add (nI e) x b) fun _ s => f_M_add (nI e) y s) = some ((), b') ∧ Rel a' b' ∧ b' 8 e = nI (n + 2) ∧ b' 3 = b 3 ∧ b' 6 = b 6 ∧ b' 9 = b 9 ∧ b' 13 = b 13 := by
  have r1 := rel_add (x := x) h he hst hn (fun ld l1 l2 l3 => by have := hb ld l1 l2 l3; omega) (by omega)
  have n1 : (wr (wr b 7 (160 * e + n) x) 8 e (nI (n + 1))) 8 e = nI (n + 1) := upd_same _ _ _
  have r2 := rel_add (x := y) r1 he hst n1 hb h152
  refine ⟨_, _, ?_, ?_, r2, upd_same _ _ _, rfl, rfl, rfl, rfl⟩
  · rw [pV_add, bnd_s, pV_add]
  · rw [pM_add he hn (by omega), bnd_s, pM_add he n1 (by omega)]
theorem s_thr {a b : eS} {e t : Nat} {en : Int32} (h : Rel a b) (he : e < 3) (ht : t < 2) (hs : b 3 e = 1) (h0 : t = 0 → b 9 (2 * e) = 0) (h1 : t = 1 → ¬ b 9 (2 * e) = 0 ∧ b 9 (2 * e + 1) = 0) (h01 : t = 0 → b 9 (2 * e + 1) = 0) : Sim (bnd (f_V_add e 3 (wr (wr a 6 (2 * e + t) 1) 7 (2 * e + t) en)) fun _ s => bnd (f_V_add e en s) fun _ s => some (nI t, s)) (f_M_append (nI e) (nI t) en b) := by
  obtain ⟨r1, hth⟩ := rel_thread (en := en) h he ht hs h0 h1 h01
  obtain ⟨st, h3, e3, z0, z1, z2⟩ := h.2.2.2.2.2.2.1 e he
  have s1 : st = 1 := (nI_eq (by omega) (by decide)).mp (e3.symm.trans hs)
  subst s1
  obtain ⟨n, ld, e8, e6, e5, h8, e4, hb1, hn⟩ := z1 (by decide)
  have hle : thc (upd (b 9) (2 * e + t) 1) e ≤ 2 := tc2_le _ _
  have hb2 := hb1 rfl
  obtain ⟨a', b', p1, p2, r2, -⟩ := rel_add2 (x := 3) (y := en) r1 he (show ¬ b 3 e = 0 by rw [hs]; decide) (show b 8 e = nI n from e8) (fun ld' l1 l2 _ => by
    have : ld' = ld := (nI_eq (by omega) (by omega)).mp ((show b 6 e = nI ld' from l2).symm.trans e6)
    subst this
    show n + 2 ≤ 3 + 18 * ld' + 2 * thc (upd (b 9) (2 * e + t) 1) e
    rw [hth]; omega) (by omega)
  unfold f_M_append
  rw [lit_mul (N := 2) (n := 2) rfl, nI_add, ix_nI (by omega) (by decide), nm_s, ix_nI (by omega) (by decide), nm_s, cl_nI (by omega)]
  rw [pV_add, bnd_s, pV_add] at p1
  rw [pV_add, bnd_s, pV_add, bnd_s]
  have q1 := Option.some.inj p1
  have q2 : _ = a' := congrArg Prod.snd q1
  refine ⟨nI t, a', b', by rw [← q2], ?_, r2⟩
  generalize hx1 : f_M_add (nI e) 3 (wr (wr b 9 (2 * e + t) 1) 10 (2 * e + t) en) = x1 at p2 ⊢
  cases x1 with
  | none => cases p2
  | some q =>
    obtain ⟨u, s⟩ := q
    rw [bnd_s] at p2 ⊢
    rw [p2, bnd_s]
theorem s_addThread {a b : eS} (h : Rel a b) (e en z : Int32) : Sim (f_W_addThread e en a) (f_M_system 3 e en z b) := by
  have hK := h.2.2.2.2.2.1
  unfold f_W_addThread f_W_addThread_14 f_M_system
  rw [show f_M_outside ((3 : Int32) - 1) 10 b = some (0, b) from rfl, bnd_s, if_pos rfl, show f_M_bad 3 e en z b = bnd (f_M_outside e 2 b) (fun r1 s2 => if r1 = 0 then bnd (f_M_outside en 255 s2) (fun r4 s5 => if r4 = 0 then some (0, s5) else some (1, s5)) else some (1, s2)) from rfl]
  rcases rng e 3 (by decide) with he | ⟨i, hi, rfl⟩
  · rw [pW_isEnclave_n he, pM_out_n (N := 2) (n := 2) rfl (by decide) he, bnd_s, bnd_s, if_pos rfl, if_neg (by decide), bnd_s, if_neg (by decide)]; exact Sim.of h
  · rw [pW_isEnclave hi, pM_out (N := 2) (n := 2) rfl (by decide) hi, bnd_s, bnd_s, if_neg (by decide), if_pos rfl]
    rcases rng en 256 (by decide) with hp | ⟨j, hj, rfl⟩
    · rw [pW_isAddress_n hp, pM_out_n (N := 255) (n := 255) rfl (by decide) hp, bnd_s, bnd_s, if_pos rfl, if_neg (by decide), bnd_s, if_neg (by decide)]; exact Sim.of h
    · rw [pW_isAddress hj, pM_out (N := 255) (n := 255) rfl (by decide) hj, bnd_s, bnd_s, if_neg (by decide), if_pos rfl, bnd_s, if_pos rfl, show f_M_wrongState 3 (nI i) (nI j) b = ix (nI i) 3 (if b 3 (Int32.toNatClampNeg (nI i)) = 1 then some (0, b) else some (1, b)) from rfl, ix_nI hi (by decide), ix_nI hi (by decide), nm_s, cl_nI (show i < 2 ^ 31 by omega), h.1.2.1]
      by_cases hs : b 3 i = 1
      · rw [if_pos hs, if_pos hs, bnd_s, if_pos rfl, show f_M_taken 3 (nI i) (nI j) z b = bnd (f_M_kind (nI j / 16) b) (fun r11 s12 => if r11 = 2 + nI i then some (0, s12) else some (1, s12)) from rfl, nI_d16 (by omega), pM_kind (by omega) (hK (j / 16) (by omega)), bnd_s, ix_nI (by omega) (by decide), cl_nI (by omega)]
        by_cases hk : a 1 (j / 16) = 2 + nI i
        · obtain ⟨st, h3, e3, z0, z1, z2⟩ := h.2.2.2.2.2.2.1 i hi
          obtain ⟨q0, l0, g0⟩ := h.2.2.2.2.2.2.2 (2 * i) (by omega)
          obtain ⟨q1, l1, g1⟩ := h.2.2.2.2.2.2.2 (2 * i + 1) (by omega)
          rw [if_pos hk, if_pos hk, bnd_s, if_pos rfl, pV_tc, bnd_s, nm_s, show f_M_full 3 (nI i) b = ix ((2 : Int32) * nI i + 1) 6 (if b 9 (Int32.toNatClampNeg ((2 : Int32) * nI i + 1)) ≤ 0 then some (0, b) else some (1, b)) from rfl, lit_mul (N := 2) (n := 2) rfl, nI_1, ix_nI (show 2 * i + 1 < 6 by omega) (by decide), cl_nI (show 2 * i + 1 < 2 ^ 31 by omega), h.1.2.2.1]
          by_cases t1 : b 9 (2 * i + 1) = 0
          · rw [if_pos (show b 9 (2 * i + 1) ≤ 0 by rw [t1]; decide), bnd_s, if_pos rfl, if_neg (show ¬ (3 : Int32) = 1 by decide), if_pos (show (3 : Int32) = 3 from rfl), show f_M_thread (nI i) 0 b = some (b 9 (2 * i), b) from pM_thread (t := 0) hi (by decide), bnd_s]
            by_cases t0 : b 9 (2 * i) = 0
            · have et : tc2 (b 9 (2 * i)) (b 9 (2 * i + 1)) = 0 := (tc2_0 z2).mpr t0
              have S := s_thr (t := 0) (en := nI j) h hi (by decide) hs (fun _ => t0) (fun q => absurd q (by decide)) (fun _ => t1)
              rw [et, if_pos (show nI 0 < 2 by decide), if_pos t0, ix_nI (by decide) (by decide), nm_s, ix_nI (by decide) (by decide), nm_s]
              obtain ⟨r, a', b', w1, w2, w3⟩ := S
              exact ⟨r, a', b', w1, by rw [show f_M_append (nI i) 0 (nI j) b = some (r, b') from w2, bnd_s], w3⟩
            · have et : tc2 (b 9 (2 * i)) (b 9 (2 * i + 1)) = 1 := by unfold tc2; rw [if_neg t0, if_pos t1]
              have S := s_thr (t := 1) (en := nI j) h hi (by decide) hs (fun q => absurd q (by decide)) (fun _ => ⟨t0, t1⟩) (fun q => absurd q (by decide))
              rw [et, if_pos (show nI 1 < 2 by decide), if_neg t0, ix_nI (by decide) (by decide), nm_s, ix_nI (by decide) (by decide), nm_s]
              obtain ⟨r, a', b', w1, w2, w3⟩ := S
              exact ⟨r, a', b', w1, by rw [show f_M_append (nI i) 1 (nI j) b = some (r, b') from w2, bnd_s], w3⟩
          · have et : tc2 (b 9 (2 * i)) (b 9 (2 * i + 1)) = 2 := by unfold tc2; rw [if_neg (z2 t1), if_neg t1]
            have tn : ¬ b 9 (2 * i + 1) ≤ 0 := by
              rw [g1] at t1 ⊢
              exact nI_nle (Nat.pos_of_ne_zero (fun q => t1 (by rw [q]; rfl))) (by omega)
            rw [et, if_neg (show ¬ nI 2 < 2 by decide), if_neg tn, bnd_s, if_neg (by decide)]; exact Sim.of h
        · rw [if_neg hk, if_neg hk, bnd_s, if_neg (by decide)]; exact Sim.of h
      · rw [if_neg hs, if_neg hs, bnd_s, if_neg (by decide)]; exact Sim.of h
theorem rel_loads {a b : eS} {e ld : Nat} (h : Rel a b) (he : e < 3) (hs : b 3 e = 1) (h6 : b 6 e = nI ld) (hld : ld < 8) : Rel (wr a 5 e (nI (ld + 1))) (wr b 6 e (nI (ld + 1))) := by
  obtain ⟨hG, hR, hS, hX, hW, hK, hE, hT⟩ := h
  refine ⟨hG, hR.wr (by decide), hS, hX, hW, hK, fun e' he' => ?_, hT⟩
  show ER (a 4) (upd (a 5) e (nI (ld + 1))) (b 3) (upd (b 6) e (nI (ld + 1))) (b 7) (b 8) (b 9) e'
  obtain ⟨st, h3, e3, z0, z1, z2⟩ := hE e' he'
  by_cases ee : e' = e
  · subst ee
    have s1 : st = 1 := (nI_eq (by omega) (by decide)).mp (e3.symm.trans hs)
    subst s1
    obtain ⟨n, ld', e8, e6, e5, h8, e4, hb1, hn⟩ := z1 (by decide)
    have : ld' = ld := (nI_eq (by omega) (by omega)).mp (e6.symm.trans h6)
    subst this
    exact ⟨1, h3, e3, fun q => absurd q (by decide), fun _ => ⟨n, ld' + 1, e8, upd_same _ _ _, upd_same _ _ _, by omega, e4, fun _ => by have := hb1 rfl; omega, hn⟩, z2⟩
  · refine ⟨st, h3, e3, z0, fun q => ?_, z2⟩
    obtain ⟨n, ld', e8, e6, e5, h8, e4, hb1, hn⟩ := z1 q
    exact ⟨n, ld', e8, (upd_ne _ _ ee).trans e6, (upd_ne _ _ ee).trans e5, h8, e4, hb1, hn⟩
theorem ld_loop {e to fr : Nat} (he : e < 3) (hto : to < 16) (hfr : fr < 16) : ∀ (m k n fl fl' : Nat) (a b : eS), Rel a b → b 3 e = 1 → b 8 e = nI n → (∀ ld : Nat, ld ≤ 8 → b 6 e = nI ld → n + m ≤ 3 + 18 * ld + 2 * thc (b 9) e) → n + m ≤ 152 → k + m = 16 → m < fl → m < fl' → ∃ a' b', f_W_load_108 fl (nI to) (nI fr) e (nI k) a = some (0, a') ∧ f_M_load_25 fl' (nI e) (nI to) (nI fr) (nI k) b = some ((), b') ∧ Rel a' b' := by
  intro m
  induction m with
  | zero =>
    intro k n fl fl' a b h hs hn hb h152 hk hf hf'
    obtain ⟨fl, rfl⟩ : ∃ q, fl = q + 1 := ⟨fl - 1, by omega⟩
    obtain ⟨fl', rfl⟩ : ∃ q, fl' = q + 1 := ⟨fl' - 1, by omega⟩
    have h16 : (16 : Int32) ≤ nI k := nI_le (a := 16) (by omega) (by omega)
    exact ⟨a, b, by rw [f_W_load_108, if_pos h16], by rw [f_M_load_25, if_pos h16], h⟩
  | succ m ih =>
    intro k n fl fl' a b h hs hn hb h152 hk hf hf'
    obtain ⟨fl, rfl⟩ : ∃ q, fl = q + 1 := ⟨fl - 1, by omega⟩
    obtain ⟨fl', rfl⟩ : ∃ q, fl' = q + 1 := ⟨fl' - 1, by omega⟩
    have h16 : ¬ (16 : Int32) ≤ nI k := nI_ge (b := 16) (by omega) (by decide)
    have hm : a 0 = b 0 := h.1.1
    have r1 := rel_mem (i := 16 * to + k) (x := b 0 (16 * fr + k)) h
    have r2 := rel_add (x := b 0 (16 * fr + k)) r1 he (show ¬ b 3 e = 0 by rw [hs]; decide) hn (fun ld l1 l2 _ => by have := hb ld l1 l2; show n + 1 ≤ 3 + 18 * ld + 2 * thc (b 9) e; omega) (by omega)
    obtain ⟨a', b', p1, p2, p3⟩ := ih (k + 1) (n + 1) fl fl' _ _ r2 hs (upd_same _ _ _) (fun ld l1 l2 => by have := hb ld l1 l2; show n + 1 + m ≤ 3 + 18 * ld + 2 * thc (b 9) e; omega) (by omega) (by omega) (by omega) (by omega)
    refine ⟨a', b', ?_, ?_, p3⟩
    · rw [f_W_load_108, if_neg h16, nI_lit16, ix_nI (by omega) (by decide), nm_s, nI_lit16, ix_nI (by omega) (by decide), nm_s, cl_nI (by omega), cl_nI (by omega), pV_add, bnd_s, nm_s, nI_1, hm]
      exact p1
    · rw [f_M_load_25, if_neg h16, nI_16l, ix_nI (by omega) (by decide), nI_16l, ix_nI (by omega) (by decide), nm_s, ix_nI (by omega) (by decide), cl_nI (show 16 * to + k < 2 ^ 31 by omega), cl_nI (show 16 * fr + k < 2 ^ 31 by omega), show wr b 0 (16 * to + k) (b 0 (16 * fr + k)) 0 (16 * to + k) = b 0 (16 * fr + k) from upd_same _ _ _, pM_add (b := wr b 0 (16 * to + k) (b 0 (16 * fr + k))) he hn (by omega), bnd_s, nm_s, nI_1]
      exact p2
theorem s_load {a b : eS} (h : Rel a b) (e to fr : Int32) : Sim (f_W_load e to fr a) (f_M_system 2 e to fr b) := by
  have hK := h.2.2.2.2.2.1
  unfold f_W_load f_W_load_21 f_W_load_66 f_M_system
  rw [show f_M_outside ((2 : Int32) - 1) 10 b = some (0, b) from rfl, bnd_s, if_pos rfl, show f_M_bad 2 e to fr b = bnd (f_M_outside e 2 b) (fun r1 s2 => if r1 = 0 then bnd (f_M_outside to 15 s2) (fun r7 s8 => if r7 = 0 then bnd (f_M_outside fr 15 s8) (fun r10 s11 => if r10 = 0 then some (0, s11) else some (1, s11)) else some (1, s8)) else some (1, s2)) from rfl]
  rcases rng e 3 (by decide) with he | ⟨i, hi, rfl⟩
  · rw [pW_isEnclave_n he, pM_out_n (N := 2) (n := 2) rfl (by decide) he, bnd_s, bnd_s, if_pos rfl, if_neg (by decide), bnd_s, if_neg (by decide)]; exact Sim.of h
  · rw [pW_isEnclave hi, pM_out (N := 2) (n := 2) rfl (by decide) hi, bnd_s, bnd_s, if_neg (by decide), if_pos rfl]
    rcases rng to 16 (by decide) with hp | ⟨j, hj, rfl⟩
    · rw [pW_isRegion_n hp, pM_out_n (N := 15) (n := 15) rfl (by decide) hp, bnd_s, bnd_s, if_pos rfl, if_neg (by decide), bnd_s, if_neg (by decide)]; exact Sim.of h
    · rw [pW_isRegion hj, pM_out (N := 15) (n := 15) rfl (by decide) hj, bnd_s, bnd_s, if_neg (by decide), if_pos rfl]
      rcases rng fr 16 (by decide) with hp | ⟨g, hg, rfl⟩
      · rw [pW_isRegion_n hp, pM_out_n (N := 15) (n := 15) rfl (by decide) hp, bnd_s, bnd_s, if_pos rfl, if_neg (by decide), bnd_s, if_neg (by decide)]; exact Sim.of h
      · rw [pW_isRegion hg, pM_out (N := 15) (n := 15) rfl (by decide) hg, bnd_s, bnd_s, if_neg (by decide), if_pos rfl, bnd_s, if_pos rfl, show f_M_wrongState 2 (nI i) (nI j) b = ix (nI i) 3 (if b 3 (Int32.toNatClampNeg (nI i)) = 1 then some (0, b) else some (1, b)) from rfl, ix_nI hi (by decide), ix_nI hi (by decide), nm_s, cl_nI (show i < 2 ^ 31 by omega), h.1.2.1]
        by_cases hs : b 3 i = 1
        · rw [if_pos hs, if_pos hs, bnd_s, if_pos rfl, show f_M_taken 2 (nI i) (nI j) (nI g) b = bnd (f_M_kind (nI j) b) (fun r4 s5 => if r4 = 2 + nI i then bnd (f_M_kind (nI g) s5) (fun r7 s8 => if r7 = 1 then some (0, s8) else some (1, s8)) else some (1, s5)) from rfl, pM_kind hj (hK j hj), bnd_s, ix_nI hj (by decide), cl_nI (show j < 2 ^ 31 by omega)]
          by_cases hk : a 1 j = 2 + nI i
          · rw [if_pos hk, if_pos hk, pM_kind hg (hK g hg), bnd_s, ix_nI hg (by decide), cl_nI (show g < 2 ^ 31 by omega)]
            by_cases hk2 : a 1 g = 1
            · obtain ⟨st, h3, e3, z0, z1, z2⟩ := h.2.2.2.2.2.2.1 i hi
              have s1 : st = 1 := (nI_eq (by omega) (by decide)).mp (e3.symm.trans hs)
              subst s1
              obtain ⟨n, ld, e8, e6, e5, h8, e4, hb1, hn⟩ := z1 (by decide)
              have hle := tc2_le (b 9 (2 * i)) (b 9 (2 * i + 1))
              have hb2 := hb1 rfl
              have ht : thc (b 9) i ≤ 2 := hle
              rw [if_pos hk2, if_pos hk2, bnd_s, if_pos rfl, e5, show f_M_full 2 (nI i) b = ix (nI i) 3 (if 8 ≤ b 6 (Int32.toNatClampNeg (nI i)) then some (1, b) else some (0, b)) from rfl, ix_nI hi (by decide), cl_nI (show i < 2 ^ 31 by omega), e6]
              by_cases hl : ld < 8
              · rw [if_pos (show nI ld < 8 from nI_lt (b := 8) hl (by decide)), if_neg (show ¬ (8 : Int32) ≤ nI ld from nI_ge (b := 8) hl (by decide)), bnd_s, if_pos rfl, if_neg (by decide), if_neg (by decide), show f_M_perform 2 (nI i) (nI j) (nI g) b = bnd (f_M_load (nI i) (nI j) (nI g) b) (fun _ s3 => some ((), s3)) from rfl]
                have r1 := rel_loads h hi hs e6 hl
                obtain ⟨a2, b2, p1, p2, r2, n2, c3, c6, c9, -⟩ := rel_add2 (x := 2) (y := nI j) r1 hi (show ¬ b 3 i = 0 by rw [hs]; decide) (show b 8 i = nI n from e8) (fun ld' l1 l2 _ => by
                  have : ld' = ld + 1 := (nI_eq (by omega) (by omega)).mp ((show upd (b 6) i (nI (ld + 1)) i = nI ld' from l2).symm.trans (upd_same _ _ _))
                  subst this
                  show n + 2 ≤ 3 + 18 * (ld + 1) + 2 * thc (b 9) i
                  omega) (by omega)
                obtain ⟨a3, b3, w1, w2, r3⟩ := ld_loop hi hj hg 16 0 (n + 2) fu fu a2 b2 r2 (by rw [c3]; exact hs) n2 (fun ld' l1 l2 => by
                  rw [c6] at l2
                  have : ld' = ld + 1 := (nI_eq (by omega) (by omega)).mp ((show upd (b 6) i (nI (ld + 1)) i = nI ld' from l2).symm.trans (upd_same _ _ _))
                  subst this
                  rw [c9]
                  show n + 2 + 16 ≤ 3 + 18 * (ld + 1) + 2 * thc (b 9) i
                  omega) (by omega) rfl (by decide) (by decide)
                unfold f_M_load
                rw [ix_nI hi (by decide), ix_nI hi (by decide), nm_s, cl_nI (show i < 2 ^ 31 by omega), e6, nI_1, nm_s]
                have x1 : (bnd (f_V_add i 2 (wr a 5 i (nI (ld + 1)))) fun _ s15 => bnd (f_V_add i (nI j) s15) fun _ s18 => nm (0 : Int32) fun v20 => f_W_load_108 fu (nI j) (nI g) i v20 s18) = some (0, a3) := by
                  rw [pV_add, bnd_s] at p1 ⊢
                  rw [p1, bnd_s]
                  exact w1
                have x2 : (bnd (f_M_add (nI i) 2 (wr b 6 i (nI (ld + 1)))) fun _ s3 => bnd (f_M_add (nI i) (nI j) s3) fun _ s6 => nm (0 : Int32) fun v8 => f_M_load_25 fu (nI i) (nI j) (nI g) v8 s6) = some ((), b3) := by
                  generalize hx1 : f_M_add (nI i) 2 (wr b 6 i (nI (ld + 1))) = x1 at p2 ⊢
                  cases x1 with
                  | none => cases p2
                  | some q =>
                    obtain ⟨u, s⟩ := q
                    rw [bnd_s] at p2 ⊢
                    rw [p2, bnd_s]
                    exact w2
                rw [x1, x2, bnd_s, bnd_s]
                exact Sim.of r3
              · rw [if_neg (show ¬ nI ld < 8 from nI_nlt (b := 8) (by omega) (by omega)), if_pos (show (8 : Int32) ≤ nI ld from nI_le (a := 8) (by omega) (by omega)), bnd_s, if_neg (by decide)]; exact Sim.of h
            · rw [if_neg hk2, if_neg hk2, bnd_s, if_neg (by decide)]; exact Sim.of h
          · rw [if_neg hk, if_neg hk, bnd_s, if_neg (by decide)]; exact Sim.of h
        · rw [if_neg hs, if_neg hs, bnd_s, if_neg (by decide)]; exact Sim.of h
