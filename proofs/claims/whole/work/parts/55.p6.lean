/-! enter, resume -/
def fr8 (g : Nat → Int32) (i k n : Nat) (c : Int32) : Nat → Int32 := fun j => if 8 * i + k ≤ j ∧ j < 8 * i + k + n then (if j = 8 * i + 1 then c else 0) else g j
theorem fr8_0 (g : Nat → Int32) (i k : Nat) (c : Int32) : fr8 g i k 0 c = g := by funext j; unfold fr8; rw [if_neg (by omega)]
theorem fr8_s (g : Nat → Int32) (i k n : Nat) (c : Int32) : fr8 (upd g (8 * i + k) (if k = 1 then c else 0)) i (k + 1) n c = fr8 g i k (n + 1) c := by
  funext j
  unfold fr8
  by_cases h1 : 8 * i + (k + 1) ≤ j ∧ j < 8 * i + (k + 1) + n
  · rw [if_pos h1, if_pos (show 8 * i + k ≤ j ∧ j < 8 * i + k + (n + 1) by omega)]
  · rw [if_neg h1]
    by_cases h2 : j = 8 * i + k
    · subst h2
      rw [upd_same, if_pos (show 8 * i + k ≤ 8 * i + k ∧ 8 * i + k < 8 * i + k + (n + 1) by omega)]
      by_cases k1 : k = 1
      · rw [if_pos k1, if_pos (by omega)]
      · rw [if_neg k1, if_neg (by omega)]
    · rw [upd_ne _ _ h2, if_neg (show ¬ (8 * i + k ≤ j ∧ j < 8 * i + k + (n + 1)) by omega)]
theorem up_wr (s : eS) (c i : Nat) (x : Int32) (f : (Nat → Int32) → Nat → Int32) : up (wr s c i x) c (f ((wr s c i x) c)) = up s c (f (upd (s c) i x)) := by
  funext c'
  unfold up
  by_cases h : c' = c
  · rw [if_pos h, if_pos h, wr_same]
  · rw [if_neg h, if_neg h, wr_ne _ _ _ h]
theorem pM_regs {i : Nat} {c : Int32} (hi : i < 7) : ∀ (n k fl : Nat) (s : eS), s 13 1 = nI i → k + n = 8 → n < fl → f_M_perform_131 fl c (nI k) s = some ((), up s 11 (fr8 (s 11) i k n c)) := by
  intro n
  induction n with
  | zero =>
    intro k fl s hs hk hf
    obtain ⟨fl, rfl⟩ : ∃ q, fl = q + 1 := ⟨fl - 1, by omega⟩
    rw [f_M_perform_131, if_pos (show (8 : Int32) ≤ nI k from nI_le (a := 8) (by omega) (by omega)), fr8_0, up_id]
  | succ n ih =>
    intro k fl s hs hk hf
    obtain ⟨fl, rfl⟩ : ∃ q, fl = q + 1 := ⟨fl - 1, by omega⟩
    rw [f_M_perform_131, if_neg (show ¬ (8 : Int32) ≤ nI k from nI_ge (b := 8) (by omega) (by decide)), hs, lit_mul (N := 8) (n := 8) rfl, nI_add]
    by_cases k1 : k = 1
    · rw [if_pos (show nI k = (1 : Int32) by rw [k1]; rfl), ix_nI (by omega) (by decide), nm_s, nm_s, nI_1, cl_nI (by omega), ih (k + 1) fl (wr s 11 (8 * i + k) c) hs (by omega) (by omega), up_wr s 11 (8 * i + k) c (fun g => fr8 g i (k + 1) n c), ← fr8_s, if_pos k1]
    · rw [if_neg (show ¬ nI k = (1 : Int32) from nI_ne (b := 1) (by omega) (by decide) k1), ix_nI (by omega) (by decide), nm_s, nm_s, nI_1, cl_nI (by omega), ih (k + 1) fl (wr s 11 (8 * i + k) 0) hs (by omega) (by omega), up_wr s 11 (8 * i + k) 0 (fun g => fr8 g i (k + 1) n c), ← fr8_s, if_neg k1]
theorem rR_start {a : eS} {b11 : Nat → Int32} {i : Nat} {en c : Int32} (h : rR a b11) (hi : i < 7) : rR (st8 a i en c) (fr8 b11 i 0 8 c) := by
  refine ⟨fun c' hc' k hk => ?_, fun c' hc' => ?_⟩
  · unfold st8
    rw [wr_ne _ _ _ (by omega)]
    by_cases e : c' = i
    · subst e
      simp only [wr_same]
      have h0 := h.1 c' hc' 0 (by decide)
      have h00 := h.2 c' hc'
      unfold fr8
      rw [if_pos (by omega)]
      rcases (show k = 0 ∨ k = 1 ∨ k = 2 ∨ k = 3 ∨ k = 4 ∨ k = 5 ∨ k = 6 ∨ k = 7 by omega) with rfl | rfl | rfl | rfl | rfl | rfl | rfl | rfl
      · rw [if_neg (by omega)]
        show a (10 + c') 0 = 0
        rw [h0]; exact h00
      · rw [if_pos (by omega)]; rfl
      · rw [if_neg (by omega)]; rfl
      · rw [if_neg (by omega)]; rfl
      · rw [if_neg (by omega)]; rfl
      · rw [if_neg (by omega)]; rfl
      · rw [if_neg (by omega)]; rfl
      · rw [if_neg (by omega)]; rfl
    · simp only [wr_ne _ _ _ (show 10 + c' ≠ 10 + i by omega)]
      unfold fr8
      rw [if_neg (by omega)]; exact h.1 c' hc' k hk
  · unfold fr8
    by_cases e : c' = i
    · subst e
      rw [if_pos (by omega), if_neg (by omega)]
    · rw [if_neg (by omega)]; exact h.2 c' hc'
theorem rR_all {a a' : eS} {b11 : Nat → Int32} (h : rR a b11) (e : ∀ c, c < 7 → a' (10 + c) = a (10 + c)) : rR a' b11 := ⟨fun c hc k hk => by rw [e c hc]; exact h.1 c hc k hk, h.2⟩
/-- a thread's state changes between states that are not 0 -/
theorem rE_thr {a4 a5 b3 b6 b7 b8 b9 : Nat → Int32} {i q : Nat} (hi : i < 6) (hq : 0 < q) (hq3 : q ≤ 3) (h0 : ¬ b9 i = 0) (h : rE a4 a5 b3 b6 b7 b8 b9) : rE a4 a5 b3 b6 b7 b8 (upd b9 i (nI q)) := by
  intro e he
  have n0 : ¬ nI q = 0 := nI_ne (b := 0) (by omega) (by decide) (by omega)
  have z : ∀ j, (upd b9 i (nI q) j = 0 ↔ b9 j = 0) := by
    intro j
    by_cases ee : j = i
    · subst ee
      rw [upd_same]
      exact ⟨fun x => absurd x n0, fun x => absurd x h0⟩
    · rw [upd_ne _ _ ee]
  have hth : thc (upd b9 i (nI q)) e = thc b9 e := by
    unfold thc tc2
    by_cases h1 : b9 (2 * e) = 0 <;> by_cases h2 : b9 (2 * e + 1) = 0
    · rw [if_pos ((z _).mpr h1), if_pos ((z _).mpr h2), if_pos h1, if_pos h2]
    · rw [if_pos ((z _).mpr h1), if_neg (fun x => h2 ((z _).mp x)), if_pos h1, if_neg h2]
    · rw [if_neg (fun x => h1 ((z _).mp x)), if_pos ((z _).mpr h2), if_neg h1, if_pos h2]
    · rw [if_neg (fun x => h1 ((z _).mp x)), if_neg (fun x => h2 ((z _).mp x)), if_neg h1, if_neg h2]
  obtain ⟨st, h3, e3, z0, z1, z2⟩ := h e he
  refine ⟨st, h3, e3, fun x => ⟨(z0 x).1, (z _).mpr (z0 x).2.1, (z _).mpr (z0 x).2.2⟩, fun x => ?_, fun x y => z2 (fun w => x ((z _).mpr w)) ((z _).mp y)⟩
  rw [hth]
  exact z1 x
theorem rT_thr {b9 : Nat → Int32} {i q : Nat} (hq3 : q ≤ 3) (h : rT b9) : rT (upd b9 i (nI q)) := by
  intro t ht
  by_cases ee : t = i
  · exact ⟨q, hq3, by rw [ee, upd_same]⟩
  · rw [upd_ne _ _ ee]; exact h t ht
theorem pW_ref {a : eS} {e t : Nat} {x : Int32} (he : e < 3) (ht : t < 2) : f_W_refusalToStart (nI e) (nI t) x a = if a 3 e = 2 then (if a 6 (2 * e + t) = x then some (0, a) else some (-3, a)) else some (-3, a) := by
  unfold f_W_refusalToStart f_W_refusalToStart_52
  rw [pW_isEnclave he, bnd_s, if_neg (by decide), pW_isThread ht, bnd_s, if_neg (by decide), ix_nI he (by decide), nm_s, cl_nI (by omega), ix_nI ht (by decide), cl_nI (by omega)]
theorem pW_ref_ne {a : eS} {e t x : Int32} (he : e < 0 ∨ nI 3 ≤ e) : f_W_refusalToStart e t x a = some (-2, a) := by
  unfold f_W_refusalToStart f_W_refusalToStart_14
  rw [pW_isEnclave_n he, bnd_s, if_pos rfl]
theorem pW_ref_nt {a : eS} {e : Nat} {t x : Int32} (he : e < 3) (ht : t < 0 ∨ nI 2 ≤ t) : f_W_refusalToStart (nI e) t x a = some (-2, a) := by
  unfold f_W_refusalToStart f_W_refusalToStart_14
  rw [pW_isEnclave he, bnd_s, if_neg (by decide), pW_isThread_n ht, bnd_s, if_pos rfl]
theorem pW_hand {a : eS} {e t : Nat} (he : e < 3) (ht : t < 2) : f_W_handOver (nI e) (nI t) a = some ((), wr (wr a 6 (2 * e + t) 2) 9 2 (nI (2 * e + t))) := by
  unfold f_W_handOver
  rw [ix_nI he (by decide), ix_nI ht (by decide), nm_s, nm_s, cl_nI (by omega), cl_nI (by omega), show (2 : Int32) = nI 2 from rfl, pk_mul, nI_add, show e * 2 + t = 2 * e + t by omega]
theorem rW_enter {a9 b3 b9 b13 : Nat → Int32} {e t : Nat} (he : e < 3) (ht : t < 2) (hs : b3 e = 2) : rW (upd a9 2 (nI (2 * e + t))) b3 (upd b9 (2 * e + t) 2) (upd b13 1 (nI (2 * e + t))) :=
  ⟨2 * e + t, by omega, upd_same _ _ _, by rw [upd_same, if_neg (by omega)], fun _ => ⟨by rw [show (2 * e + t) / 2 = e by omega]; exact hs, by rw [upd_same]; decide⟩⟩
theorem rel_enter {a b : eS} {e t : Nat} {c : Int32} (h : Rel a b) (he : e < 3) (ht : t < 2) (hs : b 3 e = 2) (h1 : b 9 (2 * e + t) = 1) : Rel (wr (wr (st8 a (2 * e + t) (a 7 (2 * e + t)) c) 6 (2 * e + t) 2) 9 2 (nI (2 * e + t))) (up (wr (wr (wr b 13 1 (nI (2 * e + t))) 9 (2 * e + t) 2) 12 (2 * e + t) (b 10 (2 * e + t))) 11 (fr8 (b 11) (2 * e + t) 0 8 c)) := by
  obtain ⟨hG, hR, hS, hX, hW, hK, hE, hT⟩ := h
  have hRs := rR_start (en := a 7 (2 * e + t)) (c := c) hR (show 2 * e + t < 7 by omega)
  have e7 : a 7 (2 * e + t) = b 10 (2 * e + t) := by rw [hG.2.2.2.1]
  have hE2 := rE_thr (i := 2 * e + t) (q := 2) (by omega) (by decide) (by decide) (by rw [h1]; decide) hE
  have hT2 := rT_thr (i := 2 * e + t) (q := 2) (by decide) hT
  have hW2 := rW_enter (a9 := a 9) (b9 := b 9) (b13 := b 13) he ht hs
  have g6 : upd (a 6) (2 * e + t) 2 = upd (b 9) (2 * e + t) 2 := congrArg (fun m => upd m (2 * e + t) 2) hG.2.2.1
  have g8 : upd (a 8) (2 * e + t) (a 7 (2 * e + t)) = upd (b 12) (2 * e + t) (b 10 (2 * e + t)) := by rw [hG.2.2.2.2, e7]
  have hR2 : rR (wr (wr (st8 a (2 * e + t) (a 7 (2 * e + t)) c) 6 (2 * e + t) 2) 9 2 (nI (2 * e + t))) (fr8 (b 11) (2 * e + t) 0 8 c) := (hRs.wr (by decide)).wr (by decide)
  generalize hi : 2 * e + t = i at *
  rcases (show i = 0 ∨ i = 1 ∨ i = 2 ∨ i = 3 ∨ i = 4 ∨ i = 5 by omega) with rfl | rfl | rfl | rfl | rfl | rfl <;> exact ⟨⟨hG.1, hG.2.1, g6, hG.2.2.2.1, g8⟩, hR2, hS, hX, hW2, hK, hE2, hT2⟩
theorem s_enter {a b : eS} (h : Rel a b) (e t c : Int32) : Sim (f_W_enter e t c a) (f_M_system 6 e t c b) := by
  unfold f_W_enter f_W_enter_47 f_M_system
  rw [show f_M_outside ((6 : Int32) - 1) 10 b = some (0, b) from rfl, bnd_s, if_pos rfl, show f_M_bad 6 e t c b = bnd (f_M_outside e 2 b) (fun r1 s2 => if r1 = 0 then bnd (f_M_outside t 1 s2) (fun r1 s2 => if r1 = 0 then some (0, s2) else some (1, s2)) else some (1, s2)) from rfl]
  rcases rng e 3 (by decide) with he | ⟨i, hi, rfl⟩
  · rw [pW_ref_ne he, pM_out_n (N := 2) (n := 2) rfl (by decide) he, bnd_s, bnd_s, if_neg (by decide), bnd_s, nm_s, if_neg (by decide), if_neg (by decide)]; exact Sim.of h
  · rw [pM_out (N := 2) (n := 2) rfl (by decide) hi, bnd_s, if_pos rfl]
    rcases rng t 2 (by decide) with hp | ⟨j, hj, rfl⟩
    · rw [pW_ref_nt hi hp, pM_out_n (N := 1) (n := 1) rfl (by decide) hp, bnd_s, bnd_s, if_neg (by decide), bnd_s, nm_s, if_neg (by decide), if_neg (by decide)]; exact Sim.of h
    · rw [pW_ref hi hj, pM_out (N := 1) (n := 1) rfl (by decide) hj, bnd_s, if_pos rfl, bnd_s, if_pos rfl, show f_M_wrongState 6 (nI i) (nI j) b = ix (nI i) 3 (if b 3 (Int32.toNatClampNeg (nI i)) = 2 then ix (2 * nI i + nI j) 6 (if b 9 (Int32.toNatClampNeg (2 * nI i + nI j)) = 1 then some (0, b) else some (1, b)) else some (1, b)) from rfl, ix_nI hi (by decide), cl_nI (show i < 2 ^ 31 by omega), lit_mul (N := 2) (n := 2) rfl, nI_add, ix_nI (show 2 * i + j < 6 by omega) (by decide), cl_nI (show 2 * i + j < 2 ^ 31 by omega), h.1.2.1, h.1.2.2.1]
      by_cases hs : b 3 i = 2
      · rw [if_pos hs, if_pos hs]
        by_cases h1 : b 9 (2 * i + j) = 1
        · rw [if_pos h1, if_pos h1, bnd_s, bnd_s, nm_s, if_pos rfl, if_pos rfl, show f_M_taken 6 (nI i) (nI j) c b = some (0, b) from rfl, bnd_s, if_pos rfl, show f_M_full 6 (nI i) b = some (0, b) from rfl, bnd_s, if_pos rfl, if_neg (by decide), if_neg (by decide), ix_nI hi (by decide), ix_nI hj (by decide), nm_s, cl_nI (show j < 2 ^ 31 by omega), pC_start, bnd_s, pW_hand hi hj, bnd_s]
          have hM : f_M_perform 6 (nI i) (nI j) c b = some ((), up (wr (wr (wr b 13 1 (nI (2 * i + j))) 9 (2 * i + j) 2) 12 (2 * i + j) (b 10 (2 * i + j))) 11 (fr8 (b 11) (2 * i + j) 0 8 c)) := by
            have e1 : f_M_perform 6 (nI i) (nI j) c b = nm (wr b 13 1 (2 * nI i + nI j)) (fun s18 => ix (s18 13 1) 6 (nm (wr s18 9 (Int32.toNatClampNeg (s18 13 1)) 2) fun s19 => ix (s19 13 1) 6 (ix (s19 13 1) 7 (nm (wr s19 12 (Int32.toNatClampNeg (s19 13 1)) (s19 10 (Int32.toNatClampNeg (s19 13 1)))) fun s20 => nm (0 : Int32) fun v21 => f_M_perform_131 fu c v21 s20)))) := rfl
            rw [e1, nm_s, lit_mul (N := 2) (n := 2) rfl, nI_add, show (wr b 13 1 (nI (2 * i + j))) 13 1 = nI (2 * i + j) from rfl, ix_nI (by omega) (by decide), cl_nI (by omega), nm_s, show (wr (wr b 13 1 (nI (2 * i + j))) 9 (2 * i + j) 2) 13 1 = nI (2 * i + j) from rfl, ix_nI (by omega) (by decide), ix_nI (by omega) (by decide), cl_nI (by omega), nm_s, nm_s]
            exact pM_regs (i := 2 * i + j) (by omega) 8 0 fu _ rfl rfl (by decide)
          rw [hM, bnd_s]
          exact Sim.of (rel_enter h hi hj hs h1)
        · rw [if_neg h1, if_neg h1, bnd_s, bnd_s, nm_s, if_neg (by decide), if_neg (by decide)]; exact Sim.of h
      · rw [if_neg hs, if_neg hs, bnd_s, bnd_s, nm_s, if_neg (by decide), if_neg (by decide)]; exact Sim.of h
theorem rel_resume {a b : eS} {e t : Nat} (h : Rel a b) (he : e < 3) (ht : t < 2) (hs : b 3 e = 2) (h1 : b 9 (2 * e + t) = 3) : Rel (wr (wr a 6 (2 * e + t) 2) 9 2 (nI (2 * e + t))) (wr (wr b 13 1 (nI (2 * e + t))) 9 (2 * e + t) 2) := by
  obtain ⟨hG, hR, hS, hX, hW, hK, hE, hT⟩ := h
  have hE2 := rE_thr (i := 2 * e + t) (q := 2) (by omega) (by decide) (by decide) (by rw [h1]; decide) hE
  have hT2 := rT_thr (i := 2 * e + t) (q := 2) (by decide) hT
  have hW2 := rW_enter (a9 := a 9) (b9 := b 9) (b13 := b 13) he ht hs
  have g6 : upd (a 6) (2 * e + t) 2 = upd (b 9) (2 * e + t) 2 := congrArg (fun m => upd m (2 * e + t) 2) hG.2.2.1
  exact ⟨⟨hG.1, hG.2.1, g6, hG.2.2.2⟩, (hR.wr (by decide)).wr (by decide), hS, hX, hW2, hK, hE2, hT2⟩
theorem s_resume {a b : eS} (h : Rel a b) (e t c : Int32) : Sim (f_W_resume e t a) (f_M_system 7 e t c b) := by
  unfold f_W_resume f_W_resume_18 f_M_system
  rw [show f_M_outside ((7 : Int32) - 1) 10 b = some (0, b) from rfl, bnd_s, if_pos rfl, show f_M_bad 7 e t c b = bnd (f_M_outside e 2 b) (fun r1 s2 => if r1 = 0 then bnd (f_M_outside t 1 s2) (fun r1 s2 => if r1 = 0 then some (0, s2) else some (1, s2)) else some (1, s2)) from rfl]
  rcases rng e 3 (by decide) with he | ⟨i, hi, rfl⟩
  · rw [pW_ref_ne he, pM_out_n (N := 2) (n := 2) rfl (by decide) he, bnd_s, bnd_s, if_neg (by decide), bnd_s, nm_s, if_neg (by decide), if_neg (by decide)]; exact Sim.of h
  · rw [pM_out (N := 2) (n := 2) rfl (by decide) hi, bnd_s, if_pos rfl]
    rcases rng t 2 (by decide) with hp | ⟨j, hj, rfl⟩
    · rw [pW_ref_nt hi hp, pM_out_n (N := 1) (n := 1) rfl (by decide) hp, bnd_s, bnd_s, if_neg (by decide), bnd_s, nm_s, if_neg (by decide), if_neg (by decide)]; exact Sim.of h
    · rw [pW_ref hi hj, pM_out (N := 1) (n := 1) rfl (by decide) hj, bnd_s, if_pos rfl, bnd_s, if_pos rfl, show f_M_wrongState 7 (nI i) (nI j) b = ix (nI i) 3 (if b 3 (Int32.toNatClampNeg (nI i)) = 2 then ix (2 * nI i + nI j) 6 (if b 9 (Int32.toNatClampNeg (2 * nI i + nI j)) = 3 then some (0, b) else some (1, b)) else some (1, b)) from rfl, ix_nI hi (by decide), cl_nI (show i < 2 ^ 31 by omega), lit_mul (N := 2) (n := 2) rfl, nI_add, ix_nI (show 2 * i + j < 6 by omega) (by decide), cl_nI (show 2 * i + j < 2 ^ 31 by omega), h.1.2.1, h.1.2.2.1]
      by_cases hs : b 3 i = 2
      · rw [if_pos hs, if_pos hs]
        by_cases h1 : b 9 (2 * i + j) = 3
        · rw [if_pos h1, if_pos h1, bnd_s, bnd_s, nm_s, if_pos rfl, if_pos rfl, show f_M_taken 7 (nI i) (nI j) c b = some (0, b) from rfl, bnd_s, if_pos rfl, show f_M_full 7 (nI i) b = some (0, b) from rfl, bnd_s, if_pos rfl, if_neg (by decide), if_neg (by decide), pW_hand hi hj, bnd_s]
          have hM : f_M_perform 7 (nI i) (nI j) c b = some ((), wr (wr b 13 1 (nI (2 * i + j))) 9 (2 * i + j) 2) := by
            have e1 : f_M_perform 7 (nI i) (nI j) c b = nm (wr b 13 1 (2 * nI i + nI j)) (fun s18 => ix (s18 13 1) 6 (nm (wr s18 9 (Int32.toNatClampNeg (s18 13 1)) 2) fun s19 => some ((), s19))) := rfl
            rw [e1, nm_s, lit_mul (N := 2) (n := 2) rfl, nI_add, show (wr b 13 1 (nI (2 * i + j))) 13 1 = nI (2 * i + j) from rfl, ix_nI (by omega) (by decide), cl_nI (by omega), nm_s]
          rw [hM, bnd_s]
          exact Sim.of (rel_resume h hi hj hs h1)
        · rw [if_neg h1, if_neg h1, bnd_s, bnd_s, nm_s, if_neg (by decide), if_neg (by decide)]; exact Sim.of h
      · rw [if_neg hs, if_neg hs, bnd_s, bnd_s, nm_s, if_neg (by decide), if_neg (by decide)]; exact Sim.of h
