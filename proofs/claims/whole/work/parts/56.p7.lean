/-! create, destroy -/
theorem af_loop {a b : eS} {f z : Nat} (h : Rel a b) (hz : f + z ≤ 16) : ∀ (m k fl fl' : Nat), k + m = z → m < fl → m < fl' → (f_W_allFree_2 fl (nI f) (nI z) (nI k) a = some (1, a) ∧ f_M_taken_63 fl' (nI f) (nI z) (nI (f + k)) b = some (0, b) ∧ ∀ i, k ≤ i → i < z → a 1 (f + i) = 0) ∨ (f_W_allFree_2 fl (nI f) (nI z) (nI k) a = some (0, a) ∧ f_M_taken_63 fl' (nI f) (nI z) (nI (f + k)) b = some (1, b)) := by
  have hK := h.2.2.2.2.2.1
  intro m
  induction m with
  | zero =>
    intro k fl fl' hk hf hf'
    obtain ⟨fl, rfl⟩ : ∃ q, fl = q + 1 := ⟨fl - 1, by omega⟩
    obtain ⟨fl', rfl⟩ : ∃ q, fl' = q + 1 := ⟨fl' - 1, by omega⟩
    refine Or.inl ⟨?_, ?_, fun i h1 h2 => by omega⟩
    · rw [f_W_allFree_2, if_pos (nI_le (by omega) (by omega))]
    · rw [f_M_taken_63, nI_add, if_pos (nI_le (by omega) (by omega))]
  | succ m ih =>
    intro k fl fl' hk hf hf'
    obtain ⟨fl, rfl⟩ : ∃ q, fl = q + 1 := ⟨fl - 1, by omega⟩
    obtain ⟨fl', rfl⟩ : ∃ q, fl' = q + 1 := ⟨fl' - 1, by omega⟩
    rw [f_W_allFree_2, if_neg (nI_ge (by omega) (by omega)), nI_add, ix_nI (by omega) (by decide), cl_nI (by omega), f_M_taken_63, nI_add, if_neg (nI_ge (by omega) (by omega)), pM_kind (by omega) (hK (f + k) (by omega)), bnd_s]
    by_cases h0 : a 1 (f + k) = 0
    · rw [if_pos h0, if_pos h0, nm_s, nm_s, nI_1, nI_1, Nat.add_assoc]
      rcases ih (k + 1) fl fl' (by omega) (by omega) (by omega) with ⟨p1, p2, p3⟩ | p
      · refine Or.inl ⟨p1, p2, fun i h1 h2 => ?_⟩
        by_cases ik : i = k
        · rw [ik]; exact h0
        · exact p3 i (by omega) h2
      · exact Or.inr p
    · rw [if_neg h0, if_neg h0]
      exact Or.inr ⟨rfl, rfl⟩
def fill (g : Nat → Int32) (i n : Nat) (x : Int32) : Nat → Int32 := fun j => if i ≤ j ∧ j < i + n then x else g j
theorem fill_0 (g : Nat → Int32) (i : Nat) (x : Int32) : fill g i 0 x = g := by funext j; unfold fill; rw [if_neg (by omega)]
theorem fill_s (g : Nat → Int32) (i n : Nat) (x : Int32) : fill (upd g i x) (i + 1) n x = fill g i (n + 1) x := by
  funext j
  unfold fill upd
  by_cases h : j = i
  · subst h
    rw [if_neg (by omega), if_pos rfl, if_pos (by omega)]
  · by_cases h2 : i + 1 ≤ j ∧ j < i + 1 + n
    · rw [if_pos h2, if_pos (by omega)]
    · rw [if_neg h2, if_neg h, if_neg (by omega)]
theorem cr_loop {f z e : Nat} (hz : f + z ≤ 16) (he : e < 3) : ∀ (m k fl : Nat) (s : eS), k + m = z → m < fl → f_W_create_59 fl (nI f) (nI z) (nI e) (nI k) s = bnd (f_V_become e 1 (up s 1 (fill (s 1) (f + k) m (nI (2 + e))))) fun _ s5 => bnd (f_V_add e 1 s5) fun _ s8 => bnd (f_V_add e (nI f) s8) fun _ s11 => bnd (f_V_add e (nI z) s11) fun _ s14 => some (nI e, s14) := by
  intro m
  induction m with
  | zero =>
    intro k fl s hk hf
    obtain ⟨fl, rfl⟩ : ∃ q, fl = q + 1 := ⟨fl - 1, by omega⟩
    rw [f_W_create_59, if_pos (nI_le (by omega) (by omega)), ix_nI he (by decide), nm_s, cl_nI (by omega), fill_0, up_id]
  | succ m ih =>
    intro k fl s hk hf
    obtain ⟨fl, rfl⟩ : ∃ q, fl = q + 1 := ⟨fl - 1, by omega⟩
    rw [f_W_create_59, if_neg (nI_ge (by omega) (by omega)), nI_add, ix_nI (by omega) (by decide), nm_s, nm_s, nI_1, cl_nI (by omega), lit_add (N := 2) (n := 2) rfl, ih (k + 1) fl _ (by omega) (by omega), up_wr s 1 (f + k) (nI (2 + e)) (fun g => fill g (f + (k + 1)) m (nI (2 + e))), ← Nat.add_assoc, fill_s]
def cw (a : eS) (e f z : Nat) : eS := wr (wr (wr (wr (wr (up a 1 (fill (a 1) f z (nI (2 + e)))) 3 e 1) 4 e 0) 5 e 0) 6 (2 * e) 0) 6 (2 * e + 1) 0
def cm (b : eS) (e f z : Nat) : eS := wr (wr (wr (wr (wr b 3 e 1) 4 e (nI f)) 5 e (nI z)) 6 e 0) 8 e 0
theorem rel_create {a b : eS} {e f z : Nat} (h : Rel a b) (hw : b 13 1 = 6) (he : e < 3) (hz : f + z ≤ 16) (hs : b 3 e = 0) (hfree : ∀ i, 0 ≤ i → i < z → a 1 (f + i) = 0) : Rel (cw a e f z) (cm b e f z) := by
  obtain ⟨hG, hR, hS, hX, hW, hK, hE, hT⟩ := h
  obtain ⟨st, h3, e3, z0, -, -⟩ := hE e he
  have s0 : st = 0 := (nI_eq (by omega) (by decide)).mp (e3.symm.trans hs)
  obtain ⟨-, t0, t1⟩ := z0 s0
  have g6 : upd (upd (a 6) (2 * e) 0) (2 * e + 1) 0 = b 9 := by
    rw [hG.2.2.1]
    funext j
    unfold upd
    by_cases j1 : j = 2 * e + 1
    · rw [if_pos j1, j1]; exact t1.symm
    · rw [if_neg j1]
      by_cases j0 : j = 2 * e
      · rw [if_pos j0, j0]; exact t0.symm
      · rw [if_neg j0]
  have g3 : upd (a 3) e 1 = upd (b 3) e 1 := congrArg (fun m => upd m e 1) hG.2.1
  refine ⟨⟨hG.1, g3, g6, hG.2.2.2⟩, (((((hR.up (by decide)).wr (by decide)).wr (by decide)).wr (by decide)).wr (by decide)).wr (by decide), hS, hX, ?_, fun r hr => ?_, fun e' he' => ?_, hT⟩
  · obtain ⟨c, h6, w1, w2, w3⟩ := hW
    refine ⟨c, h6, w1, w2, fun q => ?_⟩
    have : c = 6 := (nI_eq (by omega) (by decide)).mp (w1.symm.trans hw)
    omega
  · show KR (fill (a 1) f z (nI (2 + e))) (b 1) (b 2) (upd (b 3) e 1) (upd (b 4) e (nI f)) (upd (b 5) e (nI z)) r
    have io : ∀ e', e' ≠ e → inB (upd (b 3) e 1) (upd (b 4) e (nI f)) (upd (b 5) e (nI z)) e' r = inB (b 3) (b 4) (b 5) e' r := by
      intro e' ee
      unfold inB
      rw [upd_ne _ _ ee, upd_ne _ _ ee, upd_ne _ _ ee]
    have ie : inB (upd (b 3) e 1) (upd (b 4) e (nI f)) (upd (b 5) e (nI z)) e r = true ↔ f ≤ r ∧ r < f + z := by
      unfold inB
      rw [upd_same, upd_same, upd_same, nI_add]
      have q1 : ¬ (1 : Int32) ≤ 0 := by decide
      have q2 : nI r < nI f ↔ r < f := nI_ltI (by omega) (by omega)
      have q3 : nI (f + z) ≤ nI r ↔ f + z ≤ r := nI_leI (by omega) (by omega)
      simp only [q1, q2, q3, Bool.and_eq_true, decide_eq_true_eq, not_false_eq_true, true_and]
      omega
    obtain ⟨k, k7, k1, k2, k3, k4, k5⟩ := hK r hr
    by_cases hin : f ≤ r ∧ r < f + z
    · have a0 : a 1 r = 0 := by
        have := hfree (r - f) (by omega) (by omega)
        rw [show f + (r - f) = r by omega] at this
        exact this
      have k0 : k = 0 := (nI_eq (by omega) (by decide)).mp (k1.symm.trans a0)
      subst k0
      refine ⟨2 + e, by omega, by unfold fill; rw [if_pos hin], fun e' he' => ?_, ?_, ?_, fun q => absurd q (by omega)⟩
      · by_cases ee : e' = e
        · subst ee
          exact ⟨fun _ => rfl, fun _ => ie.mpr hin⟩
        · rw [io e' ee, k2 e' he']
          omega
      · rw [k3, if_neg (by decide), if_neg (by omega)]
      · rw [k4, if_neg (by decide), if_neg (by omega)]
    · have ke : k ≠ 2 + e := by
        intro q
        have q2 := (k2 e he).mpr q
        unfold inB at q2
        rw [hs] at q2
        simp at q2
      refine ⟨k, k7, by unfold fill; rw [if_neg hin]; exact k1, fun e' he' => ?_, k3, k4, fun q => ?_⟩
      · by_cases ee : e' = e
        · subst ee
          exact ⟨fun q => absurd (ie.mp q) hin, fun q => absurd q ke⟩
        · rw [io e' ee]; exact k2 e' he'
      · by_cases ee : k - 5 = e
        · rw [ee, upd_same]; decide
        · rw [upd_ne _ _ ee]; exact k5 q
  · show ER (upd (a 4) e 0) (upd (a 5) e 0) (upd (b 3) e 1) (upd (b 6) e 0) (b 7) (upd (b 8) e 0) (b 9) e'
    by_cases ee : e' = e
    · subst ee
      refine ⟨1, by decide, upd_same _ _ _, fun q => absurd q (by decide), fun _ => ⟨0, 0, upd_same _ _ _, upd_same _ _ _, upd_same _ _ _, by decide, upd_same _ _ _, fun _ => by omega, by decide⟩, fun q => absurd t1 q⟩
    · obtain ⟨st', h3', e3', z0', z1', z2'⟩ := hE e' he'
      refine ⟨st', h3', (upd_ne _ _ ee).trans e3', fun q => ⟨(upd_ne _ _ ee).trans (z0' q).1, (z0' q).2⟩, fun q => ?_, z2'⟩
      obtain ⟨n, ld, e8, e6, e5, h8, e4, hb1, hn⟩ := z1' q
      exact ⟨n, ld, (upd_ne _ _ ee).trans e8, (upd_ne _ _ ee).trans e6, (upd_ne _ _ ee).trans e5, h8, (upd_ne _ _ ee).trans e4, hb1, hn⟩
theorem s_made {a b : eS} {e f z : Nat} (h : Rel a b) (hw : b 13 1 = 6) (he : e < 3) (hz : f + z ≤ 16) (hs : b 3 e = 0) (hfree : ∀ i, 0 ≤ i → i < z → a 1 (f + i) = 0) : Sim (f_W_create_59 fu (nI f) (nI z) (nI e) (nI 0) a) (f_M_create_27 (nI f) (nI z) (nI e) b) := by
  have r0 := rel_create h hw he hz hs hfree
  have st1 : ¬ (cm b e f z) 3 e = 0 := by show ¬ upd (b 3) e 1 e = 0; rw [upd_same]; decide
  have n0 : (cm b e f z) 8 e = nI 0 := upd_same _ _ _
  have r1 := rel_add (x := 1) r0 he st1 n0 (fun _ _ _ _ => by omega) (by decide)
  have n1 : (wr (wr (cm b e f z) 7 (160 * e + 0) 1) 8 e (nI (0 + 1))) 8 e = nI (0 + 1) := upd_same _ _ _
  have r2 := rel_add (x := nI f) r1 he st1 n1 (fun _ _ _ _ => by omega) (by decide)
  have n2 : (wr (wr (wr (wr (cm b e f z) 7 (160 * e + 0) 1) 8 e (nI (0 + 1))) 7 (160 * e + (0 + 1)) (nI f)) 8 e (nI (0 + 1 + 1))) 8 e = nI (0 + 1 + 1) := upd_same _ _ _
  have r3 := rel_add (x := nI z) r2 he st1 n2 (fun _ _ _ _ => by omega) (by decide)
  refine ⟨nI e, _, _, ?_, ?_, r3⟩
  · rw [cr_loop hz he z 0 fu a (by omega) (show z < 2000 by omega), pV_become, bnd_s, pV_add, bnd_s, pV_add, bnd_s, pV_add, bnd_s]
    rfl
  · unfold f_M_create_27
    rw [nm_s, ix_nI he (by decide), nm_s, ix_nI he (by decide), nm_s, ix_nI he (by decide), nm_s, ix_nI he (by decide), nm_s, ix_nI he (by decide), nm_s, cl_nI (by omega)]
    rw [show wr (wr (wr (wr (wr b 3 e 1) 4 e (nI f)) 5 e (nI z)) 6 e 0) 8 e 0 = cm b e f z from rfl, pM_add he n0 (by decide), bnd_s, pM_add he n1 (by decide), bnd_s, pM_add he n2 (by decide), bnd_s]
theorem la_it {e fl : Nat} {a : eS} (he : e < 3) : f_W_leastAbsent_2 (fl + 1) (nI e) a = if a 3 e = 0 then some (nI e, a) else f_W_leastAbsent_2 fl (nI (e + 1)) a := by
  rw [f_W_leastAbsent_2, if_neg (show ¬ (3 : Int32) ≤ nI e from nI_ge (b := 3) he (by decide)), ix_nI he (by decide), cl_nI (by omega), nm_s, nI_1]
theorem pW_least {a : eS} : f_W_leastAbsent a = if a 3 0 = 0 then some (0, a) else if a 3 1 = 0 then some (1, a) else if a 3 2 = 0 then some (2, a) else some (3, a) := by
  have e0 : f_W_leastAbsent a = f_W_leastAbsent_2 (1996 + 1 + 1 + 1 + 1) (nI 0) a := rfl
  rw [e0, la_it (by decide), la_it (by decide), la_it (by decide), f_W_leastAbsent_2, if_pos (show (3 : Int32) ≤ nI (0 + 1 + 1 + 1) by decide)]
  rfl
theorem pM_full1 {x : Int32} {b : eS} : f_M_full 1 x b = if b 3 0 ≤ 0 then some (0, b) else if b 3 1 ≤ 0 then some (0, b) else if b 3 2 ≤ 0 then some (0, b) else some (1, b) := by
  have z0 : Int32.toNatClampNeg 0 = 0 := by decide
  have z1 : Int32.toNatClampNeg 1 = 1 := by decide
  have z2 : Int32.toNatClampNeg 2 = 2 := by decide
  unfold f_M_full f_M_full_36
  rw [if_pos rfl, z0, z1, z2, ix_at (i := 0) (j := 0) rfl (by decide) (by decide), ix_at (i := 1) (j := 1) rfl (by decide) (by decide), ix_at (i := 2) (j := 2) rfl (by decide) (by decide)]
theorem s_create2 {a b : eS} {f z : Nat} (h : Rel a b) (hw : b 13 1 = 6) (hz : f + z ≤ 16) (c : Int32) (hm : f_W_create_22 (nI f) (nI z) a = bnd (f_W_allFree (nI f) (nI z) a) (fun r1 s2 => if r1 = 0 then some (-4, s2) else bnd (f_W_leastAbsent s2) fun r4 s5 => nm r4 fun v7 => if v7 = 3 then some (-5, s5) else nm (0 : Int32) fun v8 => f_W_create_59 fu (nI f) (nI z) v7 v8 s5)) (hb : f_M_bad 1 (nI f) (nI z) c b = some (0, b)) : Sim (f_W_create_22 (nI f) (nI z) a) (f_M_system 1 (nI f) (nI z) c b) := by
  unfold f_M_system
  rw [hm, show f_M_outside ((1 : Int32) - 1) 10 b = some (0, b) from rfl, bnd_s, if_pos rfl, hb, bnd_s, if_pos rfl, show f_M_wrongState 1 (nI f) (nI z) b = some (0, b) from rfl, bnd_s, if_pos rfl, show f_M_taken 1 (nI f) (nI z) c b = f_M_taken_63 fu (nI f) (nI z) (nI (f + 0)) b from rfl, show f_W_allFree (nI f) (nI z) a = f_W_allFree_2 fu (nI f) (nI z) (nI 0) a from rfl]
  rcases af_loop h hz z 0 fu fu (by omega) (show z < 2000 by omega) (show z < 2000 by omega) with ⟨p1, p2, p3⟩ | ⟨p1, p2⟩
  · rw [p1, p2, bnd_s, bnd_s, if_neg (by decide), if_pos rfl, pM_full1, pW_least, h.1.2.1]
    have hle : ∀ e, e < 3 → (b 3 e ≤ 0 ↔ b 3 e = 0) := by
      intro e he
      obtain ⟨st, h3, e3, -⟩ := h.2.2.2.2.2.2.1 e he
      rw [e3]
      by_cases s0 : st = 0
      · subst s0; exact ⟨fun _ => rfl, fun _ => by decide⟩
      · exact ⟨fun q => absurd q (nI_nle (by omega) (by omega)), fun q => absurd q (nI_ne (b := 0) (by omega) (by decide) s0)⟩
    have hMc : f_M_create (nI f) (nI z) b = if b 3 0 = 0 then f_M_create_27 (nI f) (nI z) (nI 0) b else if b 3 1 = 0 then f_M_create_27 (nI f) (nI z) (nI 1) b else f_M_create_27 (nI f) (nI z) (nI 2) b := rfl
    by_cases b0 : b 3 0 = 0
    · rw [if_pos ((hle 0 (by decide)).mpr b0), if_pos b0, bnd_s, bnd_s, nm_s, if_neg (by decide), nm_s, if_pos rfl, if_pos rfl, hMc, if_pos b0]
      obtain ⟨r, a', b', w1, w2, w3⟩ := s_made (e := 0) h hw (by decide) hz b0 p3
      exact ⟨r, a', b', w1, by rw [w2, bnd_s], w3⟩
    · rw [if_neg (fun q => b0 ((hle 0 (by decide)).mp q)), if_neg b0]
      by_cases b1 : b 3 1 = 0
      · rw [if_pos ((hle 1 (by decide)).mpr b1), if_pos b1, bnd_s, bnd_s, nm_s, if_neg (by decide), nm_s, if_pos rfl, if_pos rfl, hMc, if_neg b0, if_pos b1]
        obtain ⟨r, a', b', w1, w2, w3⟩ := s_made (e := 1) h hw (by decide) hz b1 p3
        exact ⟨r, a', b', w1, by rw [w2, bnd_s], w3⟩
      · rw [if_neg (fun q => b1 ((hle 1 (by decide)).mp q)), if_neg b1]
        by_cases b2 : b 3 2 = 0
        · rw [if_pos ((hle 2 (by decide)).mpr b2), if_pos b2, bnd_s, bnd_s, nm_s, if_neg (by decide), nm_s, if_pos rfl, if_pos rfl, hMc, if_neg b0, if_neg b1]
          obtain ⟨r, a', b', w1, w2, w3⟩ := s_made (e := 2) h hw (by decide) hz b2 p3
          exact ⟨r, a', b', w1, by rw [w2, bnd_s], w3⟩
        · rw [if_neg (fun q => b2 ((hle 2 (by decide)).mp q)), if_neg b2, bnd_s, bnd_s, nm_s, if_pos rfl, if_neg (by decide)]; exact Sim.of h
  · rw [p1, p2, bnd_s, bnd_s, if_pos rfl, if_neg (by decide)]; exact Sim.of h
theorem nI_rm {f z : Nat} (hf : f < 2 ^ 31) (h0 : 0 < z) (hz : z < 2 ^ 31) : nI f - nI f / nI z * nI z = 0 ↔ f % z = 0 := by
  rw [pk_rem hf h0 hz]
  constructor
  · intro h
    exact (nI_eq (b := 0) (Nat.lt_trans (Nat.mod_lt _ h0) hz) (by decide)).mp h
  · intro h
    rw [h]; rfl
theorem s_create {a b : eS} (h : Rel a b) (hw : b 13 1 = 6) (x y c : Int32) : Sim (f_W_create x y a) (f_M_system 1 x y c b) := by
  unfold f_W_create
  have hsys : ∀ v, ¬ v = 0 → f_M_bad 1 x y c b = some (v, b) → f_M_system 1 x y c b = some (-2, b) := by
    intro v hv hb
    unfold f_M_system
    rw [show f_M_outside ((1 : Int32) - 1) 10 b = some (0, b) from rfl, bnd_s, if_pos rfl, hb, bnd_s, if_neg hv]
  have hbad : f_M_bad 1 x y c b = bnd (f_M_outside x 15 b) (fun r16 s17 => if r16 = 0 then (if y = 1 then f_M_bad_29 x y s17 else if y = 2 then f_M_bad_29 x y s17 else if y = 4 then f_M_bad_29 x y s17 else some (1, s17)) else some (1, s17)) := rfl
  rcases rng x 16 (by decide) with hp | ⟨f, hf, rfl⟩
  · rw [pW_isRegion_n hp, bnd_s, if_pos rfl, hsys 1 (by decide) (by rw [hbad, pM_out_n (N := 15) (n := 15) rfl (by decide) hp, bnd_s, if_neg (by decide)])]; exact Sim.of h
  · rw [pW_isRegion hf, bnd_s, if_neg (by decide)]
    rw [pM_out (N := 15) (n := 15) rfl (by decide) hf, bnd_s, if_pos rfl] at hbad
    have key : ∀ z : Nat, (z = 1 ∨ z = 2 ∨ z = 4) → y = nI z → f_M_bad 1 (nI f) y c b = f_M_bad_29 (nI f) y b → Sim (f_W_create_22 (nI f) y a) (f_M_system 1 (nI f) y c b) := by
      intro z hz hy hb
      subst hy
      have z0 : ¬ nI z = 0 := nI_ne (b := 0) (by omega) (by decide) (by omega)
      have hr := nI_rm (f := f) (z := z) (by omega) (by omega) (by omega)
      by_cases hm : f % z = 0
      · have h16 : f + z ≤ 16 := by rcases hz with rfl | rfl | rfl <;> omega
        refine s_create2 h hw h16 c ?_ ?_
        · unfold f_W_create_22 nz
          rw [if_neg z0, if_pos (hr.mpr hm)]
        · rw [hb]
          unfold f_M_bad_29 nz
          rw [if_neg z0, if_pos (hr.mpr hm)]
      · have hb2 : f_M_bad 1 (nI f) (nI z) c b = some (1, b) := by
          rw [hb]
          unfold f_M_bad_29 nz f_M_bad_35
          rw [if_neg z0, if_neg (fun q => hm (hr.mp q))]
        rw [hsys 1 (by decide) hb2]
        unfold f_W_create_22 nz f_W_create_28
        rw [if_neg z0, if_neg (fun q => hm (hr.mp q))]
        exact Sim.of h
    by_cases y1 : y = 1
    · rw [if_pos y1]; rw [if_pos y1] at hbad; exact key 1 (Or.inl rfl) y1 hbad
    · rw [if_neg y1]; rw [if_neg y1] at hbad
      by_cases y2 : y = 2
      · rw [if_pos y2]; rw [if_pos y2] at hbad; exact key 2 (Or.inr (Or.inl rfl)) y2 hbad
      · rw [if_neg y2]; rw [if_neg y2] at hbad
        by_cases y4 : y = 4
        · rw [if_pos y4]; rw [if_pos y4] at hbad; exact key 4 (Or.inr (Or.inr rfl)) y4 hbad
        · rw [if_neg y4]; rw [if_neg y4] at hbad
          rw [hsys 1 (by decide) hbad]; exact Sim.of h
