/-! measuring; claim, yield, share, stop -/
theorem pM_measured4 {e n : Nat} {b : eS} (he : e < 3) (hn : b 8 e = nI n) (h160 : n ≤ 160) : ∀ (m k fl : Nat), k + m = n → m < fl → f_M_measured_4 fl (nI e) (mf (fun k => b 7 (160 * e + k)) k) (nI k) b = some (mf (fun k => b 7 (160 * e + k)) n, b) := by
  intro m
  induction m with
  | zero =>
    intro k fl hk hf
    obtain ⟨fl, rfl⟩ : ∃ q, fl = q + 1 := ⟨fl - 1, by omega⟩
    rw [f_M_measured_4, ix_nI he (by decide), cl_nI (by omega), hn, if_pos (nI_le (by omega) (by omega)), show k = n by omega]
  | succ m ih =>
    intro k fl hk hf
    obtain ⟨fl, rfl⟩ : ∃ q, fl = q + 1 := ⟨fl - 1, by omega⟩
    rw [f_M_measured_4, ix_nI he (by decide), cl_nI (show e < 2 ^ 31 by omega), hn, if_neg (nI_ge (by omega) (by omega)), lit_mul (N := 160) (n := 160) rfl, nI_add, ix_nI (by omega) (by decide), cl_nI (by omega), pM_mix, bnd_s, nm_s, nm_s, nI_1]
    exact ih (k + 1) fl (by omega) (by omega)
theorem pM_measured {e n : Nat} {b : eS} (he : e < 3) (hn : b 8 e = nI n) (h160 : n ≤ 160) : f_M_measured (nI e) b = some (mf (fun k => b 7 (160 * e + k)) n, b) :=
  pM_measured4 he hn h160 n 0 fu (by omega) (show n < 2000 by omega)
theorem pM_add {e n : Nat} {x : Int32} {b : eS} (he : e < 3) (hn : b 8 e = nI n) (h160 : n < 160) : f_M_add (nI e) x b = some ((), wr (wr b 7 (160 * e + n) x) 8 e (nI (n + 1))) := by
  unfold f_M_add
  rw [ix_nI he (by decide), cl_nI (show e < 2 ^ 31 by omega), hn, lit_mul (N := 160) (n := 160) rfl, nI_add, ix_nI (show 160 * e + n < 480 by omega) (by decide), nm_s, ix_nI he (by decide), ix_nI he (by decide), cl_nI (show 160 * e + n < 2 ^ 31 by omega), show wr b 7 (160 * e + n) x 8 e = nI n from hn, nI_1, nm_s]
theorem s_measure {a b : eS} (h : Rel a b) (r : Int32) : Sim (f_W_measure r a) (f_M_measure r b) := by
  unfold f_W_measure f_M_measure f_M_measure_17
  rcases rng r 3 (by decide) with hp | ⟨j, hj, rfl⟩
  · rw [pW_isEnclave_n hp, pM_out_n (N := 2) (n := 2) rfl (by decide) hp, bnd_s, bnd_s, if_pos rfl, if_neg (by decide)]; exact Sim.of h
  · rw [pW_isEnclave hj, pM_out (N := 2) (n := 2) rfl (by decide) hj, bnd_s, bnd_s, if_neg (by decide), if_pos rfl, ix_nI hj (by decide), ix_nI hj (by decide), cl_nI (by omega)]
    obtain ⟨st, h3, hst, z0, z1, -⟩ := h.2.2.2.2.2.2.1 j hj
    by_cases s0 : st = 0
    · subst s0
      rw [hst, if_pos (show nI 0 = 0 from rfl), (z0 rfl).1]; exact Sim.of h
    · obtain ⟨n, ld, e8, -, -, -, e4, -, hn⟩ := z1 s0
      rw [hst, if_neg (show ¬ nI st = 0 from nI_ne (b := 0) (by omega) (by decide) s0), pM_measured hj e8 (by omega), bnd_s, e4]; exact Sim.of h
theorem rel_add {a b : eS} {e n : Nat} {x : Int32} (h : Rel a b) (he : e < 3) (hst : ¬ b 3 e = 0) (hn : b 8 e = nI n) (hb : ∀ ld : Nat, ld ≤ 8 → b 6 e = nI ld → b 3 e = 1 → n + 1 ≤ 3 + 18 * ld + 2 * thc (b 9) e) (h152 : n + 1 ≤ 152) : Rel (wr a 4 e (mixF (a 4 e) x)) (wr (wr b 7 (160 * e + n) x) 8 e (nI (n + 1))) := by
  obtain ⟨hG, hR, hS, hX, hW, hK, hE, hT⟩ := h
  refine ⟨hG, hR.wr (by decide), hS, hX, hW, hK, fun e' he' => ?_, hT⟩
  show ER (upd (a 4) e (mixF (a 4 e) x)) (a 5) (b 3) (b 6) (upd (b 7) (160 * e + n) x) (upd (b 8) e (nI (n + 1))) (b 9) e'
  obtain ⟨st, h3, e3, z0, z1, z2⟩ := hE e' he'
  by_cases ee : e' = e
  · subst ee
    have s0 : st ≠ 0 := fun q => hst (by rw [e3, q]; rfl)
    obtain ⟨n', ld, e8, e6, e5, h8, e4, hb1, hn'⟩ := z1 s0
    have hnn : n' = n := (nI_eq (by omega) (by omega)).mp (e8.symm.trans hn)
    subst hnn
    refine ⟨st, h3, e3, fun q => absurd q s0, fun _ => ⟨n' + 1, ld, upd_same _ _ _, e6, e5, h8, ?_, fun q => hb ld h8 e6 (by rw [e3, q]; rfl), h152⟩, z2⟩
    rw [upd_same, mf, upd_same, e4]
    congr 1
    exact mf_congr n' (fun k hk => (upd_ne _ _ (by omega)).symm)
  · refine ⟨st, h3, e3, fun q => ⟨by rw [upd_ne _ _ ee]; exact (z0 q).1, (z0 q).2⟩, fun q => ?_, z2⟩
    obtain ⟨n', ld, e8, e6, e5, h8, e4, hb1, hn'⟩ := z1 q
    refine ⟨n', ld, by rw [upd_ne _ _ ee]; exact e8, e6, e5, h8, ?_, hb1, hn'⟩
    rw [upd_ne _ _ ee, e4]
    exact mf_congr n' (fun k hk => (upd_ne _ _ (by omega)).symm)
theorem KR_at {a1 b1 b2 b3 b4 b5 : Nat → Int32} {r k0 : Nat} (h : KR a1 b1 b2 b3 b4 b5 r) (h0 : k0 < 2 ^ 31) (e : a1 r = nI k0) : k0 ≤ 7 ∧ (∀ e, e < 3 → (inB b3 b4 b5 e r = true ↔ k0 = 2 + e)) ∧ b2 r = (if 5 ≤ k0 then nI (k0 - 4) else 0) ∧ b1 r = (if k0 = 1 ∨ 5 ≤ k0 then 1 else 0) ∧ (5 ≤ k0 → ¬ b3 (k0 - 5) = 0) := by
  obtain ⟨k, h7, hk, rest⟩ := h
  have hkk : k = k0 := (nI_eq (by omega) h0).mp (hk.symm.trans e)
  subst hkk
  exact ⟨h7, rest⟩
theorem rK_set {a1 b1 b2 b3 b4 b5 a1' b1' b2' : Nat → Int32} {r : Nat} (h : rK a1 b1 b2 b3 b4 b5) (ha : ∀ q, q ≠ r → a1' q = a1 q) (hb : ∀ q, q ≠ r → b1' q = b1 q) (hc : ∀ q, q ≠ r → b2' q = b2 q) (hr : KR a1' b1' b2' b3 b4 b5 r) : rK a1' b1' b2' b3 b4 b5 := by
  intro q hq
  by_cases e : q = r
  · subst e; exact hr
  · obtain ⟨k, h7, hk, h1, h2, h3, h4⟩ := h q hq
    exact ⟨k, h7, (ha q e).trans hk, h1, (hc q e).trans h2, (hb q e).trans h3, h4⟩
theorem rel_claim {a b : eS} {r : Nat} (h : Rel a b) (hr : r < 16) (h0 : a 1 r = 0) : Rel (wr a 1 r 1) (wr b 1 r 1) := by
  obtain ⟨hG, hR, hS, hX, hW, hK, hE, hT⟩ := h
  obtain ⟨-, h1, h2, -, -⟩ := KR_at (k0 := 0) (hK r hr) (by decide) h0
  refine ⟨hG, hR.wr (by decide), hS, hX, hW, ?_, hE, hT⟩
  refine rK_set (r := r) hK (fun q hq => upd_ne _ _ hq) (fun q hq => upd_ne _ _ hq) (fun q hq => rfl) ⟨1, by decide, upd_same _ _ _, fun e he => ?_, h2, upd_same _ _ _, fun q => absurd q (by decide)⟩
  exact (h1 e he).trans (by omega)
theorem rel_yield {a b : eS} {r : Nat} (h : Rel a b) (hr : r < 16) (h0 : a 1 r = 1) : Rel (wr (up a 0 (wz (a 0) (16 * r) 16)) 1 r 0) (up (wr b 1 r 0) 0 (wz (b 0) (16 * r) 16)) := by
  obtain ⟨hG, hR, hS, hX, hW, hK, hE, hT⟩ := h
  obtain ⟨-, h1, h2, -, -⟩ := KR_at (k0 := 1) (hK r hr) (by decide) h0
  refine ⟨⟨congrArg (fun m => wz m (16 * r) 16) hG.1, hG.2⟩, (hR.up (by decide)).wr (by decide), hS, hX, hW, ?_, hE, hT⟩
  refine rK_set (r := r) hK (fun q hq => upd_ne _ _ hq) (fun q hq => upd_ne _ _ hq) (fun q hq => rfl) ⟨0, by decide, upd_same _ _ _, fun e he => ?_, h2, upd_same _ _ _, fun q => absurd q (by decide)⟩
  exact (h1 e he).trans (by omega)
theorem rel_share {a b : eS} {r e : Nat} (h : Rel a b) (hr : r < 16) (he : e < 3) (h0 : a 1 r = 1) (hst : ¬ b 3 e = 0) : Rel (wr a 1 r (nI (5 + e))) (wr b 2 r (nI (1 + e))) := by
  obtain ⟨hG, hR, hS, hX, hW, hK, hE, hT⟩ := h
  obtain ⟨-, h1, h2, h3, -⟩ := KR_at (k0 := 1) (hK r hr) (by decide) h0
  refine ⟨hG, hR.wr (by decide), hS, hX, hW, ?_, hE, hT⟩
  refine rK_set (r := r) hK (fun q hq => upd_ne _ _ hq) (fun q hq => rfl) (fun q hq => upd_ne _ _ hq) ⟨5 + e, by omega, upd_same _ _ _, fun e' he' => ?_, ?_, ?_, fun _ => ?_⟩
  · exact (h1 e' he').trans (by omega)
  · rw [if_pos (by omega), show 5 + e - 4 = 1 + e by omega]; exact upd_same _ _ _
  · rw [if_pos (Or.inr (by omega))]; exact h3
  · rw [show 5 + e - 5 = e by omega]; exact hst
theorem s_claim {a b : eS} (h : Rel a b) (r y z : Int32) : Sim (f_W_claim r a) (f_M_system 10 r y z b) := by
  have hK := h.2.2.2.2.2.1
  unfold f_W_claim f_M_system
  rw [show f_M_outside ((10 : Int32) - 1) 10 b = some (0, b) from rfl, bnd_s, if_pos rfl, show f_M_bad 10 r y z b = bnd (f_M_outside r 15 b) (fun r13 s14 => bz r13 (some (r13, s14))) from rfl]
  rcases rng r 16 (by decide) with hp | ⟨j, hj, rfl⟩
  · rw [pW_isRegion_n hp, pM_out_n (N := 15) (n := 15) rfl (by decide) hp, bnd_s, bnd_s, bz_1, bnd_s, if_pos rfl, if_neg (by decide)]; exact Sim.of h
  · rw [pW_isRegion hj, pM_out (N := 15) (n := 15) rfl (by decide) hj, bnd_s, bnd_s, bz_0, bnd_s, if_neg (by decide), if_pos rfl, show f_M_wrongState 10 (nI j) y b = some (0, b) from rfl, bnd_s, if_pos rfl, show f_M_taken 10 (nI j) y z b = bnd (f_M_kind (nI j) b) (fun r24 s25 => if r24 = 0 then some (0, s25) else some (1, s25)) from rfl, pM_kind hj (hK j hj), bnd_s, ix_nI hj (by decide), cl_nI (by omega)]
    by_cases hk : a 1 j = 0
    · rw [if_pos hk, if_pos hk, ix_nI hj (by decide), nm_s, bnd_s, if_pos rfl, show f_M_full 10 (nI j) b = some (0, b) from rfl, bnd_s, if_pos rfl, if_neg (by decide), if_neg (by decide), show f_M_perform 10 (nI j) y z b = ix (nI j) 16 (nm (wr b 1 (Int32.toNatClampNeg (nI j)) (vp_nar .boolean 1)) fun s32 => some ((), s32)) from rfl, ix_nI hj (by decide), nm_s, bnd_s, cl_nI (by omega)]
      exact Sim.of (rel_claim h hj hk)
    · rw [if_neg hk, if_neg hk, bnd_s, if_neg (by decide)]; exact Sim.of h
theorem s_giveUp {a b : eS} (h : Rel a b) (r y z : Int32) : Sim (f_W_giveUp r a) (f_M_system 11 r y z b) := by
  have hK := h.2.2.2.2.2.1
  unfold f_W_giveUp f_M_system
  rw [show f_M_outside ((11 : Int32) - 1) 10 b = some (0, b) from rfl, bnd_s, if_pos rfl, show f_M_bad 11 r y z b = bnd (f_M_outside r 15 b) (fun r13 s14 => bz r13 (some (r13, s14))) from rfl]
  rcases rng r 16 (by decide) with hp | ⟨j, hj, rfl⟩
  · rw [pW_isRegion_n hp, pM_out_n (N := 15) (n := 15) rfl (by decide) hp, bnd_s, bnd_s, bz_1, bnd_s, if_pos rfl, if_neg (by decide)]; exact Sim.of h
  · rw [pW_isRegion hj, pM_out (N := 15) (n := 15) rfl (by decide) hj, bnd_s, bnd_s, bz_0, bnd_s, if_neg (by decide), if_pos rfl, show f_M_wrongState 11 (nI j) y b = some (0, b) from rfl, bnd_s, if_pos rfl, show f_M_taken 11 (nI j) y z b = bnd (f_M_kind (nI j) b) (fun r24 s25 => if r24 = 1 then some (0, s25) else some (1, s25)) from rfl, pM_kind hj (hK j hj), bnd_s, ix_nI hj (by decide), cl_nI (by omega)]
    by_cases hk : a 1 j = 1
    · rw [if_pos hk, if_pos hk, pW_free hj, bnd_s, bnd_s, if_pos rfl, show f_M_full 11 (nI j) b = some (0, b) from rfl, bnd_s, if_pos rfl, if_neg (by decide), if_neg (by decide), show f_M_perform 11 (nI j) y z b = ix (nI j) 16 (nm (wr b 1 (Int32.toNatClampNeg (nI j)) (vp_nar .boolean 0)) fun s33 => bnd (f_M_wipe (nI j) s33) fun _ s35 => some ((), s35)) from rfl, ix_nI hj (by decide), nm_s, cl_nI (by omega), pM_wipe hj, bnd_s, bnd_s]
      exact Sim.of (rel_yield h hj hk)
    · rw [if_neg hk, if_neg hk, bnd_s, if_neg (by decide)]; exact Sim.of h
theorem sh_loop {a b : eS} {e : Nat} (h : Rel a b) : ∀ (n k fl fl' : Nat) (x : Int32), k + n = 16 → n < fl → n < fl' → ∃ c, f_W_sharedWith_4 fl (nI e) x (nI k) a = some (c, a) ∧ f_M_full_48 fl' (nI e) x (nI k) b = (if c < 2 then some (0, b) else some (1, b)) := by
  have hK := h.2.2.2.2.2.1
  intro n
  induction n with
  | zero =>
    intro k fl fl' x hk hf hf'
    obtain ⟨fl, rfl⟩ : ∃ q, fl = q + 1 := ⟨fl - 1, by omega⟩
    obtain ⟨fl', rfl⟩ : ∃ q, fl' = q + 1 := ⟨fl' - 1, by omega⟩
    have h16 : (16 : Int32) ≤ nI k := nI_le (a := 16) (by omega) (by omega)
    exact ⟨x, by rw [f_W_sharedWith_4, if_pos h16], by rw [f_M_full_48, if_pos h16]⟩
  | succ n ih =>
    intro k fl fl' x hk hf hf'
    obtain ⟨fl, rfl⟩ : ∃ q, fl = q + 1 := ⟨fl - 1, by omega⟩
    obtain ⟨fl', rfl⟩ : ∃ q, fl' = q + 1 := ⟨fl' - 1, by omega⟩
    have h16 : ¬ (16 : Int32) ≤ nI k := nI_ge (b := 16) (by omega) (by decide)
    rw [f_W_sharedWith_4, if_neg h16, ix_nI (by omega) (by decide), cl_nI (by omega), f_M_full_48, if_neg h16, pM_kind (by omega) (hK k (by omega)), bnd_s]
    by_cases hk5 : a 1 k = 5 + nI e
    · rw [if_pos hk5, if_pos hk5, nm_s, nm_s, nm_s, nm_s, nI_1]
      exact ih (k + 1) fl fl' _ (by omega) (by omega) (by omega)
    · rw [if_neg hk5, if_neg hk5, nm_s, nm_s, nm_s, nI_1]
      exact ih (k + 1) fl fl' _ (by omega) (by omega) (by omega)
theorem s_share {a b : eS} (h : Rel a b) (e r z : Int32) : Sim (f_W_share e r a) (f_M_system 5 e r z b) := by
  have hK := h.2.2.2.2.2.1
  unfold f_W_share f_W_share_14 f_M_system
  rw [show f_M_outside ((5 : Int32) - 1) 10 b = some (0, b) from rfl, bnd_s, if_pos rfl, show f_M_bad 5 e r z b = bnd (f_M_outside e 2 b) (fun r1 s2 => if r1 = 0 then bnd (f_M_outside r 15 s2) (fun r1 s2 => if r1 = 0 then some (0, s2) else some (1, s2)) else some (1, s2)) from rfl]
  rcases rng e 3 (by decide) with he | ⟨i, hi, rfl⟩
  · rw [pW_isEnclave_n he, pM_out_n (N := 2) (n := 2) rfl (by decide) he, bnd_s, bnd_s, if_pos rfl, if_neg (by decide), bnd_s, if_neg (by decide)]; exact Sim.of h
  · rw [pW_isEnclave hi, pM_out (N := 2) (n := 2) rfl (by decide) hi, bnd_s, bnd_s, if_neg (by decide), if_pos rfl]
    rcases rng r 16 (by decide) with hp | ⟨j, hj, rfl⟩
    · rw [pW_isRegion_n hp, pM_out_n (N := 15) (n := 15) rfl (by decide) hp, bnd_s, bnd_s, if_pos rfl, if_neg (by decide), bnd_s, if_neg (by decide)]; exact Sim.of h
    · rw [pW_isRegion hj, pM_out (N := 15) (n := 15) rfl (by decide) hj, bnd_s, bnd_s, if_neg (by decide), if_pos rfl, bnd_s, if_pos rfl, show f_M_wrongState 5 (nI i) (nI j) b = ix (nI i) 3 (if b 3 (Int32.toNatClampNeg (nI i)) = 0 then some (1, b) else some (0, b)) from rfl, ix_nI hi (by decide), ix_nI hi (by decide), cl_nI (by omega), h.1.2.1]
      by_cases hs : b 3 i = 0
      · rw [if_pos hs, if_pos hs, bnd_s, if_neg (by decide)]; exact Sim.of h
      · rw [if_neg hs, if_neg hs, bnd_s, if_pos rfl, show f_M_taken 5 (nI i) (nI j) z b = bnd (f_M_kind (nI j) b) (fun r16 s17 => if r16 = 1 then some (0, s17) else some (1, s17)) from rfl, pM_kind hj (hK j hj), bnd_s, ix_nI hj (by decide), cl_nI (by omega)]
        by_cases hk : a 1 j = 1
        · obtain ⟨c, c1, c2⟩ := sh_loop (e := i) h 16 0 fu fu 0 rfl (by decide) (by decide)
          rw [if_pos hk, if_pos hk, bnd_s, if_pos rfl, show f_W_sharedWith (nI i) a = f_W_sharedWith_4 fu (nI i) 0 (nI 0) a from rfl, c1, bnd_s, show f_M_full 5 (nI i) b = f_M_full_48 fu (nI i) 0 (nI 0) b from rfl, c2]
          by_cases hc : c < 2
          · rw [if_pos hc, if_pos hc, bnd_s, if_pos rfl, if_neg (by decide), if_neg (by decide), ix_nI hj (by decide), nm_s, show f_M_perform 5 (nI i) (nI j) z b = ix (nI j) 16 (nm (wr b 2 (Int32.toNatClampNeg (nI j)) (1 + nI i)) fun s16 => some ((), s16)) from rfl, ix_nI hj (by decide), nm_s, bnd_s, cl_nI (by omega), lit_add (N := 5) (n := 5) rfl, lit_add (N := 1) (n := 1) rfl]
            exact Sim.of (rel_share h hj hi hk hs)
          · rw [if_neg hc, if_neg hc, bnd_s, if_neg (by decide)]; exact Sim.of h
        · rw [if_neg hk, if_neg hk, bnd_s, if_neg (by decide)]; exact Sim.of h
/-- a state of an enclave that is not 0 changes into another that is not 0 -/
theorem rel_state {a b : eS} {e st : Nat} (h : Rel a b) (he : e < 3) (hst : ¬ b 3 e = 0) (h2 : 2 ≤ st) (h3 : st ≤ 3) (hw : b 13 1 = 6) : Rel (wr a 3 e (nI st)) (wr b 3 e (nI st)) := by
  obtain ⟨hG, hR, hS, hX, hW, hK, hE, hT⟩ := h
  have n0 : ¬ nI st = 0 := nI_ne (b := 0) (by omega) (by decide) (by omega)
  refine ⟨⟨hG.1, congrArg (fun m => upd m e (nI st)) hG.2.1, hG.2.2⟩, hR.wr (by decide), hS, hX, ?_, fun r hr => ?_, fun e' he' => ?_, hT⟩
  · obtain ⟨c, h6, w1, w2, w3⟩ := hW
    refine ⟨c, h6, w1, w2, fun q => ?_⟩
    have : c = 6 := (nI_eq (by omega) (by decide)).mp (w1.symm.trans hw)
    omega
  · obtain ⟨k, h7, k1, k2, k3, k4, k5⟩ := hK r hr
    refine ⟨k, h7, k1, fun e' he' => ?_, k3, k4, fun q => ?_⟩
    · rw [← k2 e' he']
      show inB (upd (b 3) e (nI st)) (b 4) (b 5) e' r = true ↔ inB (b 3) (b 4) (b 5) e' r = true
      by_cases ee : e' = e
      · subst ee
        have p1 : ¬ upd (b 3) e' (nI st) e' ≤ 0 := by rw [upd_same]; exact nI_nle (by omega) (by omega)
        have p2 : ¬ b 3 e' ≤ 0 := by
          obtain ⟨s', hs', e3, -⟩ := hE e' he'
          rw [e3] at hst ⊢
          exact nI_nle (Nat.pos_of_ne_zero (fun q => hst (by rw [q]; rfl))) (by omega)
        unfold inB
        simp only [p1, p2]
      · unfold inB
        rw [upd_ne _ _ ee]
    · show ¬ upd (b 3) e (nI st) (k - 5) = 0
      by_cases ee : k - 5 = e
      · rw [ee, upd_same]; exact n0
      · rw [upd_ne _ _ ee]; exact k5 q
  · show ER (a 4) (a 5) (upd (b 3) e (nI st)) (b 6) (b 7) (b 8) (b 9) e'
    obtain ⟨s', h3', e3, z0, z1, z2⟩ := hE e' he'
    by_cases ee : e' = e
    · subst ee
      have s0 : s' ≠ 0 := fun q => hst (by rw [e3, q]; rfl)
      obtain ⟨n', ld, e8, e6, e5, h8, e4, hb1, hn'⟩ := z1 s0
      exact ⟨st, h3, upd_same _ _ _, fun q => absurd q (by omega), fun _ => ⟨n', ld, e8, e6, e5, h8, e4, fun q => absurd q (by omega), hn'⟩, z2⟩
    · exact ⟨s', h3', (upd_ne _ _ ee).trans e3, z0, z1, z2⟩
theorem s_stop {a b : eS} (h : Rel a b) (hw : b 13 1 = 6) (e y z : Int32) : Sim (f_W_stop e a) (f_M_system 8 e y z b) := by
  unfold f_W_stop f_M_system
  rw [show f_M_outside ((8 : Int32) - 1) 10 b = some (0, b) from rfl, bnd_s, if_pos rfl, show f_M_bad 8 e y z b = bnd (f_M_outside e 2 b) (fun r1 s2 => if r1 = 0 then some (0, s2) else some (1, s2)) from rfl]
  rcases rng e 3 (by decide) with he | ⟨i, hi, rfl⟩
  · rw [pW_isEnclave_n he, pM_out_n (N := 2) (n := 2) rfl (by decide) he, bnd_s, bnd_s, if_pos rfl, if_neg (by decide), bnd_s, if_neg (by decide)]; exact Sim.of h
  · rw [pW_isEnclave hi, pM_out (N := 2) (n := 2) rfl (by decide) hi, bnd_s, bnd_s, if_neg (by decide), if_pos rfl, bnd_s, if_pos rfl, show f_M_wrongState 8 (nI i) y b = ix (nI i) 3 (if b 3 (Int32.toNatClampNeg (nI i)) = 2 then some (0, b) else some (1, b)) from rfl, ix_nI hi (by decide), ix_nI hi (by decide), ix_nI hi (by decide), cl_nI (by omega), h.1.2.1]
    by_cases hs : b 3 i = 2
    · rw [if_pos hs, if_pos hs, nm_s, bnd_s, if_pos rfl, show f_M_taken 8 (nI i) y z b = some (0, b) from rfl, bnd_s, if_pos rfl, show f_M_full 8 (nI i) b = some (0, b) from rfl, bnd_s, if_pos rfl, if_neg (by decide), if_neg (by decide), show f_M_perform 8 (nI i) y z b = ix (nI i) 3 (nm (wr b 3 (Int32.toNatClampNeg (nI i)) 3) fun s26 => some ((), s26)) from rfl, ix_nI hi (by decide), nm_s, bnd_s, cl_nI (by omega)]
      exact Sim.of (rel_state (st := 3) h hi (by rw [hs]; decide) (by decide) (by decide) hw)
    · rw [if_neg hs, if_neg hs, bnd_s, if_neg (by decide)]; exact Sim.of h
