/-! single writes keep the relation; the plain calls -/
theorem lit_add {N : Int32} {n : Nat} (hN : N = nI n) (j : Nat) : N + nI j = nI (n + j) := by subst hN; exact nI_add n j
theorem lit_mul {N : Int32} {n : Nat} (hN : N = nI n) (j : Nat) : N * nI j = nI (n * j) := by subst hN; exact pk_mul n j
theorem pM_uses6 {p : Nat} {a1 : Nat → Int32} {b : eS} (h : p < 256) (hK : rK a1 (b 1) (b 2) (b 3) (b 4) (b 5)) : f_M_uses (6 : Int32) (nI p) b = some (sysU (a1 (p / 16)), b) := pM_uses (c := 6) (by decide) h hK
theorem rel_mem {a b : eS} {i : Nat} {x : Int32} (h : Rel a b) : Rel (wr a 0 i x) (wr b 0 i x) := by
  obtain ⟨hG, hR, hS, hX, hW, hK, hE, hT⟩ := h
  exact ⟨⟨congrArg (fun m => upd m i x) hG.1, hG.2⟩, hR.wr (by decide), hS, hX, hW, hK, hE, hT⟩
theorem rel_up0 {a b : eS} {i n : Nat} (h : Rel a b) : Rel (up a 0 (wz (a 0) i n)) (up b 0 (wz (b 0) i n)) := by
  obtain ⟨hG, hR, hS, hX, hW, hK, hE, hT⟩ := h
  exact ⟨⟨congrArg (fun m => wz m i n) hG.1, hG.2⟩, hR.up (by decide), hS, hX, hW, hK, hE, hT⟩
theorem rR_reg {a : eS} {b11 : Nat → Int32} {c k : Nat} {v : Int32} (h : rR a b11) (hc : c < 7) (h0 : 0 < k) (hk : k < 8) : rR (wr a (10 + c) k v) (upd b11 (8 * c + k) v) := by
  refine ⟨fun c' hc' k' hk' => ?_, fun c' hc' => ?_⟩
  · by_cases e : c' = c
    · subst e
      rw [wr_same]
      by_cases e2 : k' = k
      · subst e2; rw [upd_same, upd_same]
      · rw [upd_ne _ _ e2, upd_ne _ _ (by omega)]; exact h.1 _ hc' _ hk'
    · rw [wr_ne _ _ _ (by omega), upd_ne _ _ (by omega)]; exact h.1 _ hc' _ hk'
  · rw [upd_ne _ _ (by omega)]; exact h.2 _ hc'
theorem rel_reg {a b : eS} {c k : Nat} {v : Int32} (h : Rel a b) (hc : c < 7) (h0 : 0 < k) (hk : k < 8) : Rel (wr a (10 + c) k v) (wr b 11 (8 * c + k) v) := by
  obtain ⟨hG, hR, hS, hX, hW, hK, hE, hT⟩ := h
  have hR' := rR_reg (v := v) hR hc h0 hk
  rcases (show c = 0 ∨ c = 1 ∨ c = 2 ∨ c = 3 ∨ c = 4 ∨ c = 5 ∨ c = 6 by omega) with rfl | rfl | rfl | rfl | rfl | rfl | rfl <;> exact ⟨hG, hR', hS, hX, hW, hK, hE, hT⟩
theorem rel_pc {a b : eS} {c : Nat} {v : Int32} (h : Rel a b) : Rel (wr a 8 c v) (wr b 12 c v) := by
  obtain ⟨hG, hR, hS, hX, hW, hK, hE, hT⟩ := h
  exact ⟨⟨hG.1, hG.2.1, hG.2.2.1, hG.2.2.2.1, congrArg (fun m => upd m c v) hG.2.2.2.2⟩, hR.wr (by decide), hS, hX, hW, hK, hE, hT⟩
theorem rel_halt {a b : eS} {v : Int32} (h : Rel a b) (hv : v = 0 ∨ v = 1) : Rel (wr a 9 1 v) (wr b 13 2 v) := by
  obtain ⟨hG, hR, hS, hX, hW, hK, hE, hT⟩ := h
  exact ⟨hG, hR.wr (by decide), ⟨hS.1, rfl, hv, hS.2.2.2⟩, hX, hW, hK, hE, hT⟩
theorem rel_period {a b : eS} {v : Int32} (h : Rel a b) : Rel (wr a 9 3 v) (wr b 13 3 v) := by
  obtain ⟨hG, hR, hS, hX, hW, hK, hE, hT⟩ := h
  exact ⟨hG, hR.wr (by decide), ⟨hS.1, hS.2.1, hS.2.2.1, rfl, hS.2.2.2.2⟩, hX, hW, hK, hE, hT⟩
theorem rel_tick {a b : eS} (h : Rel a b) : Rel (wr a 9 4 (a 9 4 + 1)) (wr b 13 4 (b 13 4 + 1)) := by
  obtain ⟨hG, hR, hS, hX, hW, hK, hE, hT⟩ := h
  exact ⟨hG, hR.wr (by decide), ⟨hS.1, hS.2.1, hS.2.2.1, hS.2.2.2.1, congrArg (fun x => x + 1) hS.2.2.2.2⟩, hX, hW, hK, hE, hT⟩
theorem s_poke {a b : eS} (h : Rel a b) (p w : Int32) : Sim (f_W_poke p w a) (f_M_poke p w b) := by
  have hK := h.2.2.2.2.2.1
  unfold f_W_poke f_M_poke
  rcases rng p 256 (by decide) with hp | ⟨j, hj, rfl⟩
  · rw [pW_sys_n hp, pM_uses_n hp, bnd_s, bnd_s, if_pos rfl, if_pos rfl]; exact Sim.of h
  · rw [pW_sys hj, pM_uses6 hj hK, bnd_s, bnd_s]
    by_cases hu : sysU (a 1 (j / 16)) = 0
    · rw [if_pos hu, if_pos hu]; exact Sim.of h
    · rw [if_neg hu, if_neg hu, ix_nI hj (by decide), ix_nI hj (by decide), nm_s, nm_s, cl_nI (by omega)]
      exact Sim.of (rel_mem h)
theorem s_peek {a b : eS} (h : Rel a b) (p : Int32) : Sim (f_W_peek p a) (f_M_peek p b) := by
  have hK := h.2.2.2.2.2.1
  unfold f_W_peek f_M_peek
  rcases rng p 256 (by decide) with hp | ⟨j, hj, rfl⟩
  · rw [pW_sys_n hp, pM_uses_n hp, bnd_s, bnd_s, if_pos rfl, if_pos rfl]; exact Sim.of h
  · rw [pW_sys hj, pM_uses6 hj hK, bnd_s, bnd_s]
    by_cases hu : sysU (a 1 (j / 16)) = 0
    · rw [if_pos hu, if_pos hu]; exact Sim.of h
    · rw [if_neg hu, if_neg hu, ix_nI hj (by decide), ix_nI hj (by decide), cl_nI (by omega), h.1.1]
      exact Sim.of h
theorem s_bare {a b : eS} (h : Rel a b) (p : Int32) : Sim (f_W_bare p a) (f_M_bare p b) := by
  unfold f_W_bare f_M_bare
  rcases rng p 256 (by decide) with hp | ⟨j, hj, rfl⟩
  · rw [pW_isAddress_n hp, pM_out_n (N := 255) (n := 255) rfl (by decide) hp, bnd_s, bnd_s, if_pos rfl, if_neg (by decide)]; exact Sim.of h
  · rw [pW_isAddress hj, pM_out (N := 255) (n := 255) rfl (by decide) hj, bnd_s, bnd_s, if_neg (by decide), if_pos rfl, ix_nI hj (by decide), ix_nI hj (by decide), cl_nI (by omega), h.1.1]
    exact Sim.of h
theorem s_give {a b : eS} (h : Rel a b) (k v : Int32) : Sim (f_W_give k v a) (f_M_give k v b) := by
  obtain ⟨c, hc, h1, h2, -⟩ := h.2.2.2.2.1
  unfold f_W_give f_M_give f_W_give_19 f_M_give_20
  rcases rng k 8 (by decide) with hk | ⟨j, hj, rfl⟩
  · by_cases k1 : k < 1
    · rw [if_pos k1, if_pos k1]; exact Sim.of h
    · have k8 : (8 : Int32) ≤ k := hk.resolve_left (fun q => k1 (by
        rw [Int32.lt_iff_toInt_lt] at q ⊢
        have e0 : (0 : Int32).toInt = 0 := by decide
        have e1 : (1 : Int32).toInt = 1 := by decide
        omega))
      have k7 : (7 : Int32) < k := by
        rw [Int32.le_iff_toInt_le] at k8
        rw [Int32.lt_iff_toInt_lt]
        have e0 : (8 : Int32).toInt = 8 := by decide
        have e1 : (7 : Int32).toInt = 7 := by decide
        omega
      rw [if_neg k1, if_neg k1, if_pos k8, if_pos k7]; exact Sim.of h
  · by_cases j0 : j = 0
    · subst j0
      rw [if_pos (show nI 0 < 1 by decide), if_pos (show nI 0 < 1 by decide)]; exact Sim.of h
    · have k1 : ¬ nI j < (1 : Int32) := nI_nlt (b := 1) (by omega) (by omega)
      have k8 : ¬ (8 : Int32) ≤ nI j := nI_ge (b := 8) hj (by decide)
      have k7 : ¬ (7 : Int32) < nI j := nI_nlt (a := 7) (by omega) (by decide)
      rw [if_neg k1, if_neg k1, if_neg k8, if_neg k7, h1, h2]
      by_cases c6 : c = 6
      · subst c6
        rw [if_pos rfl, if_pos rfl, if_pos (show (6 : Int32) ≤ nI 6 by decide), pC_put (by omega) hj, bnd_s, lit_add (N := 48) (n := 48) rfl, ix_nI (by omega) (by decide), nm_s, cl_nI (by omega)]
        exact Sim.of (rel_reg (c := 6) h (by decide) (by omega) hj)
      · rw [if_neg c6, if_neg (nI_m1 (by omega)), if_neg (show ¬ (6 : Int32) ≤ nI c from nI_ge (b := 6) (by omega) (by decide))]; exact Sim.of h
theorem s_register {a b : eS} (h : Rel a b) (k : Int32) : Sim (f_W_register k a) (f_M_register k b) := by
  unfold f_W_register f_M_register
  rcases rng k 8 (by decide) with hk | ⟨j, hj, rfl⟩
  · rw [pC_get_n hk, pM_out_n (N := 7) (n := 7) rfl (by decide) hk, bnd_s, bnd_s, if_neg (by decide)]; exact Sim.of h
  · rw [pC_get hj, pM_out (N := 7) (n := 7) rfl (by decide) hj, bnd_s, bnd_s, if_pos rfl, lit_add (N := 48) (n := 48) rfl, ix_nI (by omega) (by decide), cl_nI (by omega), h.2.1.1 6 (by decide) j hj]
    exact Sim.of h
theorem s_pc {a b : eS} (h : Rel a b) : Sim (f_W_pc a) (f_M_pc b) := by
  have e : f_M_pc b = some (b 12 6, b) := rfl
  rw [e]
  unfold f_W_pc
  rw [h.1.2.2.2.2]
  exact Sim.of h
theorem s_boot {a b : eS} (h : Rel a b) (x : Int32) : Sim (f_W_boot x a) (f_M_boot x b) := by
  obtain ⟨c, hc, h1, h2, -⟩ := h.2.2.2.2.1
  unfold f_W_boot f_M_boot
  rw [h1, h2]
  by_cases c6 : c = 6
  · subst c6
    rw [if_pos rfl, if_pos rfl, if_pos (show (6 : Int32) ≤ nI 6 by decide)]
    exact Sim.of (rel_halt (rel_pc (c := 6) h) (Or.inl rfl))
  · rw [if_neg c6, if_neg (nI_m1 (by omega)), if_neg (show ¬ (6 : Int32) ≤ nI c from nI_ge (b := 6) (by omega) (by decide))]; exact Sim.of h
theorem s_halted {a b : eS} (h : Rel a b) : Sim (f_W_halted a) (f_M_halted b) := by
  have hS := h.2.2.1
  unfold f_W_halted f_M_halted
  rw [hS.2.1, bz_01 hS.2.2.1, bz_01 hS.2.2.1]
  exact Sim.of h
theorem s_period {a b : eS} (h : Rel a b) (x : Int32) : SimU (f_W_period x a) (f_M_period x b) := SimU.of (rel_period h)
theorem s_tick {a b : eS} (h : Rel a b) : Sim (f_W_tick a) (f_M_tick b) := by
  unfold f_W_tick f_M_tick
  rw [h.2.2.1.2.2.2.2]
  exact Sim.of h
theorem s_running {a b : eS} (h : Rel a b) : Sim (f_W_running a) (f_M_running b) := by
  obtain ⟨c, hc, h1, h2, -⟩ := h.2.2.2.2.1
  unfold f_W_running f_M_running
  rw [h1, h2]
  by_cases c6 : c = 6
  · subst c6; rw [if_pos rfl, if_pos (show nI 6 = (6 : Int32) from rfl)]; exact Sim.of h
  · rw [if_neg c6, if_neg (show ¬ nI c = (6 : Int32) from nI_ne (b := 6) (by omega) (by decide) c6)]; exact Sim.of h
theorem s_region {a b : eS} (h : Rel a b) (r : Int32) : Sim (f_W_region r a) (f_M_region r b) := by
  unfold f_W_region f_M_region
  rcases rng r 16 (by decide) with hp | ⟨j, hj, rfl⟩
  · rw [pW_isRegion_n hp, pM_out_n (N := 15) (n := 15) rfl (by decide) hp, bnd_s, bnd_s, if_pos rfl, if_neg (by decide)]; exact Sim.of h
  · rw [pW_isRegion hj, pM_out (N := 15) (n := 15) rfl (by decide) hj, bnd_s, bnd_s, if_neg (by decide), if_pos rfl, ix_nI hj (by decide), cl_nI (by omega), pM_kind hj (h.2.2.2.2.2.1 j hj), bnd_s]
    exact Sim.of h
theorem s_enclave {a b : eS} (h : Rel a b) (r : Int32) : Sim (f_W_enclave r a) (f_M_enclave r b) := by
  unfold f_W_enclave f_M_enclave
  rcases rng r 3 (by decide) with hp | ⟨j, hj, rfl⟩
  · rw [pW_isEnclave_n hp, pM_out_n (N := 2) (n := 2) rfl (by decide) hp, bnd_s, bnd_s, if_pos rfl, if_neg (by decide)]; exact Sim.of h
  · rw [pW_isEnclave hj, pM_out (N := 2) (n := 2) rfl (by decide) hj, bnd_s, bnd_s, if_neg (by decide), if_pos rfl, ix_nI hj (by decide), ix_nI hj (by decide), cl_nI (by omega), h.1.2.1]
    exact Sim.of h
theorem pM_thread {e t : Nat} {b : eS} (he : e < 3) (ht : t < 2) : f_M_thread (nI e) (nI t) b = some (b 9 (2 * e + t), b) := by
  unfold f_M_thread
  rw [pM_out (N := 2) (n := 2) rfl (by decide) he, bnd_s, if_pos rfl, pM_out (N := 1) (n := 1) rfl (by decide) ht, bnd_s, if_pos rfl, lit_mul (N := 2) (n := 2) rfl, nI_add, ix_nI (by omega) (by decide), cl_nI (by omega)]
theorem pM_thread_ne {e t : Int32} {b : eS} (he : e < 0 ∨ nI 3 ≤ e) : f_M_thread e t b = some (0, b) := by
  unfold f_M_thread f_M_thread_16
  rw [pM_out_n (N := 2) (n := 2) rfl (by decide) he, bnd_s, if_neg (by decide)]
theorem pM_thread_nt {e : Nat} {t : Int32} {b : eS} (he : e < 3) (ht : t < 0 ∨ nI 2 ≤ t) : f_M_thread (nI e) t b = some (0, b) := by
  unfold f_M_thread f_M_thread_16
  rw [pM_out (N := 2) (n := 2) rfl (by decide) he, bnd_s, if_pos rfl, pM_out_n (N := 1) (n := 1) rfl (by decide) ht, bnd_s, if_neg (by decide)]
theorem s_thread {a b : eS} (h : Rel a b) (e t : Int32) : Sim (f_W_thread e t a) (f_M_thread e t b) := by
  unfold f_W_thread f_W_thread_31
  rcases rng e 3 (by decide) with he | ⟨i, hi, rfl⟩
  · rw [pW_isEnclave_n he, pM_thread_ne he, bnd_s, if_pos rfl]; exact Sim.of h
  · rw [pW_isEnclave hi, bnd_s, if_neg (by decide)]
    rcases rng t 2 (by decide) with ht | ⟨j, hj, rfl⟩
    · rw [pW_isThread_n ht, pM_thread_nt hi ht, bnd_s, if_pos rfl]; exact Sim.of h
    · rw [pW_isThread hj, bnd_s, if_neg (by decide), ix_nI hi (by decide), ix_nI hj (by decide), cl_nI (by omega), cl_nI (by omega), pM_thread hi hj, h.1.2.2.1]
      exact Sim.of h
theorem s_kept {a b : eS} (h : Rel a b) (e t k : Int32) : Sim (f_W_kept e t k a) (f_M_kept e t k b) := by
  unfold f_W_kept f_W_kept_14 f_M_kept f_M_kept_19
  rcases rng e 3 (by decide) with he | ⟨i, hi, rfl⟩
  · rw [pW_isEnclave_n he, pM_thread_ne he, bnd_s, bnd_s, if_pos rfl, if_pos (by decide)]; exact Sim.of h
  · rw [pW_isEnclave hi, bnd_s, if_neg (by decide)]
    rcases rng t 2 (by decide) with ht | ⟨j, hj, rfl⟩
    · rw [pW_isThread_n ht, pM_thread_nt hi ht, bnd_s, bnd_s, if_pos rfl, if_pos (by decide)]; exact Sim.of h
    · rw [pW_isThread hj, bnd_s, if_neg (by decide), ix_nI hi (by decide), ix_nI hj (by decide), nm_s, cl_nI (by omega), cl_nI (by omega), pM_thread hi hj, bnd_s, h.1.2.2.1]
      obtain ⟨q, hq, hq2⟩ := h.2.2.2.2.2.2.2 (2 * i + j) (by omega)
      have g8 : f_W_kept_49 k (2 * i + j) a = if k = (8 : Int32) then some (a 8 (2 * i + j), a) else f_C_get (2 * i + j) k a := by
        unfold f_W_kept_49
        split
        · rfl
        · cases f_C_get (2 * i + j) k a <;> rfl
      have key : Sim (f_W_kept_49 k (2 * i + j) a) (bnd (f_M_outside k (8 : Int32) b) fun r4 s5 => (if r4 = 0 then (if k = (8 : Int32) then ix (((2 : Int32) * nI i) + nI j) 7 (some ((s5 12 (Int32.toNatClampNeg (((2 : Int32) * nI i) + nI j))), s5)) else ix ((((16 : Int32) * nI i) + ((8 : Int32) * nI j)) + k) 56 (some ((s5 11 (Int32.toNatClampNeg ((((16 : Int32) * nI i) + ((8 : Int32) * nI j)) + k))), s5))) else (some ((0 : Int32), s5)))) := by
        rw [g8]
        rcases rng k 9 (by decide) with hk | ⟨x, hx, rfl⟩
        · have k8 : ¬ k = (8 : Int32) := fun q => by subst q; rcases hk with q | q <;> revert q <;> decide
          have k9 : k < 0 ∨ nI 8 ≤ k := hk.imp id (fun q => by
            rw [Int32.le_iff_toInt_le] at q ⊢
            rw [nI_toInt (by decide)] at q ⊢
            omega)
          rw [if_neg k8, pC_get_n k9, pM_out_n (N := 8) (n := 8) rfl (by decide) hk, bnd_s, if_neg (by decide)]; exact Sim.of h
        · rw [pM_out (N := 8) (n := 8) rfl (by decide) hx, bnd_s, if_pos rfl]
          by_cases x8 : x = 8
          · subst x8
            rw [if_pos (show nI 8 = (8 : Int32) from rfl), if_pos (show nI 8 = (8 : Int32) from rfl), lit_mul (N := 2) (n := 2) rfl, nI_add, ix_nI (by omega) (by decide), cl_nI (by omega), h.1.2.2.2.2]
            exact Sim.of h
          · have k8 : ¬ nI x = (8 : Int32) := nI_ne (b := 8) (by omega) (by decide) x8
            rw [if_neg k8, if_neg k8, pC_get (by omega), lit_mul (N := 16) (n := 16) rfl, lit_mul (N := 8) (n := 8) rfl, nI_add, nI_add, ix_nI (by omega) (by decide), cl_nI (by omega), h.2.1.1 (2 * i + j) (by omega) x (by omega), show 8 * (2 * i + j) + x = 16 * i + 8 * j + x by omega]
            exact Sim.of h
      rw [hq2]
      rcases (show q = 0 ∨ q = 1 ∨ q = 2 ∨ q = 3 by omega) with rfl | rfl | rfl | rfl
      · rw [if_neg (by decide), if_neg (by decide), if_pos (by decide)]; exact Sim.of h
      · rw [if_neg (by decide), if_neg (by decide), if_pos (by decide)]; exact Sim.of h
      · rw [if_pos (by decide), if_neg (by decide)]; exact key
      · rw [if_neg (by decide), if_pos (by decide), if_neg (by decide)]; exact key
theorem s_vouch {a b : eS} (h : Rel a b) (m d c : Int32) : Sim (f_W_vouch m d c a) (f_M_vouch m d c b) := by
  unfold f_W_vouch f_M_vouch
  rw [pW_mac, pM_mac, bnd_s, bnd_s, h.2.2.1.1]
  split <;> exact Sim.of h
theorem s_exit {a b : eS} (h : Rel a b) (k : Int32) : Sim (f_W_exit k a) (f_M_exit k b) := by
  obtain ⟨x0, x1, x2, x3, x4⟩ := h.2.2.2.1
  unfold f_W_exit f_W_exit_22 f_M_exit
  rcases rng k 5 (by decide) with hk | ⟨j, hj, rfl⟩
  · have n0 : ¬ k = 0 := fun q => by subst q; rcases hk with q | q <;> revert q <;> decide
    have n1 : ¬ k = 1 := fun q => by subst q; rcases hk with q | q <;> revert q <;> decide
    have n2 : ¬ k = 2 := fun q => by subst q; rcases hk with q | q <;> revert q <;> decide
    have n3 : ¬ k = 3 := fun q => by subst q; rcases hk with q | q <;> revert q <;> decide
    have n4 : ¬ k = 4 := fun q => by subst q; rcases hk with q | q <;> revert q <;> decide
    rw [if_neg n0, if_neg n1, if_neg n2, if_neg n3, if_neg n4]
    by_cases k0 : k < 0
    · rw [if_pos k0]; exact Sim.of h
    · rw [if_neg k0, if_pos (show (5 : Int32) ≤ k from hk.resolve_left k0)]; exact Sim.of h
  · rw [if_neg (nI_pos (by omega)), if_neg (show ¬ (5 : Int32) ≤ nI j from nI_ge (b := 5) hj (by decide)), ix_nI hj (by decide), cl_nI (by omega)]
    rcases (show j = 0 ∨ j = 1 ∨ j = 2 ∨ j = 3 ∨ j = 4 by omega) with rfl | rfl | rfl | rfl | rfl
    · rw [if_pos (by decide), x0]; exact Sim.of h
    · rw [if_neg (by decide), if_pos (by decide), x1]; exact Sim.of h
    · rw [if_neg (by decide), if_neg (by decide), if_pos (by decide), x2]; exact Sim.of h
    · rw [if_neg (by decide), if_neg (by decide), if_neg (by decide), if_pos (by decide), x3]; exact Sim.of h
    · rw [if_neg (by decide), if_neg (by decide), if_neg (by decide), if_neg (by decide), if_pos (by decide), x4]; exact Sim.of h
