/-! a step, a run, the calls from outside -/
theorem mO_ask {b : eS} {c : Nat} {w v : Int32} (hc : c ≤ 6) (h1 : b 13 1 = nI c) (h11 : (w &&& 15) = 11) : mObey v w b = bnd (f_M_ask (w >>> ((16 : Int32) &&& 31)) b) fun _ s5 => some ((), s5) := by
  obtain ⟨j7, hj7, e7⟩ := pk_andE (w >>> ((7 : Int32) &&& 31)) (m := 7) 3 (by decide)
  obtain ⟨j10, hj10, e10⟩ := pk_andE (w >>> ((10 : Int32) &&& 31)) (m := 7) 3 (by decide)
  unfold mObey
  rw [h11, e7, e10, nm_s, nm_s, nm_s, h1, lit_mul (N := 8) (n := 8) rfl, nI_add, ix_nI (by omega) (by decide), nm_s, nI_add, ix_nI (by omega) (by decide), nm_s, nm_s, if_neg (by decide), if_pos (by decide)]
  rfl
theorem s_core {a b : eS} {c : Nat} (h : Rel a b) (hc : c ≤ 6) (h1 : b 13 1 = nI c) (h2 : a 9 2 = if c = 6 then (-1 : Int32) else nI c) : SimU (f_W_step_45 a) (f_M_step_55 b) := by
  have e1 : f_W_step_45 a = f_W_step_67 c a := by
    unfold f_W_step_45
    by_cases c6 : c = 6
    · rw [h2, if_pos c6, if_pos rfl, c6]
    · have h3 : a 9 2 = nI c := by rw [h2, if_neg c6]
      rw [if_neg (by rw [h3]; exact nI_m1 (by omega)), pW_rt (by omega) h3, bnd_s]
  have e2 : f_M_step_55 b = ix (b 13 1) 7 (nm (b 12 (Int32.toNatClampNeg (b 13 1))) fun v1 => bnd (f_M_uses (b 13 1) v1 b) fun r2 s3 => if r2 = 0 then bnd (f_M_fault 3 s3) fun _ s13 => some ((), s13) else ix v1 256 (nm (s3 0 (Int32.toNatClampNeg v1)) fun v5 => mObey v1 v5 s3)) := rfl
  rw [e1, e2]
  unfold f_W_step_67
  obtain ⟨u, u1, u2, u3⟩ := s_use h hc h2 (b 12 c)
  rw [nm_s, h.1.2.2.2.2, u1, bnd_s, h1, ix_nI (by omega) (by decide), nm_s, nm_s, cl_nI (by omega), u2, bnd_s, h.1.2.2.2.2]
  by_cases u0 : u = 0
  · rw [if_pos u0, if_pos u0]
    obtain ⟨a', b', q1, q2, q3⟩ := s_fault (k := 3) h hc h1 h2
    rw [q1, q2, bnd_s, bnd_s]
    exact SimU.of q3
  · obtain ⟨i, hi, hpc⟩ := u3 u0
    rw [if_neg u0, if_neg u0, hpc, ix_nI hi (by decide), ix_nI hi (by decide), nm_s, cl_nI (by omega), h.1.1]
    by_cases o11 : (b 0 i &&& 15) = 11
    · rw [if_pos o11, mO_ask hc h1 o11]
      obtain ⟨a', b', q1, q2, q3⟩ := s_ask (f := b 0 i >>> ((16 : Int32) &&& 31)) h hc h1 h2
      rw [q1, q2, bnd_s, bnd_s]
      exact SimU.of q3
    · rw [if_neg o11, ← hpc]
      obtain ⟨a', b', q1, q2, q3⟩ := s_obey h hc h1 h2 o11
      rw [q1, q2, bnd_s]
      exact SimU.of q3
theorem s_step {a b : eS} (h : Rel a b) : SimU (f_W_step a) (f_M_step b) := by
  have R := rel_tick h
  unfold f_W_step f_M_step
  rw [nm_s, nm_s]
  generalize wr a 9 4 (a 9 4 + 1) = a1 at *
  generalize wr b 13 4 (b 13 4 + 1) = b1 at *
  obtain ⟨c, hc, h1, h2, h3⟩ := R.2.2.2.2.1
  have C := s_core R hc h1 h2
  by_cases c6 : c = 6
  · rw [h1, h2, if_pos c6, if_pos rfl, if_pos (show (6 : Int32) ≤ nI c by rw [c6]; decide)]
    exact C
  · have w2 : a1 9 2 = nI c := by rw [h2, if_neg c6]
    rw [h1, w2, if_neg (nI_m1 (by omega)), if_neg (show ¬ (6 : Int32) ≤ nI c from nI_ge (b := 6) (by omega) (by decide)), R.2.2.1.2.2.2.1, R.2.2.1.2.2.2.2]
    by_cases p0 : b1 13 3 ≤ 0
    · rw [if_pos p0, if_pos p0]; exact C
    · have pz : ¬ b1 13 3 = 0 := fun q => p0 (by rw [q]; decide)
      unfold nz
      rw [if_neg p0, if_neg p0, if_neg pz, if_neg pz]
      by_cases t0 : b1 13 4 - b1 13 4 / b1 13 3 * b1 13 3 = 0
      · rw [if_pos t0, if_pos t0, pW_leave (by omega) w2, bnd_s, ix_nI (by omega) (by decide), nm_s, cl_nI (by omega), pM_leave (b := wr b1 9 c 3) (c := c) (by omega) h1, bnd_s]
        exact SimU.of (rel_leave (q := 3) R (by omega) h1 (by decide) (by decide))
      · rw [if_neg t0, if_neg t0]; exact C
theorem run_loop {N : Nat} (hN : N ≤ 1000) : ∀ (m k fl fl' : Nat) (a b : eS), Rel a b → k + m = N → m < fl → m < fl' → Sim (f_W_run_15 fl (nI N) (nI k) a) (f_M_run_14 fl' (nI N) (nI k) b) := by
  intro m
  induction m with
  | zero =>
    intro k fl fl' a b h hk hf hf'
    obtain ⟨fl, rfl⟩ : ∃ q, fl = q + 1 := ⟨fl - 1, by omega⟩
    obtain ⟨fl', rfl⟩ : ∃ q, fl' = q + 1 := ⟨fl' - 1, by omega⟩
    have hl : nI N ≤ nI k := nI_le (by omega) (by omega)
    rw [f_W_run_15, if_pos hl, f_M_run_14, if_pos hl, f_M_run_45, show k = N by omega]
    exact Sim.of h
  | succ m ih =>
    intro k fl fl' a b h hk hf hf'
    obtain ⟨fl, rfl⟩ : ∃ q, fl = q + 1 := ⟨fl - 1, by omega⟩
    obtain ⟨fl', rfl⟩ : ∃ q, fl' = q + 1 := ⟨fl' - 1, by omega⟩
    have hl : ¬ nI N ≤ nI k := nI_ge (by omega) (by omega)
    obtain ⟨c, hc, h1, h2, h3⟩ := h.2.2.2.2.1
    obtain ⟨a', b', q1, q2, q3⟩ := s_step h
    have nx := ih (k + 1) fl fl' a' b' q3 (by omega) (by omega) (by omega)
    rw [f_W_run_15, if_neg hl, f_M_run_14, if_neg hl, q1, q2, bnd_s, bnd_s, nm_s, nm_s, nI_1, h1, h2, h.2.2.1.2.1]
    by_cases c6 : c = 6
    · rw [if_pos (show nI c = (6 : Int32) by rw [c6]; rfl)]
      by_cases t0 : b 13 2 = 0
      · rw [if_pos t0, if_pos t0]; exact nx
      · rw [if_neg t0, if_neg t0, if_pos (show (if c = 6 then (-1 : Int32) else nI c) = -1 by rw [if_pos c6]), f_M_run_45]; exact Sim.of h
    · rw [if_neg (show ¬ nI c = (6 : Int32) from nI_ne (b := 6) (by omega) (by decide) c6), if_neg (show ¬ (if c = 6 then (-1 : Int32) else nI c) = -1 by rw [if_neg c6]; exact nI_m1 (by omega))]
      by_cases t0 : b 13 2 = 0
      · rw [if_pos t0]; exact nx
      · rw [if_neg t0]; exact nx
theorem s_run {a b : eS} (h : Rel a b) (n : Int32) : Sim (f_W_run n a) (f_M_run n b) := by
  unfold f_W_run f_W_run_11 f_M_run
  rw [nm_s, nm_s]
  rcases rng n 1001 (by decide) with hp | ⟨N, hN, rfl⟩
  · rw [pM_out_n (N := 1000) (n := 1000) rfl (by decide) hp, bnd_s, if_neg (show ¬ (1 : Int32) = 0 by decide)]
    by_cases n0 : n < 0
    · rw [if_pos n0]; exact Sim.of h
    · rw [if_neg n0, if_neg]
      · exact Sim.of h
      · intro q
        have q2 := hp.resolve_left n0
        rw [Int32.le_iff_toInt_le] at q q2
        have e0 : (1000 : Int32).toInt = 1000 := by decide
        rw [nI_toInt (by decide)] at q2
        omega
  · rw [pM_out (N := 1000) (n := 1000) rfl (by decide) hN, bnd_s, if_pos rfl, if_neg (nI_pos (by omega)), if_pos (show nI N ≤ 1000 from nI_le (b := 1000) (by omega) (by decide))]
    exact run_loop (by omega) N 0 fu fu a b h (by omega) (show N < 2000 by omega) (show N < 2000 by omega)
theorem s_call {a b : eS} (h : Rel a b) (f x y z : Int32) : Sim (f_W_call f x y z a) (f_M_call f x y z b) := by
  obtain ⟨c, hc, h1, h2, h3⟩ := h.2.2.2.2.1
  unfold f_W_call f_M_call
  rw [bnd_id, bnd_id, h1, h2]
  by_cases c6 : c = 6
  · rw [if_pos c6, if_pos rfl, if_pos (show (6 : Int32) ≤ nI c by rw [c6]; decide)]
    exact s_system h (by rw [h1, c6]; rfl) f x y z
  · rw [if_neg c6, if_neg (nI_m1 (by omega)), if_neg (show ¬ (6 : Int32) ≤ nI c from nI_ge (b := 6) (by omega) (by decide))]
    exact Sim.of h
