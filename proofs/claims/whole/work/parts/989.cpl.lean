/-! both sides hold one A -/
def A0 : Ast := (fun _ => 0, fun _ _ => 0, 2, 0, fun _ _ => 0, 0, fun _ _ => 0, fun _ => -1, fun _ => 0, fun _ _ => 0, 0)
def Cpl (MX MR : Mem) : Prop := ∃ A, okA A ∧ IX A MX ∧ IR A MR
theorem am0 (t : Nat) : am A0 t = 0 := by
  show mnt t (abt A0 t) 0 = 0
  unfold mnt
  split
  · rfl
  · split <;> rfl
theorem Cpl0 : Cpl MX0 MR0 := by
  have t0 : ∀ i, tld A0 0 i = 0 := fun i => by simp [tld, am0]
  have t1 : ∀ i, tld A0 1 i = 0 := fun i => by simp [tld, am0]
  have t20 : tld A0 2 0 = 0 := by simp [tld, am0]
  have t21 : tld A0 2 1 = 0 := by simp [tld, am0]
  have t22 : tld A0 2 2 = 2 := by simp [tld, A0, awd]
  have t23 : tld A0 2 3 = 0 := by simp [tld, A0, aev]
  refine ⟨A0, ⟨fun t _ => Nat.zero_le _, by decide, by decide, fun e he => absurd he (Nat.not_lt_zero _), by decide, fun e he => absurd he (Nat.not_lt_zero _), fun s _ => Or.inl rfl, fun s _ => Nat.zero_le _⟩, ⟨fun t ht => ?_, ?_, rfl, ⟨rfl, fun j hj => absurd hj (Nat.not_lt_zero _)⟩, fun s hs => ?_, rfl, ⟨fun q => absurd q (by decide), fun q => absurd q (by decide)⟩⟩, ?_⟩
  · rcases t with _ | _ | _ | _ | t
    · exact ⟨rfl, rfl, fun i hi => absurd hi (Nat.not_lt_zero _)⟩
    · exact ⟨rfl, rfl, fun i hi => absurd hi (Nat.not_lt_zero _)⟩
    · exact ⟨rfl, rfl, fun i hi => absurd hi (Nat.not_lt_zero _)⟩
    · exact ⟨rfl, rfl, fun i hi => absurd hi (Nat.not_lt_zero _)⟩
    · omega
  · unfold XT
    rw [t20, t21, t22, t23, show fz MX0 = 12 from rfl]
    exact ⟨fun i _ => by rw [t0]; rfl, fun i _ => by rw [t1]; rfl, rfl, rfl, rfl, rfl, fun k hk => absurd hk (Nat.not_lt_zero _), fun k hk => absurd hk (Nat.not_lt_zero _), fun k hk => absurd hk (Nat.not_lt_zero _)⟩
  · rcases s with _ | _ | _ | _ | s
    · exact ⟨rfl, rfl, fun i hi => absurd hi (Nat.not_lt_zero _)⟩
    · exact ⟨rfl, rfl, fun i hi => absurd hi (Nat.not_lt_zero _)⟩
    · exact ⟨rfl, rfl, fun i hi => absurd hi (Nat.not_lt_zero _)⟩
    · exact ⟨rfl, rfl, fun i hi => absurd hi (Nat.not_lt_zero _)⟩
    · omega
  · refine ⟨fun t _ => rfl, fun t _ i hi => absurd hi (Nat.not_lt_zero _), rfl, rfl, fun e he => absurd he (Nat.not_lt_zero _), rfl, fun e he => absurd he (Nat.not_lt_zero _), fun s hs => ?_, fun s _ => rfl, fun s _ i hi => absurd hi (Nat.not_lt_zero _), rfl, rfl⟩
    rcases s with _ | _ | _ | _ | s
    · rfl
    · rfl
    · rfl
    · rfl
    · omega
theorem cp_type (MX MR : Mem) (a1 a2 : Int32) (h : Cpl MX MR) : wp_X_type a1 a2 MX (fun r1 MX2 => wp_R_type a1 a2 MR (fun r2 MR2 => r1 = r2 ∧ Cpl MX2 MR2)) := by
  obtain ⟨A, ok, hX, hR⟩ := h
  exact xm_type ok hX (fun M2 hX2 => rm_type ok hR (fun M3 hR3 => ⟨rfl, _, okA_type ok a1 a2, hX2, hR3⟩))
theorem cp_wipe (MX MR : Mem) (a1 : Int32) (h : Cpl MX MR) : wp_X_wipe a1 MX (fun r1 MX2 => wp_R_wipe a1 MR (fun r2 MR2 => r1 = r2 ∧ Cpl MX2 MR2)) := by
  obtain ⟨A, ok, hX, hR⟩ := h
  exact xm_wipe ok hX (fun M2 hX2 => rm_wipe hR (fun M3 hR3 => ⟨rfl, _, okA_wipe ok a1, hX2, hR3⟩))
theorem cp_undo (MX MR : Mem) (a1 : Int32) (h : Cpl MX MR) : wp_X_undo a1 MX (fun r1 MX2 => wp_R_undo a1 MR (fun r2 MR2 => r1 = r2 ∧ Cpl MX2 MR2)) := by
  obtain ⟨A, ok, hX, hR⟩ := h
  exact xm_undo ok hX (fun M2 hX2 => rm_undo ok hR (fun M3 hR3 => ⟨rfl, _, okA_undo ok a1, hX2, hR3⟩))
theorem cp_fault (MX MR : Mem) (a1 : Int32) (h : Cpl MX MR) : wp_X_fault a1 MX (fun r1 => wp_R_fault a1 MR (fun r2 MR2 => r1 = r2 ∧ Cpl MX MR2)) := by
  obtain ⟨A, ok, hX, hR⟩ := h
  exact xq_fault ok hX (rq_fault ok hR (fun M3 hR3 => ⟨rfl, A, ok, hX, hR3⟩))
theorem cp_land (MX MR : Mem) (a1 : Int32) (h : Cpl MX MR) : wp_X_land a1 MX (fun r1 => wp_R_land a1 MR (fun r2 MR2 => r1 = r2 ∧ Cpl MX MR2)) := by
  obtain ⟨A, ok, hX, hR⟩ := h
  exact xq_land hX (rq_land ok hR (fun M3 hR3 => ⟨rfl, A, ok, hX, hR3⟩))
theorem cp_fall (MX MR : Mem) (a1 : Int32) (h : Cpl MX MR) : wp_X_fall a1 MX (fun r1 => wp_R_fall a1 MR (fun r2 MR2 => r1 = r2 ∧ Cpl MX MR2)) := by
  obtain ⟨A, ok, hX, hR⟩ := h
  exact xq_fall hX (rq_fall ok hR (fun M3 hR3 => ⟨rfl, A, ok, hX, hR3⟩))
theorem cp_plough (MX MR : Mem) (a1 a2 : Int32) (h : Cpl MX MR) : wp_X_plough a1 a2 MX (fun r1 => wp_R_plough a1 a2 MR (fun r2 MR2 => r1 = r2 ∧ Cpl MX MR2)) := by
  obtain ⟨A, ok, hX, hR⟩ := h
  exact xq_plough ok hX (rq_plough ok hR (fun M3 hR3 => ⟨rfl, A, ok, hX, hR3⟩))
theorem cp_bus (MX MR : Mem) (a1 : Int32) (h : Cpl MX MR) : wp_X_bus a1 MX (fun r1 => wp_R_bus a1 MR (fun r2 MR2 => r1 = r2 ∧ Cpl MX MR2)) := by
  obtain ⟨A, ok, hX, hR⟩ := h
  exact xq_bus ok hX (rq_bus ok hR (fun M3 hR3 => ⟨rfl, A, ok, hX, hR3⟩))
theorem cp_wind (MX MR : Mem) (a1 : Int32) (h : Cpl MX MR) : wp_X_wind a1 MX (fun r1 MX2 => wp_R_wind a1 MR (fun r2 MR2 => r1 = r2 ∧ Cpl MX2 MR2)) := by
  obtain ⟨A, ok, hX, hR⟩ := h
  exact xm_wind ok hX (fun M2 hX2 => rm_wind hR (fun M3 hR3 => ⟨rfl, _, okA_wind ok a1, hX2, hR3⟩))
theorem cp_event (MX MR : Mem) (a1 a2 a3 : Int32) (h : Cpl MX MR) : wp_X_event a1 a2 a3 MX (fun r1 MX2 => wp_R_event a1 a2 a3 MR (fun r2 MR2 => r1 = r2 ∧ Cpl MX2 MR2)) := by
  obtain ⟨A, ok, hX, hR⟩ := h
  exact xm_event ok hX (fun M2 hX2 => rm_event ok hR (fun M3 hR3 _ => ⟨rfl, _, okA_event ok a1 a2 a3, hX2, hR3⟩))
theorem cp_back (MX MR : Mem) (h : Cpl MX MR) : wp_X_back MX (fun r1 MX2 => wp_R_back MR (fun r2 MR2 => r1 = r2 ∧ Cpl MX2 MR2)) := by
  obtain ⟨A, ok, hX, hR⟩ := h
  exact xm_back ok hX (fun M2 hX2 => rm_back ok hR (fun M3 hR3 => ⟨rfl, _, okA_back ok, hX2, hR3⟩))
theorem cp_read (MX MR : Mem) (a1 : Int32) (h : Cpl MX MR) : wp_X_read a1 MX (fun r1 MX2 => wp_R_read a1 MR (fun r2 MR2 => r1 = r2 ∧ Cpl MX2 MR2)) := by
  obtain ⟨A, ok, hX, hR⟩ := h
  exact xm_read ok hX (fun M2 hX2 => rm_read ok hR (fun M3 hR3 => ⟨rfl, _, okA_read ok a1, hX2, hR3⟩))
theorem cp_deep (MX MR : Mem) (a1 a2 : Int32) (h : Cpl MX MR) : wp_X_deep a1 a2 MX (fun r1 MX2 => wp_R_deep a1 a2 MR (fun r2 MR2 => r1 = r2 ∧ Cpl MX2 MR2)) := by
  obtain ⟨A, ok, hX, hR⟩ := h
  exact xq_deep ok hX (fun M2 hX2 => rq_deep ok hR (fun M3 hR3 => ⟨rfl, A, ok, hX2, hR3⟩))
theorem cp_at (MX MR : Mem) (a1 a2 a3 : Int32) (h : Cpl MX MR) : wp_X_at a1 a2 a3 MX (fun r1 MX2 => wp_R_at a1 a2 a3 MR (fun r2 MR2 => r1 = r2 ∧ Cpl MX2 MR2)) := by
  obtain ⟨A, ok, hX, hR⟩ := h
  exact xq_at ok hX (fun M2 hX2 => rq_at ok hR (fun M3 hR3 => ⟨rfl, A, ok, hX2, hR3⟩))
theorem cp_rides (MX MR : Mem) (a1 a2 : Int32) (h : Cpl MX MR) : wp_X_rides a1 a2 MX (fun r1 MX2 => wp_R_rides a1 a2 MR (fun r2 MR2 => r1 = r2 ∧ Cpl MX2 MR2)) := by
  obtain ⟨A, ok, hX, hR⟩ := h
  exact xq_rides ok hX (fun M2 hX2 => rq_rides ok hR (fun M3 hR3 => ⟨rfl, A, ok, hX2, hR3⟩))
theorem cp_snow (MX MR : Mem) (a1 a2 : Int32) (h : Cpl MX MR) : wp_X_snow a1 a2 MX (fun r1 MX2 => wp_R_snow a1 a2 MR (fun r2 MR2 => r1 = r2 ∧ Cpl MX2 MR2)) := by
  obtain ⟨A, ok, hX, hR⟩ := h
  exact xq_snow ok hX (fun M2 hX2 => rq_snow ok hR (fun M3 hR3 => ⟨rfl, A, ok, hX2, hR3⟩))
theorem cp_over (MX MR : Mem) (a1 a2 : Int32) (h : Cpl MX MR) : wp_X_over a1 a2 MX (fun r1 MX2 => wp_R_over a1 a2 MR (fun r2 MR2 => r1 = r2 ∧ Cpl MX2 MR2)) := by
  obtain ⟨A, ok, hX, hR⟩ := h
  exact xq_over ok hX (fun M2 hX2 => rq_over ok hR (fun M3 hR3 => ⟨rfl, A, ok, hX2, hR3⟩))
theorem cp_cleared (MX MR : Mem) (a1 a2 : Int32) (h : Cpl MX MR) : wp_X_cleared a1 a2 MX (fun r1 MX2 => wp_R_cleared a1 a2 MR (fun r2 MR2 => r1 = r2 ∧ Cpl MX2 MR2)) := by
  obtain ⟨A, ok, hX, hR⟩ := h
  exact xq_cleared ok hX (fun M2 hX2 => rq_cleared ok hR (fun M3 hR3 => ⟨rfl, A, ok, hX2, hR3⟩))
theorem cp_deepest (MX MR : Mem) (a1 : Int32) (h : Cpl MX MR) : wp_X_deepest a1 MX (fun r1 MX2 => wp_R_deepest a1 MR (fun r2 MR2 => r1 = r2 ∧ Cpl MX2 MR2)) := by
  obtain ⟨A, ok, hX, hR⟩ := h
  exact xq_deepest ok hX (fun M2 hX2 => rq_deepest ok hR (fun M3 hR3 => ⟨rfl, A, ok, hX2, hR3⟩))
theorem cp_shut (MX MR : Mem) (h : Cpl MX MR) : wp_X_shut MX (fun r1 MX2 => wp_R_shut MR (fun r2 MR2 => r1 = r2 ∧ Cpl MX2 MR2)) := by
  obtain ⟨A, ok, hX, hR⟩ := h
  exact xq_shut ok hX (fun M2 hX2 => rq_shut ok hR (fun M3 hR3 => ⟨rfl, A, ok, hX2, hR3⟩))
theorem cp_best (MX MR : Mem) (h : Cpl MX MR) : wp_X_best MX (fun r1 MX2 => wp_R_best MR (fun r2 MR2 => r1 = r2 ∧ Cpl MX2 MR2)) := by
  obtain ⟨A, ok, hX, hR⟩ := h
  exact xq_best ok hX (fun M2 hX2 => rq_best ok hR (fun M3 hR3 => ⟨rfl, A, ok, hX2, hR3⟩))
theorem cp_begin (MX MR : Mem) (a1 a2 : Int32) (h : Cpl MX MR) : wp_X_begin a1 a2 MX (fun r1 MX2 => wp_R_begin a1 a2 MR (fun r2 MR2 => r1 = r2 ∧ Cpl MX2 MR2)) := by
  obtain ⟨A, ok, hX, hR⟩ := h
  exact xq_begin ok hX (fun M2 hX2 => rq_begin ok hR (fun M3 hR3 => ⟨rfl, A, ok, hX2, hR3⟩))
theorem cp_hedge (MX MR : Mem) (a1 : Int32) (h : Cpl MX MR) : wp_X_hedge a1 MX (fun r1 MX2 => wp_R_hedge a1 MR (fun r2 MR2 => r1 = r2 ∧ Cpl MX2 MR2)) := by
  obtain ⟨A, ok, hX, hR⟩ := h
  exact xq_hedge ok hX (fun M2 hX2 => rq_hedge ok hR (fun M3 hR3 => ⟨rfl, A, ok, hX2, hR3⟩))
theorem cp_start (MX MR : Mem) (a1 a2 : Int32) (h : Cpl MX MR) : wp_X_start a1 a2 MX (fun r1 MX2 => wp_R_start a1 a2 MR (fun r2 MR2 => r1 = r2 ∧ Cpl MX2 MR2)) := by
  obtain ⟨A, ok, hX, hR⟩ := h
  exact xq_start ok hX (fun M2 hX2 => rq_start ok hR (fun M3 hR3 => ⟨rfl, A, ok, hX2, hR3⟩))
theorem cp_spare (MX MR : Mem) (a1 : Int32) (h : Cpl MX MR) : wp_X_spare a1 MX (fun r1 MX2 => wp_R_spare a1 MR (fun r2 MR2 => r1 = r2 ∧ Cpl MX2 MR2)) := by
  obtain ⟨A, ok, hX, hR⟩ := h
  exact xq_spare ok hX (fun M2 hX2 => rq_spare ok hR (fun M3 hR3 => ⟨rfl, A, ok, hX2, hR3⟩))
theorem cp_seen (MX MR : Mem) (a1 a2 a3 : Int32) (h : Cpl MX MR) : wp_X_seen a1 a2 a3 MX (fun r1 MX2 => wp_R_seen a1 a2 a3 MR (fun r2 MR2 => r1 = r2 ∧ Cpl MX2 MR2)) := by
  obtain ⟨A, ok, hX, hR⟩ := h
  exact xm_seen ok hX (fun M2 hX2 => rm_seen ok hR (fun M3 hR3 => ⟨rfl, _, okA_seen ok a1 a2 a3, hX2, hR3⟩))
theorem cp_forget (MX MR : Mem) (h : Cpl MX MR) : wp_X_forget MX (fun r1 MX2 => wp_R_forget MR (fun r2 MR2 => r1 = r2 ∧ Cpl MX2 MR2)) := by
  obtain ⟨A, ok, hX, hR⟩ := h
  exact xm_forget hX (fun M2 hX2 => rm_forget hR (fun M3 hR3 => ⟨rfl, _, okA_forget ok, hX2, hR3⟩))
theorem cp_never (MX MR : Mem) (h : Cpl MX MR) : wp_X_never MX (fun r1 MX2 => wp_R_never MR (fun r2 MR2 => r1 = r2 ∧ Cpl MX2 MR2)) := by
  obtain ⟨A, ok, hX, hR⟩ := h
  exact xq_never ok hX (fun M2 hX2 => rq_never ok hR (fun M3 hR3 => ⟨rfl, A, ok, hX2, hR3⟩))
theorem cp_strengths (MX MR : Mem) (a1 : Int32) (h : Cpl MX MR) : wp_X_strengths a1 MX (fun r1 MX2 => wp_R_strengths a1 MR (fun r2 MR2 => r1 = r2 ∧ Cpl MX2 MR2)) := by
  obtain ⟨A, ok, hX, hR⟩ := h
  exact xq_strengths ok hX (fun M2 hX2 => rq_strengths ok hR (fun M3 hR3 => ⟨rfl, A, ok, hX2, hR3⟩))
theorem cp_lie (MX MR : Mem) (a1 : Int32) (h : Cpl MX MR) : wp_X_lie a1 MX (fun r1 MX2 => wp_R_lie a1 MR (fun r2 MR2 => r1 = r2 ∧ Cpl MX2 MR2)) := by
  obtain ⟨A, ok, hX, hR⟩ := h
  exact xq_lie ok hX (fun M2 hX2 => rq_lie ok hR (fun M3 hR3 => ⟨rfl, A, ok, hX2, hR3⟩))
theorem cp_ask (MX MR : Mem) (a1 : Int32) (h : Cpl MX MR) : wp_X_ask a1 MX (fun r1 MX2 => wp_R_ask a1 MR (fun r2 MR2 => r1 = r2 ∧ Cpl MX2 MR2)) := by
  obtain ⟨A, ok, hX, hR⟩ := h
  exact xq_ask ok hX (fun M2 hX2 => rq_ask ok hR (fun M3 hR3 => ⟨rfl, A, ok, hX2, hR3⟩))
theorem cp_chance (MX MR : Mem) (a1 a2 a3 : Int32) (h : Cpl MX MR) : wp_X_chance a1 a2 a3 MX (fun r1 MX2 => wp_R_chance a1 a2 a3 MR (fun r2 MR2 => r1 = r2 ∧ Cpl MX2 MR2)) := by
  obtain ⟨A, ok, hX, hR⟩ := h
  exact xq_chance ok hX (fun M2 hX2 => rq_chance ok hR (fun M3 hR3 => ⟨rfl, A, ok, hX2, hR3⟩))
theorem cp_winters (MX MR : Mem) (a1 a2 a3 : Int32) (h : Cpl MX MR) : wp_X_winters a1 a2 a3 MX (fun r1 MX2 => wp_R_winters a1 a2 a3 MR (fun r2 MR2 => r1 = r2 ∧ Cpl MX2 MR2)) := by
  obtain ⟨A, ok, hX, hR⟩ := h
  exact xq_winters ok hX (fun M2 hX2 => rq_winters ok hR (fun M3 hR3 => ⟨rfl, A, ok, hX2, hR3⟩))
theorem cp_sheet (MX MR : Mem) (a1 a2 a3 : Int32) (h : Cpl MX MR) : wp_X_sheet a1 a2 a3 MX (fun r1 MX2 => wp_R_sheet a1 a2 a3 MR (fun r2 MR2 => r1 = r2 ∧ Cpl MX2 MR2)) := by
  obtain ⟨A, ok, hX, hR⟩ := h
  exact xm_sheet hX (fun M2 hX2 => rm_sheet ok hR (fun M3 hR3 => ⟨rfl, _, okA_sheet ok a1 a2 a3, hX2, hR3⟩))
theorem cp_lose (MX MR : Mem) (a1 : Int32) (h : Cpl MX MR) : wp_X_lose a1 MX (fun r1 MX2 => wp_R_lose a1 MR (fun r2 MR2 => r1 = r2 ∧ Cpl MX2 MR2)) := by
  obtain ⟨A, ok, hX, hR⟩ := h
  exact xm_lose hX (fun M2 hX2 => rm_lose ok hR (fun M3 hR3 => ⟨rfl, _, okA_lose ok a1, hX2, hR3⟩))
theorem cp_lay (MX MR : Mem) (a1 a2 a3 a4 : Int32) (h : Cpl MX MR) : wp_X_lay a1 a2 a3 a4 MX (fun r1 MX2 => wp_R_lay a1 a2 a3 a4 MR (fun r2 MR2 => r1 = r2 ∧ Cpl MX2 MR2)) := by
  obtain ⟨A, ok, hX, hR⟩ := h
  exact xm_lay ok hX (fun M2 hX2 => rm_lay ok hR (fun M3 hR3 => ⟨rfl, _, okA_lay ok a1 a2 a3 a4, hX2, hR3⟩))
theorem cp_get (MX MR : Mem) (a1 a2 a3 : Int32) (h : Cpl MX MR) : wp_X_get a1 a2 a3 MX (fun r1 MX2 => wp_R_get a1 a2 a3 MR (fun r2 MR2 => r1 = r2 ∧ Cpl MX2 MR2)) := by
  obtain ⟨A, ok, hX, hR⟩ := h
  exact xm_get ok hX (fun M2 hX2 => rm_get ok hR (fun M3 hR3 => ⟨rfl, _, okA_get ok a1 a2 a3, hX2, hR3⟩))
theorem cp_copy (MX MR : Mem) (a1 a2 a3 a4 a5 : Int32) (h : Cpl MX MR) : wp_X_copy a1 a2 a3 a4 a5 MX (fun r1 MX2 => wp_R_copy a1 a2 a3 a4 a5 MR (fun r2 MR2 => r1 = r2 ∧ Cpl MX2 MR2)) := by
  obtain ⟨A, ok, hX, hR⟩ := h
  exact xm_copy ok hX (fun M2 hX2 => rm_copy ok hR (fun M3 hR3 => ⟨rfl, _, okA_copy ok a1 a2 a3 a4 a5, hX2, hR3⟩))
theorem cp_write (MX MR : Mem) (a1 a2 : Int32) (h : Cpl MX MR) : wp_X_write a1 a2 MX (fun r1 MX2 => wp_R_write a1 a2 MR (fun r2 MR2 => r1 = r2 ∧ Cpl MX2 MR2)) := by
  obtain ⟨A, ok, hX, hR⟩ := h
  exact xm_write ok hX (fun M2 hX2 => rm_write ok hR (fun M3 hR3 => ⟨rfl, _, okA_write ok a1 a2, hX2, hR3⟩))
theorem cp_count (MX MR : Mem) (a1 : Int32) (h : Cpl MX MR) : wp_X_count a1 MX (fun r1 MX2 => wp_R_count a1 MR (fun r2 MR2 => r1 = r2 ∧ Cpl MX2 MR2)) := by
  obtain ⟨A, ok, hX, hR⟩ := h
  exact xq_count ok hX (fun M2 hX2 => rq_count ok hR (fun M3 hR3 => ⟨rfl, A, ok, hX2, hR3⟩))
theorem cp_digest (MX MR : Mem) (h : Cpl MX MR) : wp_X_digest MX (fun r1 MX2 => wp_R_digest MR (fun r2 MR2 => r1 = r2 ∧ Cpl MX2 MR2)) := by
  obtain ⟨A, ok, hX, hR⟩ := h
  exact xq_digest ok hX (fun M2 hX2 => rq_digest ok hR (fun M3 hR3 => ⟨rfl, A, ok, hX2, hR3⟩))
