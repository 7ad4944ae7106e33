theorem va_D_fst {A : Nat → Prop} {w1 w2 : va_W} (h : w1.map Prod.fst = w2.map Prod.fst) (hD : va_D A w1) : va_D A w2 := by
  have key : ∀ (k : Nat) (q : Nat × va_E), w2[k]? = some q → ∃ q', w1[k]? = some q' ∧ q'.1 = q.1 := by
    intro k q hq
    have h1 : (w1.map Prod.fst)[k]? = (w2.map Prod.fst)[k]? := by rw [h]
    rw [List.getElem?_map, List.getElem?_map, hq] at h1
    cases h2 : w1[k]? with
    | none => rw [h2] at h1; cases h1
    | some q' => rw [h2] at h1; exact ⟨q', rfl, Option.some.inj h1⟩
  refine ⟨fun i j p q hp hq e => ?_, fun k q hq => ?_⟩
  · obtain ⟨p', hp', ep⟩ := key i p hp
    obtain ⟨q', hq', eq⟩ := key j q hq
    exact hD.1 i j p' q' hp' hq' (by rw [ep, eq, e])
  · obtain ⟨q', hq', e⟩ := key k q hq
    rw [← e]
    exact hD.2 k q' hq'
theorem va_D_comm {A : Nat → Prop} {a b : va_W} (h : va_D A (a ++ b)) : va_D A (b ++ a) := by
  have := va_D.swap (a := []) (b := a) (c := b) (A := A) (by simpa using h)
  simpa using this
theorem st_tab {args : Array Value} {s : State} {n : String} {N : Nat} {f : Nat → Int32} (hN : N < 2 ^ 31) (hl : (Cond.laysStatic "SnowRoad" n "[I").before args s = true) (hini : (Cond.initialized "SnowRoad").before args s = true) (harr : (Cond.arrayOf (.static "SnowRoad" n "[I") .int).before args s = true) (hlen : (Cond.eq (.length (.static "SnowRoad" n "[I")) (.int (Int32.ofNat N))).before args s = true) (hel : ∀ j, j < N → (Cond.eq (.elem (.static "SnowRoad" n "[I") (.int (Int32.ofNat j))) (.int (f j))).before args s = true) : ∃ t : Nat, va_Z "SnowRoad" n "[I" (.ref t) (fun q : Nat => s.heap.size ≤ q) s s.heap ∧ va_T .int t N (fun j => .int (f j)) (fun q : Nat => s.heap.size ≤ q) s s.heap := by
  have hA : ∀ a : Nat, a < s.heap.size → ¬ (fun q : Nat => s.heap.size ≤ q) a := fun a h => Nat.not_le.mpr h
  obtain ⟨t, h1, h2⟩ := va_Tof (f := fun j => .int (f j)) hN harr (va_eqt hlen) (fun j hj => va_eqt (hel j hj)) hA
  exact ⟨t, va_Zof hl hini h1 hA, h2⟩
set_option maxHeartbeats 8000000 in
set_option maxRecDepth 100000 in
theorem law_start {p : Program} {e : Env} {s : State} {m : MethodId} {below : List Frame} {meth : Method} {c : Code} (l : Launch) {b L : Nat} {xs : Nat → Int32} (hL : L ≤ 3072) (C0 : lw_At p s m meth c b L xs) {K : Mem → Mem → Prop} (hK0 : K MX0 MR0)
    (hc_0 : ∀ (MX MR : Mem) (a1 a2 : Int32), K MX MR → wp_X_type a1 a2 MX (fun r1 MX2 => wp_R_type a1 a2 MR (fun r2 MR2 => r1 = r2 ∧ K MX2 MR2)))
    (hc_1 : ∀ (MX MR : Mem) (a1 : Int32), K MX MR → wp_X_wipe a1 MX (fun r1 MX2 => wp_R_wipe a1 MR (fun r2 MR2 => r1 = r2 ∧ K MX2 MR2)))
    (hc_2 : ∀ (MX MR : Mem) (a1 : Int32), K MX MR → wp_X_undo a1 MX (fun r1 MX2 => wp_R_undo a1 MR (fun r2 MR2 => r1 = r2 ∧ K MX2 MR2)))
    (hc_3 : ∀ (MX MR : Mem) (a1 : Int32), K MX MR → wp_X_fault a1 MX (fun r1 => wp_R_fault a1 MR (fun r2 MR2 => r1 = r2 ∧ K MX MR2)))
    (hc_4 : ∀ (MX MR : Mem) (a1 : Int32), K MX MR → wp_X_land a1 MX (fun r1 => wp_R_land a1 MR (fun r2 MR2 => r1 = r2 ∧ K MX MR2)))
    (hc_5 : ∀ (MX MR : Mem) (a1 : Int32), K MX MR → wp_X_fall a1 MX (fun r1 => wp_R_fall a1 MR (fun r2 MR2 => r1 = r2 ∧ K MX MR2)))
    (hc_6 : ∀ (MX MR : Mem) (a1 a2 : Int32), K MX MR → wp_X_plough a1 a2 MX (fun r1 => wp_R_plough a1 a2 MR (fun r2 MR2 => r1 = r2 ∧ K MX MR2)))
    (hc_7 : ∀ (MX MR : Mem) (a1 : Int32), K MX MR → wp_X_bus a1 MX (fun r1 => wp_R_bus a1 MR (fun r2 MR2 => r1 = r2 ∧ K MX MR2)))
    (hc_8 : ∀ (MX MR : Mem) (a1 : Int32), K MX MR → wp_X_wind a1 MX (fun r1 MX2 => wp_R_wind a1 MR (fun r2 MR2 => r1 = r2 ∧ K MX2 MR2)))
    (hc_9 : ∀ (MX MR : Mem) (a1 a2 a3 : Int32), K MX MR → wp_X_event a1 a2 a3 MX (fun r1 MX2 => wp_R_event a1 a2 a3 MR (fun r2 MR2 => r1 = r2 ∧ K MX2 MR2)))
    (hc_10 : ∀ (MX MR : Mem), K MX MR → wp_X_back MX (fun r1 MX2 => wp_R_back MR (fun r2 MR2 => r1 = r2 ∧ K MX2 MR2)))
    (hc_11 : ∀ (MX MR : Mem) (a1 : Int32), K MX MR → wp_X_read a1 MX (fun r1 MX2 => wp_R_read a1 MR (fun r2 MR2 => r1 = r2 ∧ K MX2 MR2)))
    (hc_12 : ∀ (MX MR : Mem) (a1 a2 : Int32), K MX MR → wp_X_deep a1 a2 MX (fun r1 MX2 => wp_R_deep a1 a2 MR (fun r2 MR2 => r1 = r2 ∧ K MX2 MR2)))
    (hc_13 : ∀ (MX MR : Mem) (a1 a2 a3 : Int32), K MX MR → wp_X_at a1 a2 a3 MX (fun r1 MX2 => wp_R_at a1 a2 a3 MR (fun r2 MR2 => r1 = r2 ∧ K MX2 MR2)))
    (hc_14 : ∀ (MX MR : Mem) (a1 a2 : Int32), K MX MR → wp_X_rides a1 a2 MX (fun r1 MX2 => wp_R_rides a1 a2 MR (fun r2 MR2 => r1 = r2 ∧ K MX2 MR2)))
    (hc_15 : ∀ (MX MR : Mem) (a1 a2 : Int32), K MX MR → wp_X_snow a1 a2 MX (fun r1 MX2 => wp_R_snow a1 a2 MR (fun r2 MR2 => r1 = r2 ∧ K MX2 MR2)))
    (hc_16 : ∀ (MX MR : Mem) (a1 a2 : Int32), K MX MR → wp_X_over a1 a2 MX (fun r1 MX2 => wp_R_over a1 a2 MR (fun r2 MR2 => r1 = r2 ∧ K MX2 MR2)))
    (hc_17 : ∀ (MX MR : Mem) (a1 a2 : Int32), K MX MR → wp_X_cleared a1 a2 MX (fun r1 MX2 => wp_R_cleared a1 a2 MR (fun r2 MR2 => r1 = r2 ∧ K MX2 MR2)))
    (hc_18 : ∀ (MX MR : Mem) (a1 : Int32), K MX MR → wp_X_deepest a1 MX (fun r1 MX2 => wp_R_deepest a1 MR (fun r2 MR2 => r1 = r2 ∧ K MX2 MR2)))
    (hc_19 : ∀ (MX MR : Mem), K MX MR → wp_X_shut MX (fun r1 MX2 => wp_R_shut MR (fun r2 MR2 => r1 = r2 ∧ K MX2 MR2)))
    (hc_20 : ∀ (MX MR : Mem), K MX MR → wp_X_best MX (fun r1 MX2 => wp_R_best MR (fun r2 MR2 => r1 = r2 ∧ K MX2 MR2)))
    (hc_21 : ∀ (MX MR : Mem) (a1 a2 : Int32), K MX MR → wp_X_begin a1 a2 MX (fun r1 MX2 => wp_R_begin a1 a2 MR (fun r2 MR2 => r1 = r2 ∧ K MX2 MR2)))
    (hc_22 : ∀ (MX MR : Mem) (a1 : Int32), K MX MR → wp_X_hedge a1 MX (fun r1 MX2 => wp_R_hedge a1 MR (fun r2 MR2 => r1 = r2 ∧ K MX2 MR2)))
    (hc_23 : ∀ (MX MR : Mem) (a1 a2 : Int32), K MX MR → wp_X_start a1 a2 MX (fun r1 MX2 => wp_R_start a1 a2 MR (fun r2 MR2 => r1 = r2 ∧ K MX2 MR2)))
    (hc_24 : ∀ (MX MR : Mem) (a1 : Int32), K MX MR → wp_X_spare a1 MX (fun r1 MX2 => wp_R_spare a1 MR (fun r2 MR2 => r1 = r2 ∧ K MX2 MR2)))
    (hc_25 : ∀ (MX MR : Mem) (a1 a2 a3 : Int32), K MX MR → wp_X_seen a1 a2 a3 MX (fun r1 MX2 => wp_R_seen a1 a2 a3 MR (fun r2 MR2 => r1 = r2 ∧ K MX2 MR2)))
    (hc_26 : ∀ (MX MR : Mem), K MX MR → wp_X_forget MX (fun r1 MX2 => wp_R_forget MR (fun r2 MR2 => r1 = r2 ∧ K MX2 MR2)))
    (hc_27 : ∀ (MX MR : Mem), K MX MR → wp_X_never MX (fun r1 MX2 => wp_R_never MR (fun r2 MR2 => r1 = r2 ∧ K MX2 MR2)))
    (hc_28 : ∀ (MX MR : Mem) (a1 : Int32), K MX MR → wp_X_strengths a1 MX (fun r1 MX2 => wp_R_strengths a1 MR (fun r2 MR2 => r1 = r2 ∧ K MX2 MR2)))
    (hc_29 : ∀ (MX MR : Mem) (a1 : Int32), K MX MR → wp_X_lie a1 MX (fun r1 MX2 => wp_R_lie a1 MR (fun r2 MR2 => r1 = r2 ∧ K MX2 MR2)))
    (hc_30 : ∀ (MX MR : Mem) (a1 : Int32), K MX MR → wp_X_ask a1 MX (fun r1 MX2 => wp_R_ask a1 MR (fun r2 MR2 => r1 = r2 ∧ K MX2 MR2)))
    (hc_31 : ∀ (MX MR : Mem) (a1 a2 a3 : Int32), K MX MR → wp_X_chance a1 a2 a3 MX (fun r1 MX2 => wp_R_chance a1 a2 a3 MR (fun r2 MR2 => r1 = r2 ∧ K MX2 MR2)))
    (hc_32 : ∀ (MX MR : Mem) (a1 a2 a3 : Int32), K MX MR → wp_X_winters a1 a2 a3 MX (fun r1 MX2 => wp_R_winters a1 a2 a3 MR (fun r2 MR2 => r1 = r2 ∧ K MX2 MR2)))
    (hc_33 : ∀ (MX MR : Mem) (a1 a2 a3 : Int32), K MX MR → wp_X_sheet a1 a2 a3 MX (fun r1 MX2 => wp_R_sheet a1 a2 a3 MR (fun r2 MR2 => r1 = r2 ∧ K MX2 MR2)))
    (hc_34 : ∀ (MX MR : Mem) (a1 : Int32), K MX MR → wp_X_lose a1 MX (fun r1 MX2 => wp_R_lose a1 MR (fun r2 MR2 => r1 = r2 ∧ K MX2 MR2)))
    (hc_35 : ∀ (MX MR : Mem) (a1 a2 a3 a4 : Int32), K MX MR → wp_X_lay a1 a2 a3 a4 MX (fun r1 MX2 => wp_R_lay a1 a2 a3 a4 MR (fun r2 MR2 => r1 = r2 ∧ K MX2 MR2)))
    (hc_36 : ∀ (MX MR : Mem) (a1 a2 a3 : Int32), K MX MR → wp_X_get a1 a2 a3 MX (fun r1 MX2 => wp_R_get a1 a2 a3 MR (fun r2 MR2 => r1 = r2 ∧ K MX2 MR2)))
    (hc_37 : ∀ (MX MR : Mem) (a1 a2 a3 a4 a5 : Int32), K MX MR → wp_X_copy a1 a2 a3 a4 a5 MX (fun r1 MX2 => wp_R_copy a1 a2 a3 a4 a5 MR (fun r2 MR2 => r1 = r2 ∧ K MX2 MR2)))
    (hc_38 : ∀ (MX MR : Mem) (a1 a2 : Int32), K MX MR → wp_X_write a1 a2 MX (fun r1 MX2 => wp_R_write a1 a2 MR (fun r2 MR2 => r1 = r2 ∧ K MX2 MR2)))
    (hc_39 : ∀ (MX MR : Mem) (a1 : Int32), K MX MR → wp_X_count a1 MX (fun r1 MX2 => wp_R_count a1 MR (fun r2 MR2 => r1 = r2 ∧ K MX2 MR2)))
    (hc_40 : ∀ (MX MR : Mem), K MX MR → wp_X_digest MX (fun r1 MX2 => wp_R_digest MR (fun r2 MR2 => r1 = r2 ∧ K MX2 MR2))) :
    W p l e room_1 s m #[Value.ref b] below meth c s.heap [] 0 0 (lw_Z below #[Value.ref b] s) (entryFrame m ([Value.ref b] : List Value).toArray 4) := by
  have C0' := C0
  obtain ⟨hx, hb, hr, hml, ho, hts, hX, hbl, hlk, hgv⟩ := C0
  have htz : ∀ q ∈ zt, q.before #[Value.ref b] s = true := fun q h => hts q (zt_in h)
  obtain ⟨c0, s0, k0⟩ := u_known (C := "SnowRoad$Sheet") (T := TX0) (N := 3) htz inz_0 (htz _ (show Cond.instantiable "SnowRoad$Sheet" 3 ∈ zt from zt_mem 192 (by decide +kernel) (by decide +kernel)))
  obtain ⟨c1, sB1, k1⟩ := u_known (C := "SnowRoad$Sightings") (T := TX1) (N := 3) htz inz_1 (htz _ (show Cond.instantiable "SnowRoad$Sightings" 3 ∈ zt from zt_mem 93 (by decide +kernel) (by decide +kernel)))
  obtain ⟨c2, s2, k2⟩ := u_known (C := "SnowRoad$Text") (T := TX2) (N := 3) htz inz_2 (htz _ (show Cond.instantiable "SnowRoad$Text" 3 ∈ zt from zt_mem 173 (by decide +kernel) (by decide +kernel)))
  obtain ⟨c3, s3, k3⟩ := u_known (C := "SnowRoad$Told") (T := TX3) (N := 13) htz inz_3 (htz _ (show Cond.instantiable "SnowRoad$Told" 13 ∈ zt from zt_mem 23 (by decide +kernel) (by decide +kernel)))
  obtain ⟨c4, s4, k4⟩ := u_known (C := "SnowRoad$Winter") (T := TX4) (N := 15) htz inz_4 (htz _ (show Cond.instantiable "SnowRoad$Winter" 15 ∈ zt from zt_mem 112 (by decide +kernel) (by decide +kernel)))
  obtain ⟨c5, s5, k5⟩ := u_known (C := "SnowRoad") (T := TX5) (N := 12) htz inz_5 (htz _ (show Cond.instantiable "SnowRoad" 12 ∈ zt from zt_mem 13 (by decide +kernel) (by decide +kernel)))
  obtain ⟨c6, s6, k6⟩ := u_known (C := "SnowRoadModel") (T := TX6) (N := 35) htz inz_6 (htz _ (show Cond.instantiable "SnowRoadModel" 35 ∈ zt from zt_mem 667 (by decide +kernel) (by decide +kernel)))
  obtain ⟨cA, kA, compA, a1, a2, a3⟩ := Cond.arrayClass_spec (htz _ tw_ac)
  obtain ⟨compT, cT, kT, t1, t2, t3, t4, t5⟩ := Cond.arrayOver_spec (hts (Cond.arrayOver (.object "SnowRoad$Text")) (List.mem_append_right _ (List.mem_of_getElem? (i := 21) (by decide +kernel))))
  obtain ⟨compS, cS, kS, s1, s2', s3', s4', s5'⟩ := Cond.arrayOver_spec (hts (Cond.arrayOver (.object "SnowRoad$Sheet")) (List.mem_append_right _ (List.mem_of_getElem? (i := 110) (by decide +kernel))))
  have hflat := flat_of_before _ hgv
  obtain ⟨TR, tr1, tr2⟩ := st_tab (n := "TEXT_ROOM") (N := 4) (f := troom) (by decide) (hts _ (show Cond.laysStatic "SnowRoad" "TEXT_ROOM" "[I" ∈ lw_tbl from List.mem_append_right _ (List.mem_of_getElem? (i := 179) (by decide +kernel)))) (htz _ (zt_mem 1 (by decide +kernel) (by decide +kernel))) (hflat _ (by decide +kernel)) (hflat _ (by decide +kernel)) (fun j hj => by
    rcases j with _ | _ | _ | _ | j
    · exact hflat _ (by decide +kernel)
    · exact hflat _ (by decide +kernel)
    · exact hflat _ (by decide +kernel)
    · exact hflat _ (by decide +kernel)
    · omega)
  obtain ⟨TD, td1, td2⟩ := st_tab (n := "DIGEST_PLOUGH_HOURS") (N := 3) (f := zz_tab) (by decide) (hts _ (show Cond.laysStatic "SnowRoad" "DIGEST_PLOUGH_HOURS" "[I" ∈ lw_tbl from List.mem_append_right _ (List.mem_of_getElem? (i := 644) (by decide +kernel)))) (htz _ (zt_mem 1 (by decide +kernel) (by decide +kernel))) (hflat _ (by decide +kernel)) (hflat _ (by decide +kernel)) (fun j hj => by
    rcases j with _ | _ | _ | j
    · exact hflat _ (by decide +kernel)
    · exact hflat _ (by decide +kernel)
    · exact hflat _ (by decide +kernel)
    · omega)
  obtain ⟨D, hDd⟩ : ∃ D : va_G, D = ((fun k => [c0, c1, c2, c3, c4, c5, c6].getD k 0), (fun k => [s0, sB1, s2, s3, s4, s5, s6].getD k (fun _ => 0))) := ⟨_, rfl⟩
  have hK : va_K D cls7 (TYS cA cT cS) s := by
    subst hDd
    refine ⟨fun k q hk => ?_, fun k q hk => ?_⟩
    · rcases k with _ | _ | _ | _ | _ | _ | _ | k
      · cases hk; exact k0
      · cases hk; exact k1
      · cases hk; exact k2
      · cases hk; exact k3
      · cases hk; exact k4
      · cases hk; exact k5
      · cases hk; exact k6
      · simp at hk
    · rcases k with _ | _ | _ | k
      · cases hk
        exact ⟨fun n z => ⟨fun k h => (by cases h), kA, a2, compA, a3⟩, a1⟩
      · cases hk
        exact ⟨fun n z => ⟨fun k h => (by cases h), kT, t3, compT, t4⟩, kT, compT, t3, t4, t1, t5⟩
      · cases hk
        exact ⟨fun n z => ⟨fun k h => (by cases h), kS, s3', compS, s4'⟩, kS, compS, s3', s4', s1, s5'⟩
      · simp at hk
  clear hDd
  have C : Zkc (p, l, e, room_1, s, m, #[Value.ref b], below, meth, c, (fun q : Nat => s.heap.size ≤ q), lw_Z below #[Value.ref b] s) code "SnowRoadLaw" 4 room_1 D (TYS cA cT cS) TR :=
    ⟨hx, hb, hml, ho, htz, hK, fun _ h => h, hlk, rfl, ⟨va_AO.of (hts (Cond.arrayOver (.object "SnowRoad$Text")) (List.mem_append_right _ (List.mem_of_getElem? (i := 21) (by decide +kernel)))), va_AO.of (hts (Cond.arrayOver (.object "SnowRoad$Sheet")) (List.mem_append_right _ (List.mem_of_getElem? (i := 110) (by decide +kernel)))), va_Nw.of rfl (hts _ (show Cond.methodLinkNest "SnowRoad" 17 y_XO_init "SnowRoad" ∈ lw_tbl from List.mem_append_right _ (List.mem_of_getElem? (i := 24) (by decide +kernel)))), va_Nw.of rfl (hts _ (show Cond.methodLinkNest "SnowRoad" 24 y_XG_init "SnowRoad" ∈ lw_tbl from List.mem_append_right _ (List.mem_of_getElem? (i := 94) (by decide +kernel)))), va_Nw.of rfl (hts _ (show Cond.methodLinkNest "SnowRoad" 41 y_XW_init "SnowRoad" ∈ lw_tbl from List.mem_append_right _ (List.mem_of_getElem? (i := 113) (by decide +kernel)))), va_Nw.of rfl (hts _ (show Cond.methodLinkNest "SnowRoad" 69 y_XH_init "SnowRoad" ∈ lw_tbl from List.mem_append_right _ (List.mem_of_getElem? (i := 193) (by decide +kernel)))), va_Nw.of rfl (hts _ (show Cond.fieldLinkNest "SnowRoad$Text" 18 "SnowRoad" "TEXT_ROOM" "[I" "SnowRoad" ∈ lw_tbl from List.mem_append_right _ (List.mem_of_getElem? (i := 178) (by decide +kernel)))), tr1, tr2⟩, Or.inr rfl⟩
  have main : Zk (p, l, e, room_1, s, m, #[Value.ref b], below, meth, c, (fun q : Nat => s.heap.size ≤ q), lw_Z below #[Value.ref b] s) 4 D [] 0 0 0 [(0, .ref b)] [] := by
    refine k_new C (fs := [.null, .null, .null, .null, .int 0, .null, .null, .int 0, .null, .int 0, .null, .null]) (ci := 5) (kc' := 1) (ks' := 12) inz_5 tyX5 tyX5_ok (zt_mem 12 (by decide +kernel) (by decide +kernel)) (zt_mem 13 (by decide +kernel) (by decide +kernel)) (zt_mem 1 (by decide +kernel) (by decide +kernel)) rfl df_5 rfl rfl (Nat.le_of_ble_eq_true rfl) (Nat.le_of_ble_eq_true rfl) d_L_0 (fun q1 => ?_)
    refine k_dup C d_L_3 rfl ?_
    refine k_ctorI C (As := []) (e0 := .inr (5, [.null, .null, .null, .null, .int 0, .null, .null, .int 0, .null, .int 0, .null, .null])) (wr := []) (kc' := 59) (ks' := 4477) (zt_mem 16 (by decide +kernel) (by decide +kernel)) (zt_mem 1 (by decide +kernel) (by decide +kernel)) (zt_mem 15 (by decide +kernel) (by decide +kernel)) rfl (by decide +kernel) (zt_mem 14 (by decide +kernel) (by decide +kernel)) ⟨Nat.le_of_ble_eq_true rfl, Nat.le_of_ble_eq_true rfl, rfl, rfl⟩ (c_X_init D cA cT cS TR TD q1) rfl rfl (Nat.le_of_ble_eq_true rfl) rfl rfl rfl (Nat.le_of_ble_eq_true rfl) (Nat.le_of_ble_eq_true rfl) d_L_4 (fun u1 => ?_)
    rw [List.nil_append]
    obtain ⟨gX, hgX⟩ : ∃ g : GX, g = gX0 D cA cT cS TD q1 u1 := ⟨_, rfl⟩
    have e1 : ax gX 0 = q1 := by rw [hgX]; rfl
    have e2 : gX.1 = D := by rw [hgX]; rfl
    have e3 : gX.2.2 = (cA, cT, cS, TD) := by rw [hgX]; rfl
    rw [← hgX]
    refine k_astore_n (lv' := [(1, .ref q1), (0, .ref b)]) C d_L_7 rfl rfl rfl ?_
    refine k_new C (fs := [.null, .null, .null, .null, .int 0, .null, .null, .null, .null, .int 0, .null, .int 0, .null, .int 0, .int 0, .null, .int 0, .null, .null, .null, .null, .null, .null, .null, .null, .null, .null, .null, .null, .null, .null, .int 0, .null, .null, .int 0]) (ci := 6) (kc' := 60) (ks' := 4512) inz_6 tyX6 tyX6_ok (zt_mem 666 (by decide +kernel) (by decide +kernel)) (zt_mem 667 (by decide +kernel) (by decide +kernel)) (zt_mem 7 (by decide +kernel) (by decide +kernel)) rfl df_6 rfl rfl (Nat.le_of_ble_eq_true rfl) (Nat.le_of_ble_eq_true rfl) d_L_8 (fun q2 => ?_)
    refine k_dup C d_L_11 rfl ?_
    refine k_ctorI C (As := []) (e0 := .inr (6, [.null, .null, .null, .null, .int 0, .null, .null, .null, .null, .int 0, .null, .int 0, .null, .int 0, .int 0, .null, .int 0, .null, .null, .null, .null, .null, .null, .null, .null, .null, .null, .null, .null, .null, .null, .int 0, .null, .null, .int 0])) (wr := wX gX MX0) (kc' := 87) (ks' := 8736) (zt_mem 670 (by decide +kernel) (by decide +kernel)) (zt_mem 7 (by decide +kernel) (by decide +kernel)) (zt_mem 669 (by decide +kernel) (by decide +kernel)) rfl (by decide +kernel) (zt_mem 668 (by decide +kernel) (by decide +kernel)) ⟨Nat.le_of_ble_eq_true rfl, Nat.le_of_ble_eq_true rfl, rfl, rfl⟩ (c_R_init D cA cT cS TR TD q2) rfl rfl (Nat.le_of_ble_eq_true rfl) rfl rfl rfl (Nat.le_of_ble_eq_true rfl) (Nat.le_of_ble_eq_true rfl) d_L_12 (fun u2 => ?_)
    obtain ⟨gR, hgR⟩ : ∃ g : GX, g = gR0 D cA cT cS TD q2 u2 := ⟨_, rfl⟩
    have f1 : ax gR 0 = q2 := by rw [hgR]; rfl
    have f2 : gR.1 = D := by rw [hgR]; rfl
    have f3 : gR.2.2 = (cA, cT, cS, TD) := by rw [hgR]; rfl
    rw [← hgR]
    refine k_astore_n (lv' := [(2, .ref q2), (1, .ref q1), (0, .ref b)]) C d_L_15 rfl rfl rfl ?_
    refine k_iconst (v := nI 0) C d_L_16 (by decide) ?_
    refine k_istore_n (lv' := [(3, .int (nI 0)), (2, .ref q2), (1, .ref q1), (0, .ref b)]) C d_L_17 rfl rfl rfl ?_
    refine k_sub [3, 2, 1, 0] rfl ?_
    intro H locs ls hl hP hD hS
    have hDa : ∀ MX MR, va_D (fun q : Nat => s.heap.size ≤ q) (wX gX MX ++ wR gR MR) := fun MX MR => va_D_fst (by rw [List.map_append, List.map_append]; rfl) hD
    have tyeq : (oX gX).2.2.1 = TYS cA cT cS := by
      show [(gX.2.2.1, FieldType.int), (gX.2.2.2.1, .object "SnowRoad$Text"), (gX.2.2.2.2.1, .object "SnowRoad$Sheet")] = _
      rw [e3]
    have teq : (oX gX).2.2.2.2 = TD := by
      show gX.2.2.2.2.2 = TD
      rw [e3]
    have CL : ZLc (p, l, e, s, m, below, meth, c) b L xs gX gR := by
      refine ⟨C0', by rw [f2, e2], by rw [f3, e3], ?_, fun MX MR => va_D_comm (hDa MX MR), hDa, ?_⟩
      · rw [tyeq, e2]; exact hK
      · unfold Zst; rw [teq]; exact ⟨td1, td2⟩
    refine W.widen (k := 600000) (n := 7302250) (Nat.le_of_ble_eq_true rfl) (Nat.le_of_ble_eq_true rfl) ?_
    have hfin := law_loop CL hL hc_0 hc_1 hc_2 hc_3 hc_4 hc_5 hc_6 hc_7 hc_8 hc_9 hc_10 hc_11 hc_12 hc_13 hc_14 hc_15 hc_16 hc_17 hc_18 hc_19 hc_20 hc_21 hc_22 hc_23 hc_24 hc_25 hc_26 hc_27 hc_28 hc_29 hc_30 hc_31 hc_32 hc_33 hc_34 hc_35 hc_36 hc_37 hc_38 hc_39 hc_40 (L + 7) 0 MX0 MR0 (by omega) (by omega) hK0 H locs ls
    rw [e1, f1, e2] at hfin
    exact hfin hl (va_P_l hP) (va_P_r hP) hS
  have hl := lv_entry ([Value.ref b]) (n := 4) (Nat.le_of_ble_eq_true rfl)
  rw [lg_entry_eq]
  exact main s.heap [] _ hl (fun k q hk => by simp at hk) ⟨fun i j p q hp _ _ => by simp at hp, fun k q hk => by simp at hk⟩ va_S.rf
