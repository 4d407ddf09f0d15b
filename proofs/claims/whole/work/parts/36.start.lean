/-! ===== THE TABLES AT THE START ===== -/
theorem tb_zr {G : cd_Gl} {s : State} {args : Array Value} {n d : String} (hG : G.2.2 = s.heap) (hl : (Cond.laysStatic Bundle.tN n d).before args s = true) (h : (Cond.isRef (.static Bundle.tN n d)).before args s = true) : cd_Zr G n d s := by
  obtain ⟨c, k, i, f, a, cell, hc, hi, hst, ha, hcell, hs, hcls, hlt, hty⟩ := Cond.laysStatic_spec hl
  cases hv : (Term.static Bundle.tN n d).eval args s none [] s with
  | none => simp [Cond.before, Cond.holds, Cond.value, hv] at h
  | some v =>
    have hr : v.isRef = true := by
      simp only [Cond.before, Cond.holds, Cond.value, hv] at h
      cases v <;> simp_all [Value.isRef]
    obtain ⟨hst', a', cell', ha', hcell', -, hslot⟩ := Term.static_spec hi hv
    cases ha.symm.trans ha'
    cases hcell.symm.trans hcell'
    exact ⟨c, k, i, f, a, cell, v, hc, hi, hst, ha, by rw [hG]; exact hcell, hs, hcls, hlt, hty, hslot, hr⟩
theorem tb_pa {s : State} {args : Array Value} {t : FieldType} (h : (Cond.arrayClass t).before args s = true) : ∃ cA : ClassId, ArrOfT s cA t ∧ s.vm.findClass ("[" ++ t.toString) = some cA := by
  obtain ⟨c, k, comp, h1, h2, h3⟩ := Cond.arrayClass_spec (show (Cond.arrayClass t).holds args s none s [] = true from h)
  exact ⟨c, fun n z => ⟨fun k h => (by cases h), k, h2, comp, h3⟩, h1⟩
theorem tb_oa {s : State} {args : Array Value} {D : String} (h : (Cond.arrayOver (.object D)).before args s = true) : ∃ cA : ClassId, ArrOfT s cA (.object D) ∧ va_RA s cA (.object D) := by
  obtain ⟨comp, c, k, h1, h2, h3, h4, h5⟩ := Cond.arrayOver_spec (va_AO.of h)
  exact ⟨c, fun n z => ⟨fun k h => (by cases h), k, h3, comp, h4⟩, k, comp, h3, h4, h1, h5⟩
theorem tb_str : ∀ x ∈ cd_str, Cond.stringRef x.1 x.2.1 x.2.2 ∈ lw_tbl := by decide +kernel
theorem tb_stx : ∀ x ∈ cd_str, Cond.exactly (.string x.1 x.2.1) "java/lang/String" ∈ flatC (Jvm.Cond.and given_1 narrow_1) := by decide +kernel
def cd_prs : List (Nat × Nat) := [(1, 2), (1, 3), (1, 4), (1, 5), (1, 6), (2, 1), (2, 3), (2, 4), (2, 5), (2, 6), (3, 1), (3, 2), (3, 4), (3, 5), (3, 6), (4, 1), (4, 2), (4, 3), (4, 5), (4, 6), (5, 1), (5, 2), (5, 3), (5, 4), (5, 6), (6, 1), (6, 2), (6, 3), (6, 4), (6, 5)]
theorem tb_nc : ∀ q ∈ cd_prs, Cond.not (.castable (cd_ex q.1) (cd_ex q.2)) ∈ flatC (Jvm.Cond.and given_1 narrow_1) := by decide +kernel
theorem tb_prs : ∀ i, i < 7 → ∀ j, j < 7 → 1 ≤ i → 1 ≤ j → i ≠ j → (i, j) ∈ cd_prs := by
  intro i hi j hj h1 h2 h3
  have a : i = 1 ∨ i = 2 ∨ i = 3 ∨ i = 4 ∨ i = 5 ∨ i = 6 := by omega
  have b : j = 1 ∨ j = 2 ∨ j = 3 ∨ j = 4 ∨ j = 5 ∨ j = 6 := by omega
  rcases a with rfl | rfl | rfl | rfl | rfl | rfl <;> rcases b with rfl | rfl | rfl | rfl | rfl | rfl <;> first | exact absurd rfl h3 | decide
set_option maxHeartbeats 4000000 in
set_option maxRecDepth 100000 in
theorem tb_start {s : State} {b : Nat} (hts : ∀ w ∈ lw_tbl, w.before #[Value.ref b] s = true) (hgv : (Jvm.Cond.and given_1 narrow_1).before #[Value.ref b] s = true) : ∃ G : cd_Gl, G.2.2 = s.heap ∧ cd_Tb G s := by
  have hs := flat_of_before _ hgv
  obtain ⟨c0, i0, k0⟩ := u_known (C := q_Cd.1) (T := q_Cd.2.1) (N := q_Cd.2.2) (n := 5) hts (fun w hw => (c_Cd.2.1 w hw).1) (hts _ ia_Cd.1)
  obtain ⟨c1, i1, k1⟩ := u_known (C := q_Do.1) (T := q_Do.2.1) (N := q_Do.2.2) (n := 3) hts (fun w hw => (c_Do.2.1 w hw).1) (hts _ ia_Do.1)
  obtain ⟨c2, i2, k2⟩ := u_known (C := q_Ob.1) (T := q_Ob.2.1) (N := q_Ob.2.2) (n := 2) hts (fun w hw => (c_Ob.2.1 w hw).1) (hts _ ia_Ob.1)
  obtain ⟨c3, i3, k3⟩ := u_known (C := q_Fi.1) (T := q_Fi.2.1) (N := q_Fi.2.2) (n := 3) hts (fun w hw => (c_Fi.2.1 w hw).1) (hts _ ia_Fi.1)
  obtain ⟨c4, i4, k4⟩ := u_known (C := q_Ca.1) (T := q_Ca.2.1) (N := q_Ca.2.2) (n := 7) hts (fun w hw => (c_Ca.2.1 w hw).1) (hts _ ia_Ca.1)
  obtain ⟨c5, i5, k5⟩ := u_known (C := q_Re.1) (T := q_Re.2.1) (N := q_Re.2.2) (n := 5) hts (fun w hw => (c_Re.2.1 w hw).1) (hts _ ia_Re.1)
  obtain ⟨c6, i6, k6⟩ := u_known (C := q_Mo.1) (T := q_Mo.2.1) (N := q_Mo.2.2) (n := 18) hts (fun w hw => (c_Mo.2.1 w hw).1) (hts _ ia_Mo.1)
  have w0 : (Cond.arrayClass .int).before #[Value.ref b] s = true := hts _ (by decide +kernel)
  obtain ⟨a0, p0, r0⟩ := tb_pa w0
  have w1 : (Cond.arrayClass .boolean).before #[Value.ref b] s = true := hts _ (by decide +kernel)
  obtain ⟨a1, p1, r1⟩ := tb_pa w1
  have w2 : (Cond.arrayClass .long).before #[Value.ref b] s = true := hts _ (by decide +kernel)
  obtain ⟨a2, p2, r2⟩ := tb_pa w2
  have w3 : (Cond.arrayOver (.object "CapabilityDomains$Domain")).before #[Value.ref b] s = true := hts _ (by decide +kernel)
  obtain ⟨a3, p3, r3⟩ := tb_oa w3
  have w4 : (Cond.arrayOver (.object "CapabilityDomains$DomainObject")).before #[Value.ref b] s = true := hts _ (by decide +kernel)
  obtain ⟨a4, p4, r4⟩ := tb_oa w4
  have w5 : (Cond.arrayOver (.object "CapabilityDomains$Field")).before #[Value.ref b] s = true := hts _ (by decide +kernel)
  obtain ⟨a5, p5, r5⟩ := tb_oa w5
  have w6 : (Cond.arrayOver (.object "CapabilityDomains$Capability")).before #[Value.ref b] s = true := hts _ (by decide +kernel)
  obtain ⟨a6, p6, r6⟩ := tb_oa w6
  let dC : Nat → ClassId := fun z => match z with
    | 0 => c0
    | 1 => c1
    | 2 => c2
    | 3 => c3
    | 4 => c4
    | 5 => c5
    | _ => c6
  let dI : Nat → Nat → Nat := fun z => match z with
    | 0 => i0
    | 1 => i1
    | 2 => i2
    | 3 => i3
    | 4 => i4
    | 5 => i5
    | _ => i6
  let dA : Nat → ClassId := fun z => match z with
    | 0 => a0
    | 1 => a1
    | 2 => a2
    | 3 => a3
    | 4 => a4
    | 5 => a5
    | _ => a6
  refine ⟨((dC, dI), dA, s.heap), rfl, fun c hc hg a => va_tabs (Bool.and_eq_true_iff.mp hg).1 rfl (hts c hc), ⟨fun c q hq => ?_, fun k q hq => ?_⟩, fun i t ht => ?_, fun x hx => ?_, tb_zr rfl (hts _ (by decide +kernel)) (hs _ (by decide +kernel)), tb_zr rfl (hts _ (by decide +kernel)) (hs _ (by decide +kernel)), fun i j h1 h2 h3 h4 h5 => va_Nc.of (hs _ (tb_nc (i, j) (tb_prs i (Nat.lt_succ_of_le h2) j (Nat.lt_succ_of_le h4) h1 h3 h5)))⟩
  · match c, hq with
    | 0, hq => cases hq; exact k0
    | 1, hq => cases hq; exact k1
    | 2, hq => cases hq; exact k2
    | 3, hq => cases hq; exact k3
    | 4, hq => cases hq; exact k4
    | 5, hq => cases hq; exact k5
    | 6, hq => cases hq; exact k6
    | c + 7, hq => cases hq
  · have e : cd_tys ((dC, dI), dA, s.heap) = [(a0, .int), (a1, .boolean), (a2, .long), (a3, .object "CapabilityDomains$Domain"), (a4, .object "CapabilityDomains$DomainObject"), (a5, .object "CapabilityDomains$Field"), (a6, .object "CapabilityDomains$Capability")] := rfl
    rw [e] at hq
    match k, hq with
    | 0, hq => cases hq; exact ⟨p0, r0⟩
    | 1, hq => cases hq; exact ⟨p1, r1⟩
    | 2, hq => cases hq; exact ⟨p2, r2⟩
    | 3, hq => cases hq; exact ⟨p3, r3⟩
    | 4, hq => cases hq; exact ⟨p4, r4⟩
    | 5, hq => cases hq; exact ⟨p5, r5⟩
    | 6, hq => cases hq; exact ⟨p6, r6⟩
    | k + 7, hq => cases hq
  · match i, ht with
    | 0, ht => cases ht; first | exact w0 | exact va_tabs (by decide +kernel) rfl w0
    | 1, ht => cases ht; first | exact w1 | exact va_tabs (by decide +kernel) rfl w1
    | 2, ht => cases ht; first | exact w2 | exact va_tabs (by decide +kernel) rfl w2
    | 3, ht => cases ht; exact va_AO.of w3
    | 4, ht => cases ht; exact va_AO.of w4
    | 5, ht => cases ht; exact va_AO.of w5
    | 6, ht => cases ht; exact va_AO.of w6
    | i + 7, ht => cases ht
  · obtain ⟨a, c, cell, k, q1, -⟩ := Cond.exactly_spec (args := #[Value.ref b]) (first := s) (o := none) (s := s) (idx := []) (hs _ (tb_stx x hx))
    exact ⟨a, vk_R.of (hts _ (tb_str x hx)) q1⟩
