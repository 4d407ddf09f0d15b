/-! THE CLAIM OUT OF ONE WALK OF THE LAW'S BODY. Your part is whole_start (and what it stands on); all else here is the same for every law, but numbers. -/
def R_law : String := "CapabilityDomainsLaw"
def lw_P (b : Addr) (xs : List Int32) (args : Array Value) (s : State) : Prop := args = #[.ref b] ∧ s.IntsAt b xs ∧ xs.length ≤ 3072 ∧ (Jvm.Cond.and given_1 narrow_1).before args s = true
def lw_Q (_ : Array Value) (s : State) (o : Outcome) (t : State) : Prop := o = .returned (some (.int 1)) ∧ Framed s o t [] 839478 6577669
def lw_Z (below : List Frame) (a : Array Value) (s : State) : State → Prop := fun t => ∃ o, t.status = .running ∧ Ended t below o ∧ lw_Q a s o t
/-- the law's end: true, and nothing old was written -/
theorem g_lawret {G : cd_Gl} {l : Launch} {C : cd_Cx} {k n : Nat} {w : cd_Wd} {pc : Nat} {lv : List (Option Value)} {y : MethodName} {cc : ByteArray} {nL : Nat} {ex : List (Nat × Nat × Nat × Nat)} {R : Room} (O : cd_Ok G y cc nL (some .boolean) ex R C) (hG : G.2.2 = (cx_s C).heap) (hd : decode cc pc = .ok (.ireturn, 1)) (hk : k ≤ 839478) (hn : n ≤ 6577669) : cd_Go G l C (lw_Z (cx_b C) (cx_a C) (cx_s C)) k n w pc lv [.int 1] := by
  intro H locs ls a1 b1 c1 T hT X
  have hlocks := O.2.2.2.2.2.1
  have hr := O.2.2.2.2.1
  obtain ⟨fs, hret, hrun, hended, hW, hframe⟩ := X.leave (v := some (.int 1)) (fun h => by rw [hr] at h; cases h)
  have hmeth' : T.vm.method? (cx_m C) = some (cx_h C) := X.method'
  refine ⟨T.setFrames fs, ?_, .returned (some (.int 1)), hrun, hended, rfl, ⟨_, rfl⟩, hW, hframe.weaken (fun q hq hlt => ?_) hk hn⟩
  · have hexec := O.1
    have hb := O.2.1
    have hnv : narrow .boolean (.int 1) = .int 1 := rfl
    jvm_step X.here [X.here.top, hexec, hb, hd, hmeth', hr, hnv]
    (try refine ⟨rfl, ?_⟩); (try refine ⟨rfl, ?_⟩)
    first | (intro acts; rw [hret _ acts rfl rfl rfl]) | rw [hret _ _ rfl rfl rfl]
    exact Steps.refl _
  · have h1 := b1 q hq
    rw [hG] at h1
    exact absurd hlt (Nat.not_lt.mpr h1)
set_option maxHeartbeats 4000000 in
set_option maxRecDepth 100000 in
theorem law_loop {G : cd_Gl} {l : Launch} {C : cd_Cx} (hst : l.stackTraces = false) (O : cd_Ok G y_La_law code 7 ret [] room_1 C) (hG : G.2.2 = (cx_s C).heap) {b L : Nat} {xs : Nat → Int32} (hX : va_X b L xs (cx_s C) G.2.2) (hb : b < G.2.2.size) (hL : L ≤ 3072) {x m ou : Nat} : ∀ (r j k n : Nat) (w : cd_Wd) (A : cd_A) (B : Nat → Nat) (σ : cd_S) (g : Nat → Bool), j + r = 513 → k ≤ 100 + 64 * j → n ≤ 2000 + 200 * j → LJ w x m ou A B σ g → cd_Go G l C (lw_Z (cx_b C) (cx_a C) (cx_s C)) k n w 23 [some (.ref b), some (.ref x), some (.ref m), some (.ref ou), some (.int (nI (6 * j))), none, none] [] := by
  intro r
  induction r with
  | zero =>
    intro j k n w A B σ g hjr hk9 hn9 hJ
    refine g_iload O d_La_law_23 rfl ?_
    first | refine g_aload_n O 0 d_La_law_25 rfl rfl ?_ | refine g_aload_nq O 0 d_La_law_25 rfl rfl ?_
    refine g_slen O hX hb d_La_law_26 ?_
    refine g_bipush (v := 6) O d_La_law_27 (by decide) ?_
    refine g_isub O d_La_law_29 ?_
    refine g_icmp_gt  O 1510 d_La_law_30 (by decide) (fun c30 => ?_) (fun c30 => ?_)
    · refine g_iconst (v := 1) O d_La_law_1510 (by decide) ?_
      exact g_lawret O hG d_La_law_1511 (by omega) (by omega)
    · exact absurd ((len6 hL (by omega)).mpr (by omega)) c30
  | succ r ih =>
    intro j k n w A B σ g hjr hk9 hn9 hJ
    have tail : ∀ (k n : Nat) (w : cd_Wd) (A : cd_A) (B : Nat → Nat) (σ : cd_S) (g : Nat → Bool) (v5 v6 : Option Value), k ≤ 100 + 64 * (j + 1) → n ≤ 2000 + 200 * (j + 1) → LJ w x m ou A B σ g → cd_Go G l C (lw_Z (cx_b C) (cx_a C) (cx_s C)) k n w 1504 [some (.ref b), some (.ref x), some (.ref m), some (.ref ou), some (.int (nI (6 * j))), v5, v6] [] := by
      intro k n w A B σ g v5 v6 hk hn hJ
      refine g_iinc (v := nI (6 * (j + 1))) O d_La_law_1504 rfl (ic6 j) ?_
      refine g_goto O 23 d_La_law_1507 (by decide) ?_
      refine g_fg 5 ?_
      refine g_fg 6 ?_
      exact ih (j + 1) k n w A B σ g (by omega) hk hn hJ
    refine g_iload O d_La_law_23 rfl ?_
    first | refine g_aload_n O 0 d_La_law_25 rfl rfl ?_ | refine g_aload_nq O 0 d_La_law_25 rfl rfl ?_
    refine g_slen O hX hb d_La_law_26 ?_
    refine g_bipush (v := 6) O d_La_law_27 (by decide) ?_
    refine g_isub O d_La_law_29 ?_
    refine g_icmp_gt  O 1510 d_La_law_30 (by decide) (fun c30 => ?_) (fun c30 => ?_)
    · refine g_iconst (v := 1) O d_La_law_1510 (by decide) ?_
      exact g_lawret O hG d_La_law_1511 (by omega) (by omega)
    · have hjL : 6 * j + 6 ≤ L := Nat.le_of_not_lt fun z => c30 ((len6 hL (by omega)).mpr z)
      first | refine g_aload_n O 0 d_La_law_33 rfl rfl ?_ | refine g_aload_nq O 0 d_La_law_33 rfl rfl ?_
      refine g_iload O d_La_law_34 rfl ?_
      refine g_sld O hX hb (ix_in (show 6 * j < L by omega) (by omega)) d_La_law_36 ?_
      refine g_bipush (v := 31) O d_La_law_37 (by decide) ?_
      refine g_iand O d_La_law_39 ?_
      generalize xs (nI (6 * j)).toNatClampNeg &&& 31 = vv
      rcases sw19 vv with hc | hc | hc | hc | hc | hc | hc | hc | hc | hc | hc | hc | hc | hc | hc | hc | hc | hc | hc | hc
      · refine g_tabI O 0 132 d_La_law_40 (by assumption) rfl (by decide) (by decide) rfl (by decide) ?_
        exact law_c0 hst O hX hb hL hjL hk9 hn9 hJ tail
      · refine g_tabI O 1 176 d_La_law_40 (by assumption) rfl (by decide) (by decide) rfl (by decide) ?_
        exact law_c1 hst O hX hb hL hjL hk9 hn9 hJ tail
      · refine g_tabI O 2 232 d_La_law_40 (by assumption) rfl (by decide) (by decide) rfl (by decide) ?_
        exact law_c2 hst O hX hb hL hjL hk9 hn9 hJ tail
      · refine g_tabI O 3 324 d_La_law_40 (by assumption) rfl (by decide) (by decide) rfl (by decide) ?_
        exact law_c3 hst O hX hb hL hjL hk9 hn9 hJ tail
      · refine g_tabI O 4 416 d_La_law_40 (by assumption) rfl (by decide) (by decide) rfl (by decide) ?_
        exact law_c4 hst O hX hb hL hjL hk9 hn9 hJ tail
      · refine g_tabI O 5 508 d_La_law_40 (by assumption) rfl (by decide) (by decide) rfl (by decide) ?_
        exact law_c5 hst O hX hb hL hjL hk9 hn9 hJ tail
      · refine g_tabI O 6 612 d_La_law_40 (by assumption) rfl (by decide) (by decide) rfl (by decide) ?_
        exact law_c6 hst O hX hb hL hjL hk9 hn9 hJ tail
      · refine g_tabI O 7 704 d_La_law_40 (by assumption) rfl (by decide) (by decide) rfl (by decide) ?_
        exact law_c7 hst O hX hb hL hjL hk9 hn9 hJ tail
      · refine g_tabI O 8 796 d_La_law_40 (by assumption) rfl (by decide) (by decide) rfl (by decide) ?_
        exact law_c8 hst O hX hb hL hjL hk9 hn9 hJ tail
      · refine g_tabI O 9 864 d_La_law_40 (by assumption) rfl (by decide) (by decide) rfl (by decide) ?_
        exact law_c9 hst O hX hb hL hjL hk9 hn9 hJ tail
      · refine g_tabI O 10 944 d_La_law_40 (by assumption) rfl (by decide) (by decide) rfl (by decide) ?_
        exact law_c10 hst O hX hb hL hjL hk9 hn9 hJ tail
      · refine g_tabI O 11 1036 d_La_law_40 (by assumption) rfl (by decide) (by decide) rfl (by decide) ?_
        exact law_c11 hst O hX hb hL hjL hk9 hn9 hJ tail
      · refine g_tabI O 12 1128 d_La_law_40 (by assumption) rfl (by decide) (by decide) rfl (by decide) ?_
        exact law_c12 hst O hX hb hL hjL hk9 hn9 hJ tail
      · refine g_tabI O 13 1220 d_La_law_40 (by assumption) rfl (by decide) (by decide) rfl (by decide) ?_
        exact law_c13 hst O hX hb hL hjL hk9 hn9 hJ tail
      · refine g_tabI O 14 1288 d_La_law_40 (by assumption) rfl (by decide) (by decide) rfl (by decide) ?_
        exact law_c14 hst O hX hb hL hjL hk9 hn9 hJ tail
      · refine g_tabI O 15 1344 d_La_law_40 (by assumption) rfl (by decide) (by decide) rfl (by decide) ?_
        exact law_c15 hst O hX hb hL hjL hk9 hn9 hJ tail
      · refine g_tabI O 16 1393 d_La_law_40 (by assumption) rfl (by decide) (by decide) rfl (by decide) ?_
        exact law_c16 hst O hX hb hL hjL hk9 hn9 hJ tail
      · refine g_tabI O 17 1442 d_La_law_40 (by assumption) rfl (by decide) (by decide) rfl (by decide) ?_
        exact law_c17 hst O hX hb hL hjL hk9 hn9 hJ tail
      · refine g_tabI O 18 1479 d_La_law_40 (by assumption) rfl (by decide) (by decide) rfl (by decide) ?_
        exact law_c18 hst O hX hb hL hjL hk9 hn9 hJ tail
      · refine g_tabO O 1504 d_La_law_40 (by assumption) (by decide) ?_
        exact tail _ _ w A B σ g _ _ (by omega) (by omega) hJ
/-- nothing is made yet -/
def cd_w0 : cd_Wd := (fun _ => 0, fun _ => 0, fun _ _ _ => 0, fun _ _ _ => none, fun _ _ => 0)
set_option maxHeartbeats 4000000 in
set_option maxRecDepth 100000 in
theorem law_go {G : cd_Gl} {l : Launch} {C : cd_Cx} (hst : l.stackTraces = false) (O : cd_Ok G y_La_law code 7 ret [] room_1 C) (hG : G.2.2 = (cx_s C).heap) {b L : Nat} {xs : Nat → Int32} (hX : va_X b L xs (cx_s C) G.2.2) (hb : b < G.2.2.size) (hL : L ≤ 3072) : cd_Go G l C (lw_Z (cx_b C) (cx_a C) (cx_s C)) 0 0 cd_w0 0 [some (.ref b), none, none, none, none, none, none] [] := by
  refine g_new O c_Cd kl_La_8 ia_Cd in_Cd d_La_law_0 (Nat.le_of_ble_eq_true rfl) (Nat.le_of_ble_eq_true rfl) (fun b0 z0 => ?_)
  refine g_dup O d_La_law_3 (by first | rfl | exact cat_rf _) ?_
  refine g_calli (N := 2) (mc := 6) (ms := 87) (av := []) O cw_Cd_init pl_Cd rfl ml_La_72 im_Cd_init rfl d_La_law_4 rfl (Nat.le_of_ble_eq_true rfl) (Nat.le_of_ble_eq_true rfl) (Nat.le_of_ble_eq_true rfl) (Nat.le_of_ble_eq_true rfl) ?_
  refine op_init (by rw [kd_wN, if_pos rfl]) (by rw [I_wN, if_pos rfl]) (by rw [I_wN, if_pos rfl]) (fun w2 A hR2 hF2 hs2 => ?_)
  change cd_Go _ _ _ _ _ _ _ _ _ _
  first | refine g_astore_n O 1 d_La_law_7 rfl (Nat.le_of_ble_eq_true rfl) ?_ | refine g_astore_nq O 1 d_La_law_7 rfl (Nat.le_of_ble_eq_true rfl) ?_
  refine g_new O c_Mo kl_La_73 ia_Mo in_Mo d_La_law_8 (Nat.le_of_ble_eq_true rfl) (Nat.le_of_ble_eq_true rfl) (fun b8 z8 => ?_)
  refine g_dup O d_La_law_11 (by first | rfl | exact cat_rf _) ?_
  refine g_calli (N := 1) (mc := 14) (ms := 806) (av := []) O cw_Mo_init pl_Mo rfl ml_La_75 im_Mo_init rfl d_La_law_12 rfl (Nat.le_of_ble_eq_true rfl) (Nat.le_of_ble_eq_true rfl) (Nat.le_of_ble_eq_true rfl) (Nat.le_of_ble_eq_true rfl) ?_
  refine om_init (by rw [kd_wN, if_pos rfl]) (fun w4 B hM4 hF4 hB4 => ?_)
  have hlive : ∀ a, cd_ow b0 A cd_s0 a → cd_kd w2 a ≠ 0 := fun a ha => ow_ne0 hR2 ha
  have hF24 : cd_Fr w2 w4 (fun y => cd_kd w2 y = 0) := ((cd_Fr.wN z8).tr (hF4.up fun y hy z => by
    rcases z with rfl | z
    · exact z8
    · exact absurd z hy))
  have hR4 : cd_Rep w4 b0 A cd_s0 := rep_fr hR2 hF24 fun a ha => hlive a ha
  have hmw : ∀ y, mow b8 B y → cd_kd w2 y = 0 := by
    rintro y (rfl | ⟨kk, h1, h2, rfl⟩)
    · exact z8
    · have := hB4 kk h1 h2
      rw [kd_wN] at this
      split at this
      · cases this
      · exact this
  change cd_Go _ _ _ _ _ _ _ _ _ _
  first | refine g_astore_n O 2 d_La_law_15 rfl (Nat.le_of_ble_eq_true rfl) ?_ | refine g_astore_nq O 2 d_La_law_15 rfl (Nat.le_of_ble_eq_true rfl) ?_
  refine g_iconst (v := 1) O d_La_law_16 (by decide) ?_
  refine g_newa (N := 1) O 2 rfl rfl (Or.inr ⟨rfl, rfl⟩) d_La_law_17 (by decide) (by decide) (by decide) (Nat.le_of_ble_eq_true rfl) (Nat.le_of_ble_eq_true rfl) (fun b17 z17 => ?_)
  first | refine g_astore_n O 3 d_La_law_19 rfl (Nat.le_of_ble_eq_true rfl) ?_ | refine g_astore_nq O 3 d_La_law_19 rfl (Nat.le_of_ble_eq_true rfl) ?_
  refine g_iconst (v := 0) O d_La_law_20 (by decide) ?_
  refine g_istore O d_La_law_21 (Nat.le_of_ble_eq_true rfl) ?_
  have hR5 : cd_Rep (cd_wN w4 b17 5 1) b0 A cd_s0 := rep_fr hR4 (cd_Fr.wN (P := fun _ => False) z17) fun _ _ => id
  have hM5 : RepM (cd_wN w4 b17 5 1) b8 B cd_s0 (fun _ => false) := hM4.fr (cd_Fr.wN (P := fun _ => False) z17) fun _ _ => id
  exact law_loop hst O hG hX hb hL (x := b0) (m := b8) (ou := b17) 513 0 _ _ _ A B cd_s0 (fun _ => false) (by omega) (by decide) (by decide) ⟨hR5, hM5, Rel0, cd_Iv0, by rw [kd_wN, if_pos rfl], by rw [ln_wN, if_pos rfl], fun a ha hm => hlive a ha (hmw a hm), fun ha => ow_ne0 hR4 ha z17, fun hm => hM4.ex hm z17⟩
