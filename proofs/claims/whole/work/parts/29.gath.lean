set_option maxHeartbeats 4000000 in
set_option maxRecDepth 100000 in
theorem ct_Mo_gather {G : cd_Gl} {l : Launch} {w : cd_Wd} {Q : cd_Out → cd_Wd → Prop} {m : Nat} {B : Nat → Nat} {σ : cd_S} {g : Nat → Bool} (hM : RepM w m B σ g) (hI : cd_Iv σ) {d o : Nat} (hd : d < 6) (hdD : d < sD σ) (ho : o < 12) (ht : sT σ d o = true) (h : ∀ w', RepM w' m B σ g → cd_I w' 209 m 0 = nI (come σ d 12 (nI o) []).length → (∀ i, i < (come σ d 12 (nI o) []).length → cd_I w' 1000 (B 13) i = nI ((come σ d 12 (nI o) []).getD i 0)) → cd_Fr w w' (mow m B) → Q (.inl none) w') : cd_Ct G l y_Mo_gather 0 0 0 [.ref m, .int (nI d), .int (nI o)] w Q := by
  refine cd_ofW cw_Mo_gather (by simp [Value.category, cat_rf]) (Nat.le_of_ble_eq_true rfl) fun C O => ?_
  change cd_Go G l C _ 0 0 w 0 [some (.ref m), some (.int (nI d)), some (.int (nI o)), none, none, none] []
  have loop : ∀ (μ : Nat) (acc : List Nat) (st : List (Nat × Nat)) (v : cd_Wd), msr acc st < μ → Gth v m B σ g d acc st → fini σ d acc st = (come σ d 12 (nI o) []) → cd_Fr w v (mow m B) → cd_Go G l C (cd_MQ G (cx_s C) (cx_b C) 0 0 Q) 0 0 v 56 [some (.ref m), some (.int (nI d)), some (.int (nI o)), some (.int (nI st.length)), none, none] [] := by
    intro μ
    induction μ with
    | zero => intro acc st v hm; omega
    | succ μ ih =>
      intro acc st v hm hG hL hF
      have hA12 := nd_len 12 acc hG.2.1.1 hG.2.1.2
      cases st with
      | nil =>
        have hL : acc = (come σ d 12 (nI o) []) := hL
        rw [← hL] at h
        refine g_iload_n O 3 d_Mo_gather_56 rfl rfl ?_
        refine g_if_le  O 214 d_Mo_gather_57 (by decide) (fun c57 => ?_) (fun c57 => ?_)
        · refine g_ret O d_Mo_gather_214 (Nat.le_of_ble_eq_true rfl) (Nat.le_of_ble_eq_true rfl) ?_
          exact h v hG.1 hG.2.2.1 hG.2.2.2.1 hF
        · exact absurd (show nI 0 ≤ 0 from by decide) c57
      | cons p st =>
        obtain ⟨x, n⟩ := p
        have hx := hG.2.2.2.2.2.2.2 (x, n) List.mem_cons_self
        have hlen : st.length + 1 ≤ acc.length := hG.2.2.2.2.2.2.1
        have hst12 : st.length < 12 := by omega
        simp only at hx
        refine g_iload_n O 3 d_Mo_gather_56 rfl rfl ?_
        refine g_if_le  O 214 d_Mo_gather_57 (by decide) (fun c57 => ?_) (fun c57 => ?_)
        · exact absurd c57 (nI_nle (n := st.length + 1) (by omega) (by omega))
        · refine g_iload_n O 3 d_Mo_gather_60 rfl rfl ?_
          refine g_iconst (v := 1) O d_Mo_gather_61 (by decide) ?_
          refine g_isub O d_Mo_gather_62 ?_
          rw [show nI ((x, n) :: st).length - 1 = nI st.length from nI_pred _]
          refine g_istore O d_Mo_gather_63 (Nat.le_of_ble_eq_true rfl) ?_
          first | refine g_aload_n O 0 d_Mo_gather_65 rfl rfl ?_ | refine g_aload_nq O 0 d_Mo_gather_65 rfl rfl ?_
          refine g_getS O c_Mo 16 (by decide) rfl hG.1.km lk_Mo_60 d_Mo_gather_66 (hG.1.a 16 (by omega) (by omega)).1 ?_
          refine g_iload O d_Mo_gather_69 rfl ?_
          refine g_ialdV O 0 rfl rfl (hG.1.a 16 (by omega) (by omega)).2.1 (vinL (hG.1.a 16 (by omega) (by omega)).2.2 (ix_in (n := 12) (show st.length < 12 from hst12) (by omega))) d_Mo_gather_71 (Eq.trans (congrArg (cd_I _ (1000 + 0) (B 16)) (cl_nI (j := st.length) (by omega))) (hG.2.2.2.2.2.1.2.1)) ?_
          refine g_iconst (v := 3) O d_Mo_gather_72 (by decide) ?_
          refine g_icmp_ne  O 82 d_Mo_gather_73 (by decide) (fun c73 => ?_) (fun c73 => ?_)
          · have hn3 : n < 3 := by
              have : ¬ n = 3 := fun z => c73 (by rw [z]; rfl)
              omega
            refine g_iload_n O 1 d_Mo_gather_82 rfl rfl ?_
            refine g_bipush (v := 12) O d_Mo_gather_83 (by decide) ?_
            refine g_imul O d_Mo_gather_85 ?_
            first | refine g_aload_n O 0 d_Mo_gather_86 rfl rfl ?_ | refine g_aload_nq O 0 d_Mo_gather_86 rfl rfl ?_
            refine g_getS O c_Mo 15 (by decide) rfl hG.1.km lk_Mo_57 d_Mo_gather_87 (hG.1.a 15 (by omega) (by omega)).1 ?_
            refine g_iload O d_Mo_gather_90 rfl ?_
            refine g_ialdV O 0 rfl rfl (hG.1.a 15 (by omega) (by omega)).2.1 (vinL (hG.1.a 15 (by omega) (by omega)).2.2 (ix_in (n := 12) (show st.length < 12 from hst12) (by omega))) d_Mo_gather_92 (Eq.trans (congrArg (cd_I _ (1000 + 0) (B 15)) (cl_nI (j := st.length) (by omega))) (hG.2.2.2.2.2.1.1)) ?_
            refine g_iadd O d_Mo_gather_93 ?_
            rw [m12, nI_add]
            refine g_iconst (v := 3) O d_Mo_gather_94 (by decide) ?_
            refine g_imul O d_Mo_gather_95 ?_
            first | refine g_aload_n O 0 d_Mo_gather_96 rfl rfl ?_ | refine g_aload_nq O 0 d_Mo_gather_96 rfl rfl ?_
            refine g_getS O c_Mo 16 (by decide) rfl hG.1.km lk_Mo_60 d_Mo_gather_97 (hG.1.a 16 (by omega) (by omega)).1 ?_
            refine g_iload O d_Mo_gather_100 rfl ?_
            refine g_ialdV O 0 rfl rfl (hG.1.a 16 (by omega) (by omega)).2.1 (vinL (hG.1.a 16 (by omega) (by omega)).2.2 (ix_in (n := 12) (show st.length < 12 from hst12) (by omega))) d_Mo_gather_102 (Eq.trans (congrArg (cd_I _ (1000 + 0) (B 16)) (cl_nI (j := st.length) (by omega))) (hG.2.2.2.2.2.1.2.1)) ?_
            refine g_iadd O d_Mo_gather_103 ?_
            rw [m3, nI_add]
            refine g_istore O d_Mo_gather_104 (Nat.le_of_ble_eq_true rfl) ?_
            first | refine g_aload_n O 0 d_Mo_gather_106 rfl rfl ?_ | refine g_aload_nq O 0 d_Mo_gather_106 rfl rfl ?_
            refine g_getS O c_Mo 16 (by decide) rfl hG.1.km lk_Mo_60 d_Mo_gather_107 (hG.1.a 16 (by omega) (by omega)).1 ?_
            refine g_iload O d_Mo_gather_110 rfl ?_
            refine g_dup2 O d_Mo_gather_112 rfl rfl ?_
            refine g_ialdV O 0 rfl rfl (hG.1.a 16 (by omega) (by omega)).2.1 (vinL (hG.1.a 16 (by omega) (by omega)).2.2 (ix_in (n := 12) (show st.length < 12 from hst12) (by omega))) d_Mo_gather_113 (Eq.trans (congrArg (cd_I _ (1000 + 0) (B 16)) (cl_nI (j := st.length) (by omega))) (hG.2.2.2.2.2.1.2.1)) ?_
            refine g_iconst (v := 1) O d_Mo_gather_114 (by decide) ?_
            refine g_iadd O d_Mo_gather_115 ?_
            rw [nI_1]
            refine g_iast O 0 rfl rfl (hG.1.a 16 (by omega) (by omega)).2.1 (vinL (hG.1.a 16 (by omega) (by omega)).2.2 (ix_in (n := 12) (show st.length < 12 from hst12) (by omega))) d_Mo_gather_116 ?_
            rw [cl_nI (show st.length < 2 ^ 31 by omega)]
            have hG1 := hG.next hn3
            have hM1 := hG1.1
            have hF1 : cd_Fr w (cd_wI v (1000 + 0) (B 16) st.length (nI (n + 1))) (mow m B) := hF.tr (cd_Fr.wI (mow_k (k := 16) (by omega) (by omega)))
            have hQ := hM1.F hd hx.1 hn3
            have hfo := hI.2.2.1 d x n
            first | refine g_aload_n O 0 d_Mo_gather_117 rfl rfl ?_ | refine g_aload_nq O 0 d_Mo_gather_117 rfl rfl ?_
            refine g_getS O c_Mo 5 (by decide) rfl hM1.km lk_Mo_26 d_Mo_gather_118 (hM1.a 5 (by omega) (by omega)).1 ?_
            refine g_iload O d_Mo_gather_121 rfl ?_
            refine g_ialdV O 0 rfl rfl (hM1.a 5 (by omega) (by omega)).2.1 (vinL (hM1.a 5 (by omega) (by omega)).2.2 (ix_in (n := 216) (show (d * 12 + x) * 3 + n < 216 from by omega) (by omega))) d_Mo_gather_123 (Eq.trans (congrArg (cd_I _ (1000 + 0) (B 5)) (cl_nI (j := (d * 12 + x) * 3 + n) (by omega))) (hQ.1)) ?_
            refine g_iconst (v := 1) O d_Mo_gather_124 (by decide) ?_
            refine g_icmp_ne  O 56 d_Mo_gather_125 (by decide) (fun c125 => ?_) (fun c125 => ?_)
            · have hlk := fS_n1 hfo c125
              refine g_fg 4 ?_
              refine g_fg 5 ?_
              exact ih acc ((x, n + 1) :: st) _ (by simp only [msr] at hm ⊢; omega) hG1 ((fini_no hn3 (kid_no hlk)).symm.trans hL) hF1
            · obtain ⟨z, hz⟩ := fS_1 hfo c125
              have hl1 : (sF σ d x n).2.1 = some z := by rw [hz]
              have hz12 : z < 12 := hM1.wf.2.2.1 d x n z hdD hx.1 hn3 hl1
              have hzt : sT σ d z = true := hI.2.2.2.1 d x n z hdD hx.1 hn3 hx.2.1 hl1
              have hV1 : cd_I (cd_wI v (1000 + 0) (B 16) st.length (nI (n + 1))) 1000 (B 6) ((d * 12 + x) * 3 + n) = nI z := by rw [hQ.2, hz]; rfl
              first | refine g_aload_n O 0 d_Mo_gather_128 rfl rfl ?_ | refine g_aload_nq O 0 d_Mo_gather_128 rfl rfl ?_
              refine g_getS O c_Mo 14 (by decide) rfl hM1.km lk_Mo_54 d_Mo_gather_129 (hM1.a 14 (by omega) (by omega)).1 ?_
              first | refine g_aload_n O 0 d_Mo_gather_132 rfl rfl ?_ | refine g_aload_nq O 0 d_Mo_gather_132 rfl rfl ?_
              refine g_getS O c_Mo 6 (by decide) rfl hM1.km lk_Mo_30 d_Mo_gather_133 (hM1.a 6 (by omega) (by omega)).1 ?_
              refine g_iload O d_Mo_gather_136 rfl ?_
              refine g_ialdV O 0 rfl rfl (hM1.a 6 (by omega) (by omega)).2.1 (vinL (hM1.a 6 (by omega) (by omega)).2.2 (ix_in (n := 216) (show (d * 12 + x) * 3 + n < 216 from by omega) (by omega))) d_Mo_gather_138 (Eq.trans (congrArg (cd_I _ (1000 + 0) (B 6)) (cl_nI (j := (d * 12 + x) * 3 + n) (by omega))) (hV1)) ?_
              refine g_iald O 0 rfl rfl (hM1.a 14 (by omega) (by omega)).2.1 (vinL (hM1.a 14 (by omega) (by omega)).2.2 (ix_in (n := 12) (show z < 12 from hz12) (by omega))) d_Mo_gather_139 ?_
              refine g_if_lt  O 146 d_Mo_gather_140 (by decide) (fun c140 => ?_) (fun c140 => ?_)
              · have hza : z ∉ acc := (hG1.2.2.2.2.1 z hz12).mp (by rw [cl_nI (by omega)] at c140; exact c140)
                have hacc : acc.length < 12 := hG1.2.1.lt hz12 hza
                have hst1 : st.length + 1 < 12 := Nat.lt_of_le_of_lt hG1.2.2.2.2.2.2.1 hacc
                first | refine g_aload_n O 0 d_Mo_gather_146 rfl rfl ?_ | refine g_aload_nq O 0 d_Mo_gather_146 rfl rfl ?_
                refine g_getS O c_Mo 14 (by decide) rfl hM1.km lk_Mo_54 d_Mo_gather_147 (hM1.a 14 (by omega) (by omega)).1 ?_
                first | refine g_aload_n O 0 d_Mo_gather_150 rfl rfl ?_ | refine g_aload_nq O 0 d_Mo_gather_150 rfl rfl ?_
                refine g_getS O c_Mo 6 (by decide) rfl hM1.km lk_Mo_30 d_Mo_gather_151 (hM1.a 6 (by omega) (by omega)).1 ?_
                refine g_iload O d_Mo_gather_154 rfl ?_
                refine g_ialdV O 0 rfl rfl (hM1.a 6 (by omega) (by omega)).2.1 (vinL (hM1.a 6 (by omega) (by omega)).2.2 (ix_in (n := 216) (show (d * 12 + x) * 3 + n < 216 from by omega) (by omega))) d_Mo_gather_156 (Eq.trans (congrArg (cd_I _ (1000 + 0) (B 6)) (cl_nI (j := (d * 12 + x) * 3 + n) (by omega))) (hV1)) ?_
                first | refine g_aload_n O 0 d_Mo_gather_157 rfl rfl ?_ | refine g_aload_nq O 0 d_Mo_gather_157 rfl rfl ?_
                refine g_getV O c_Mo 17 (by decide) rfl hM1.km lk_Mo_63 d_Mo_gather_158 hG1.2.2.1 ?_
                refine g_iast O 0 rfl rfl (hM1.a 14 (by omega) (by omega)).2.1 (vinL (hM1.a 14 (by omega) (by omega)).2.2 (ix_in (n := 12) (show z < 12 from hz12) (by omega))) d_Mo_gather_161 ?_
                rw [cl_nI (show z < 2 ^ 31 by omega)]
                have hM2 := rm_kA hM1 (k := 14) (j := z) (v := nI acc.length) (by omega) (by omega)
                have hV2 := (hM2.F hd hx.1 hn3).2.trans (by rw [hz]; rfl : _ = nI z)
                first | refine g_aload_n O 0 d_Mo_gather_162 rfl rfl ?_ | refine g_aload_nq O 0 d_Mo_gather_162 rfl rfl ?_
                refine g_getS O c_Mo 13 (by decide) rfl hM2.km lk_Mo_51 d_Mo_gather_163 (hM2.a 13 (by omega) (by omega)).1 ?_
                first | refine g_aload_n O 0 d_Mo_gather_166 rfl rfl ?_ | refine g_aload_nq O 0 d_Mo_gather_166 rfl rfl ?_
                refine g_getV O c_Mo 17 (by decide) rfl hM2.km lk_Mo_63 d_Mo_gather_167 (show cd_I _ 209 m 0 = nI acc.length from by rw [w_nt (by decide)]; exact hG1.2.2.1) ?_
                first | refine g_aload_n O 0 d_Mo_gather_170 rfl rfl ?_ | refine g_aload_nq O 0 d_Mo_gather_170 rfl rfl ?_
                refine g_getS O c_Mo 6 (by decide) rfl hM2.km lk_Mo_30 d_Mo_gather_171 (hM2.a 6 (by omega) (by omega)).1 ?_
                refine g_iload O d_Mo_gather_174 rfl ?_
                refine g_ialdV O 0 rfl rfl (hM2.a 6 (by omega) (by omega)).2.1 (vinL (hM2.a 6 (by omega) (by omega)).2.2 (ix_in (n := 216) (show (d * 12 + x) * 3 + n < 216 from by omega) (by omega))) d_Mo_gather_176 (Eq.trans (congrArg (cd_I _ (1000 + 0) (B 6)) (cl_nI (j := (d * 12 + x) * 3 + n) (by omega))) (hV2)) ?_
                refine g_iast O 0 rfl rfl (hM2.a 13 (by omega) (by omega)).2.1 (vinL (hM2.a 13 (by omega) (by omega)).2.2 (ix_in (n := 12) (show acc.length < 12 from hacc) (by omega))) d_Mo_gather_177 ?_
                rw [cl_nI (show acc.length < 2 ^ 31 by omega)]
                have hM3 := rm_kA hM2 (k := 13) (j := acc.length) (v := nI z) (by omega) (by omega)
                first | refine g_aload_n O 0 d_Mo_gather_178 rfl rfl ?_ | refine g_aload_nq O 0 d_Mo_gather_178 rfl rfl ?_
                refine g_dup O d_Mo_gather_179 (by first | rfl | exact cat_rf _) ?_
                refine g_getV O c_Mo 17 (by decide) rfl hM3.km lk_Mo_63 d_Mo_gather_180 (show cd_I _ 209 m 0 = nI acc.length from by rw [w_nt (by decide), w_nt (by decide)]; exact hG1.2.2.1) ?_
                refine g_iconst (v := 1) O d_Mo_gather_183 (by decide) ?_
                refine g_iadd O d_Mo_gather_184 ?_
                rw [nI_1]
                refine g_putI O c_Mo 17 (by decide) rfl hM3.km (Or.inl rfl) (Or.inl rfl) lk_Mo_63 d_Mo_gather_185 ?_
                have hM4 := rm_km hM3 (t := 209) (v := nI (acc.length + 1)) (by decide) (by decide) (by decide) (by decide)
                have hV4 := (hM4.F hd hx.1 hn3).2.trans (by rw [hz]; rfl : _ = nI z)
                first | refine g_aload_n O 0 d_Mo_gather_188 rfl rfl ?_ | refine g_aload_nq O 0 d_Mo_gather_188 rfl rfl ?_
                refine g_getS O c_Mo 15 (by decide) rfl hM4.km lk_Mo_57 d_Mo_gather_189 (hM4.a 15 (by omega) (by omega)).1 ?_
                refine g_iload_n O 3 d_Mo_gather_192 rfl rfl ?_
                first | refine g_aload_n O 0 d_Mo_gather_193 rfl rfl ?_ | refine g_aload_nq O 0 d_Mo_gather_193 rfl rfl ?_
                refine g_getS O c_Mo 6 (by decide) rfl hM4.km lk_Mo_30 d_Mo_gather_194 (hM4.a 6 (by omega) (by omega)).1 ?_
                refine g_iload O d_Mo_gather_197 rfl ?_
                refine g_ialdV O 0 rfl rfl (hM4.a 6 (by omega) (by omega)).2.1 (vinL (hM4.a 6 (by omega) (by omega)).2.2 (ix_in (n := 216) (show (d * 12 + x) * 3 + n < 216 from by omega) (by omega))) d_Mo_gather_199 (Eq.trans (congrArg (cd_I _ (1000 + 0) (B 6)) (cl_nI (j := (d * 12 + x) * 3 + n) (by omega))) (hV4)) ?_
                refine g_iast O 0 rfl rfl (hM4.a 15 (by omega) (by omega)).2.1 (vinL (hM4.a 15 (by omega) (by omega)).2.2 (ix_in (n := 12) (show st.length + 1 < 12 from hst1) (by omega))) d_Mo_gather_200 ?_
                rw [show (nI ((x, n) :: st).length).toNatClampNeg = st.length + 1 from cl_nI (j := st.length + 1) (by omega)]
                have hM5 := rm_kA hM4 (k := 15) (j := st.length + 1) (v := nI z) (by omega) (by omega)
                first | refine g_aload_n O 0 d_Mo_gather_201 rfl rfl ?_ | refine g_aload_nq O 0 d_Mo_gather_201 rfl rfl ?_
                refine g_getS O c_Mo 16 (by decide) rfl hM5.km lk_Mo_60 d_Mo_gather_202 (hM5.a 16 (by omega) (by omega)).1 ?_
                refine g_iload_n O 3 d_Mo_gather_205 rfl rfl ?_
                refine g_iconst (v := 0) O d_Mo_gather_206 (by decide) ?_
                refine g_iast O 0 rfl rfl (hM5.a 16 (by omega) (by omega)).2.1 (vinL (hM5.a 16 (by omega) (by omega)).2.2 (ix_in (n := 12) (show st.length + 1 < 12 from hst1) (by omega))) d_Mo_gather_207 ?_
                rw [show (nI ((x, n) :: st).length).toNatClampNeg = st.length + 1 from cl_nI (j := st.length + 1) (by omega)]
                first | refine g_iinc O d_Mo_gather_208 rfl (ic1 _) ?_ | refine g_iinc O d_Mo_gather_208 rfl rfl ?_
                refine g_goto O 56 d_Mo_gather_211 (by decide) ?_
                refine g_fg 4 ?_
                refine g_fg 5 ?_
                refine ih (acc ++ [z]) ((z, 0) :: (x, n + 1) :: st) _ ?_ (hG1.push hz12 hza hzt) ((fini_push hG1.2.1 hn3 (by rw [lkI, hl1]; rfl) hz12 hzt hza).symm.trans hL) ?_
                · have e8 := msr_acc acc z hacc st
                  simp only [msr] at hm ⊢
                  omega
                · refine cd_Fr.tr ?_ (cd_Fr.wI (mow_k (k := 16) (by omega) (by omega)))
                  refine cd_Fr.tr ?_ (cd_Fr.wI (mow_k (k := 15) (by omega) (by omega)))
                  refine cd_Fr.tr ?_ (cd_Fr.wI (Or.inl rfl))
                  refine cd_Fr.tr ?_ (cd_Fr.wI (mow_k (k := 13) (by omega) (by omega)))
                  exact cd_Fr.tr hF1 (cd_Fr.wI (mow_k (k := 14) (by omega) (by omega)))
              · have hin : z ∈ acc := Decidable.byContradiction fun q => c140 (by rw [cl_nI (by omega)]; exact (hG1.2.2.2.2.1 z hz12).mpr q)
                refine g_goto O 56 d_Mo_gather_143 (by decide) ?_
                refine g_fg 4 ?_
                refine g_fg 5 ?_
                exact ih acc ((x, n + 1) :: st) _ (by simp only [msr] at hm ⊢; omega) hG1 ((fini_no hn3 (kid_in hl1 hz12 hin)).symm.trans hL) hF1
          · have hn3 : n = 3 := (nI_eq (b := 3) (by omega) (by omega)).mp c73
            subst hn3
            refine g_iinc O d_Mo_gather_76 rfl (icm _) ?_
            refine g_goto O 56 d_Mo_gather_79 (by decide) ?_
            refine g_fg 4 ?_
            exact ih acc st v (by simp only [msr] at hm; omega) hG.pop hL hF
  have loop1 : ∀ (j : Nat) (v : cd_Wd), j ≤ 12 → (RepM v m B σ g ∧ (∀ y, y < j → cd_I v 1000 (B 14) y = -1) ∧ cd_Fr w v (mow m B)) → cd_Go G l C (cd_MQ G (cx_s C) (cx_b C) 0 0 Q) (0) (0) v 2 [some (.ref m), some (.int (nI d)), some (.int (nI o)), some (.int (nI j)), none, none] [] := by
    refine lp (12) (P := fun j v => RepM v m B σ g ∧ (∀ y, y < j → cd_I v 1000 (B 14) y = -1) ∧ cd_Fr w v (mow m B)) (g := fun j v => cd_Go G l C (cd_MQ G (cx_s C) (cx_b C) 0 0 Q) (0) (0) v 2 [some (.ref m), some (.int (nI d)), some (.int (nI o)), some (.int (nI j)), none, none] []) (fun v hP => ?_) (fun j v hj hP ih => ?_)
    · skip
      obtain ⟨hM, hC, hF⟩ := hP
      refine g_iload_n O 3 d_Mo_gather_2 rfl rfl ?_
      refine g_bipush (v := 12) O d_Mo_gather_3 (by decide) ?_
      refine g_icmp_ge  O 21 d_Mo_gather_5 (by decide) (fun c5 => ?_) (fun c5 => ?_)
      · first | refine g_aload_n O 0 d_Mo_gather_21 rfl rfl ?_ | refine g_aload_nq O 0 d_Mo_gather_21 rfl rfl ?_
        refine g_iconst (v := 1) O d_Mo_gather_22 (by decide) ?_
        refine g_putI O c_Mo 17 (by decide) rfl hM.km (Or.inl rfl) (Or.inl rfl) lk_Mo_63 d_Mo_gather_23 ?_
        have hM1 := rm_km hM (t := 209) (v := 1) (by decide) (by decide) (by decide) (by decide)
        first | refine g_aload_n O 0 d_Mo_gather_26 rfl rfl ?_ | refine g_aload_nq O 0 d_Mo_gather_26 rfl rfl ?_
        refine g_getS O c_Mo 13 (by decide) rfl hM1.km lk_Mo_51 d_Mo_gather_27 (hM1.a 13 (by omega) (by omega)).1 ?_
        refine g_iconst (v := 0) O d_Mo_gather_30 (by decide) ?_
        refine g_iload_n O 2 d_Mo_gather_31 rfl rfl ?_
        refine g_iast O 0 rfl rfl (hM1.a 13 (by omega) (by omega)).2.1 (vinL (hM1.a 13 (by omega) (by omega)).2.2 (ix_in (n := 12) (show 0 < 12 from by omega) (by omega))) d_Mo_gather_32 ?_
        rw [show (0 : Int32).toNatClampNeg = 0 from by decide]
        have hM2 := rm_kA hM1 (k := 13) (j := 0) (v := nI o) (by omega) (by omega)
        first | refine g_aload_n O 0 d_Mo_gather_33 rfl rfl ?_ | refine g_aload_nq O 0 d_Mo_gather_33 rfl rfl ?_
        refine g_getS O c_Mo 14 (by decide) rfl hM2.km lk_Mo_54 d_Mo_gather_34 (hM2.a 14 (by omega) (by omega)).1 ?_
        refine g_iload_n O 2 d_Mo_gather_37 rfl rfl ?_
        refine g_iconst (v := 0) O d_Mo_gather_38 (by decide) ?_
        refine g_iast O 0 rfl rfl (hM2.a 14 (by omega) (by omega)).2.1 (vinL (hM2.a 14 (by omega) (by omega)).2.2 (ix_in (n := 12) (show o < 12 from by omega) (by omega))) d_Mo_gather_39 ?_
        rw [cl_nI (show o < 2 ^ 31 by omega)]
        have hM3 := rm_kA hM2 (k := 14) (j := o) (v := 0) (by omega) (by omega)
        first | refine g_aload_n O 0 d_Mo_gather_40 rfl rfl ?_ | refine g_aload_nq O 0 d_Mo_gather_40 rfl rfl ?_
        refine g_getS O c_Mo 15 (by decide) rfl hM3.km lk_Mo_57 d_Mo_gather_41 (hM3.a 15 (by omega) (by omega)).1 ?_
        refine g_iconst (v := 0) O d_Mo_gather_44 (by decide) ?_
        refine g_iload_n O 2 d_Mo_gather_45 rfl rfl ?_
        refine g_iast O 0 rfl rfl (hM3.a 15 (by omega) (by omega)).2.1 (vinL (hM3.a 15 (by omega) (by omega)).2.2 (ix_in (n := 12) (show 0 < 12 from by omega) (by omega))) d_Mo_gather_46 ?_
        rw [show (0 : Int32).toNatClampNeg = 0 from by decide]
        have hM4 := rm_kA hM3 (k := 15) (j := 0) (v := nI o) (by omega) (by omega)
        first | refine g_aload_n O 0 d_Mo_gather_47 rfl rfl ?_ | refine g_aload_nq O 0 d_Mo_gather_47 rfl rfl ?_
        refine g_getS O c_Mo 16 (by decide) rfl hM4.km lk_Mo_60 d_Mo_gather_48 (hM4.a 16 (by omega) (by omega)).1 ?_
        refine g_iconst (v := 0) O d_Mo_gather_51 (by decide) ?_
        refine g_iconst (v := 0) O d_Mo_gather_52 (by decide) ?_
        refine g_iast O 0 rfl rfl (hM4.a 16 (by omega) (by omega)).2.1 (vinL (hM4.a 16 (by omega) (by omega)).2.2 (ix_in (n := 12) (show 0 < 12 from by omega) (by omega))) d_Mo_gather_53 ?_
        rw [show (0 : Int32).toNatClampNeg = 0 from by decide]
        refine g_iconst (v := 1) O d_Mo_gather_54 (by decide) ?_
        refine g_istore_n O 3 d_Mo_gather_55 rfl (Nat.le_of_ble_eq_true rfl) ?_
        refine loop (msr [o] [(o, 0)] + 1) [o] [(o, 0)] _ (by omega) (Gth.start hM hC ho ht) ?_ ?_
        · rw [show fini σ d [o] [(o, 0)] = chi σ d o 3 ([] ++ [o]) from rfl, come_chi ⟨List.nodup_nil, fun y hy => by cases hy⟩ ho ht (fun z => by cases z)]
        · refine cd_Fr.tr ?_ (cd_Fr.wI (mow_k (k := 16) (by omega) (by omega)))
          refine cd_Fr.tr ?_ (cd_Fr.wI (mow_k (k := 15) (by omega) (by omega)))
          refine cd_Fr.tr ?_ (cd_Fr.wI (mow_k (k := 14) (by omega) (by omega)))
          refine cd_Fr.tr ?_ (cd_Fr.wI (mow_k (k := 13) (by omega) (by omega)))
          exact cd_Fr.tr hF (cd_Fr.wI (Or.inl rfl))
      · exact absurd (show (12 : Int32) ≤ nI 12 from by decide) c5
    · skip
      obtain ⟨hM, hC, hF⟩ := hP
      refine g_iload_n O 3 d_Mo_gather_2 rfl rfl ?_
      refine g_bipush (v := 12) O d_Mo_gather_3 (by decide) ?_
      refine g_icmp_ge  O 21 d_Mo_gather_5 (by decide) (fun c5 => ?_) (fun c5 => ?_)
      · exact absurd c5 (nI_ge (b := 12) hj (by omega))
      · first | refine g_aload_n O 0 d_Mo_gather_8 rfl rfl ?_ | refine g_aload_nq O 0 d_Mo_gather_8 rfl rfl ?_
        refine g_getS O c_Mo 14 (by decide) rfl hM.km lk_Mo_54 d_Mo_gather_9 (hM.a 14 (by omega) (by omega)).1 ?_
        refine g_iload_n O 3 d_Mo_gather_12 rfl rfl ?_
        refine g_iconst (v := -1) O d_Mo_gather_13 (by decide) ?_
        refine g_iast O 0 rfl rfl (hM.a 14 (by omega) (by omega)).2.1 (vinL (hM.a 14 (by omega) (by omega)).2.2 (ix_in (n := 12) (show j < 12 from by omega) (by omega))) d_Mo_gather_14 ?_
        first | refine g_iinc O d_Mo_gather_15 rfl (ic1 _) ?_ | refine g_iinc O d_Mo_gather_15 rfl rfl ?_
        refine g_goto O 2 d_Mo_gather_18 (by decide) ?_
        rw [cl_nI (by omega)]
        refine ih _ ⟨rm_kA hM (k := 14) (by omega) (by omega), fun y hy => ?_, hF.tr (cd_Fr.wI (mow_k (k := 14) (by omega) (by omega)))⟩
        by_cases e : y = j
        · subst e; exact w_eq
        · rw [w_nj e]; exact hC y (by omega)
  refine g_iconst (v := 0) O d_Mo_gather_0 (by decide) ?_
  refine g_istore_n O 3 d_Mo_gather_1 rfl (Nat.le_of_ble_eq_true rfl) ?_
  exact loop1 0 _ (by omega) ⟨hM, fun y hy => absurd hy (Nat.not_lt_zero y), cd_Fr.rf⟩
