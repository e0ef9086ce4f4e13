set_option maxHeartbeats 16000000 in
set_option maxRecDepth 100000 in
/-- the law's walk from its entry -/
theorem zlaw (l : Launch) (hl : l.stackTraces = false) (K : zk) (G : zg) (b Ls : Nat) (xs : Nat → Int32) (hL : Ls ≤ 3072) (F : zf G l K { frames := 16, cells := 601024, slots := 7293033, locals := 622 } "ZlibBoxLaw" code 8) (B : zs G b Ls xs) (Z : zr G) : zj G 0 0 0 [(0, .ref b)] [] [] := by
  have key : ∀ (x m out : Nat) (dd c : Nat) (n rl fc : Nat) (t o : Nat → Nat) (f : Nat → Int64) (wx wm : va_W), Ls < 6 * (c + dd) + 6 → 6 * c ≤ Ls + 5 → zcw K x n rl t o wx → zmw K m fc n rl t o wm → zj G (54 + 2 * c) (274779 + 12 * c) 23 [(0, .ref b), (1, .ref x), (2, .ref m), (3, .ref out), (4, .int (nI (6 * c)))] [] ((zL K out 1 f :: wx) ++ wm) := by
    intro x m out dd
    induction dd with
    | zero =>
      intro c n rl fc t o f wx wm k1 k2 hX hM
      show zj G (54 + 2 * c) (274779 + 12 * c) 23 [(0, .ref b), (1, .ref x), (2, .ref m), (3, .ref out), (4, .int (nI (6 * c)))] [] ((zL K out 1 f :: wx) ++ wm)
      refine zj_iload F d_law_23 4 rfl ?_
      refine zj_aload_n F d_law_25 0 rfl rfl ?_
      refine zj_slen F B d_law_26 ?_
      refine zj_bipush (v := nI 6) F d_law_27 (by decide) ?_
      refine zj_isub (z := nI Ls - nI 6) F d_law_29 rfl ?_
      refine zj_icmp_gt (tgt := 479) F d_law_30 (by decide) (zI_lm6 (by omega) (by omega)) (fun h30 => ?_) (fun h30 => ?_)
      · refine zj_iconst (v := nI 1) F d_law_479 (by decide) ?_
        exact zj_lawret F Z d_law_480 (by omega) (by omega)
      · exact absurd h30 (by omega)
    | succ dd ih =>
      intro c n rl fc t o f wx wm k1 k2 hX hM
      show zj G (54 + 2 * c) (274779 + 12 * c) 23 [(0, .ref b), (1, .ref x), (2, .ref m), (3, .ref out), (4, .int (nI (6 * c)))] [] ((zL K out 1 f :: wx) ++ wm)
      refine zj_iload F d_law_23 4 rfl ?_
      refine zj_aload_n F d_law_25 0 rfl rfl ?_
      refine zj_slen F B d_law_26 ?_
      refine zj_bipush (v := nI 6) F d_law_27 (by decide) ?_
      refine zj_isub (z := nI Ls - nI 6) F d_law_29 rfl ?_
      refine zj_icmp_gt (tgt := 479) F d_law_30 (by decide) (zI_lm6 (by omega) (by omega)) (fun h30 => ?_) (fun h30 => ?_)
      · refine zj_iconst (v := nI 1) F d_law_479 (by decide) ?_
        exact zj_lawret F Z d_law_480 (by omega) (by omega)
      · refine zj_aload_n F d_law_33 0 rfl rfl ?_
        refine zj_iload F d_law_34 4 rfl ?_
        refine zj_sld F B d_law_36 (6 * c) rfl (by omega) (by omega) ?_
        refine zj_bipush (v := nI 7) F d_law_37 (by decide) ?_
        refine zj_iand F d_law_39 rfl ?_
        obtain ⟨r, hr, hre⟩ := zI_and7 (xs (6 * c))
        show zj G (54 + 2 * c) (274779 + 12 * c) 40 [(0, .ref b), (1, .ref x), (2, .ref m), (3, .ref out), (4, .int (nI (6 * c)))] [.int (xs (6 * c) &&& nI 7)] ((zL K out 1 f :: wx) ++ wm)
        rw [hre]
        have hr8 : r = 0 ∨ r = 1 ∨ r = 2 ∨ r = 3 ∨ r = 4 ∨ r = 5 ∨ r = 6 ∨ r = 7 := by omega
        clear hre hr
        rcases hr8 with rfl | rfl | rfl | rfl | rfl | rfl | rfl | rfl
        · refine zj_tab (off := 48) (tgt := 88) F d_law_40 (by decide) (by decide) (by decide) (by decide) ?_
          obtain ⟨fm, wm0, rfl⟩ := zmw_head hM
          show zj G (54 + 2 * c) (274779 + 12 * c) 88 [(0, .ref b), (1, .ref x), (2, .ref m), (3, .ref out), (4, .int (nI (6 * c)))] [] ((zL K out 1 f :: wx) ++ (zO m 6 fm :: wm0))
          refine zj_aload_n F d_law_88 1 rfl rfl ?_
          refine zj_aload_n F d_law_89 0 rfl rfl ?_
          refine zj_iload F d_law_90 4 rfl ?_
          refine zj_iconst (v := nI 1) F d_law_92 (by decide) ?_
          refine zj_iadd F d_law_93 (nI_add _ _) ?_
          refine zj_sld F B d_law_94 ((6 * c) + 1) rfl (by omega) (by omega) ?_
          refine zj_aload_n F d_law_95 0 rfl rfl ?_
          refine zj_iload F d_law_96 4 rfl ?_
          refine zj_iconst (v := nI 2) F d_law_98 (by decide) ?_
          refine zj_iadd F d_law_99 (nI_add _ _) ?_
          refine zj_sld F B d_law_100 ((6 * c) + 2) rfl (by omega) (by omega) ?_
          refine zj_aload_n F d_law_101 0 rfl rfl ?_
          refine zj_iload F d_law_102 4 rfl ?_
          refine zj_iconst (v := nI 3) F d_law_104 (by decide) ?_
          refine zj_iadd F d_law_105 (nI_add _ _) ?_
          refine zj_sld F B d_law_106 ((6 * c) + 3) rfl (by omega) (by omega) ?_
          refine zj_aload_n F d_law_107 0 rfl rfl ?_
          refine zj_iload F d_law_108 4 rfl ?_
          refine zj_iconst (v := nI 4) F d_law_110 (by decide) ?_
          refine zj_iadd F d_law_111 (nI_add _ _) ?_
          refine zj_sld F B d_law_112 ((6 * c) + 4) rfl (by omega) (by omega) ?_
          refine zj_aload_n F d_law_113 0 rfl rfl ?_
          refine zj_iload F d_law_114 4 rfl ?_
          refine zj_iconst (v := nI 5) F d_law_116 (by decide) ?_
          refine zj_iadd F d_law_117 (nI_add _ _) ?_
          refine zj_sld F B d_law_118 ((6 * c) + 5) rfl (by omega) (by omega) ?_
          refine zj_aload_n F d_law_119 3 rfl rfl ?_
          refine zj_callN (maxL := 8) (wc := zL K out 1 f :: wx) (wr := zO m 6 fm :: wm0) F (m_LW_feed l hl K x n rl t o _ hX out f (xs ((6 * c) + 1)) (xs ((6 * c) + 2)) (xs ((6 * c) + 3)) (xs ((6 * c) + 4)) (xs ((6 * c) + 5))) (zi_S (As := [.ref x, .int (xs ((6 * c) + 1)), .int (xs ((6 * c) + 2)), .int (xs ((6 * c) + 3)), .int (xs ((6 * c) + 4)), .int (xs ((6 * c) + 5)), .ref out]) (rest := []) F d_law_120 q_183 q_184 q_0 q_185 (Or.inr ⟨_, _, _, rfl⟩) (by decide) (show Option.map (fun d => d.parameters.length) (parseMethodDescriptor y_LW_feed.desc) = some 7 from by decide +kernel)) d_law_120 q_185 (Or.inr ⟨_, _, _, rfl⟩) q_0 (List.range (zL K out 1 f :: wx).length) ((List.range (zO m 6 fm :: wm0).length).map (fun i => (zL K out 1 f :: wx).length + i)) (zw_l _ _) (zw_r _ _) (zw_ndl _) (zw_ndr _ _) (zw_dis _ _) ⟨by decide, by decide, (show 54 + 2 * c + 1 ≤ 601024 by omega), (show 274779 + 12 * c + 6 ≤ 7293033 by omega)⟩ (Nat.le_of_ble_eq_true rfl) (fun v w1 hq => ?_)
          obtain ⟨q, f2, wx2, rfl, rfl, hs, h3, hf, hX2⟩ := hq
          show zj G (54 + 2 * c + 1) (274779 + 12 * c + 6) 123 [(0, .ref b), (1, .ref x), (2, .ref m), (3, .ref out), (4, .int (nI (6 * c)))] [.int (nI q.1)] ((zO m 6 fm :: wm0) ++ (zL K out 1 f2 :: wx2))
          refine zj_istore (L' := [(5, .int (nI q.1)), (0, .ref b), (1, .ref x), (2, .ref m), (3, .ref out), (4, .int (nI (6 * c)))]) F d_law_123 (by decide) rfl ?_
          refine zj_aload_n F d_law_125 3 rfl rfl ?_
          refine zj_aload_n F d_law_126 1 rfl rfl ?_
          refine zj_iload F d_law_127 5 rfl ?_
          refine zj_iconst (v := nI 1) F d_law_129 (by decide) ?_
          refine zj_iadd F d_law_130 (nI_add _ _) ?_
          refine zj_sld F B d_law_131 ((6 * c) + 1) rfl (by omega) (by omega) ?_
          refine zj_aload_n F d_law_132 1 rfl rfl ?_
          refine zj_iload F d_law_133 5 rfl ?_
          refine zj_iconst (v := nI 2) F d_law_135 (by decide) ?_
          refine zj_iadd F d_law_136 (nI_add _ _) ?_
          refine zj_sld F B d_law_137 ((6 * c) + 2) rfl (by omega) (by omega) ?_
          refine zj_aload_n F d_law_138 1 rfl rfl ?_
          refine zj_iload F d_law_139 5 rfl ?_
          refine zj_iconst (v := nI 3) F d_law_141 (by decide) ?_
          refine zj_iadd F d_law_142 (nI_add _ _) ?_
          refine zj_sld F B d_law_143 ((6 * c) + 3) rfl (by omega) (by omega) ?_
          refine zj_aload_n F d_law_144 1 rfl rfl ?_
          refine zj_iload F d_law_145 5 rfl ?_
          refine zj_iconst (v := nI 4) F d_law_147 (by decide) ?_
          refine zj_iadd F d_law_148 (nI_add _ _) ?_
          refine zj_sld F B d_law_149 ((6 * c) + 4) rfl (by omega) (by omega) ?_
          refine zj_aload_n F d_law_150 1 rfl rfl ?_
          refine zj_iload F d_law_151 5 rfl ?_
          refine zj_iconst (v := nI 5) F d_law_153 (by decide) ?_
          refine zj_iadd F d_law_154 (nI_add _ _) ?_
          refine zj_sld F B d_law_155 ((6 * c) + 5) rfl (by omega) (by omega) ?_
          refine zj_callN (maxL := 8) (wc := zO m 6 fm :: wm0) (wr := zL K out 1 f2 :: wx2) F (m_MO_feed l K m fc n rl t o _ hM (xs ((6 * c) + 1)) (xs ((6 * c) + 2)) (xs ((6 * c) + 3)) (xs ((6 * c) + 4)) (xs ((6 * c) + 5)) q hs) (zi_V (As := [.int (xs ((6 * c) + 1)), .int (xs ((6 * c) + 2)), .int (xs ((6 * c) + 3)), .int (xs ((6 * c) + 4)), .int (xs ((6 * c) + 5))]) (rest := []) F d_law_156 0 rfl rfl rfl q_740 q_741 q_742 q_743 (Or.inl ⟨_, _, rfl⟩) (by decide) (show Option.map (fun d => d.parameters.length) (parseMethodDescriptor y_MO_feed.desc) = some 5 from by decide +kernel)) d_law_156 q_743 (Or.inl ⟨_, _, rfl⟩) q_7 (List.range (zO m 6 fm :: wm0).length) ((List.range (zL K out 1 f2 :: wx2).length).map (fun i => (zO m 6 fm :: wm0).length + i)) (zw_l _ _) (zw_r _ _) (zw_ndl _) (zw_ndr _ _) (zw_dis _ _) ⟨by decide, by decide, (show 54 + 2 * c + 1 + 0 ≤ 601024 by omega), (show 274779 + 12 * c + 6 + 0 ≤ 7293033 by omega)⟩ (Nat.le_of_ble_eq_true rfl) (fun v wm2 hq => ?_)
          obtain ⟨b2, rfl, hb2, hM2⟩ := hq
          show zj G (54 + 2 * c + 1) (274779 + 12 * c + 6) 159 [(5, .int (nI q.1)), (0, .ref b), (1, .ref x), (2, .ref m), (3, .ref out), (4, .int (nI (6 * c)))] [.int b2] ((zL K out 1 f2 :: wx2) ++ wm2)
          obtain ⟨fn, wn0, rfl⟩ := zmw_head hM2
          refine zj_istore (L' := [(6, .int b2), (5, .int (nI q.1)), (0, .ref b), (1, .ref x), (2, .ref m), (3, .ref out), (4, .int (nI (6 * c)))]) F d_law_159 (by decide) rfl ?_
          refine zj_aload_n F d_law_161 4 rfl rfl ?_
          refine zj_rot (a := zL K out 1 f2 :: wx2) (b := zO m 6 fn :: wn0) ?_
          refine zj_callN (maxL := 1) (wc := zO m 6 fn :: wn0) (wr := zL K out 1 f2 :: wx2) F (m_MO_thr l K m q.1 _ _ _ _ _ hM2) (zi_V (As := []) (rest := []) F d_law_162 0 rfl rfl rfl q_612 q_613 q_614 q_615 (Or.inl ⟨_, _, rfl⟩) (by decide) (show Option.map (fun d => d.parameters.length) (parseMethodDescriptor y_MO_thrown.desc) = some 0 from by decide +kernel)) d_law_162 q_615 (Or.inl ⟨_, _, rfl⟩) q_7 (List.range (zO m 6 fn :: wn0).length) ((List.range (zL K out 1 f2 :: wx2).length).map (fun i => (zO m 6 fn :: wn0).length + i)) (zw_l _ _) (zw_r _ _) (zw_ndl _) (zw_ndr _ _) (zw_dis _ _) ⟨by decide, by decide, (show 54 + 2 * c + 1 + 0 ≤ 601024 by omega), (show 274779 + 12 * c + 6 + 0 ≤ 7293033 by omega)⟩ (Nat.le_of_ble_eq_true rfl) (fun v wm3 hq => ?_)
          obtain ⟨rfl, hM3⟩ := hq
          show zj G (54 + 2 * c + 1) (274779 + 12 * c + 6) 165 [(6, .int b2), (5, .int (nI q.1)), (0, .ref b), (1, .ref x), (2, .ref m), (3, .ref out), (4, .int (nI (6 * c)))] [.int (nI q.1)] ((zL K out 1 f2 :: wx2) ++ wm3)
          refine zj_iload F d_law_165 1 rfl ?_
          refine zj_icmp_eq (tgt := 172) F d_law_167 (by decide) Iff.rfl (fun _ => ?_) (fun h => absurd rfl h)
          refine zj_iload F d_law_172 1 rfl ?_
          have nxt : zj G (54 + 2 * c + 1) (274779 + 12 * c + 6) 473 [(0, .ref b), (1, .ref x), (2, .ref m), (3, .ref out), (4, .int (nI (6 * c)))] [] ((zL K out 1 f2 :: wx2) ++ wm3) := by
            show zj G (54 + 2 * c + 1) (274779 + 12 * c + 6) 473 [(0, .ref b), (1, .ref x), (2, .ref m), (3, .ref out), (4, .int (nI (6 * c)))] [] ((zL K out 1 f2 :: wx2) ++ wm3)
            refine zj_iinc (v := nI (6 * c + 6)) (L' := [(4, .int (nI (6 * c + 6))), (0, .ref b), (1, .ref x), (2, .ref m), (3, .ref out)]) F d_law_473 4 rfl (nI_add _ _) (by decide) rfl ?_
            refine zj_goto F d_law_476 (tgt := 23) (by decide) ?_
            have h7 := ih (c + 1) _ _ _ _ _ f2 wx2 wm3 (by omega) (by omega) hX2 hM3
            rw [show 6 * (c + 1) = 6 * c + 6 by omega] at h7
            exact zj_widen (by omega) (by omega) (zj_sub [1, 2, 3, 4, 0] rfl h7)
          refine zj_if_ne (tgt := 189) F d_law_174 (by decide) (zI_eq0 (by omega)) (fun _ => ?_) (fun h0 => ?_)
          · refine zj_goto F d_law_189 (tgt := 473) (by decide) ?_
            exact zj_sub [2, 3, 4, 5, 6] rfl nxt
          · refine zj_aload_n F d_law_177 5 rfl rfl ?_
            refine zj_iconst (v := nI 0) F d_law_178 (by decide) ?_
            refine zj_lald (z := f2 0) F d_law_179 0 2 0 rfl rfl rfl (by decide) (by decide) rfl ?_
            refine zj_iload F d_law_180 0 rfl ?_
            refine zj_i2l F d_law_182 rfl ?_
            refine zj_lcmp F d_law_183 rfl ?_
            refine zj_if_eq (tgt := 189) F d_law_184 (by decide) (zL_cmp _ _) (fun _ => ?_) (fun h => absurd ((hf h0).trans (hb2 h0).symm) h)
            refine zj_goto F d_law_189 (tgt := 473) (by decide) ?_
            exact zj_sub [2, 3, 4, 5, 6] rfl nxt
        · refine zj_tab (off := 152) (tgt := 192) F d_law_40 (by decide) (by decide) (by decide) (by decide) ?_
          obtain ⟨fm, wm0, rfl⟩ := zmw_head hM
          show zj G (54 + 2 * c) (274779 + 12 * c) 192 [(0, .ref b), (1, .ref x), (2, .ref m), (3, .ref out), (4, .int (nI (6 * c)))] [] ((zL K out 1 f :: wx) ++ (zO m 6 fm :: wm0))
          refine zj_aload_n F d_law_192 1 rfl rfl ?_
          refine zj_aload_n F d_law_193 0 rfl rfl ?_
          refine zj_iload F d_law_194 4 rfl ?_
          refine zj_iconst (v := nI 1) F d_law_196 (by decide) ?_
          refine zj_iadd F d_law_197 (nI_add _ _) ?_
          refine zj_sld F B d_law_198 ((6 * c) + 1) rfl (by omega) (by omega) ?_
          refine zj_aload_n F d_law_199 3 rfl rfl ?_
          refine zj_callN (maxL := 4) (wc := zL K out 1 f :: wx) (wr := zO m 6 fm :: wm0) F (m_LW_end l hl K x n rl t o _ hX out f (xs ((6 * c) + 1))) (zi_S (As := [.ref x, .int (xs ((6 * c) + 1)), .ref out]) (rest := []) F d_law_200 q_262 q_263 q_0 q_264 (Or.inr ⟨_, _, _, rfl⟩) (by decide) (show Option.map (fun d => d.parameters.length) (parseMethodDescriptor y_LW_end.desc) = some 3 from by decide +kernel)) d_law_200 q_264 (Or.inr ⟨_, _, _, rfl⟩) q_0 (List.range (zL K out 1 f :: wx).length) ((List.range (zO m 6 fm :: wm0).length).map (fun i => (zL K out 1 f :: wx).length + i)) (zw_l _ _) (zw_r _ _) (zw_ndl _) (zw_ndr _ _) (zw_dis _ _) ⟨by decide, by decide, (show 54 + 2 * c + 1 ≤ 601024 by omega), (show 274779 + 12 * c + 6 ≤ 7293033 by omega)⟩ (Nat.le_of_ble_eq_true rfl) (fun v w1 hq => ?_)
          obtain ⟨q, f2, wx2, rfl, rfl, hs, h3, hf, hX2⟩ := hq
          show zj G (54 + 2 * c + 1) (274779 + 12 * c + 6) 203 [(0, .ref b), (1, .ref x), (2, .ref m), (3, .ref out), (4, .int (nI (6 * c)))] [.int (nI q.1)] ((zO m 6 fm :: wm0) ++ (zL K out 1 f2 :: wx2))
          refine zj_istore (L' := [(5, .int (nI q.1)), (0, .ref b), (1, .ref x), (2, .ref m), (3, .ref out), (4, .int (nI (6 * c)))]) F d_law_203 (by decide) rfl ?_
          refine zj_aload_n F d_law_205 3 rfl rfl ?_
          refine zj_aload_n F d_law_206 1 rfl rfl ?_
          refine zj_iload F d_law_207 5 rfl ?_
          refine zj_iconst (v := nI 1) F d_law_209 (by decide) ?_
          refine zj_iadd F d_law_210 (nI_add _ _) ?_
          refine zj_sld F B d_law_211 ((6 * c) + 1) rfl (by omega) (by omega) ?_
          refine zj_callN (maxL := 2) (wc := zO m 6 fm :: wm0) (wr := zL K out 1 f2 :: wx2) F (m_MO_end l K m fc n rl t o _ hM (xs ((6 * c) + 1)) q hs) (zi_V (As := [.int (xs ((6 * c) + 1))]) (rest := []) F d_law_212 0 rfl rfl rfl q_744 q_745 q_746 q_747 (Or.inl ⟨_, _, rfl⟩) (by decide) (show Option.map (fun d => d.parameters.length) (parseMethodDescriptor y_MO_end.desc) = some 1 from by decide +kernel)) d_law_212 q_747 (Or.inl ⟨_, _, rfl⟩) q_7 (List.range (zO m 6 fm :: wm0).length) ((List.range (zL K out 1 f2 :: wx2).length).map (fun i => (zO m 6 fm :: wm0).length + i)) (zw_l _ _) (zw_r _ _) (zw_ndl _) (zw_ndr _ _) (zw_dis _ _) ⟨by decide, by decide, (show 54 + 2 * c + 1 + 0 ≤ 601024 by omega), (show 274779 + 12 * c + 6 + 0 ≤ 7293033 by omega)⟩ (Nat.le_of_ble_eq_true rfl) (fun v wm2 hq => ?_)
          obtain ⟨b2, rfl, hb2, hM2⟩ := hq
          show zj G (54 + 2 * c + 1) (274779 + 12 * c + 6) 215 [(5, .int (nI q.1)), (0, .ref b), (1, .ref x), (2, .ref m), (3, .ref out), (4, .int (nI (6 * c)))] [.int b2] ((zL K out 1 f2 :: wx2) ++ wm2)
          obtain ⟨fn, wn0, rfl⟩ := zmw_head hM2
          refine zj_istore (L' := [(6, .int b2), (5, .int (nI q.1)), (0, .ref b), (1, .ref x), (2, .ref m), (3, .ref out), (4, .int (nI (6 * c)))]) F d_law_215 (by decide) rfl ?_
          refine zj_aload_n F d_law_217 4 rfl rfl ?_
          refine zj_rot (a := zL K out 1 f2 :: wx2) (b := zO m 6 fn :: wn0) ?_
          refine zj_callN (maxL := 1) (wc := zO m 6 fn :: wn0) (wr := zL K out 1 f2 :: wx2) F (m_MO_thr l K m q.1 _ _ _ _ _ hM2) (zi_V (As := []) (rest := []) F d_law_218 0 rfl rfl rfl q_612 q_613 q_614 q_615 (Or.inl ⟨_, _, rfl⟩) (by decide) (show Option.map (fun d => d.parameters.length) (parseMethodDescriptor y_MO_thrown.desc) = some 0 from by decide +kernel)) d_law_218 q_615 (Or.inl ⟨_, _, rfl⟩) q_7 (List.range (zO m 6 fn :: wn0).length) ((List.range (zL K out 1 f2 :: wx2).length).map (fun i => (zO m 6 fn :: wn0).length + i)) (zw_l _ _) (zw_r _ _) (zw_ndl _) (zw_ndr _ _) (zw_dis _ _) ⟨by decide, by decide, (show 54 + 2 * c + 1 + 0 ≤ 601024 by omega), (show 274779 + 12 * c + 6 + 0 ≤ 7293033 by omega)⟩ (Nat.le_of_ble_eq_true rfl) (fun v wm3 hq => ?_)
          obtain ⟨rfl, hM3⟩ := hq
          show zj G (54 + 2 * c + 1) (274779 + 12 * c + 6) 221 [(6, .int b2), (5, .int (nI q.1)), (0, .ref b), (1, .ref x), (2, .ref m), (3, .ref out), (4, .int (nI (6 * c)))] [.int (nI q.1)] ((zL K out 1 f2 :: wx2) ++ wm3)
          refine zj_iload F d_law_221 1 rfl ?_
          refine zj_icmp_eq (tgt := 228) F d_law_223 (by decide) Iff.rfl (fun _ => ?_) (fun h => absurd rfl h)
          refine zj_iload F d_law_228 1 rfl ?_
          have nxt : zj G (54 + 2 * c + 1) (274779 + 12 * c + 6) 473 [(0, .ref b), (1, .ref x), (2, .ref m), (3, .ref out), (4, .int (nI (6 * c)))] [] ((zL K out 1 f2 :: wx2) ++ wm3) := by
            show zj G (54 + 2 * c + 1) (274779 + 12 * c + 6) 473 [(0, .ref b), (1, .ref x), (2, .ref m), (3, .ref out), (4, .int (nI (6 * c)))] [] ((zL K out 1 f2 :: wx2) ++ wm3)
            refine zj_iinc (v := nI (6 * c + 6)) (L' := [(4, .int (nI (6 * c + 6))), (0, .ref b), (1, .ref x), (2, .ref m), (3, .ref out)]) F d_law_473 4 rfl (nI_add _ _) (by decide) rfl ?_
            refine zj_goto F d_law_476 (tgt := 23) (by decide) ?_
            have h7 := ih (c + 1) _ _ _ _ _ f2 wx2 wm3 (by omega) (by omega) hX2 hM3
            rw [show 6 * (c + 1) = 6 * c + 6 by omega] at h7
            exact zj_widen (by omega) (by omega) (zj_sub [1, 2, 3, 4, 0] rfl h7)
          refine zj_if_ne (tgt := 245) F d_law_230 (by decide) (zI_eq0 (by omega)) (fun _ => ?_) (fun h0 => ?_)
          · refine zj_goto F d_law_245 (tgt := 473) (by decide) ?_
            exact zj_sub [2, 3, 4, 5, 6] rfl nxt
          · refine zj_aload_n F d_law_233 5 rfl rfl ?_
            refine zj_iconst (v := nI 0) F d_law_234 (by decide) ?_
            refine zj_lald (z := f2 0) F d_law_235 0 2 0 rfl rfl rfl (by decide) (by decide) rfl ?_
            refine zj_iload F d_law_236 0 rfl ?_
            refine zj_i2l F d_law_238 rfl ?_
            refine zj_lcmp F d_law_239 rfl ?_
            refine zj_if_eq (tgt := 245) F d_law_240 (by decide) (zL_cmp _ _) (fun _ => ?_) (fun h => absurd ((hf h0).trans (hb2 h0).symm) h)
            refine zj_goto F d_law_245 (tgt := 473) (by decide) ?_
            exact zj_sub [2, 3, 4, 5, 6] rfl nxt
        · refine zj_tab (off := 208) (tgt := 248) F d_law_40 (by decide) (by decide) (by decide) (by decide) ?_
          obtain ⟨fm, wm0, rfl⟩ := zmw_head hM
          obtain ⟨fx, wx0, rfl⟩ := zcw_head hX
          show zj G (54 + 2 * c) (274779 + 12 * c) 248 [(0, .ref b), (1, .ref x), (2, .ref m), (3, .ref out), (4, .int (nI (6 * c)))] [] ([zL K out 1 f] ++ ((zO x 4 fx :: wx0) ++ (zO m 6 fm :: wm0)))
          refine zj_aload_n F d_law_248 1 rfl rfl ?_
          refine zj_rot (a := [zL K out 1 f]) (b := (zO x 4 fx :: wx0) ++ (zO m 6 fm :: wm0)) ?_
          rw [List.append_assoc (zO x 4 fx :: wx0) (zO m 6 fm :: wm0) [zL K out 1 f]]
          refine zj_callN (maxL := 1) (wc := zO x 4 fx :: wx0) (wr := (zO m 6 fm :: wm0) ++ [zL K out 1 f]) F (m_ZB_again l K x n rl t o _ hX) (zi_V (As := []) (rest := []) F d_law_249 0 rfl rfl rfl q_168 q_169 q_170 q_171 (Or.inl ⟨_, _, rfl⟩) (by decide) (show Option.map (fun d => d.parameters.length) (parseMethodDescriptor y_ZB_again.desc) = some 0 from by decide +kernel)) d_law_249 q_171 (Or.inl ⟨_, _, rfl⟩) q_1 (List.range (zO x 4 fx :: wx0).length) ((List.range ((zO m 6 fm :: wm0) ++ [zL K out 1 f]).length).map (fun i => (zO x 4 fx :: wx0).length + i)) (zw_l _ _) (zw_r _ _) (zw_ndl _) (zw_ndr _ _) (zw_dis _ _) ⟨by decide, by decide, (show 54 + 2 * c + 0 ≤ 601024 by omega), (show 274779 + 12 * c + 0 ≤ 7293033 by omega)⟩ (Nat.le_of_ble_eq_true rfl) (fun v wx2 hq => ?_)
          obtain ⟨rfl, hX2⟩ := hq
          show zj G (54 + 2 * c) (274779 + 12 * c) 252 [(0, .ref b), (1, .ref x), (2, .ref m), (3, .ref out), (4, .int (nI (6 * c)))] [.int (nI rl)] (((zO m 6 fm :: wm0) ++ [zL K out 1 f]) ++ wx2)
          rw [List.append_assoc (zO m 6 fm :: wm0) [zL K out 1 f] wx2]
          show zj G (54 + 2 * c) (274779 + 12 * c) 252 [(0, .ref b), (1, .ref x), (2, .ref m), (3, .ref out), (4, .int (nI (6 * c)))] [.int (nI rl)] ((zO m 6 fm :: wm0) ++ ([zL K out 1 f] ++ wx2))
          refine zj_aload_n F d_law_252 2 rfl rfl ?_
          refine zj_callN (maxL := 2) (wc := zO m 6 fm :: wm0) (wr := [zL K out 1 f] ++ wx2) F (m_MO_again l K m fc n rl t o _ hM) (zi_V (As := []) (rest := [.int (nI rl)]) F d_law_253 0 rfl rfl rfl q_748 q_749 q_750 q_751 (Or.inl ⟨_, _, rfl⟩) (by decide) (show Option.map (fun d => d.parameters.length) (parseMethodDescriptor y_MO_again.desc) = some 0 from by decide +kernel)) d_law_253 q_751 (Or.inl ⟨_, _, rfl⟩) q_7 (List.range (zO m 6 fm :: wm0).length) ((List.range ([zL K out 1 f] ++ wx2).length).map (fun i => (zO m 6 fm :: wm0).length + i)) (zw_l _ _) (zw_r _ _) (zw_ndl _) (zw_ndr _ _) (zw_dis _ _) ⟨by decide, by decide, (show 54 + 2 * c + 0 ≤ 601024 by omega), (show 274779 + 12 * c + 0 ≤ 7293033 by omega)⟩ (Nat.le_of_ble_eq_true rfl) (fun v wm2 hq => ?_)
          obtain ⟨rfl, hM2⟩ := hq
          show zj G (54 + 2 * c) (274779 + 12 * c) 256 [(0, .ref b), (1, .ref x), (2, .ref m), (3, .ref out), (4, .int (nI (6 * c)))] [.int (nI rl), .int (nI rl)] ((zL K out 1 f :: wx2) ++ wm2)
          refine zj_icmp_eq (tgt := 473) F d_law_256 (by decide) Iff.rfl (fun _ => ?_) (fun h => absurd rfl h)
          refine zj_iinc (v := nI (6 * c + 6)) (L' := [(4, .int (nI (6 * c + 6))), (0, .ref b), (1, .ref x), (2, .ref m), (3, .ref out)]) F d_law_473 4 rfl (nI_add _ _) (by decide) rfl ?_
          refine zj_goto F d_law_476 (tgt := 23) (by decide) ?_
          have h7 := ih (c + 1) _ _ _ _ _ f wx2 wm2 (by omega) (by omega) hX2 hM2
          rw [show 6 * (c + 1) = 6 * c + 6 by omega] at h7
          exact zj_widen (by omega) (by omega) (zj_sub [1, 2, 3, 4, 0] rfl h7)
        · refine zj_tab (off := 221) (tgt := 261) F d_law_40 (by decide) (by decide) (by decide) (by decide) ?_
          obtain ⟨fm, wm0, rfl⟩ := zmw_head hM
          show zj G (54 + 2 * c) (274779 + 12 * c) 261 [(0, .ref b), (1, .ref x), (2, .ref m), (3, .ref out), (4, .int (nI (6 * c)))] [] ((zL K out 1 f :: wx) ++ (zO m 6 fm :: wm0))
          refine zj_aload_n F d_law_261 1 rfl rfl ?_
          refine zj_aload_n F d_law_262 3 rfl rfl ?_
          refine zj_callN (maxL := 3) (wc := zL K out 1 f :: wx) (wr := zO m 6 fm :: wm0) F (m_LW_unpack l hl K x n rl t o _ hX out f) (zi_S (As := [.ref x, .ref out]) (rest := []) F d_law_263 q_286 q_287 q_0 q_288 (Or.inr ⟨_, _, _, rfl⟩) (by decide) (show Option.map (fun d => d.parameters.length) (parseMethodDescriptor y_LW_unpack.desc) = some 2 from by decide +kernel)) d_law_263 q_288 (Or.inr ⟨_, _, _, rfl⟩) q_0 (List.range (zL K out 1 f :: wx).length) ((List.range (zO m 6 fm :: wm0).length).map (fun i => (zL K out 1 f :: wx).length + i)) (zw_l _ _) (zw_r _ _) (zw_ndl _) (zw_ndr _ _) (zw_dis _ _) ⟨by decide, by decide, (show 54 + 2 * c + 1 ≤ 601024 by omega), (show 274779 + 12 * c + 6 ≤ 7293033 by omega)⟩ (Nat.le_of_ble_eq_true rfl) (fun v w1 hq => ?_)
          obtain ⟨q, f2, wx2, rfl, rfl, hs, h3, hf, hX2⟩ := hq
          show zj G (54 + 2 * c + 1) (274779 + 12 * c + 6) 266 [(0, .ref b), (1, .ref x), (2, .ref m), (3, .ref out), (4, .int (nI (6 * c)))] [.int (nI q.1)] ((zO m 6 fm :: wm0) ++ (zL K out 1 f2 :: wx2))
          refine zj_istore (L' := [(5, .int (nI q.1)), (0, .ref b), (1, .ref x), (2, .ref m), (3, .ref out), (4, .int (nI (6 * c)))]) F d_law_266 (by decide) rfl ?_
          refine zj_aload_n F d_law_268 3 rfl rfl ?_
          refine zj_callN (maxL := 2) (wc := zO m 6 fm :: wm0) (wr := zL K out 1 f2 :: wx2) F (m_MO_unpack l hl K m fc n rl t o _ hM q hs) (zi_V (As := []) (rest := []) F d_law_269 0 rfl rfl rfl q_616 q_617 q_618 q_619 (Or.inr ⟨_, _, _, rfl⟩) (by decide) (show Option.map (fun d => d.parameters.length) (parseMethodDescriptor y_MO_unpack.desc) = some 0 from by decide +kernel)) d_law_269 q_619 (Or.inr ⟨_, _, _, rfl⟩) q_7 (List.range (zO m 6 fm :: wm0).length) ((List.range (zL K out 1 f2 :: wx2).length).map (fun i => (zO m 6 fm :: wm0).length + i)) (zw_l _ _) (zw_r _ _) (zw_ndl _) (zw_ndr _ _) (zw_dis _ _) ⟨by decide, by decide, (show 54 + 2 * c + 1 + 1 ≤ 601024 by omega), (show 274779 + 12 * c + 6 + 6 ≤ 7293033 by omega)⟩ (Nat.le_of_ble_eq_true rfl) (fun v wm2 hq => ?_)
          obtain ⟨b2, rfl, hb2, hM2⟩ := hq
          show zj G (54 + 2 * c + 1 + 1) (274779 + 12 * c + 6 + 6) 272 [(5, .int (nI q.1)), (0, .ref b), (1, .ref x), (2, .ref m), (3, .ref out), (4, .int (nI (6 * c)))] [.int b2] ((zL K out 1 f2 :: wx2) ++ wm2)
          obtain ⟨fn, wn0, rfl⟩ := zmw_head hM2
          refine zj_istore (L' := [(6, .int b2), (5, .int (nI q.1)), (0, .ref b), (1, .ref x), (2, .ref m), (3, .ref out), (4, .int (nI (6 * c)))]) F d_law_272 (by decide) rfl ?_
          refine zj_aload_n F d_law_274 4 rfl rfl ?_
          refine zj_rot (a := zL K out 1 f2 :: wx2) (b := zO m 6 fn :: wn0) ?_
          refine zj_callN (maxL := 1) (wc := zO m 6 fn :: wn0) (wr := zL K out 1 f2 :: wx2) F (m_MO_thr l K m q.1 _ _ _ _ _ hM2) (zi_V (As := []) (rest := []) F d_law_275 0 rfl rfl rfl q_612 q_613 q_614 q_615 (Or.inl ⟨_, _, rfl⟩) (by decide) (show Option.map (fun d => d.parameters.length) (parseMethodDescriptor y_MO_thrown.desc) = some 0 from by decide +kernel)) d_law_275 q_615 (Or.inl ⟨_, _, rfl⟩) q_7 (List.range (zO m 6 fn :: wn0).length) ((List.range (zL K out 1 f2 :: wx2).length).map (fun i => (zO m 6 fn :: wn0).length + i)) (zw_l _ _) (zw_r _ _) (zw_ndl _) (zw_ndr _ _) (zw_dis _ _) ⟨by decide, by decide, (show 54 + 2 * c + 1 + 1 + 0 ≤ 601024 by omega), (show 274779 + 12 * c + 6 + 6 + 0 ≤ 7293033 by omega)⟩ (Nat.le_of_ble_eq_true rfl) (fun v wm3 hq => ?_)
          obtain ⟨rfl, hM3⟩ := hq
          show zj G (54 + 2 * c + 1 + 1) (274779 + 12 * c + 6 + 6) 278 [(6, .int b2), (5, .int (nI q.1)), (0, .ref b), (1, .ref x), (2, .ref m), (3, .ref out), (4, .int (nI (6 * c)))] [.int (nI q.1)] ((zL K out 1 f2 :: wx2) ++ wm3)
          refine zj_iload F d_law_278 1 rfl ?_
          refine zj_icmp_eq (tgt := 285) F d_law_280 (by decide) Iff.rfl (fun _ => ?_) (fun h => absurd rfl h)
          refine zj_iload F d_law_285 1 rfl ?_
          have nxt : zj G (54 + 2 * c + 1 + 1) (274779 + 12 * c + 6 + 6) 473 [(0, .ref b), (1, .ref x), (2, .ref m), (3, .ref out), (4, .int (nI (6 * c)))] [] ((zL K out 1 f2 :: wx2) ++ wm3) := by
            show zj G (54 + 2 * c + 1 + 1) (274779 + 12 * c + 6 + 6) 473 [(0, .ref b), (1, .ref x), (2, .ref m), (3, .ref out), (4, .int (nI (6 * c)))] [] ((zL K out 1 f2 :: wx2) ++ wm3)
            refine zj_iinc (v := nI (6 * c + 6)) (L' := [(4, .int (nI (6 * c + 6))), (0, .ref b), (1, .ref x), (2, .ref m), (3, .ref out)]) F d_law_473 4 rfl (nI_add _ _) (by decide) rfl ?_
            refine zj_goto F d_law_476 (tgt := 23) (by decide) ?_
            have h7 := ih (c + 1) _ _ _ _ _ f2 wx2 wm3 (by omega) (by omega) hX2 hM3
            rw [show 6 * (c + 1) = 6 * c + 6 by omega] at h7
            exact zj_widen (by omega) (by omega) (zj_sub [1, 2, 3, 4, 0] rfl h7)
          refine zj_if_ne (tgt := 302) F d_law_287 (by decide) (zI_eq0 (by omega)) (fun _ => ?_) (fun h0 => ?_)
          · refine zj_goto F d_law_302 (tgt := 473) (by decide) ?_
            exact zj_sub [2, 3, 4, 5, 6] rfl nxt
          · refine zj_aload_n F d_law_290 5 rfl rfl ?_
            refine zj_iconst (v := nI 0) F d_law_291 (by decide) ?_
            refine zj_lald (z := f2 0) F d_law_292 0 2 0 rfl rfl rfl (by decide) (by decide) rfl ?_
            refine zj_iload F d_law_293 0 rfl ?_
            refine zj_i2l F d_law_295 rfl ?_
            refine zj_lcmp F d_law_296 rfl ?_
            refine zj_if_eq (tgt := 302) F d_law_297 (by decide) (zL_cmp _ _) (fun _ => ?_) (fun h => absurd ((hf h0).trans (hb2 h0).symm) h)
            refine zj_goto F d_law_302 (tgt := 473) (by decide) ?_
            exact zj_sub [2, 3, 4, 5, 6] rfl nxt
        · refine zj_tab (off := 265) (tgt := 305) F d_law_40 (by decide) (by decide) (by decide) (by decide) ?_
          obtain ⟨fm, wm0, rfl⟩ := zmw_head hM
          show zj G (54 + 2 * c) (274779 + 12 * c) 305 [(0, .ref b), (1, .ref x), (2, .ref m), (3, .ref out), (4, .int (nI (6 * c)))] [] ((zL K out 1 f :: wx) ++ (zO m 6 fm :: wm0))
          refine zj_aload_n F d_law_305 1 rfl rfl ?_
          refine zj_aload_n F d_law_306 3 rfl rfl ?_
          refine zj_callN (maxL := 3) (wc := zL K out 1 f :: wx) (wr := zO m 6 fm :: wm0) F (m_LW_pack l hl K x n rl t o _ hX out f) (zi_S (As := [.ref x, .ref out]) (rest := []) F d_law_307 q_429 q_430 q_0 q_431 (Or.inr ⟨_, _, _, rfl⟩) (by decide) (show Option.map (fun d => d.parameters.length) (parseMethodDescriptor y_LW_pack.desc) = some 2 from by decide +kernel)) d_law_307 q_431 (Or.inr ⟨_, _, _, rfl⟩) q_0 (List.range (zL K out 1 f :: wx).length) ((List.range (zO m 6 fm :: wm0).length).map (fun i => (zL K out 1 f :: wx).length + i)) (zw_l _ _) (zw_r _ _) (zw_ndl _) (zw_ndr _ _) (zw_dis _ _) ⟨by decide, by decide, (show 54 + 2 * c + 1 ≤ 601024 by omega), (show 274779 + 12 * c + 6 ≤ 7293033 by omega)⟩ (Nat.le_of_ble_eq_true rfl) (fun v w1 hq => ?_)
          obtain ⟨q, f2, wx2, rfl, rfl, hs, h3, hf, hX2⟩ := hq
          show zj G (54 + 2 * c + 1) (274779 + 12 * c + 6) 310 [(0, .ref b), (1, .ref x), (2, .ref m), (3, .ref out), (4, .int (nI (6 * c)))] [.int (nI q.1)] ((zO m 6 fm :: wm0) ++ (zL K out 1 f2 :: wx2))
          refine zj_istore (L' := [(5, .int (nI q.1)), (0, .ref b), (1, .ref x), (2, .ref m), (3, .ref out), (4, .int (nI (6 * c)))]) F d_law_310 (by decide) rfl ?_
          refine zj_aload_n F d_law_312 3 rfl rfl ?_
          refine zj_callN (maxL := 2) (wc := zO m 6 fm :: wm0) (wr := zL K out 1 f2 :: wx2) F (m_MO_pack l K m fc n rl t o _ hM q hs) (zi_V (As := []) (rest := []) F d_law_313 0 rfl rfl rfl q_693 q_694 q_695 q_696 (Or.inl ⟨_, _, rfl⟩) (by decide) (show Option.map (fun d => d.parameters.length) (parseMethodDescriptor y_MO_pack.desc) = some 0 from by decide +kernel)) d_law_313 q_696 (Or.inl ⟨_, _, rfl⟩) q_7 (List.range (zO m 6 fm :: wm0).length) ((List.range (zL K out 1 f2 :: wx2).length).map (fun i => (zO m 6 fm :: wm0).length + i)) (zw_l _ _) (zw_r _ _) (zw_ndl _) (zw_ndr _ _) (zw_dis _ _) ⟨by decide, by decide, (show 54 + 2 * c + 1 + 0 ≤ 601024 by omega), (show 274779 + 12 * c + 6 + 0 ≤ 7293033 by omega)⟩ (Nat.le_of_ble_eq_true rfl) (fun v wm2 hq => ?_)
          obtain ⟨b2, rfl, hb2, hM2⟩ := hq
          show zj G (54 + 2 * c + 1) (274779 + 12 * c + 6) 316 [(5, .int (nI q.1)), (0, .ref b), (1, .ref x), (2, .ref m), (3, .ref out), (4, .int (nI (6 * c)))] [.int b2] ((zL K out 1 f2 :: wx2) ++ wm2)
          obtain ⟨fn, wn0, rfl⟩ := zmw_head hM2
          refine zj_istore (L' := [(6, .int b2), (5, .int (nI q.1)), (0, .ref b), (1, .ref x), (2, .ref m), (3, .ref out), (4, .int (nI (6 * c)))]) F d_law_316 (by decide) rfl ?_
          refine zj_aload_n F d_law_318 4 rfl rfl ?_
          refine zj_rot (a := zL K out 1 f2 :: wx2) (b := zO m 6 fn :: wn0) ?_
          refine zj_callN (maxL := 1) (wc := zO m 6 fn :: wn0) (wr := zL K out 1 f2 :: wx2) F (m_MO_thr l K m q.1 _ _ _ _ _ hM2) (zi_V (As := []) (rest := []) F d_law_319 0 rfl rfl rfl q_612 q_613 q_614 q_615 (Or.inl ⟨_, _, rfl⟩) (by decide) (show Option.map (fun d => d.parameters.length) (parseMethodDescriptor y_MO_thrown.desc) = some 0 from by decide +kernel)) d_law_319 q_615 (Or.inl ⟨_, _, rfl⟩) q_7 (List.range (zO m 6 fn :: wn0).length) ((List.range (zL K out 1 f2 :: wx2).length).map (fun i => (zO m 6 fn :: wn0).length + i)) (zw_l _ _) (zw_r _ _) (zw_ndl _) (zw_ndr _ _) (zw_dis _ _) ⟨by decide, by decide, (show 54 + 2 * c + 1 + 0 ≤ 601024 by omega), (show 274779 + 12 * c + 6 + 0 ≤ 7293033 by omega)⟩ (Nat.le_of_ble_eq_true rfl) (fun v wm3 hq => ?_)
          obtain ⟨rfl, hM3⟩ := hq
          show zj G (54 + 2 * c + 1) (274779 + 12 * c + 6) 322 [(6, .int b2), (5, .int (nI q.1)), (0, .ref b), (1, .ref x), (2, .ref m), (3, .ref out), (4, .int (nI (6 * c)))] [.int (nI q.1)] ((zL K out 1 f2 :: wx2) ++ wm3)
          refine zj_iload F d_law_322 1 rfl ?_
          refine zj_icmp_eq (tgt := 329) F d_law_324 (by decide) Iff.rfl (fun _ => ?_) (fun h => absurd rfl h)
          refine zj_iload F d_law_329 1 rfl ?_
          have nxt : zj G (54 + 2 * c + 1) (274779 + 12 * c + 6) 473 [(0, .ref b), (1, .ref x), (2, .ref m), (3, .ref out), (4, .int (nI (6 * c)))] [] ((zL K out 1 f2 :: wx2) ++ wm3) := by
            show zj G (54 + 2 * c + 1) (274779 + 12 * c + 6) 473 [(0, .ref b), (1, .ref x), (2, .ref m), (3, .ref out), (4, .int (nI (6 * c)))] [] ((zL K out 1 f2 :: wx2) ++ wm3)
            refine zj_iinc (v := nI (6 * c + 6)) (L' := [(4, .int (nI (6 * c + 6))), (0, .ref b), (1, .ref x), (2, .ref m), (3, .ref out)]) F d_law_473 4 rfl (nI_add _ _) (by decide) rfl ?_
            refine zj_goto F d_law_476 (tgt := 23) (by decide) ?_
            have h7 := ih (c + 1) _ _ _ _ _ f2 wx2 wm3 (by omega) (by omega) hX2 hM3
            rw [show 6 * (c + 1) = 6 * c + 6 by omega] at h7
            exact zj_widen (by omega) (by omega) (zj_sub [1, 2, 3, 4, 0] rfl h7)
          refine zj_if_ne (tgt := 346) F d_law_331 (by decide) (zI_eq0 (by omega)) (fun _ => ?_) (fun h0 => ?_)
          · refine zj_goto F d_law_346 (tgt := 473) (by decide) ?_
            exact zj_sub [2, 3, 4, 5, 6] rfl nxt
          · refine zj_aload_n F d_law_334 5 rfl rfl ?_
            refine zj_iconst (v := nI 0) F d_law_335 (by decide) ?_
            refine zj_lald (z := f2 0) F d_law_336 0 2 0 rfl rfl rfl (by decide) (by decide) rfl ?_
            refine zj_iload F d_law_337 0 rfl ?_
            refine zj_i2l F d_law_339 rfl ?_
            refine zj_lcmp F d_law_340 rfl ?_
            refine zj_if_eq (tgt := 346) F d_law_341 (by decide) (zL_cmp _ _) (fun _ => ?_) (fun h => absurd ((hf h0).trans (hb2 h0).symm) h)
            refine zj_goto F d_law_346 (tgt := 473) (by decide) ?_
            exact zj_sub [2, 3, 4, 5, 6] rfl nxt
        · refine zj_tab (off := 309) (tgt := 349) F d_law_40 (by decide) (by decide) (by decide) (by decide) ?_
          obtain ⟨fm, wm0, rfl⟩ := zmw_head hM
          obtain ⟨fx, wx0, rfl⟩ := zcw_head hX
          show zj G (54 + 2 * c) (274779 + 12 * c) 349 [(0, .ref b), (1, .ref x), (2, .ref m), (3, .ref out), (4, .int (nI (6 * c)))] [] ([zL K out 1 f] ++ ((zO x 4 fx :: wx0) ++ (zO m 6 fm :: wm0)))
          refine zj_aload_n F d_law_349 1 rfl rfl ?_
          refine zj_rot (a := [zL K out 1 f]) (b := (zO x 4 fx :: wx0) ++ (zO m 6 fm :: wm0)) ?_
          rw [List.append_assoc (zO x 4 fx :: wx0) (zO m 6 fm :: wm0) [zL K out 1 f]]
          refine zj_callN (maxL := 1) (wc := zO x 4 fx :: wx0) (wr := (zO m 6 fm :: wm0) ++ [zL K out 1 f]) F (m_ZB_adl l K x n rl t o _ hX) (zi_V (As := []) (rest := []) F d_law_350 0 rfl rfl rfl q_175 q_176 q_177 q_178 (Or.inl ⟨_, _, rfl⟩) (by decide) (show Option.map (fun d => d.parameters.length) (parseMethodDescriptor y_ZB_adler.desc) = some 0 from by decide +kernel)) d_law_350 q_178 (Or.inl ⟨_, _, rfl⟩) q_1 (List.range (zO x 4 fx :: wx0).length) ((List.range ((zO m 6 fm :: wm0) ++ [zL K out 1 f]).length).map (fun i => (zO x 4 fx :: wx0).length + i)) (zw_l _ _) (zw_r _ _) (zw_ndl _) (zw_ndr _ _) (zw_dis _ _) ⟨by decide, by decide, (show 54 + 2 * c + 0 ≤ 601024 by omega), (show 274779 + 12 * c + 0 ≤ 7293033 by omega)⟩ (Nat.le_of_ble_eq_true rfl) (fun v wx2 hq => ?_)
          obtain ⟨rfl, hX2⟩ := hq
          show zj G (54 + 2 * c) (274779 + 12 * c) 353 [(0, .ref b), (1, .ref x), (2, .ref m), (3, .ref out), (4, .int (nI (6 * c)))] [.int (nI (zadl t n))] (((zO m 6 fm :: wm0) ++ [zL K out 1 f]) ++ wx2)
          rw [List.append_assoc (zO m 6 fm :: wm0) [zL K out 1 f] wx2]
          show zj G (54 + 2 * c) (274779 + 12 * c) 353 [(0, .ref b), (1, .ref x), (2, .ref m), (3, .ref out), (4, .int (nI (6 * c)))] [.int (nI (zadl t n))] ((zO m 6 fm :: wm0) ++ ([zL K out 1 f] ++ wx2))
          refine zj_aload_n F d_law_353 2 rfl rfl ?_
          refine zj_callN (maxL := 1) (wc := zO m 6 fm :: wm0) (wr := [zL K out 1 f] ++ wx2) F (m_MO_adl l K m fc n rl t o _ hM) (zi_V (As := []) (rest := [.int (nI (zadl t n))]) F d_law_354 0 rfl rfl rfl q_736 q_737 q_738 q_739 (Or.inl ⟨_, _, rfl⟩) (by decide) (show Option.map (fun d => d.parameters.length) (parseMethodDescriptor y_MO_adler2.desc) = some 0 from by decide +kernel)) d_law_354 q_739 (Or.inl ⟨_, _, rfl⟩) q_7 (List.range (zO m 6 fm :: wm0).length) ((List.range ([zL K out 1 f] ++ wx2).length).map (fun i => (zO m 6 fm :: wm0).length + i)) (zw_l _ _) (zw_r _ _) (zw_ndl _) (zw_ndr _ _) (zw_dis _ _) ⟨by decide, by decide, (show 54 + 2 * c + 0 ≤ 601024 by omega), (show 274779 + 12 * c + 0 ≤ 7293033 by omega)⟩ (Nat.le_of_ble_eq_true rfl) (fun v wm2 hq => ?_)
          obtain ⟨rfl, hM2⟩ := hq
          show zj G (54 + 2 * c) (274779 + 12 * c) 357 [(0, .ref b), (1, .ref x), (2, .ref m), (3, .ref out), (4, .int (nI (6 * c)))] [.int (nI (zadl t n)), .int (nI (zadl t n))] ((zL K out 1 f :: wx2) ++ wm2)
          refine zj_icmp_eq (tgt := 473) F d_law_357 (by decide) Iff.rfl (fun _ => ?_) (fun h => absurd rfl h)
          refine zj_iinc (v := nI (6 * c + 6)) (L' := [(4, .int (nI (6 * c + 6))), (0, .ref b), (1, .ref x), (2, .ref m), (3, .ref out)]) F d_law_473 4 rfl (nI_add _ _) (by decide) rfl ?_
          refine zj_goto F d_law_476 (tgt := 23) (by decide) ?_
          have h7 := ih (c + 1) _ _ _ _ _ f wx2 wm2 (by omega) (by omega) hX2 hM2
          rw [show 6 * (c + 1) = 6 * c + 6 by omega] at h7
          exact zj_widen (by omega) (by omega) (zj_sub [1, 2, 3, 4, 0] rfl h7)
        · refine zj_tab (off := 322) (tgt := 362) F d_law_40 (by decide) (by decide) (by decide) (by decide) ?_
          obtain ⟨fm, wm0, rfl⟩ := zmw_head hM
          show zj G (54 + 2 * c) (274779 + 12 * c) 362 [(0, .ref b), (1, .ref x), (2, .ref m), (3, .ref out), (4, .int (nI (6 * c)))] [] ((zL K out 1 f :: wx) ++ (zO m 6 fm :: wm0))
          refine zj_aload_n F d_law_362 1 rfl rfl ?_
          refine zj_aload_n F d_law_363 0 rfl rfl ?_
          refine zj_iload F d_law_364 4 rfl ?_
          refine zj_iconst (v := nI 1) F d_law_366 (by decide) ?_
          refine zj_iadd F d_law_367 (nI_add _ _) ?_
          refine zj_sld F B d_law_368 ((6 * c) + 1) rfl (by omega) (by omega) ?_
          refine zj_aload_n F d_law_369 3 rfl rfl ?_
          refine zj_callN (maxL := 4) (wc := zL K out 1 f :: wx) (wr := zO m 6 fm :: wm0) F (m_LW_word l hl K x n rl t o _ hX out f (xs ((6 * c) + 1))) (zi_S (As := [.ref x, .int (xs ((6 * c) + 1)), .ref out]) (rest := []) F d_law_370 q_509 q_510 q_0 q_511 (Or.inr ⟨_, _, _, rfl⟩) (by decide) (show Option.map (fun d => d.parameters.length) (parseMethodDescriptor y_LW_word.desc) = some 3 from by decide +kernel)) d_law_370 q_511 (Or.inr ⟨_, _, _, rfl⟩) q_0 (List.range (zL K out 1 f :: wx).length) ((List.range (zO m 6 fm :: wm0).length).map (fun i => (zL K out 1 f :: wx).length + i)) (zw_l _ _) (zw_r _ _) (zw_ndl _) (zw_ndr _ _) (zw_dis _ _) ⟨by decide, by decide, (show 54 + 2 * c + 1 ≤ 601024 by omega), (show 274779 + 12 * c + 6 ≤ 7293033 by omega)⟩ (Nat.le_of_ble_eq_true rfl) (fun v w1 hq => ?_)
          obtain ⟨q, f2, wx2, rfl, rfl, hs, h3, hf, hX2⟩ := hq
          show zj G (54 + 2 * c + 1) (274779 + 12 * c + 6) 373 [(0, .ref b), (1, .ref x), (2, .ref m), (3, .ref out), (4, .int (nI (6 * c)))] [.int (nI q.1)] ((zO m 6 fm :: wm0) ++ (zL K out 1 f2 :: wx2))
          refine zj_istore (L' := [(5, .int (nI q.1)), (0, .ref b), (1, .ref x), (2, .ref m), (3, .ref out), (4, .int (nI (6 * c)))]) F d_law_373 (by decide) rfl ?_
          refine zj_aload_n F d_law_375 3 rfl rfl ?_
          refine zj_aload_n F d_law_376 1 rfl rfl ?_
          refine zj_iload F d_law_377 5 rfl ?_
          refine zj_iconst (v := nI 1) F d_law_379 (by decide) ?_
          refine zj_iadd F d_law_380 (nI_add _ _) ?_
          refine zj_sld F B d_law_381 ((6 * c) + 1) rfl (by omega) (by omega) ?_
          refine zj_callN (maxL := 5) (wc := zO m 6 fm :: wm0) (wr := zL K out 1 f2 :: wx2) F (m_MO_word l K m fc n rl t o _ hM (xs ((6 * c) + 1)) q hs) (zi_V (As := [.int (xs ((6 * c) + 1))]) (rest := []) F d_law_382 0 rfl rfl rfl q_752 q_753 q_754 q_755 (Or.inl ⟨_, _, rfl⟩) (by decide) (show Option.map (fun d => d.parameters.length) (parseMethodDescriptor y_MO_word.desc) = some 1 from by decide +kernel)) d_law_382 q_755 (Or.inl ⟨_, _, rfl⟩) q_7 (List.range (zO m 6 fm :: wm0).length) ((List.range (zL K out 1 f2 :: wx2).length).map (fun i => (zO m 6 fm :: wm0).length + i)) (zw_l _ _) (zw_r _ _) (zw_ndl _) (zw_ndr _ _) (zw_dis _ _) ⟨by decide, by decide, (show 54 + 2 * c + 1 + 0 ≤ 601024 by omega), (show 274779 + 12 * c + 6 + 0 ≤ 7293033 by omega)⟩ (Nat.le_of_ble_eq_true rfl) (fun v wm2 hq => ?_)
          obtain ⟨b2, rfl, hb2, hM2⟩ := hq
          show zj G (54 + 2 * c + 1) (274779 + 12 * c + 6) 385 [(5, .int (nI q.1)), (0, .ref b), (1, .ref x), (2, .ref m), (3, .ref out), (4, .int (nI (6 * c)))] [.long b2] ((zL K out 1 f2 :: wx2) ++ wm2)
          obtain ⟨fn, wn0, rfl⟩ := zmw_head hM2
          refine zj_lstore (L' := [(6, .long b2), (5, .int (nI q.1)), (0, .ref b), (1, .ref x), (2, .ref m), (3, .ref out), (4, .int (nI (6 * c)))]) F d_law_385 (by decide) rfl ?_
          refine zj_aload_n F d_law_387 4 rfl rfl ?_
          refine zj_rot (a := zL K out 1 f2 :: wx2) (b := zO m 6 fn :: wn0) ?_
          refine zj_callN (maxL := 1) (wc := zO m 6 fn :: wn0) (wr := zL K out 1 f2 :: wx2) F (m_MO_thr l K m q.1 _ _ _ _ _ hM2) (zi_V (As := []) (rest := []) F d_law_388 0 rfl rfl rfl q_612 q_613 q_614 q_615 (Or.inl ⟨_, _, rfl⟩) (by decide) (show Option.map (fun d => d.parameters.length) (parseMethodDescriptor y_MO_thrown.desc) = some 0 from by decide +kernel)) d_law_388 q_615 (Or.inl ⟨_, _, rfl⟩) q_7 (List.range (zO m 6 fn :: wn0).length) ((List.range (zL K out 1 f2 :: wx2).length).map (fun i => (zO m 6 fn :: wn0).length + i)) (zw_l _ _) (zw_r _ _) (zw_ndl _) (zw_ndr _ _) (zw_dis _ _) ⟨by decide, by decide, (show 54 + 2 * c + 1 + 0 ≤ 601024 by omega), (show 274779 + 12 * c + 6 + 0 ≤ 7293033 by omega)⟩ (Nat.le_of_ble_eq_true rfl) (fun v wm3 hq => ?_)
          obtain ⟨rfl, hM3⟩ := hq
          show zj G (54 + 2 * c + 1) (274779 + 12 * c + 6) 391 [(6, .long b2), (5, .int (nI q.1)), (0, .ref b), (1, .ref x), (2, .ref m), (3, .ref out), (4, .int (nI (6 * c)))] [.int (nI q.1)] ((zL K out 1 f2 :: wx2) ++ wm3)
          refine zj_iload F d_law_391 1 rfl ?_
          refine zj_icmp_eq (tgt := 398) F d_law_393 (by decide) Iff.rfl (fun _ => ?_) (fun h => absurd rfl h)
          refine zj_iload F d_law_398 1 rfl ?_
          have nxt : zj G (54 + 2 * c + 1) (274779 + 12 * c + 6) 473 [(0, .ref b), (1, .ref x), (2, .ref m), (3, .ref out), (4, .int (nI (6 * c)))] [] ((zL K out 1 f2 :: wx2) ++ wm3) := by
            show zj G (54 + 2 * c + 1) (274779 + 12 * c + 6) 473 [(0, .ref b), (1, .ref x), (2, .ref m), (3, .ref out), (4, .int (nI (6 * c)))] [] ((zL K out 1 f2 :: wx2) ++ wm3)
            refine zj_iinc (v := nI (6 * c + 6)) (L' := [(4, .int (nI (6 * c + 6))), (0, .ref b), (1, .ref x), (2, .ref m), (3, .ref out)]) F d_law_473 4 rfl (nI_add _ _) (by decide) rfl ?_
            refine zj_goto F d_law_476 (tgt := 23) (by decide) ?_
            have h7 := ih (c + 1) _ _ _ _ _ f2 wx2 wm3 (by omega) (by omega) hX2 hM3
            rw [show 6 * (c + 1) = 6 * c + 6 by omega] at h7
            exact zj_widen (by omega) (by omega) (zj_sub [1, 2, 3, 4, 0] rfl h7)
          refine zj_if_ne (tgt := 414) F d_law_400 (by decide) (zI_eq0 (by omega)) (fun _ => ?_) (fun h0 => ?_)
          · refine zj_goto F d_law_414 (tgt := 473) (by decide) ?_
            exact zj_sub [2, 3, 4, 5, 6] rfl nxt
          · refine zj_aload_n F d_law_403 5 rfl rfl ?_
            refine zj_iconst (v := nI 0) F d_law_404 (by decide) ?_
            refine zj_lald (z := f2 0) F d_law_405 0 2 0 rfl rfl rfl (by decide) (by decide) rfl ?_
            refine zj_lload F d_law_406 0 rfl ?_
            refine zj_lcmp F d_law_408 rfl ?_
            refine zj_if_eq (tgt := 414) F d_law_409 (by decide) (zL_cmp _ _) (fun _ => ?_) (fun h => absurd ((hf h0).trans (hb2 h0).symm) h)
            refine zj_goto F d_law_414 (tgt := 473) (by decide) ?_
            exact zj_sub [2, 3, 4, 5, 6] rfl nxt
        · refine zj_tab (off := 377) (tgt := 417) F d_law_40 (by decide) (by decide) (by decide) (by decide) ?_
          obtain ⟨fm, wm0, rfl⟩ := zmw_head hM
          show zj G (54 + 2 * c) (274779 + 12 * c) 417 [(0, .ref b), (1, .ref x), (2, .ref m), (3, .ref out), (4, .int (nI (6 * c)))] [] ((zL K out 1 f :: wx) ++ (zO m 6 fm :: wm0))
          refine zj_aload_n F d_law_417 1 rfl rfl ?_
          refine zj_aload_n F d_law_418 0 rfl rfl ?_
          refine zj_iload F d_law_419 4 rfl ?_
          refine zj_iconst (v := nI 1) F d_law_421 (by decide) ?_
          refine zj_iadd F d_law_422 (nI_add _ _) ?_
          refine zj_sld F B d_law_423 ((6 * c) + 1) rfl (by omega) (by omega) ?_
          refine zj_aload_n F d_law_424 3 rfl rfl ?_
          refine zj_callN (maxL := 4) (wc := zL K out 1 f :: wx) (wr := zO m 6 fm :: wm0) F (m_LW_count l hl K x n rl t o _ hX out f (xs ((6 * c) + 1))) (zi_S (As := [.ref x, .int (xs ((6 * c) + 1)), .ref out]) (rest := []) F d_law_425 q_517 q_518 q_0 q_519 (Or.inr ⟨_, _, _, rfl⟩) (by decide) (show Option.map (fun d => d.parameters.length) (parseMethodDescriptor y_LW_count.desc) = some 3 from by decide +kernel)) d_law_425 q_519 (Or.inr ⟨_, _, _, rfl⟩) q_0 (List.range (zL K out 1 f :: wx).length) ((List.range (zO m 6 fm :: wm0).length).map (fun i => (zL K out 1 f :: wx).length + i)) (zw_l _ _) (zw_r _ _) (zw_ndl _) (zw_ndr _ _) (zw_dis _ _) ⟨by decide, by decide, (show 54 + 2 * c + 1 ≤ 601024 by omega), (show 274779 + 12 * c + 6 ≤ 7293033 by omega)⟩ (Nat.le_of_ble_eq_true rfl) (fun v w1 hq => ?_)
          obtain ⟨q, f2, wx2, rfl, rfl, hs, h3, hf, hX2⟩ := hq
          show zj G (54 + 2 * c + 1) (274779 + 12 * c + 6) 428 [(0, .ref b), (1, .ref x), (2, .ref m), (3, .ref out), (4, .int (nI (6 * c)))] [.int (nI q.1)] ((zO m 6 fm :: wm0) ++ (zL K out 1 f2 :: wx2))
          refine zj_istore (L' := [(5, .int (nI q.1)), (0, .ref b), (1, .ref x), (2, .ref m), (3, .ref out), (4, .int (nI (6 * c)))]) F d_law_428 (by decide) rfl ?_
          refine zj_aload_n F d_law_430 3 rfl rfl ?_
          refine zj_aload_n F d_law_431 1 rfl rfl ?_
          refine zj_iload F d_law_432 5 rfl ?_
          refine zj_iconst (v := nI 1) F d_law_434 (by decide) ?_
          refine zj_iadd F d_law_435 (nI_add _ _) ?_
          refine zj_sld F B d_law_436 ((6 * c) + 1) rfl (by omega) (by omega) ?_
          refine zj_callN (maxL := 2) (wc := zO m 6 fm :: wm0) (wr := zL K out 1 f2 :: wx2) F (m_MO_count l K m fc n rl t o _ hM (xs ((6 * c) + 1)) q hs) (zi_V (As := [.int (xs ((6 * c) + 1))]) (rest := []) F d_law_437 0 rfl rfl rfl q_756 q_757 q_758 q_759 (Or.inl ⟨_, _, rfl⟩) (by decide) (show Option.map (fun d => d.parameters.length) (parseMethodDescriptor y_MO_count.desc) = some 1 from by decide +kernel)) d_law_437 q_759 (Or.inl ⟨_, _, rfl⟩) q_7 (List.range (zO m 6 fm :: wm0).length) ((List.range (zL K out 1 f2 :: wx2).length).map (fun i => (zO m 6 fm :: wm0).length + i)) (zw_l _ _) (zw_r _ _) (zw_ndl _) (zw_ndr _ _) (zw_dis _ _) ⟨by decide, by decide, (show 54 + 2 * c + 1 + 0 ≤ 601024 by omega), (show 274779 + 12 * c + 6 + 0 ≤ 7293033 by omega)⟩ (Nat.le_of_ble_eq_true rfl) (fun v wm2 hq => ?_)
          obtain ⟨b2, rfl, hb2, hM2⟩ := hq
          show zj G (54 + 2 * c + 1) (274779 + 12 * c + 6) 440 [(5, .int (nI q.1)), (0, .ref b), (1, .ref x), (2, .ref m), (3, .ref out), (4, .int (nI (6 * c)))] [.int b2] ((zL K out 1 f2 :: wx2) ++ wm2)
          obtain ⟨fn, wn0, rfl⟩ := zmw_head hM2
          refine zj_istore (L' := [(6, .int b2), (5, .int (nI q.1)), (0, .ref b), (1, .ref x), (2, .ref m), (3, .ref out), (4, .int (nI (6 * c)))]) F d_law_440 (by decide) rfl ?_
          refine zj_aload_n F d_law_442 4 rfl rfl ?_
          refine zj_rot (a := zL K out 1 f2 :: wx2) (b := zO m 6 fn :: wn0) ?_
          refine zj_callN (maxL := 1) (wc := zO m 6 fn :: wn0) (wr := zL K out 1 f2 :: wx2) F (m_MO_thr l K m q.1 _ _ _ _ _ hM2) (zi_V (As := []) (rest := []) F d_law_443 0 rfl rfl rfl q_612 q_613 q_614 q_615 (Or.inl ⟨_, _, rfl⟩) (by decide) (show Option.map (fun d => d.parameters.length) (parseMethodDescriptor y_MO_thrown.desc) = some 0 from by decide +kernel)) d_law_443 q_615 (Or.inl ⟨_, _, rfl⟩) q_7 (List.range (zO m 6 fn :: wn0).length) ((List.range (zL K out 1 f2 :: wx2).length).map (fun i => (zO m 6 fn :: wn0).length + i)) (zw_l _ _) (zw_r _ _) (zw_ndl _) (zw_ndr _ _) (zw_dis _ _) ⟨by decide, by decide, (show 54 + 2 * c + 1 + 0 ≤ 601024 by omega), (show 274779 + 12 * c + 6 + 0 ≤ 7293033 by omega)⟩ (Nat.le_of_ble_eq_true rfl) (fun v wm3 hq => ?_)
          obtain ⟨rfl, hM3⟩ := hq
          show zj G (54 + 2 * c + 1) (274779 + 12 * c + 6) 446 [(6, .int b2), (5, .int (nI q.1)), (0, .ref b), (1, .ref x), (2, .ref m), (3, .ref out), (4, .int (nI (6 * c)))] [.int (nI q.1)] ((zL K out 1 f2 :: wx2) ++ wm3)
          refine zj_iload F d_law_446 1 rfl ?_
          refine zj_icmp_eq (tgt := 453) F d_law_448 (by decide) Iff.rfl (fun _ => ?_) (fun h => absurd rfl h)
          refine zj_iload F d_law_453 1 rfl ?_
          have nxt : zj G (54 + 2 * c + 1) (274779 + 12 * c + 6) 473 [(0, .ref b), (1, .ref x), (2, .ref m), (3, .ref out), (4, .int (nI (6 * c)))] [] ((zL K out 1 f2 :: wx2) ++ wm3) := by
            show zj G (54 + 2 * c + 1) (274779 + 12 * c + 6) 473 [(0, .ref b), (1, .ref x), (2, .ref m), (3, .ref out), (4, .int (nI (6 * c)))] [] ((zL K out 1 f2 :: wx2) ++ wm3)
            refine zj_iinc (v := nI (6 * c + 6)) (L' := [(4, .int (nI (6 * c + 6))), (0, .ref b), (1, .ref x), (2, .ref m), (3, .ref out)]) F d_law_473 4 rfl (nI_add _ _) (by decide) rfl ?_
            refine zj_goto F d_law_476 (tgt := 23) (by decide) ?_
            have h7 := ih (c + 1) _ _ _ _ _ f2 wx2 wm3 (by omega) (by omega) hX2 hM3
            rw [show 6 * (c + 1) = 6 * c + 6 by omega] at h7
            exact zj_widen (by omega) (by omega) (zj_sub [1, 2, 3, 4, 0] rfl h7)
          refine zj_if_ne (tgt := 470) F d_law_455 (by decide) (zI_eq0 (by omega)) (fun _ => ?_) (fun h0 => ?_)
          · refine zj_goto F d_law_470 (tgt := 473) (by decide) ?_
            exact zj_sub [2, 3, 4, 5, 6] rfl nxt
          · refine zj_aload_n F d_law_458 5 rfl rfl ?_
            refine zj_iconst (v := nI 0) F d_law_459 (by decide) ?_
            refine zj_lald (z := f2 0) F d_law_460 0 2 0 rfl rfl rfl (by decide) (by decide) rfl ?_
            refine zj_iload F d_law_461 0 rfl ?_
            refine zj_i2l F d_law_463 rfl ?_
            refine zj_lcmp F d_law_464 rfl ?_
            refine zj_if_eq (tgt := 470) F d_law_465 (by decide) (zL_cmp _ _) (fun _ => ?_) (fun h => absurd ((hf h0).trans (hb2 h0).symm) h)
            refine zj_goto F d_law_470 (tgt := 473) (by decide) ?_
            exact zj_sub [2, 3, 4, 5, 6] rfl nxt
  show zj G 0 0 0 [(0, .ref b)] [] ([])
  refine zj_new (fs := [.null, .int (nI 0), .null, .int (nI 0), .null, .null, .null]) F d_law_0 (ci := 4) rfl in_ZB ty_ZB q_17 q_18 q_1 df_ZB (by decide) (by decide) (fun x => ?_)
  show zj G 1 7 3 [(0, .ref b)] [.ref x] ([zO x 4 [.null, .int (nI 0), .null, .int (nI 0), .null, .null, .null]])
  refine zj_dup F d_law_3 rfl ?_
  show zj G 1 7 4 [(0, .ref b)] [.ref x, .ref x] ([zO x 4 [.null, .int (nI 0), .null, .int (nI 0), .null, .null, .null]] ++ [])
  refine zj_callN (maxL := 1) (wc := [zO x 4 [.null, .int (nI 0), .null, .int (nI 0), .null, .null, .null]]) (wr := []) F (i_ZB l K x) (zi_I (As := []) (rest := [.ref x]) F d_law_4 q_19 q_20 q_21 rfl rfl (by decide) (show Option.map (fun d => d.parameters.length) (parseMethodDescriptor y_ZB_init.desc) = some 0 from by decide +kernel)) d_law_4 q_21 (Or.inl ⟨_, _, rfl⟩) q_1 (List.range ([zO x 4 [.null, .int (nI 0), .null, .int (nI 0), .null, .null, .null]]).length) ((List.range ([]).length).map (fun i => ([zO x 4 [.null, .int (nI 0), .null, .int (nI 0), .null, .null, .null]]).length + i)) (zw_l _ _) (zw_r _ _) (zw_ndl _) (zw_ndr _ _) (zw_dis _ _) ⟨by decide, by decide, (show 1 + 34 ≤ 601024 by omega), (show 7 + 59590 ≤ 7293033 by omega)⟩ (Nat.le_of_ble_eq_true rfl) (fun v wx hq => ?_)
  obtain ⟨rfl, hX⟩ := hq
  show zj G 35 59597 7 [(0, .ref b)] [.ref x] (wx)
  refine zj_astore_n (L' := [(1, .ref x), (0, .ref b)]) F d_law_7 rfl (by decide) rfl ?_
  refine zj_new (fs := [.int (nI 0), .null, .int (nI 0), .null, .int (nI 0), .null, .int (nI 0), .null, .int (nI 0), .int (nI 0), .null, .null, .null, .null, .null, .int (nI 0), .int (nI 0), .int (nI 0), .null, .null]) F d_law_8 (ci := 6) rfl in_MO ty_MO q_525 q_526 q_7 df_MO (by decide) (by decide) (fun m => ?_)
  show zj G 36 59617 11 [(1, .ref x), (0, .ref b)] [.ref m] (wx ++ [zO m 6 [.int (nI 0), .null, .int (nI 0), .null, .int (nI 0), .null, .int (nI 0), .null, .int (nI 0), .int (nI 0), .null, .null, .null, .null, .null, .int (nI 0), .int (nI 0), .int (nI 0), .null, .null]])
  refine zj_dup F d_law_11 rfl ?_
  refine zj_rot (a := wx) (b := [zO m 6 [.int (nI 0), .null, .int (nI 0), .null, .int (nI 0), .null, .int (nI 0), .null, .int (nI 0), .int (nI 0), .null, .null, .null, .null, .null, .int (nI 0), .int (nI 0), .int (nI 0), .null, .null]]) ?_
  refine zj_callN (maxL := 1) (wc := [zO m 6 [.int (nI 0), .null, .int (nI 0), .null, .int (nI 0), .null, .int (nI 0), .null, .int (nI 0), .int (nI 0), .null, .null, .null, .null, .null, .int (nI 0), .int (nI 0), .int (nI 0), .null, .null]]) (wr := wx) F (i_MO l K m) (zi_I (As := []) (rest := [.ref m]) F d_law_12 q_527 q_528 q_529 rfl rfl (by decide) (show Option.map (fun d => d.parameters.length) (parseMethodDescriptor y_MO_init.desc) = some 0 from by decide +kernel)) d_law_12 q_529 (Or.inl ⟨_, _, rfl⟩) q_7 (List.range ([zO m 6 [.int (nI 0), .null, .int (nI 0), .null, .int (nI 0), .null, .int (nI 0), .null, .int (nI 0), .int (nI 0), .null, .null, .null, .null, .null, .int (nI 0), .int (nI 0), .int (nI 0), .null, .null]]).length) ((List.range (wx).length).map (fun i => ([zO m 6 [.int (nI 0), .null, .int (nI 0), .null, .int (nI 0), .null, .int (nI 0), .null, .int (nI 0), .int (nI 0), .null, .null, .null, .null, .null, .int (nI 0), .int (nI 0), .int (nI 0), .null, .null]]).length + i)) (zw_l _ _) (zw_r _ _) (zw_ndl _) (zw_ndr _ _) (zw_dis _ _) ⟨by decide, by decide, (show 36 + 17 ≤ 601024 by omega), (show 59617 + 215161 ≤ 7293033 by omega)⟩ (Nat.le_of_ble_eq_true rfl) (fun v wm hq => ?_)
  obtain ⟨rfl, hM⟩ := hq
  show zj G 53 274778 15 [(1, .ref x), (0, .ref b)] [.ref m] (wx ++ wm)
  refine zj_astore_n (L' := [(2, .ref m), (1, .ref x), (0, .ref b)]) F d_law_15 rfl (by decide) rfl ?_
  refine zj_iconst (v := nI 1) F d_law_16 (by decide) ?_
  refine zj_newa (a0 := (1, .inr (.inl (fun _ => 0)))) F d_law_17 2 rfl rfl (Or.inr (Or.inr rfl)) q_760 (fun _ => rfl) rfl (by decide) (by decide) (by decide) (fun out => ?_)
  show zj G 54 274779 19 [(2, .ref m), (1, .ref x), (0, .ref b)] [.ref out] ((wx ++ wm) ++ [zL K out 1 (fun _ => 0)])
  refine zj_rot (a := wx ++ wm) (b := [zL K out 1 (fun _ => 0)]) ?_
  show zj G 54 274779 19 [(2, .ref m), (1, .ref x), (0, .ref b)] [.ref out] ((zL K out 1 (fun _ => 0) :: wx) ++ wm)
  refine zj_astore_n (L' := [(3, .ref out), (2, .ref m), (1, .ref x), (0, .ref b)]) F d_law_19 rfl (by decide) rfl ?_
  refine zj_iconst (v := nI 0) F d_law_20 (by decide) ?_
  refine zj_istore (L' := [(4, .int (nI 0)), (3, .ref out), (2, .ref m), (1, .ref x), (0, .ref b)]) F d_law_21 (by decide) rfl ?_
  exact zj_sub [4, 3, 2, 1, 0] rfl (key x m out Ls 0 0 0 0 _ _ _ wx wm (by omega) (by omega) hX hM)
