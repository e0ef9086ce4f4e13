set_option maxHeartbeats 4000000 in
set_option maxRecDepth 100000 in
/-- writeTape() -/
theorem m_PA_writeTape (l : Launch) (hl : l.stackTraces = false) (K : zk) (p ne ol ib n ob : Nat) (x y : Int32) (t ng og : Nat → Nat) (s R : zps) (hb : ∀ j, t j < 256) (hn : n ≤ 16384) (hs : zpk s) (hw : s.2.1 ≤ 16384) (hI : zinv (zch t) n ng og 0) (hR : zwt t n n 0 s = R) : zc l K y_PA_writeTape w_PA_writeTape { frames := 10, cells := 1, slots := 6, locals := 206 } 0 0 1 6 [.ref p] [zO p 2 [.ref ne, .ref ol, .ref ib, .int (nI n), .ref ob, .int (nI s.2.1), .int (nI s.2.2.1), .int (nI s.2.2.2), .int x, .int y], zB K ib 16384 (zby t), zB K ob 16384 (zby s.1), zI K ne 4096 (zm1 ng), zI K ol 4096 (zm1 og)] (fun r w1 => ∃ (x' y' : Int32) (ng' og' : Nat → Nat), R.2.1 ≤ 16384 ∧ r = none ∧ w1 = [zO p 2 [.ref ne, .ref ol, .ref ib, .int (nI n), .ref ob, .int (nI R.2.1), .int (nI R.2.2.1), .int (nI R.2.2.2), .int x', .int y'], zB K ib 16384 (zby t), zB K ob 16384 (zby R.1), zI K ne 4096 (zm1 ng'), zI K ol 4096 (zm1 og')]) (fun X w1 => 16384 < R.2.1 ∧ X = zY ∧ ∃ (o' : Nat → Nat) (w' h' c' x' y' : Int32) (ng' og' : Nat → Nat), (∀ j, o' j < 256) ∧ w1 = [zO p 2 [.ref ne, .ref ol, .ref ib, .int (nI n), .ref ob, .int w', .int h', .int c', .int x', .int y'], zB K ib 16384 (zby t), zB K ob 16384 (zby o'), zI K ne 4096 (zm1 ng'), zI K ol 4096 (zm1 og')]) := by
  refine zc_of (cc := c_PA_writeTape) (nl := 4) (ret := none) (by decide) (Nat.le_of_ble_eq_true rfl) (fun G F E => ?_)
  have F : zf G l K { frames := 10, cells := 1, slots := 6, locals := 206 } "ZlibBox$Packer" c_PA_writeTape 4 := F
  show zj G 0 0 0 [(0, .ref p)] [] [zO p 2 [.ref ne, .ref ol, .ref ib, .int (nI n), .ref ob, .int (nI s.2.1), .int (nI s.2.2.1), .int (nI s.2.2.2), .int x, .int y], zB K ib 16384 (zby t), zB K ob 16384 (zby s.1), zI K ne 4096 (zm1 ng), zI K ol 4096 (zm1 og)]
  refine zj_iconst (v := nI 0) F d_PA_writeTape_0 (by decide) ?_
  refine zj_istore_n (L' := [(2, .int (nI 0)), (0, .ref p)]) F d_PA_writeTape_1 rfl (by decide) rfl ?_
  have key : ∀ f pl (s : zps) (x y : Int32) (ng og : Nat → Nat), n ≤ pl + f → pl ≤ n → zpk s → s.2.1 ≤ 16384 → zinv (zch t) n ng og pl → zwt t n f pl s = R → zj G 0 0 2 [(0, .ref p), (2, .int (nI pl))] [] [zO p 2 [.ref ne, .ref ol, .ref ib, .int (nI n), .ref ob, .int (nI s.2.1), .int (nI s.2.2.1), .int (nI s.2.2.2), .int x, .int y], zB K ib 16384 (zby t), zB K ob 16384 (zby s.1), zI K ne 4096 (zm1 ng), zI K ol 4096 (zm1 og)] := by
    clear hs hw hI hR
    intro f
    induction f with
    | zero =>
      intro pl s x y ng og k1 k2 hs hw hI hR
      show zj G 0 0 2 [(0, .ref p), (2, .int (nI pl))] [] [zO p 2 [.ref ne, .ref ol, .ref ib, .int (nI n), .ref ob, .int (nI s.2.1), .int (nI s.2.2.1), .int (nI s.2.2.2), .int x, .int y], zB K ib 16384 (zby t), zB K ob 16384 (zby s.1), zI K ne 4096 (zm1 ng), zI K ol 4096 (zm1 og)]
      refine zj_iload_n F d_PA_writeTape_2 1 rfl rfl ?_
      refine zj_aload_n F d_PA_writeTape_3 0 rfl rfl ?_
      refine zj_get F d_PA_writeTape_4 0 3 rfl rfl in_PA (by decide) q_118 rfl ?_
      refine zj_icmp_ge (tgt := 79) F d_PA_writeTape_7 (by decide) (nI_leI (by omega) (by omega)) (fun h7 => ?_) (fun h7 => ?_)
      · have hR2 : s = R := hR
        subst hR2
        exact zj_vret F E d_PA_writeTape_79 (Nat.le_refl _) (Nat.le_refl _) ⟨_, _, _, _, hw, rfl, rfl⟩
      · exact absurd h7 (by omega)
    | succ f ih =>
      intro pl s x y ng og k1 k2 hs hw hI hR
      unfold zwt at hR
      show zj G 0 0 2 [(0, .ref p), (2, .int (nI pl))] [] [zO p 2 [.ref ne, .ref ol, .ref ib, .int (nI n), .ref ob, .int (nI s.2.1), .int (nI s.2.2.1), .int (nI s.2.2.2), .int x, .int y], zB K ib 16384 (zby t), zB K ob 16384 (zby s.1), zI K ne 4096 (zm1 ng), zI K ol 4096 (zm1 og)]
      refine zj_iload_n F d_PA_writeTape_2 1 rfl rfl ?_
      refine zj_aload_n F d_PA_writeTape_3 0 rfl rfl ?_
      refine zj_get F d_PA_writeTape_4 0 3 rfl rfl in_PA (by decide) q_118 rfl ?_
      refine zj_icmp_ge (tgt := 79) F d_PA_writeTape_7 (by decide) (nI_leI (by omega) (by omega)) (fun h7 => ?_) (fun h7 => ?_)
      · rw [if_neg (by omega)] at hR
        have hR2 : s = R := hR
        subst hR2
        exact zj_vret F E d_PA_writeTape_79 (Nat.le_refl _) (Nat.le_refl _) ⟨_, _, _, _, hw, rfl, rfl⟩
      · rw [if_pos (by omega)] at hR
        have hfo := zfind_ok t n pl
        generalize hF : zfind t n pl = Q at hR hfo
        refine zj_aload_n F d_PA_writeTape_10 0 rfl rfl ?_
        refine zj_iload_n F d_PA_writeTape_11 1 rfl rfl ?_
        refine zj_call (maxL := 8) (wr := [zB K ob 16384 (zby s.1)]) F E (m_PA_findCopy l K p ne ol ib n ob pl (nI s.2.1) (nI s.2.2.1) (nI s.2.2.2) x y t ng og Q hb hn (by omega) hI hF) (zi_V (As := [.int (nI pl)]) (rest := []) F d_PA_writeTape_12 0 rfl rfl rfl q_460 q_462 sel_PA_findCopy q_463 (Or.inl ⟨_, _, rfl⟩) (by decide) (show Option.map (fun d => d.parameters.length) (parseMethodDescriptor y_PA_findCopy.desc) = some 1 from by decide +kernel)) d_PA_writeTape_12 q_463 (Or.inl ⟨_, _, rfl⟩) q_6 [0, 1, 3, 4] [2] rfl rfl rfl rfl (by decide) ⟨by decide, by decide, by decide, by decide⟩ (Nat.le_of_ble_eq_true rfl) (fun v w1 hq => ?_) (fun X w1 hq => ?_)
        · obtain ⟨y2, hy2, rfl, rfl⟩ := hq
          show zj G 0 0 15 [(0, .ref p), (2, .int (nI pl))] [] [zB K ob 16384 (zby s.1), zO p 2 [.ref ne, .ref ol, .ref ib, .int (nI n), .ref ob, .int (nI s.2.1), .int (nI s.2.2.1), .int (nI s.2.2.2), .int (nI Q.1), .int y2], zB K ib 16384 (zby t), zI K ne 4096 (zm1 ng), zI K ol 4096 (zm1 og)]
          refine zj_wsub (ws' := [zO p 2 [.ref ne, .ref ol, .ref ib, .int (nI n), .ref ob, .int (nI s.2.1), .int (nI s.2.2.1), .int (nI s.2.2.2), .int (nI Q.1), .int y2], zB K ib 16384 (zby t), zB K ob 16384 (zby s.1), zI K ne 4096 (zm1 ng), zI K ol 4096 (zm1 og)]) [1, 2, 0, 3, 4] rfl rfl rfl ?_
          refine zj_iconst (v := nI 1) F d_PA_writeTape_15 (by decide) ?_
          refine zj_aload_n F d_PA_writeTape_16 0 rfl rfl ?_
          refine zj_get F d_PA_writeTape_17 0 8 rfl rfl in_PA (by decide) q_123 rfl ?_
          refine zj_max (z := nI (max 1 Q.1)) F d_PA_writeTape_20 q_467 (by decide) (by decide) (by decide) (by decide) (zI_max1 (by omega)) ?_
          refine zj_istore_n (L' := [(1, .int (nI (max 1 Q.1))), (0, .ref p), (2, .int (nI pl))]) F d_PA_writeTape_23 rfl (by decide) rfl ?_
          refine zj_aload_n F d_PA_writeTape_24 1 rfl rfl ?_
          refine zj_get F d_PA_writeTape_25 0 8 rfl rfl in_PA (by decide) q_123 rfl ?_
          have after : ∀ (s1 : zps) (y3 : Int32), zpk s1 → s1.2.1 ≤ 16384 → zwt t n f (pl + max 1 Q.1) s1 = R → zj G 0 0 52 [(0, .ref p), (1, .int (nI (max 1 Q.1))), (2, .int (nI pl))] [] [zO p 2 [.ref ne, .ref ol, .ref ib, .int (nI n), .ref ob, .int (nI s1.2.1), .int (nI s1.2.2.1), .int (nI s1.2.2.2), .int (nI Q.1), .int y3], zB K ib 16384 (zby t), zB K ob 16384 (zby s1.1), zI K ne 4096 (zm1 ng), zI K ol 4096 (zm1 og)] := by
            intro s1 y3 j1 j2 j3
            show zj G 0 0 52 [(0, .ref p), (1, .int (nI (max 1 Q.1))), (2, .int (nI pl))] [] [zO p 2 [.ref ne, .ref ol, .ref ib, .int (nI n), .ref ob, .int (nI s1.2.1), .int (nI s1.2.2.1), .int (nI s1.2.2.2), .int (nI Q.1), .int y3], zB K ib 16384 (zby t), zB K ob 16384 (zby s1.1), zI K ne 4096 (zm1 ng), zI K ol 4096 (zm1 og)]
            refine zj_iconst (v := nI 0) F d_PA_writeTape_52 (by decide) ?_
            refine zj_istore_n (L' := [(3, .int (nI 0)), (0, .ref p), (1, .int (nI (max 1 Q.1))), (2, .int (nI pl))]) F d_PA_writeTape_53 rfl (by decide) rfl ?_
            have key2 : ∀ q i (ng og : Nat → Nat), i + q = max 1 Q.1 → zinv (zch t) n ng og (pl + i) → zj G 0 0 54 [(0, .ref p), (1, .int (nI (max 1 Q.1))), (2, .int (nI pl)), (3, .int (nI i))] [] [zO p 2 [.ref ne, .ref ol, .ref ib, .int (nI n), .ref ob, .int (nI s1.2.1), .int (nI s1.2.2.1), .int (nI s1.2.2.2), .int (nI Q.1), .int y3], zB K ib 16384 (zby t), zB K ob 16384 (zby s1.1), zI K ne 4096 (zm1 ng), zI K ol 4096 (zm1 og)] := by
              clear hI
              intro q
              induction q with
              | zero =>
                intro i ng og i1 hI
                show zj G 0 0 54 [(0, .ref p), (1, .int (nI (max 1 Q.1))), (2, .int (nI pl)), (3, .int (nI i))] [] [zO p 2 [.ref ne, .ref ol, .ref ib, .int (nI n), .ref ob, .int (nI s1.2.1), .int (nI s1.2.2.1), .int (nI s1.2.2.2), .int (nI Q.1), .int y3], zB K ib 16384 (zby t), zB K ob 16384 (zby s1.1), zI K ne 4096 (zm1 ng), zI K ol 4096 (zm1 og)]
                refine zj_iload_n F d_PA_writeTape_54 3 rfl rfl ?_
                refine zj_iload_n F d_PA_writeTape_55 1 rfl rfl ?_
                refine zj_icmp_ge (tgt := 72) F d_PA_writeTape_56 (by decide) (nI_leI (by omega) (by omega)) (fun h56 => ?_) (fun h56 => ?_)
                · have i2 : i = max 1 Q.1 := by omega
                  rw [i2] at hI
                  refine zj_iload_n F d_PA_writeTape_72 2 rfl rfl ?_
                  refine zj_iload_n F d_PA_writeTape_73 1 rfl rfl ?_
                  refine zj_iadd F d_PA_writeTape_74 (nI_add _ _) ?_
                  refine zj_istore_n (L' := [(2, .int (nI (pl + (max 1 Q.1)))), (0, .ref p), (1, .int (nI (max 1 Q.1))), (3, .int (nI i))]) F d_PA_writeTape_75 rfl (by decide) rfl ?_
                  refine zj_goto F d_PA_writeTape_76 (tgt := 2) (by decide) ?_
                  exact zj_sub [1, 0] rfl (ih _ s1 _ _ ng og (by omega) (by omega) j1 j2 hI j3)
                · exact absurd h56 (by omega)
              | succ q ihq =>
                intro i ng og i1 hI
                show zj G 0 0 54 [(0, .ref p), (1, .int (nI (max 1 Q.1))), (2, .int (nI pl)), (3, .int (nI i))] [] [zO p 2 [.ref ne, .ref ol, .ref ib, .int (nI n), .ref ob, .int (nI s1.2.1), .int (nI s1.2.2.1), .int (nI s1.2.2.2), .int (nI Q.1), .int y3], zB K ib 16384 (zby t), zB K ob 16384 (zby s1.1), zI K ne 4096 (zm1 ng), zI K ol 4096 (zm1 og)]
                refine zj_iload_n F d_PA_writeTape_54 3 rfl rfl ?_
                refine zj_iload_n F d_PA_writeTape_55 1 rfl rfl ?_
                refine zj_icmp_ge (tgt := 72) F d_PA_writeTape_56 (by decide) (nI_leI (by omega) (by omega)) (fun h56 => ?_) (fun h56 => ?_)
                · exact absurd h56 (by omega)
                · refine zj_aload_n F d_PA_writeTape_59 0 rfl rfl ?_
                  refine zj_iload_n F d_PA_writeTape_60 2 rfl rfl ?_
                  refine zj_iload_n F d_PA_writeTape_61 3 rfl rfl ?_
                  refine zj_iadd F d_PA_writeTape_62 (nI_add _ _) ?_
                  refine zj_call (maxL := 3) (wr := [zB K ob 16384 (zby s1.1)]) F E (m_PA_remember l K p ne ol ib n ob (pl + i) (nI s1.2.1) (nI s1.2.2.1) (nI s1.2.2.2) (nI Q.1) y3 t ng og hb hn (by omega) hI) (zi_V (As := [.int (nI (pl + i))]) (rest := []) F d_PA_writeTape_63 0 rfl rfl rfl q_496 q_498 sel_PA_remember q_499 (Or.inl ⟨_, _, rfl⟩) (by decide) (show Option.map (fun d => d.parameters.length) (parseMethodDescriptor y_PA_remember.desc) = some 1 from by decide +kernel)) d_PA_writeTape_63 q_499 (Or.inl ⟨_, _, rfl⟩) q_6 [0, 1, 3, 4] [2] rfl rfl rfl rfl (by decide) ⟨by decide, by decide, by decide, by decide⟩ (Nat.le_of_ble_eq_true rfl) (fun v w1 hq => ?_) (fun X w1 hq => ?_)
                  · obtain ⟨ng2, og2, hI2, rfl, rfl⟩ := hq
                    show zj G 0 0 66 [(0, .ref p), (1, .int (nI (max 1 Q.1))), (2, .int (nI pl)), (3, .int (nI i))] [] [zB K ob 16384 (zby s1.1), zO p 2 [.ref ne, .ref ol, .ref ib, .int (nI n), .ref ob, .int (nI s1.2.1), .int (nI s1.2.2.1), .int (nI s1.2.2.2), .int (nI Q.1), .int y3], zB K ib 16384 (zby t), zI K ne 4096 (zm1 ng2), zI K ol 4096 (zm1 og2)]
                    refine zj_wsub (ws' := [zO p 2 [.ref ne, .ref ol, .ref ib, .int (nI n), .ref ob, .int (nI s1.2.1), .int (nI s1.2.2.1), .int (nI s1.2.2.2), .int (nI Q.1), .int y3], zB K ib 16384 (zby t), zB K ob 16384 (zby s1.1), zI K ne 4096 (zm1 ng2), zI K ol 4096 (zm1 og2)]) [1, 2, 0, 3, 4] rfl rfl rfl ?_
                    refine zj_iinc (v := nI (i + 1)) (L' := [(3, .int (nI (i + 1))), (0, .ref p), (1, .int (nI (max 1 Q.1))), (2, .int (nI pl))]) F d_PA_writeTape_66 3 rfl (nI_add _ _) (by decide) rfl ?_
                    refine zj_goto F d_PA_writeTape_69 (tgt := 54) (by decide) ?_
                    exact zj_sub [1, 2, 3, 0] rfl (ihq (i + 1) ng2 og2 (by omega) hI2)
                  · exact hq.elim
            exact zj_sub [1, 2, 3, 0] rfl (key2 (max 1 Q.1) 0 ng og (Nat.zero_add _) hI)
          refine zj_if_ne (tgt := 48) F d_PA_writeTape_28 (by decide) (zI_eq0 (by omega)) (fun h28 => ?_) (fun h28 => ?_)
          · have hF2 := hfo.resolve_left h28
            have hy3 := hy2 h28
            subst hy3
            show zj G 0 0 48 [(1, .int (nI (max 1 Q.1))), (0, .ref p), (2, .int (nI pl))] [] [zO p 2 [.ref ne, .ref ol, .ref ib, .int (nI n), .ref ob, .int (nI s.2.1), .int (nI s.2.2.1), .int (nI s.2.2.2), .int (nI Q.1), .int (nI Q.2)], zB K ib 16384 (zby t), zB K ob 16384 (zby s.1), zI K ne 4096 (zm1 ng), zI K ol 4096 (zm1 og)]
            rw [if_neg h28] at hR
            have a1 := zcpP_ok hs hF2.1 hF2.2.1 hF2.2.2.2.1 hF2.2.2.2.2
            generalize hs1 : zcpP s Q.1 Q.2 = s1 at hR a1
            have a2 := (zwt_ok t n f (pl + Q.1) s1 a1.1).2
            rw [hR] at a2
            refine zj_aload_n F d_PA_writeTape_48 1 rfl rfl ?_
            refine zj_call (maxL := 3) (wr := [zB K ib 16384 (zby t), zI K ne 4096 (zm1 ng), zI K ol 4096 (zm1 og)]) F E (m_PA_putCopy l hl K p ne ol ib n ob Q.1 Q.2 s s1 hs hw hF2.1 hF2.2.1 hF2.2.2.2.1 hF2.2.2.2.2 hs1) (zi_V (As := []) (rest := []) F d_PA_writeTape_49 0 rfl rfl rfl q_485 q_487 sel_PA_putCopy q_488 (Or.inl ⟨_, _, rfl⟩) (by decide) (show Option.map (fun d => d.parameters.length) (parseMethodDescriptor y_PA_putCopy.desc) = some 0 from by decide +kernel)) d_PA_writeTape_49 q_488 (Or.inl ⟨_, _, rfl⟩) q_6 [0, 2] [1, 3, 4] rfl rfl rfl rfl (by decide) ⟨by decide, by decide, by decide, by decide⟩ (Nat.le_of_ble_eq_true rfl) (fun v w1 hq => ?_) (fun X w1 hq => ?_)
            · obtain ⟨hq0, rfl, rfl⟩ := hq
              show zj G 0 0 52 [(1, .int (nI (max 1 Q.1))), (0, .ref p), (2, .int (nI pl))] [] [zB K ib 16384 (zby t), zI K ne 4096 (zm1 ng), zI K ol 4096 (zm1 og), zO p 2 [.ref ne, .ref ol, .ref ib, .int (nI n), .ref ob, .int (nI s1.2.1), .int (nI s1.2.2.1), .int (nI s1.2.2.2), .int (nI Q.1), .int (nI Q.2)], zB K ob 16384 (zby s1.1)]
              refine zj_wsub (ws' := [zO p 2 [.ref ne, .ref ol, .ref ib, .int (nI n), .ref ob, .int (nI s1.2.1), .int (nI s1.2.2.1), .int (nI s1.2.2.2), .int (nI Q.1), .int (nI Q.2)], zB K ib 16384 (zby t), zB K ob 16384 (zby s1.1), zI K ne 4096 (zm1 ng), zI K ol 4096 (zm1 og)]) [3, 0, 4, 1, 2] rfl rfl rfl ?_
              exact zj_sub [1, 0, 2] rfl (after s1 _ a1.1 hq0 (by rw [show max 1 Q.1 = Q.1 by omega]; exact hR))
            · obtain ⟨hx0, rfl, o9, w9, h9, c9, ho9, rfl⟩ := hq
              exact ⟨rfl, by decide, by decide, [3, 0, 4, 1, 2], [zO p 2 [.ref ne, .ref ol, .ref ib, .int (nI n), .ref ob, .int (nI w9), .int (nI h9), .int (nI c9), .int (nI Q.1), .int (nI Q.2)], zB K ib 16384 (zby t), zB K ob 16384 (zby o9), zI K ne 4096 (zm1 ng), zI K ol 4096 (zm1 og)], rfl, rfl, ⟨by omega, rfl, _, _, _, _, _, _, _, _, ho9, rfl⟩⟩
          · rw [if_pos h28] at hR
            have a1 := zlit_ok (t pl) hs
            generalize hs1 : zlit s (t pl) = s1 at hR a1
            have a2 := (zwt_ok t n f (pl + 1) s1 a1.1).2
            rw [hR] at a2
            have htp := hb pl
            refine zj_aload_n F d_PA_writeTape_31 1 rfl rfl ?_
            refine zj_aload_n F d_PA_writeTape_32 1 rfl rfl ?_
            refine zj_get F d_PA_writeTape_33 0 2 rfl rfl in_PA (by decide) q_117 rfl ?_
            refine zj_iload_n F d_PA_writeTape_36 2 rfl rfl ?_
            refine zj_bald F d_PA_writeTape_37 1 0 pl rfl rfl rfl (by omega) (by omega) rfl ?_
            refine zj_sipush (v := nI 255) F d_PA_writeTape_38 (by decide) ?_
            refine zj_iand (z := nI (t pl)) F d_PA_writeTape_41 (zby_and (hb _)) ?_
            refine zj_call (maxL := 2) (wr := [zB K ib 16384 (zby t), zI K ne 4096 (zm1 ng), zI K ol 4096 (zm1 og)]) F E (m_PA_putLiteral l hl K p ne ol ib n ob (t pl) (nI Q.1) y2 s s1 hs hw (by omega) hs1) (zi_V (As := [.int (nI (t pl))]) (rest := []) F d_PA_writeTape_42 0 rfl rfl rfl q_478 q_480 sel_PA_putLiteral q_481 (Or.inl ⟨_, _, rfl⟩) (by decide) (show Option.map (fun d => d.parameters.length) (parseMethodDescriptor y_PA_putLiteral.desc) = some 1 from by decide +kernel)) d_PA_writeTape_42 q_481 (Or.inl ⟨_, _, rfl⟩) q_6 [0, 2] [1, 3, 4] rfl rfl rfl rfl (by decide) ⟨by decide, by decide, by decide, by decide⟩ (Nat.le_of_ble_eq_true rfl) (fun v w1 hq => ?_) (fun X w1 hq => ?_)
            · obtain ⟨hq0, rfl, rfl⟩ := hq
              show zj G 0 0 45 [(1, .int (nI (max 1 Q.1))), (0, .ref p), (2, .int (nI pl))] [] [zB K ib 16384 (zby t), zI K ne 4096 (zm1 ng), zI K ol 4096 (zm1 og), zO p 2 [.ref ne, .ref ol, .ref ib, .int (nI n), .ref ob, .int (nI s1.2.1), .int (nI s1.2.2.1), .int (nI s1.2.2.2), .int (nI Q.1), .int y2], zB K ob 16384 (zby s1.1)]
              refine zj_goto F d_PA_writeTape_45 (tgt := 52) (by decide) ?_
              refine zj_wsub (ws' := [zO p 2 [.ref ne, .ref ol, .ref ib, .int (nI n), .ref ob, .int (nI s1.2.1), .int (nI s1.2.2.1), .int (nI s1.2.2.2), .int (nI Q.1), .int y2], zB K ib 16384 (zby t), zB K ob 16384 (zby s1.1), zI K ne 4096 (zm1 ng), zI K ol 4096 (zm1 og)]) [3, 0, 4, 1, 2] rfl rfl rfl ?_
              exact zj_sub [1, 0, 2] rfl (after s1 _ a1.1 hq0 (by rw [show max 1 Q.1 = 1 by omega]; exact hR))
            · obtain ⟨hx0, rfl, o9, w9, h9, c9, ho9, rfl⟩ := hq
              exact ⟨rfl, by decide, by decide, [3, 0, 4, 1, 2], [zO p 2 [.ref ne, .ref ol, .ref ib, .int (nI n), .ref ob, .int (nI w9), .int (nI h9), .int (nI c9), .int (nI Q.1), .int y2], zB K ib 16384 (zby t), zB K ob 16384 (zby o9), zI K ne 4096 (zm1 ng), zI K ol 4096 (zm1 og)], rfl, rfl, ⟨by omega, rfl, _, _, _, _, _, _, _, _, ho9, rfl⟩⟩
        · exact hq.elim
  exact zj_sub [1, 0] rfl (key n 0 s x y ng og (by omega) (by omega) hs hw hI hR)
theorem zm1_fil (g : Nat → Nat) (n : Nat) : zfil (zm1 g) (-1) n = zm1 (fun j => if j < n then 0 else g j) := by
  funext j
  rw [zfil_eq]
  unfold zm1
  by_cases h : j < n
  · rw [if_pos h]; simp only [h, if_true]; decide
  · rw [if_neg h]; simp only [h, if_false]
theorem zinv_0 (ch : Nat → Nat) (n : Nat) (g og : Nat → Nat) : zinv ch n (fun j => if j < 4096 then 0 else g j) og 0 := by
  unfold zinv
  rw [show min 0 (n - 2) = 0 by omega]
  refine ⟨fun c h => ?_, fun q h => absurd h (by omega)⟩
  dsimp only
  rw [if_pos h]
  rfl
set_option maxHeartbeats 4000000 in
set_option maxRecDepth 100000 in
/-- open(tape, length, target) -/
theorem m_PA_open (l : Launch) (K : zk) (p ne ol ib n ob : Nat) (ib0 ob0 : Nat) (n0 w h c x y : Int32) (ng : Nat → Nat)  : zc l K y_PA_open w_PA_open { frames := 1, cells := 0, slots := 0, locals := 23 } 0 0 0 0 [.ref p, .ref ib, .int (nI n), .ref ob] [zO p 2 [.ref ne, .ref ol, .ref ib0, .int n0, .ref ob0, .int w, .int h, .int c, .int x, .int y], zI K ne 4096 (zm1 ng)] (fun r w1 => r = none ∧ w1 = [zO p 2 [.ref ne, .ref ol, .ref ib, .int (nI n), .ref ob, .int (nI 0), .int (nI 0), .int (nI 0), .int x, .int y], zI K ne 4096 (zm1 (fun j => if j < 4096 then 0 else ng j))]) (fun _ _ => False) := by
  refine zc_of (cc := c_PA_open) (nl := 4) (ret := none) (by decide) (Nat.le_of_ble_eq_true rfl) (fun G F E => ?_)
  have F : zf G l K { frames := 1, cells := 0, slots := 0, locals := 23 } "ZlibBox$Packer" c_PA_open 4 := F
  show zj G 0 0 0 [(0, .ref p), (1, .ref ib), (2, .int (nI n)), (3, .ref ob)] [] [zO p 2 [.ref ne, .ref ol, .ref ib0, .int n0, .ref ob0, .int w, .int h, .int c, .int x, .int y], zI K ne 4096 (zm1 ng)]
  refine zj_aload_n F d_PA_open_0 0 rfl rfl ?_
  refine zj_get F d_PA_open_1 0 0 rfl rfl in_PA (by decide) q_115 rfl ?_
  refine zj_iconst (v := (-1)) F d_PA_open_4 (by decide) ?_
  refine zj_call (maxL := 4) (wr := [zO p 2 [.ref ne, .ref ol, .ref ib0, .int n0, .ref ob0, .int w, .int h, .int c, .int x, .int y]]) F E (m_fill l K ne 4096 (zm1 ng) (-1) (by decide)) (zi_S (As := [.ref ne, .int (-1)]) (rest := []) F d_PA_open_5 q_444 q_77 q_5 q_78 (Or.inl ⟨_, _, rfl⟩) (by decide) (show Option.map (fun d => d.parameters.length) (parseMethodDescriptor y_AR_fill.desc) = some 2 from by decide +kernel)) d_PA_open_5 q_78 (Or.inl ⟨_, _, rfl⟩) q_5 [1] [0] rfl rfl rfl rfl (by decide) ⟨by decide, by decide, by decide, by decide⟩ (Nat.le_of_ble_eq_true rfl) (fun v w1 hq => ?_) (fun X w1 hq => ?_)
  · obtain ⟨rfl, rfl⟩ := hq
    rw [zm1_fil]
    show zj G 0 0 8 [(0, .ref p), (1, .ref ib), (2, .int (nI n)), (3, .ref ob)] [] [zO p 2 [.ref ne, .ref ol, .ref ib0, .int n0, .ref ob0, .int w, .int h, .int c, .int x, .int y], zI K ne 4096 (zm1 (fun j => if j < 4096 then 0 else ng j))]
    refine zj_aload_n F d_PA_open_8 0 rfl rfl ?_
    refine zj_aload_n F d_PA_open_9 1 rfl rfl ?_
    refine zj_put (ws' := [zO p 2 [.ref ne, .ref ol, .ref ib, .int n0, .ref ob0, .int w, .int h, .int c, .int x, .int y], zI K ne 4096 (zm1 (fun j => if j < 4096 then 0 else ng j))]) F d_PA_open_10 0 2 rfl rfl in_PA ty_PA nm_PA (by decide) q_117 rfl rfl rfl (Nat.le_of_ble_eq_true rfl) rfl ?_
    refine zj_aload_n F d_PA_open_13 0 rfl rfl ?_
    refine zj_iload_n F d_PA_open_14 2 rfl rfl ?_
    refine zj_put (ws' := [zO p 2 [.ref ne, .ref ol, .ref ib, .int (nI n), .ref ob0, .int w, .int h, .int c, .int x, .int y], zI K ne 4096 (zm1 (fun j => if j < 4096 then 0 else ng j))]) F d_PA_open_15 0 3 rfl rfl in_PA ty_PA nm_PA (by decide) q_118 rfl rfl rfl (Nat.le_of_ble_eq_true rfl) rfl ?_
    refine zj_aload_n F d_PA_open_18 0 rfl rfl ?_
    refine zj_aload_n F d_PA_open_19 3 rfl rfl ?_
    refine zj_put (ws' := [zO p 2 [.ref ne, .ref ol, .ref ib, .int (nI n), .ref ob, .int w, .int h, .int c, .int x, .int y], zI K ne 4096 (zm1 (fun j => if j < 4096 then 0 else ng j))]) F d_PA_open_20 0 4 rfl rfl in_PA ty_PA nm_PA (by decide) q_119 rfl rfl rfl (Nat.le_of_ble_eq_true rfl) rfl ?_
    refine zj_aload_n F d_PA_open_23 0 rfl rfl ?_
    refine zj_iconst (v := nI 0) F d_PA_open_24 (by decide) ?_
    refine zj_put (ws' := [zO p 2 [.ref ne, .ref ol, .ref ib, .int (nI n), .ref ob, .int (nI 0), .int h, .int c, .int x, .int y], zI K ne 4096 (zm1 (fun j => if j < 4096 then 0 else ng j))]) F d_PA_open_25 0 5 rfl rfl in_PA ty_PA nm_PA (by decide) q_120 rfl rfl rfl (Nat.le_of_ble_eq_true rfl) rfl ?_
    refine zj_aload_n F d_PA_open_28 0 rfl rfl ?_
    refine zj_iconst (v := nI 0) F d_PA_open_29 (by decide) ?_
    refine zj_put (ws' := [zO p 2 [.ref ne, .ref ol, .ref ib, .int (nI n), .ref ob, .int (nI 0), .int (nI 0), .int c, .int x, .int y], zI K ne 4096 (zm1 (fun j => if j < 4096 then 0 else ng j))]) F d_PA_open_30 0 6 rfl rfl in_PA ty_PA nm_PA (by decide) q_121 rfl rfl rfl (Nat.le_of_ble_eq_true rfl) rfl ?_
    refine zj_aload_n F d_PA_open_33 0 rfl rfl ?_
    refine zj_iconst (v := nI 0) F d_PA_open_34 (by decide) ?_
    refine zj_put (ws' := [zO p 2 [.ref ne, .ref ol, .ref ib, .int (nI n), .ref ob, .int (nI 0), .int (nI 0), .int (nI 0), .int x, .int y], zI K ne 4096 (zm1 (fun j => if j < 4096 then 0 else ng j))]) F d_PA_open_35 0 7 rfl rfl in_PA ty_PA nm_PA (by decide) q_122 rfl rfl rfl (Nat.le_of_ble_eq_true rfl) rfl ?_
    exact zj_vret F E d_PA_open_38 (Nat.le_refl _) (Nat.le_refl _) ⟨rfl, rfl⟩
  · exact hq.elim
set_option maxHeartbeats 4000000 in
set_option maxRecDepth 100000 in
/-- write(tape, length, target) -/
theorem m_PA_write (l : Launch) (hl : l.stackTraces = false) (K : zk) (p ne ol ib n ob : Nat) (ib0 ob0 : Nat) (n0 w h c x y : Int32) (t o ng og : Nat → Nat) (R : (Nat → Nat) × Nat) (hb : ∀ j, t j < 256) (hn : n ≤ 16384) (ho : ∀ j, o j < 256) (hR : zpack t n o = R) : zc l K y_PA_write w_PA_write { frames := 11, cells := 1, slots := 6, locals := 229 } 0 0 1 6 [.ref p, .ref ib, .int (nI n), .ref ob] [zO p 2 [.ref ne, .ref ol, .ref ib0, .int n0, .ref ob0, .int w, .int h, .int c, .int x, .int y], zB K ib 16384 (zby t), zB K ob 16384 (zby o), zI K ne 4096 (zm1 ng), zI K ol 4096 (zm1 og)] (fun r w1 => ∃ (h' c' x' y' : Int32) (ng' og' : Nat → Nat), R.2 ≤ 16384 ∧ r = some (.int (nI R.2)) ∧ w1 = [zO p 2 [.ref ne, .ref ol, .ref ib, .int (nI n), .ref ob, .int (nI R.2), .int h', .int c', .int x', .int y'], zB K ib 16384 (zby t), zB K ob 16384 (zby R.1), zI K ne 4096 (zm1 ng'), zI K ol 4096 (zm1 og')]) (fun X w1 => 16384 < R.2 ∧ X = zY ∧ ∃ (o' : Nat → Nat) (w' h' c' x' y' : Int32) (ng' og' : Nat → Nat), (∀ j, o' j < 256) ∧ w1 = [zO p 2 [.ref ne, .ref ol, .ref ib, .int (nI n), .ref ob, .int w', .int h', .int c', .int x', .int y'], zB K ib 16384 (zby t), zB K ob 16384 (zby o'), zI K ne 4096 (zm1 ng'), zI K ol 4096 (zm1 og')]) := by
  refine zc_of (cc := c_PA_write) (nl := 4) (ret := (some .int)) (by decide) (Nat.le_of_ble_eq_true rfl) (fun G F E => ?_)
  have F : zf G l K { frames := 11, cells := 1, slots := 6, locals := 229 } "ZlibBox$Packer" c_PA_write 4 := F
  show zj G 0 0 0 [(0, .ref p), (1, .ref ib), (2, .int (nI n)), (3, .ref ob)] [] [zO p 2 [.ref ne, .ref ol, .ref ib0, .int n0, .ref ob0, .int w, .int h, .int c, .int x, .int y], zB K ib 16384 (zby t), zB K ob 16384 (zby o), zI K ne 4096 (zm1 ng), zI K ol 4096 (zm1 og)]
  have z1 := zpS_ok ho
  have z2 := zwt_ok t n n 0 _ z1
  have z3 := zlit_ok 256 z2.1
  have z4 := zfl_ok z3.1
  have z0 : zpk (va_up (va_up o 0 120) 1 1, 2, 0, 0) := ⟨by show 0 < 8; decide, by show 0 < 2 ^ 0; decide, zup_lt (zup_lt ho 0 (by decide)) 1 (by decide)⟩
  have z5 := zput_ok z0 (show 1 < 2 ^ 1 by decide)
  have z6 := zput_ok z5.1 (show 1 < 2 ^ 2 by decide)
  unfold zpack at hR
  unfold zpE at hR
  unfold zpS at hR z1 z2 z3 z4
  have hR2 : (zfl (zlit (zwt t n n 0 (zput (zput (va_up (va_up o 0 120) 1 1, 2, 0, 0) 1 1) 1 2)) 256)).2 + 4 = R.2 := by rw [← hR]
  generalize e1 : zput (va_up (va_up o 0 120) 1 1, 2, 0, 0) 1 1 = s1 at *
  generalize e2 : zput s1 1 2 = s2 at *
  generalize e3 : zwt t n n 0 s2 = s3 at *
  generalize e4 : zlit s3 256 = s4 at *
  generalize e5 : zfl s4 = Q at *
  refine zj_aload_n F d_PA_write_0 0 rfl rfl ?_
  refine zj_aload_n F d_PA_write_1 1 rfl rfl ?_
  refine zj_iload_n F d_PA_write_2 2 rfl rfl ?_
  refine zj_aload_n F d_PA_write_3 3 rfl rfl ?_
  refine zj_call (maxL := 4) (wr := [zB K ib 16384 (zby t), zB K ob 16384 (zby o), zI K ol 4096 (zm1 og)]) F E (m_PA_open l K p ne ol ib n ob ib0 ob0 n0 w h c x y ng) (zi_V (As := [.ref ib, .int (nI n), .ref ob]) (rest := []) F d_PA_write_4 0 rfl rfl rfl q_440 q_442 sel_PA_open q_443 (Or.inl ⟨_, _, rfl⟩) (by decide) (show Option.map (fun d => d.parameters.length) (parseMethodDescriptor y_PA_open.desc) = some 3 from by decide +kernel)) d_PA_write_4 q_443 (Or.inl ⟨_, _, rfl⟩) q_6 [0, 3] [1, 2, 4] rfl rfl rfl rfl (by decide) ⟨by decide, by decide, by decide, by decide⟩ (Nat.le_of_ble_eq_true rfl) (fun v w1 hq => ?_) (fun X w1 hq => ?_)
  · obtain ⟨rfl, rfl⟩ := hq
    show zj G 0 0 7 [(0, .ref p), (1, .ref ib), (2, .int (nI n)), (3, .ref ob)] [] [zB K ib 16384 (zby t), zB K ob 16384 (zby o), zI K ol 4096 (zm1 og), zO p 2 [.ref ne, .ref ol, .ref ib, .int (nI n), .ref ob, .int (nI 0), .int (nI 0), .int (nI 0), .int x, .int y], zI K ne 4096 (zm1 (fun j => if j < 4096 then 0 else ng j))]
    refine zj_aload_n F d_PA_write_7 0 rfl rfl ?_
    refine zj_bipush (v := nI 120) F d_PA_write_8 (by decide) ?_
    refine zj_call (maxL := 2) (wr := [zB K ib 16384 (zby t), zI K ol 4096 (zm1 og), zI K ne 4096 (zm1 (fun j => if j < 4096 then 0 else ng j))]) F E (m_PA_putByte l hl K p ne ol ib n ob 0 120 (nI 0) (nI 0) x y (nI 120) o (by decide) (by decide)) (zi_V (As := [.int (nI 120)]) (rest := []) F d_PA_write_10 3 rfl rfl rfl q_445 q_447 sel_PA_putByte q_448 (Or.inl ⟨_, _, rfl⟩) (by decide) (show Option.map (fun d => d.parameters.length) (parseMethodDescriptor y_PA_putByte.desc) = some 1 from by decide +kernel)) d_PA_write_10 q_448 (Or.inl ⟨_, _, rfl⟩) q_6 [3, 1] [0, 2, 4] rfl rfl rfl rfl (by decide) ⟨by decide, by decide, by decide, by decide⟩ (Nat.le_of_ble_eq_true rfl) (fun v w1 hq => ?_) (fun X w1 hq => ?_)
    · obtain ⟨hq0, rfl, rfl⟩ := hq
      show zj G 0 0 13 [(0, .ref p), (1, .ref ib), (2, .int (nI n)), (3, .ref ob)] [] [zB K ib 16384 (zby t), zI K ol 4096 (zm1 og), zI K ne 4096 (zm1 (fun j => if j < 4096 then 0 else ng j)), zO p 2 [.ref ne, .ref ol, .ref ib, .int (nI n), .ref ob, .int (nI 1), .int (nI 0), .int (nI 0), .int x, .int y], zB K ob 16384 (zby (va_up o 0 120))]
      refine zj_aload_n F d_PA_write_13 0 rfl rfl ?_
      refine zj_iconst (v := nI 1) F d_PA_write_14 (by decide) ?_
      refine zj_call (maxL := 2) (wr := [zB K ib 16384 (zby t), zI K ol 4096 (zm1 og), zI K ne 4096 (zm1 (fun j => if j < 4096 then 0 else ng j))]) F E (m_PA_putByte l hl K p ne ol ib n ob 1 1 (nI 0) (nI 0) x y (nI 1) (va_up o 0 120) (by decide) (by decide)) (zi_V (As := [.int (nI 1)]) (rest := []) F d_PA_write_15 3 rfl rfl rfl q_445 q_447 sel_PA_putByte q_448 (Or.inl ⟨_, _, rfl⟩) (by decide) (show Option.map (fun d => d.parameters.length) (parseMethodDescriptor y_PA_putByte.desc) = some 1 from by decide +kernel)) d_PA_write_15 q_448 (Or.inl ⟨_, _, rfl⟩) q_6 [3, 4] [0, 1, 2] rfl rfl rfl rfl (by decide) ⟨by decide, by decide, by decide, by decide⟩ (Nat.le_of_ble_eq_true rfl) (fun v w1 hq => ?_) (fun X w1 hq => ?_)
      · obtain ⟨hq0b, rfl, rfl⟩ := hq
        show zj G 0 0 18 [(0, .ref p), (1, .ref ib), (2, .int (nI n)), (3, .ref ob)] [] [zB K ib 16384 (zby t), zI K ol 4096 (zm1 og), zI K ne 4096 (zm1 (fun j => if j < 4096 then 0 else ng j)), zO p 2 [.ref ne, .ref ol, .ref ib, .int (nI n), .ref ob, .int (nI 2), .int (nI 0), .int (nI 0), .int x, .int y], zB K ob 16384 (zby (va_up (va_up o 0 120) 1 1))]
        refine zj_aload_n F d_PA_write_18 0 rfl rfl ?_
        refine zj_iconst (v := nI 1) F d_PA_write_19 (by decide) ?_
        refine zj_iconst (v := nI 1) F d_PA_write_20 (by decide) ?_
        refine zj_call (maxL := 3) (wr := [zB K ib 16384 (zby t), zI K ol 4096 (zm1 og), zI K ne 4096 (zm1 (fun j => if j < 4096 then 0 else ng j))]) F E (m_PA_putNumber l hl K p ne ol ib n ob 1 1 x y (va_up (va_up o 0 120) 1 1, 2, 0, 0) s1 z0 (by show 2 ≤ 16384; decide) (by decide) (by decide) e1) (zi_V (As := [.int (nI 1), .int (nI 1)]) (rest := []) F d_PA_write_21 3 rfl rfl rfl q_452 q_454 sel_PA_putNumber q_455 (Or.inl ⟨_, _, rfl⟩) (by decide) (show Option.map (fun d => d.parameters.length) (parseMethodDescriptor y_PA_putNumber.desc) = some 2 from by decide +kernel)) d_PA_write_21 q_455 (Or.inl ⟨_, _, rfl⟩) q_6 [3, 4] [0, 1, 2] rfl rfl rfl rfl (by decide) ⟨by decide, by decide, by decide, by decide⟩ (Nat.le_of_ble_eq_true rfl) (fun v w1 hq => ?_) (fun X w1 hq => ?_)
        · obtain ⟨hq1, rfl, rfl⟩ := hq
          show zj G 0 0 24 [(0, .ref p), (1, .ref ib), (2, .int (nI n)), (3, .ref ob)] [] [zB K ib 16384 (zby t), zI K ol 4096 (zm1 og), zI K ne 4096 (zm1 (fun j => if j < 4096 then 0 else ng j)), zO p 2 [.ref ne, .ref ol, .ref ib, .int (nI n), .ref ob, .int (nI s1.2.1), .int (nI s1.2.2.1), .int (nI s1.2.2.2), .int x, .int y], zB K ob 16384 (zby s1.1)]
          refine zj_aload_n F d_PA_write_24 0 rfl rfl ?_
          refine zj_iconst (v := nI 1) F d_PA_write_25 (by decide) ?_
          refine zj_iconst (v := nI 2) F d_PA_write_26 (by decide) ?_
          refine zj_call (maxL := 3) (wr := [zB K ib 16384 (zby t), zI K ol 4096 (zm1 og), zI K ne 4096 (zm1 (fun j => if j < 4096 then 0 else ng j))]) F E (m_PA_putNumber l hl K p ne ol ib n ob 1 2 x y s1 s2 z5.1 hq1 (by decide) (by decide) e2) (zi_V (As := [.int (nI 1), .int (nI 2)]) (rest := []) F d_PA_write_27 3 rfl rfl rfl q_452 q_454 sel_PA_putNumber q_455 (Or.inl ⟨_, _, rfl⟩) (by decide) (show Option.map (fun d => d.parameters.length) (parseMethodDescriptor y_PA_putNumber.desc) = some 2 from by decide +kernel)) d_PA_write_27 q_455 (Or.inl ⟨_, _, rfl⟩) q_6 [3, 4] [0, 1, 2] rfl rfl rfl rfl (by decide) ⟨by decide, by decide, by decide, by decide⟩ (Nat.le_of_ble_eq_true rfl) (fun v w1 hq => ?_) (fun X w1 hq => ?_)
          · obtain ⟨hq2, rfl, rfl⟩ := hq
            show zj G 0 0 30 [(0, .ref p), (1, .ref ib), (2, .int (nI n)), (3, .ref ob)] [] [zB K ib 16384 (zby t), zI K ol 4096 (zm1 og), zI K ne 4096 (zm1 (fun j => if j < 4096 then 0 else ng j)), zO p 2 [.ref ne, .ref ol, .ref ib, .int (nI n), .ref ob, .int (nI s2.2.1), .int (nI s2.2.2.1), .int (nI s2.2.2.2), .int x, .int y], zB K ob 16384 (zby s2.1)]
            refine zj_aload_n F d_PA_write_30 0 rfl rfl ?_
            refine zj_wsub (ws' := [zO p 2 [.ref ne, .ref ol, .ref ib, .int (nI n), .ref ob, .int (nI s2.2.1), .int (nI s2.2.2.1), .int (nI s2.2.2.2), .int x, .int y], zB K ib 16384 (zby t), zB K ob 16384 (zby s2.1), zI K ne 4096 (zm1 (fun j => if j < 4096 then 0 else ng j)), zI K ol 4096 (zm1 og)]) [3, 0, 4, 2, 1] rfl rfl rfl ?_
            refine zj_call (maxL := 4) (wr := []) F E (m_PA_writeTape l hl K p ne ol ib n ob x y t _ og s2 s3 hb hn z6.1 hq2 (zinv_0 _ _ ng og) e3) (zi_V (As := []) (rest := []) F d_PA_write_31 0 rfl rfl rfl q_456 q_458 sel_PA_writeTape q_459 (Or.inl ⟨_, _, rfl⟩) (by decide) (show Option.map (fun d => d.parameters.length) (parseMethodDescriptor y_PA_writeTape.desc) = some 0 from by decide +kernel)) d_PA_write_31 q_459 (Or.inl ⟨_, _, rfl⟩) q_6 [0, 1, 2, 3, 4] [] rfl rfl rfl rfl (by decide) ⟨by decide, by decide, by decide, by decide⟩ (Nat.le_of_ble_eq_true rfl) (fun v w1 hq => ?_) (fun X w1 hq => ?_)
            · obtain ⟨x2, y2, ng2, og2, hq3, rfl, rfl⟩ := hq
              show zj G 0 0 34 [(0, .ref p), (1, .ref ib), (2, .int (nI n)), (3, .ref ob)] [] [zO p 2 [.ref ne, .ref ol, .ref ib, .int (nI n), .ref ob, .int (nI s3.2.1), .int (nI s3.2.2.1), .int (nI s3.2.2.2), .int x2, .int y2], zB K ib 16384 (zby t), zB K ob 16384 (zby s3.1), zI K ne 4096 (zm1 ng2), zI K ol 4096 (zm1 og2)]
              refine zj_aload_n F d_PA_write_34 0 rfl rfl ?_
              refine zj_sipush (v := nI 256) F d_PA_write_35 (by decide) ?_
              refine zj_call (maxL := 2) (wr := [zB K ib 16384 (zby t), zI K ne 4096 (zm1 ng2), zI K ol 4096 (zm1 og2)]) F E (m_PA_putLiteral l hl K p ne ol ib n ob 256 x2 y2 s3 s4 z2.1 hq3 (by decide) e4) (zi_V (As := [.int (nI 256)]) (rest := []) F d_PA_write_38 0 rfl rfl rfl q_478 q_480 sel_PA_putLiteral q_481 (Or.inl ⟨_, _, rfl⟩) (by decide) (show Option.map (fun d => d.parameters.length) (parseMethodDescriptor y_PA_putLiteral.desc) = some 1 from by decide +kernel)) d_PA_write_38 q_481 (Or.inl ⟨_, _, rfl⟩) q_6 [0, 2] [1, 3, 4] rfl rfl rfl rfl (by decide) ⟨by decide, by decide, by decide, by decide⟩ (Nat.le_of_ble_eq_true rfl) (fun v w1 hq => ?_) (fun X w1 hq => ?_)
              · obtain ⟨hq4, rfl, rfl⟩ := hq
                show zj G 0 0 41 [(0, .ref p), (1, .ref ib), (2, .int (nI n)), (3, .ref ob)] [] [zB K ib 16384 (zby t), zI K ne 4096 (zm1 ng2), zI K ol 4096 (zm1 og2), zO p 2 [.ref ne, .ref ol, .ref ib, .int (nI n), .ref ob, .int (nI s4.2.1), .int (nI s4.2.2.1), .int (nI s4.2.2.2), .int x2, .int y2], zB K ob 16384 (zby s4.1)]
                refine zj_aload_n F d_PA_write_41 0 rfl rfl ?_
                refine zj_call (maxL := 1) (wr := [zB K ib 16384 (zby t), zI K ne 4096 (zm1 ng2), zI K ol 4096 (zm1 og2)]) F E (m_PA_lastBits l hl K p ne ol ib n ob x2 y2 s4 Q z3.1 hq4 e5) (zi_V (As := []) (rest := []) F d_PA_write_42 3 rfl rfl rfl q_500 q_502 sel_PA_putLastBits q_503 (Or.inl ⟨_, _, rfl⟩) (by decide) (show Option.map (fun d => d.parameters.length) (parseMethodDescriptor y_PA_putLastBits.desc) = some 0 from by decide +kernel)) d_PA_write_42 q_503 (Or.inl ⟨_, _, rfl⟩) q_6 [3, 4] [0, 1, 2] rfl rfl rfl rfl (by decide) ⟨by decide, by decide, by decide, by decide⟩ (Nat.le_of_ble_eq_true rfl) (fun v w1 hq => ?_) (fun X w1 hq => ?_)
                · obtain ⟨hq5, rfl, rfl⟩ := hq
                  show zj G 0 0 45 [(0, .ref p), (1, .ref ib), (2, .int (nI n)), (3, .ref ob)] [] [zB K ib 16384 (zby t), zI K ne 4096 (zm1 ng2), zI K ol 4096 (zm1 og2), zO p 2 [.ref ne, .ref ol, .ref ib, .int (nI n), .ref ob, .int (nI Q.2), .int (nI s4.2.2.1), .int (nI s4.2.2.2), .int x2, .int y2], zB K ob 16384 (zby Q.1)]
                  refine zj_aload_n F d_PA_write_45 0 rfl rfl ?_
                  refine zj_aload_n F d_PA_write_46 1 rfl rfl ?_
                  refine zj_iload_n F d_PA_write_47 2 rfl rfl ?_
                  refine zj_call (maxL := 5) (wr := [zI K ne 4096 (zm1 ng2), zI K ol 4096 (zm1 og2), zO p 2 [.ref ne, .ref ol, .ref ib, .int (nI n), .ref ob, .int (nI Q.2), .int (nI s4.2.2.1), .int (nI s4.2.2.2), .int x2, .int y2], zB K ob 16384 (zby Q.1)]) F E (m_adlerOf l K ib 16384 n t hb (by decide) hn) (zi_SN (As := [.ref ib, .int (nI n)]) (rest := [.ref p]) F d_PA_write_48 q_504 q_180 q_1 q_181 (Or.inl ⟨_, _, rfl⟩) (by decide) (show Option.map (fun d => d.parameters.length) (parseMethodDescriptor y_ZB_adlerOf.desc) = some 2 from by decide +kernel)) d_PA_write_48 q_181 (Or.inl ⟨_, _, rfl⟩) q_1 [0] [1, 2, 3, 4] rfl rfl rfl rfl (by decide) ⟨by decide, by decide, by decide, by decide⟩ (Nat.le_of_ble_eq_true rfl) (fun v w1 hq => ?_) (fun X w1 hq => ?_)
                  · obtain ⟨rfl, rfl⟩ := hq
                    show zj G 0 0 51 [(0, .ref p), (1, .ref ib), (2, .int (nI n)), (3, .ref ob)] [.int (nI (zadl t n)), .ref p] [zI K ne 4096 (zm1 ng2), zI K ol 4096 (zm1 og2), zO p 2 [.ref ne, .ref ol, .ref ib, .int (nI n), .ref ob, .int (nI Q.2), .int (nI s4.2.2.1), .int (nI s4.2.2.2), .int x2, .int y2], zB K ob 16384 (zby Q.1), zB K ib 16384 (zby t)]
                    refine zj_call (maxL := 3) (wr := [zI K ne 4096 (zm1 ng2), zI K ol 4096 (zm1 og2), zB K ib 16384 (zby t)]) F E (m_PA_putAdler l hl K p ne ol ib n ob Q.2 (nI s4.2.2.1) (nI s4.2.2.2) x2 y2 (nI (zadl t n)) Q.1 hq5 z4.1) (zi_V (As := [.int (nI (zadl t n))]) (rest := []) F d_PA_write_51 2 rfl rfl rfl q_505 q_507 sel_PA_putAdler q_508 (Or.inl ⟨_, _, rfl⟩) (by decide) (show Option.map (fun d => d.parameters.length) (parseMethodDescriptor y_PA_putAdler.desc) = some 1 from by decide +kernel)) d_PA_write_51 q_508 (Or.inl ⟨_, _, rfl⟩) q_6 [2, 3] [0, 1, 4] rfl rfl rfl rfl (by decide) ⟨by decide, by decide, by decide, by decide⟩ (Nat.le_of_ble_eq_true rfl) (fun v w1 hq => ?_) (fun X w1 hq => ?_)
                    · obtain ⟨hq6, rfl, rfl⟩ := hq
                      show zj G 0 0 54 [(0, .ref p), (1, .ref ib), (2, .int (nI n)), (3, .ref ob)] [] [zI K ne 4096 (zm1 ng2), zI K ol 4096 (zm1 og2), zB K ib 16384 (zby t), zO p 2 [.ref ne, .ref ol, .ref ib, .int (nI n), .ref ob, .int (nI (Q.2 + 4)), .int (nI s4.2.2.1), .int (nI s4.2.2.2), .int x2, .int y2], zB K ob 16384 (zby (zint Q.1 Q.2 (nI (zadl t n))))]
                      subst hR
                      refine zj_aload_n F d_PA_write_54 0 rfl rfl ?_
                      refine zj_get F d_PA_write_55 3 5 rfl rfl in_PA (by decide) q_120 rfl ?_
                      refine zj_wsub (ws' := [zO p 2 [.ref ne, .ref ol, .ref ib, .int (nI n), .ref ob, .int (nI (Q.2 + 4)), .int (nI s4.2.2.1), .int (nI s4.2.2.2), .int x2, .int y2], zB K ib 16384 (zby t), zB K ob 16384 (zby (zint Q.1 Q.2 (nI (zadl t n)))), zI K ne 4096 (zm1 ng2), zI K ol 4096 (zm1 og2)]) [3, 2, 4, 0, 1] rfl rfl rfl ?_
                      exact zj_iret F E d_PA_write_58 (Nat.le_refl _) (Nat.le_refl _) ⟨_, _, _, _, _, _, hq6, rfl, rfl⟩
                    · obtain ⟨hx0, rfl, o9, w9, ho9, rfl⟩ := hq
                      exact ⟨rfl, by decide, by decide, [3, 2, 4, 0, 1], [zO p 2 [.ref ne, .ref ol, .ref ib, .int (nI n), .ref ob, .int (nI w9), .int (nI s4.2.2.1), .int (nI s4.2.2.2), .int x2, .int y2], zB K ib 16384 (zby t), zB K ob 16384 (zby o9), zI K ne 4096 (zm1 ng2), zI K ol 4096 (zm1 og2)], rfl, rfl, ⟨by omega, rfl, _, _, _, _, _, _, _, _, ho9, rfl⟩⟩
                  · exact hq.elim
                · obtain ⟨hx0, rfl, o9, w9, h9, c9, ho9, rfl⟩ := hq
                  exact ⟨rfl, by decide, by decide, [3, 0, 4, 1, 2], [zO p 2 [.ref ne, .ref ol, .ref ib, .int (nI n), .ref ob, .int (nI w9), .int (nI h9), .int (nI c9), .int x2, .int y2], zB K ib 16384 (zby t), zB K ob 16384 (zby o9), zI K ne 4096 (zm1 ng2), zI K ol 4096 (zm1 og2)], rfl, rfl, ⟨by omega, rfl, _, _, _, _, _, _, _, _, ho9, rfl⟩⟩
              · obtain ⟨hx0, rfl, o9, w9, h9, c9, ho9, rfl⟩ := hq
                exact ⟨rfl, by decide, by decide, [3, 0, 4, 1, 2], [zO p 2 [.ref ne, .ref ol, .ref ib, .int (nI n), .ref ob, .int (nI w9), .int (nI h9), .int (nI c9), .int x2, .int y2], zB K ib 16384 (zby t), zB K ob 16384 (zby o9), zI K ne 4096 (zm1 ng2), zI K ol 4096 (zm1 og2)], rfl, rfl, ⟨by omega, rfl, _, _, _, _, _, _, _, _, ho9, rfl⟩⟩
            · obtain ⟨hx0, rfl, o9, w9, h9, c9, x9, y9, ng9, og9, ho9, rfl⟩ := hq
              exact ⟨rfl, by decide, by decide, [0, 1, 2, 3, 4], [zO p 2 [.ref ne, .ref ol, .ref ib, .int (nI n), .ref ob, .int w9, .int h9, .int c9, .int x9, .int y9], zB K ib 16384 (zby t), zB K ob 16384 (zby o9), zI K ne 4096 (zm1 ng9), zI K ol 4096 (zm1 og9)], rfl, rfl, ⟨by omega, rfl, _, _, _, _, _, _, _, _, ho9, rfl⟩⟩
          · obtain ⟨hx0, rfl, o9, w9, h9, c9, ho9, rfl⟩ := hq
            exact ⟨rfl, by decide, by decide, [3, 0, 4, 2, 1], [zO p 2 [.ref ne, .ref ol, .ref ib, .int (nI n), .ref ob, .int (nI w9), .int (nI h9), .int (nI c9), .int x, .int y], zB K ib 16384 (zby t), zB K ob 16384 (zby o9), zI K ne 4096 (zm1 (fun j => if j < 4096 then 0 else ng j)), zI K ol 4096 (zm1 og)], rfl, rfl, ⟨by omega, rfl, _, _, _, _, _, _, _, _, ho9, rfl⟩⟩
        · obtain ⟨hx0, rfl, o9, w9, h9, c9, ho9, rfl⟩ := hq
          exact ⟨rfl, by decide, by decide, [3, 0, 4, 2, 1], [zO p 2 [.ref ne, .ref ol, .ref ib, .int (nI n), .ref ob, .int (nI w9), .int (nI h9), .int (nI c9), .int x, .int y], zB K ib 16384 (zby t), zB K ob 16384 (zby o9), zI K ne 4096 (zm1 (fun j => if j < 4096 then 0 else ng j)), zI K ol 4096 (zm1 og)], rfl, rfl, ⟨by omega, rfl, _, _, _, _, _, _, _, _, ho9, rfl⟩⟩
      · obtain ⟨hx0, rfl, rfl⟩ := hq
        exact ⟨rfl, by decide, by decide, [3, 0, 4, 2, 1], [zO p 2 [.ref ne, .ref ol, .ref ib, .int (nI n), .ref ob, .int (nI 1), .int (nI 0), .int (nI 0), .int x, .int y], zB K ib 16384 (zby t), zB K ob 16384 (zby (va_up o 0 120)), zI K ne 4096 (zm1 (fun j => if j < 4096 then 0 else ng j)), zI K ol 4096 (zm1 og)], rfl, rfl, ⟨absurd (by decide) hx0, rfl, _, _, _, _, _, _, _, _, (zup_lt ho 0 (by decide)), rfl⟩⟩
    · obtain ⟨hx0, rfl, rfl⟩ := hq
      exact ⟨rfl, by decide, by decide, [3, 0, 4, 2, 1], [zO p 2 [.ref ne, .ref ol, .ref ib, .int (nI n), .ref ob, .int (nI 0), .int (nI 0), .int (nI 0), .int x, .int y], zB K ib 16384 (zby t), zB K ob 16384 (zby o), zI K ne 4096 (zm1 (fun j => if j < 4096 then 0 else ng j)), zI K ol 4096 (zm1 og)], rfl, rfl, ⟨absurd (by decide) hx0, rfl, _, _, _, _, _, _, _, _, ho, rfl⟩⟩
  · exact hq.elim
