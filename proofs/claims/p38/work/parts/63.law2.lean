/-! the law's own methods: asking, solving, passing of time; written by law2.py -/
set_option maxHeartbeats 4000000 in
set_option maxRecDepth 100000 in
theorem m_L_ask (l : Launch) (E : Env3) (β : Nat → Nat) (hβ : dR β 6) (T : Int) (st q z r a mm ee : S) (hI : IB T st) (hL : LR st q z r a mm ee) (k : Nat) (hk : k < 36) : Met l yL_ask (Cond.code yL_ask cL_ask 12 none :: ALL) ({ frames := 1, cells := 0, slots := 0, locals := 24 }) (pR [.int (I (k : Int)), .ref (β 0), .ref (β 1), .ref (β 2), .ref (β 3), .ref (β 4), .ref (β 5)] E (lwW E β q z r a mm ee)) (qX none E (lwW E β q z r a mm ee) (fun (g : LRs (asks st k) r a) => lwG E β r a g)) 0 0 (adIn (lwW E β q z r a mm ee)) := by
  refine mk_met (by decide) rfl (Nat.le_of_ble_eq_true rfl) ?_
  intro p e s m args below meth c hx hb hrt hml hts hown hlocks hnm hP hK ls hl
  have hown : s.vm.findClass RL = some m.cls := hown
  have hl : lv_has ls 12 [(0, .int (I (k : Int))), (1, .ref (β 0)), (2, .ref (β 1)), (3, .ref (β 2)), (4, .ref (β 3)), (5, .ref (β 4)), (6, .ref (β 5))] := hl
  have hD : va_D (adIn (lwW E β q z r a mm ee)) (lwW E β q z r a mm ee) := D_of_dR hβ rfl
  have hS : va_S (adIn (lwW E β q z r a mm ee)) s.heap s.heap [] := va_S.rf
  have hz9 : ∀ y, y < 6 → z (5 * y) = st (6 + 5 * y) := fun y hy => hL.2.1 _ (by omega)
  have hr9 := eT_0 hL hI hk
  have CUT43 : ∀ (t : Nat), (t ≤ 6) → (∀ j, j < t → cs st (k / 6) j ≠ 0) → (∀ j, j < t → st (6 + 5 * cs st (k / 6) j + 3) = 0) → (cs st (k / 6) t = 0 ∨ st (6 + 5 * cs st (k / 6) t + 3) ≠ 0) → ∀ (H : Heap) (locs : List Loc) (ls : Array Slot), va_P E.1 vwCl (lwW E β q z r a mm ee) H → va_S (adIn (lwW E β q z r a mm ee)) s.heap H locs → lv_has ls 12 [(8, .int (I (t : Int))), (7, .int (I ((k / 6 : Nat) : Int))), (0, .int (I (k : Int))), (1, .ref (β 0)), (2, .ref (β 1)), (3, .ref (β 2)), (4, .ref (β 3)), (5, .ref (β 4)), (6, .ref (β 5))] → W p l e ({ frames := 1, cells := 0, slots := 0, locals := 24 }) s m args below meth c H locs 0 0 (MQ below (qX none E (lwW E β q z r a mm ee) (fun (g : LRs (asks st k) r a) => lwG E β r a g)) args s 0 0 (adIn (lwW E β q z r a mm ee))) (F0 m 43 ls []) := by
    intro t ht6 hc9 hz8 hex H locs ls hP hS hl
    refine lv_iload hx hb dL_ask_43 (lv_lk hl rfl) ?_
    refine lv_istore (lv' := [(9, .int (I _)), (8, .int (I _)), (7, .int (I _)), (0, .int (I _)), (1, .ref _), (2, .ref _), (3, .ref _), (4, .ref _), (5, .ref _), (6, .ref _)]) hx hb dL_ask_45 hl (by decide) rfl (fun ls hl => ?_)
    have LOOP47 : ∀ (n9 : Nat) (q1 z1 : S), (n9 ≤ t) → (LR (come 6 st (cs st (k / 6) n9)) q1 z1 r a mm ee) → ∀ (H : Heap) (locs : List Loc) (ls : Array Slot), va_P E.1 vwCl (lwW E β q1 z1 r a mm ee) H → va_S (adIn (lwW E β q z r a mm ee)) s.heap H locs → lv_has ls 12 [(9, .int (I (n9 : Int))), (7, .int (I ((k / 6 : Nat) : Int))), (0, .int (I (k : Int))), (1, .ref (β 0)), (2, .ref (β 1)), (3, .ref (β 2)), (4, .ref (β 3)), (5, .ref (β 4)), (6, .ref (β 5))] → W p l e ({ frames := 1, cells := 0, slots := 0, locals := 24 }) s m args below meth c H locs 0 0 (MQ below (qX none E (lwW E β q z r a mm ee) (fun (g : LRs (asks st k) r a) => lwG E β r a g)) args s 0 0 (adIn (lwW E β q z r a mm ee))) (F0 m 47 ls []) := by
      intro n9
      induction n9 with
      | zero =>
        intro  q1 z1 hn8 hL1 H locs ls hP hS hl
        refine lv_iload hx hb dL_ask_47 (lv_lk hl rfl) ?_
        refine iv_if_le (tgt := 126) hx hb dL_ask_49 (by decide) (by omega) (fun c_49 => ?_) (fun c_49 => by exfalso; omega)
        refine lv_aload_n hx hb dL_ask_126 rfl (lv_lk hl rfl) ?_
        refine iv_iconst hx hb dL_ask_127 ?_
        refine lv_dup2_11 hx hb dL_ask_128 rfl rfl ?_
        refine iv_iald hx hb hK hP 0 rfl (2) (by omega) (by omega) dL_ask_129 ?_
        refine iv_iconst hx hb dL_ask_130 ?_
        refine iv_iadd hx hb dL_ask_131 ?_
        refine iv_iast hx hb hK hP (dm hD rfl) hS 0 rfl (2) (by omega) (by omega) dL_ask_132 (lwW E β (up q1 2 (q1 2 + 1)) z1 r a mm ee) (rfl) (fun H locs hP hS => ?_)
        refine lv_aload_n hx hb dL_ask_133 rfl (lv_lk hl rfl) ?_
        refine iv_iconst hx hb dL_ask_134 ?_
        refine lv_dup2_11 hx hb dL_ask_135 rfl rfl ?_
        refine iv_iald hx hb hK hP 0 rfl (4) (by omega) (by omega) dL_ask_136 ?_
        refine iv_iconst hx hb dL_ask_137 ?_
        refine iv_iadd hx hb dL_ask_138 ?_
        refine iv_iast hx hb hK hP (dm hD rfl) hS 0 rfl (4) (by omega) (by omega) dL_ask_139 (lwW E β (up (up q1 2 (q1 2 + 1)) 4 ((up q1 2 (q1 2 + 1)) 4 + 1)) z1 r a mm ee) (rfl) (fun H locs hP hS => ?_)
        refine lv_aload_n hx hb dL_ask_140 rfl (lv_lk hl rfl) ?_
        refine iv_iconst hx hb dL_ask_141 ?_
        refine lv_iload hx hb dL_ask_142 (lv_lk hl rfl) ?_
        refine iv_imul hx hb dL_ask_144 ?_
        refine iv_iconst hx hb dL_ask_145 ?_
        refine iv_iadd hx hb dL_ask_146 ?_
        refine lv_dup2_11 hx hb dL_ask_147 rfl rfl ?_
        refine iv_iald hx hb hK hP 1 rfl (5 * (k / 6) + 4) (by omega) (by omega) dL_ask_148 ?_
        refine iv_iconst hx hb dL_ask_149 ?_
        refine iv_iadd hx hb dL_ask_150 ?_
        refine iv_iast hx hb hK hP (dm hD rfl) hS 1 rfl (5 * (k / 6) + 4) (by omega) (by omega) dL_ask_151 (lwW E β (up (up q1 2 (q1 2 + 1)) 4 ((up q1 2 (q1 2 + 1)) 4 + 1)) (up z1 (5 * (k / 6) + 4) (z1 (5 * (k / 6) + 4) + 1)) r a mm ee) (rfl) (fun H locs hP hS => ?_)
        refine lv_aload hx hb dL_ask_152 (lv_lk hl rfl) ?_
        refine lv_iload_n hx hb dL_ask_154 rfl (lv_lk hl rfl) ?_
        refine lv_aload_n hx hb dL_ask_155 rfl (lv_lk hl rfl) ?_
        refine lv_iload_n hx hb dL_ask_156 rfl (lv_lk hl rfl) ?_
        refine iv_iald hx hb hK hP 2 rfl (k) (by omega) (by omega) dL_ask_157 ?_
        refine iv_if_ne (tgt := 167) hx hb dL_ask_158 (by decide) (by omega) (fun c_158 => ?_) (fun c_158 => ?_)
        · refine lv_aload_n hx hb dL_ask_167 rfl (lv_lk hl rfl) ?_
          refine lv_iload_n hx hb dL_ask_168 rfl (lv_lk hl rfl) ?_
          refine iv_iald hx hb hK hP 2 rfl (k) (by omega) (by omega) dL_ask_169 ?_
          refine iv_iast hx hb hK hP (dm hD rfl) hS 4 rfl (k) (by omega) (by omega) dL_ask_170 (lwW E β (up (up q1 2 (q1 2 + 1)) 4 ((up q1 2 (q1 2 + 1)) 4 + 1)) (up z1 (5 * (k / 6) + 4) (z1 (5 * (k / 6) + 4) + 1)) r a (up mm k (r k)) ee) (rfl) (fun H locs hP hS => ?_)
          refine lv_aload hx hb dL_ask_171 (lv_lk hl rfl) ?_
          refine lv_iload_n hx hb dL_ask_173 rfl (lv_lk hl rfl) ?_
          refine lv_aload_n hx hb dL_ask_174 rfl (lv_lk hl rfl) ?_
          refine iv_iconst hx hb dL_ask_175 ?_
          refine iv_iald hx hb hK hP 0 rfl (0) (by omega) (by omega) dL_ask_176 ?_
          refine lv_aload_n hx hb dL_ask_177 rfl (lv_lk hl rfl) ?_
          refine lv_iload_n hx hb dL_ask_178 rfl (lv_lk hl rfl) ?_
          refine iv_iald hx hb hK hP 2 rfl (k) (by omega) (by omega) dL_ask_179 ?_
          refine iv_if_ne (tgt := 194) hx hb dL_ask_180 (by decide) (by omega) (fun c_180 => ?_) (fun c_180 => by exfalso; omega)
          refine lv_aload hx hb dL_ask_194 (lv_lk hl rfl) ?_
          refine lv_iload_n hx hb dL_ask_196 rfl (lv_lk hl rfl) ?_
          refine iv_iald hx hb hK hP 3 rfl (k) (by omega) (by omega) dL_ask_197 ?_
          refine iv_iadd hx hb dL_ask_198 ?_
          refine iv_iast hx hb hK hP (dm hD rfl) hS 5 rfl (k) (by omega) (by omega) dL_ask_199 (lwW E β (up (up q1 2 (q1 2 + 1)) 4 ((up q1 2 (q1 2 + 1)) 4 + 1)) (up z1 (5 * (k / 6) + 4) (z1 (5 * (k / 6) + 4) + 1)) r a (up mm k (r k)) (up ee k ((up (up q1 2 (q1 2 + 1)) 4 ((up q1 2 (q1 2 + 1)) 4 + 1)) 0 + a k))) (rfl) (fun H locs hP hS => ?_)
          exact W.vret hx hb hrt (fun t ht hW => ⟨rfl, ⟨⟨(up (up q1 2 (q1 2 + 1)) 4 ((up q1 2 (q1 2 + 1)) 4 + 1), up z1 (5 * (k / 6) + 4) (z1 (5 * (k / 6) + 4) + 1), up mm k (r k), up ee k ((up (up q1 2 (q1 2 + 1)) 4 ((up q1 2 (q1 2 + 1)) 4 + 1)) 0 + a k)), LR_hold (LR_costs (p := k / 6) (show LR (come 6 st (k / 6)) q1 z1 r a mm ee from hL1) (by omega)) (IB_costs (IB_come hI (by omega)) (by omega)) hk (by rw [if_neg c_158]) (by rw [if_neg c_158]; rfl)⟩, by rw [ht]; exact hP⟩, hS.F ht⟩) hS.2.2 dL_ask_200 hlocks
        · refine iv_sipush hx hb dL_ask_161 (by decide +kernel) ?_
          refine lv_goto (tgt := 170) hx hb dL_ask_164 (by decide) ?_
          refine iv_iast hx hb hK hP (dm hD rfl) hS 4 rfl (k) (by omega) (by omega) dL_ask_170 (lwW E β (up (up q1 2 (q1 2 + 1)) 4 ((up q1 2 (q1 2 + 1)) 4 + 1)) (up z1 (5 * (k / 6) + 4) (z1 (5 * (k / 6) + 4) + 1)) r a (up mm k (3000)) ee) (rfl) (fun H locs hP hS => ?_)
          refine lv_aload hx hb dL_ask_171 (lv_lk hl rfl) ?_
          refine lv_iload_n hx hb dL_ask_173 rfl (lv_lk hl rfl) ?_
          refine lv_aload_n hx hb dL_ask_174 rfl (lv_lk hl rfl) ?_
          refine iv_iconst hx hb dL_ask_175 ?_
          refine iv_iald hx hb hK hP 0 rfl (0) (by omega) (by omega) dL_ask_176 ?_
          refine lv_aload_n hx hb dL_ask_177 rfl (lv_lk hl rfl) ?_
          refine lv_iload_n hx hb dL_ask_178 rfl (lv_lk hl rfl) ?_
          refine iv_iald hx hb hK hP 2 rfl (k) (by omega) (by omega) dL_ask_179 ?_
          refine iv_if_ne (tgt := 194) hx hb dL_ask_180 (by decide) (by omega) (fun c_180 => by exfalso; omega) (fun c_180 => ?_)
          refine lv_aload_n hx hb dL_ask_183 rfl (lv_lk hl rfl) ?_
          refine iv_iconst hx hb dL_ask_184 ?_
          refine lv_iload hx hb dL_ask_185 (lv_lk hl rfl) ?_
          refine iv_imul hx hb dL_ask_187 ?_
          refine iv_iconst hx hb dL_ask_188 ?_
          refine iv_iadd hx hb dL_ask_189 ?_
          refine iv_iald hx hb hK hP 1 rfl (5 * (k / 6) + 2) (by omega) (by omega) dL_ask_190 ?_
          refine lv_goto (tgt := 198) hx hb dL_ask_191 (by decide) ?_
          refine iv_iadd hx hb dL_ask_198 ?_
          refine iv_iast hx hb hK hP (dm hD rfl) hS 5 rfl (k) (by omega) (by omega) dL_ask_199 (lwW E β (up (up q1 2 (q1 2 + 1)) 4 ((up q1 2 (q1 2 + 1)) 4 + 1)) (up z1 (5 * (k / 6) + 4) (z1 (5 * (k / 6) + 4) + 1)) r a (up mm k (3000)) (up ee k ((up (up q1 2 (q1 2 + 1)) 4 ((up q1 2 (q1 2 + 1)) 4 + 1)) 0 + (up z1 (5 * (k / 6) + 4) (z1 (5 * (k / 6) + 4) + 1)) (5 * (k / 6) + 2)))) (rfl) (fun H locs hP hS => ?_)
          exact W.vret hx hb hrt (fun t ht hW => ⟨rfl, ⟨⟨(up (up q1 2 (q1 2 + 1)) 4 ((up q1 2 (q1 2 + 1)) 4 + 1), up z1 (5 * (k / 6) + 4) (z1 (5 * (k / 6) + 4) + 1), up mm k (3000), up ee k ((up (up q1 2 (q1 2 + 1)) 4 ((up q1 2 (q1 2 + 1)) 4 + 1)) 0 + (up z1 (5 * (k / 6) + 4) (z1 (5 * (k / 6) + 4) + 1)) (5 * (k / 6) + 2))), LR_hold (LR_costs (p := k / 6) (show LR (come 6 st (k / 6)) q1 z1 r a mm ee from hL1) (by omega)) (IB_costs (IB_come hI (by omega)) (by omega)) hk (by rw [if_pos c_158]) (by rw [if_pos c_158]; rfl)⟩, by rw [ht]; exact hP⟩, hS.F ht⟩) hS.2.2 dL_ask_200 hlocks
      | succ n9 ih =>
        intro  q1 z1 hn8 hL1 H locs ls hP hS hl
        have hY6 := cs_lt hI (z := k / 6) (by omega) (i := n9) (fun j hj => hc9 j (by omega))
        have hP6 := cs_lt hI (z := k / 6) (by omega) (i := n9 + 1) (fun j hj => hc9 j (by omega))
        have hz1 : ∀ y, y < 6 → z1 (5 * y) = st (6 + 5 * y) := fun y hy => by rw [hL1.2.1 _ (by omega)]; exact (come_all 6 hI hP6).2 (6 + 5 * y) (by omega) (by omega) (fun p hp => by omega)
        refine lv_iload hx hb dL_ask_47 (lv_lk hl rfl) ?_
        refine iv_if_le (tgt := 126) hx hb dL_ask_49 (by decide) (by omega) (fun c_49 => by exfalso; omega) (fun c_49 => ?_)
        refine lv_iload hx hb dL_ask_52 (lv_lk hl rfl) ?_
        refine lv_iload hx hb dL_ask_54 (lv_lk hl rfl) ?_
        refine lv_aload_n hx hb dL_ask_56 rfl (lv_lk hl rfl) ?_
        refine call_S (va_runS ⟨hx, hb, hml, hown, hts⟩ (m_L_above l E (β 1) z1 T st hI hz1 (k / 6) (n9 + 1) (by omega) (by omega) (fun j hj => hc9 j (by omega))) (va_cwS 3 hts (gi_S ml_L_10 st_L_above it_L cd_L_above) rfl rfl rfl (by decide +kernel) ⟨Nat.le_of_ble_eq_true rfl, Nat.le_of_ble_eq_true rfl⟩) (pR_S (hP.sub (ws' := [(β 1, iA E 30 z1)]) [1] rfl) hK) rfl rfl hl.1 rfl (lv_room (Nat.le_of_ble_eq_true rfl)) dL_ask_57 ⟨Nat.le_of_ble_eq_true rfl, Nat.le_of_ble_eq_true rfl⟩) (fun _ h => h) hS rfl (fun locs hS => ?_)
        refine lv_istore (lv' := [(10, .int (I _)), (9, .int (I _)), (7, .int (I _)), (0, .int (I _)), (1, .ref _), (2, .ref _), (3, .ref _), (4, .ref _), (5, .ref _), (6, .ref _)]) hx hb dL_ask_60 hl (by decide) rfl (fun ls hl => ?_)
        refine lv_iload hx hb dL_ask_62 (lv_lk hl rfl) ?_
        refine lv_iload hx hb dL_ask_64 (lv_lk hl rfl) ?_
        refine iv_iconst hx hb dL_ask_66 ?_
        refine iv_isub hx hb dL_ask_67 ?_
        refine iv_eq ((n9 : Int)) (by omega) ?_
        refine lv_aload_n hx hb dL_ask_68 rfl (lv_lk hl rfl) ?_
        refine call_S (va_runS ⟨hx, hb, hml, hown, hts⟩ (m_L_above l E (β 1) z1 T st hI hz1 (k / 6) n9 (by omega) (by omega) (fun j hj => hc9 j (by omega))) (va_cwS 3 hts (gi_S ml_L_10 st_L_above it_L cd_L_above) rfl rfl rfl (by decide +kernel) ⟨Nat.le_of_ble_eq_true rfl, Nat.le_of_ble_eq_true rfl⟩) (pR_S (hP.sub (ws' := [(β 1, iA E 30 z1)]) [1] rfl) hK) rfl rfl hl.1 rfl (lv_room (Nat.le_of_ble_eq_true rfl)) dL_ask_69 ⟨Nat.le_of_ble_eq_true rfl, Nat.le_of_ble_eq_true rfl⟩) (fun _ h => h) hS rfl (fun locs hS => ?_)
        refine lv_istore (lv' := [(11, .int (I _)), (10, .int (I _)), (9, .int (I _)), (7, .int (I _)), (0, .int (I _)), (1, .ref _), (2, .ref _), (3, .ref _), (4, .ref _), (5, .ref _), (6, .ref _)]) hx hb dL_ask_72 hl (by decide) rfl (fun ls hl => ?_)
        refine lv_aload_n hx hb dL_ask_74 rfl (lv_lk hl rfl) ?_
        refine iv_iconst hx hb dL_ask_75 ?_
        refine lv_dup2_11 hx hb dL_ask_76 rfl rfl ?_
        refine iv_iald hx hb hK hP 0 rfl (2) (by omega) (by omega) dL_ask_77 ?_
        refine iv_iconst hx hb dL_ask_78 ?_
        refine iv_iadd hx hb dL_ask_79 ?_
        refine iv_iast hx hb hK hP (dm hD rfl) hS 0 rfl (2) (by omega) (by omega) dL_ask_80 (lwW E β (up q1 2 (q1 2 + 1)) z1 r a mm ee) (rfl) (fun H locs hP hS => ?_)
        refine lv_aload_n hx hb dL_ask_81 rfl (lv_lk hl rfl) ?_
        refine iv_iconst hx hb dL_ask_82 ?_
        refine lv_dup2_11 hx hb dL_ask_83 rfl rfl ?_
        refine iv_iald hx hb hK hP 0 rfl (4) (by omega) (by omega) dL_ask_84 ?_
        refine iv_iconst hx hb dL_ask_85 ?_
        refine iv_iadd hx hb dL_ask_86 ?_
        refine iv_iast hx hb hK hP (dm hD rfl) hS 0 rfl (4) (by omega) (by omega) dL_ask_87 (lwW E β (up (up q1 2 (q1 2 + 1)) 4 ((up q1 2 (q1 2 + 1)) 4 + 1)) z1 r a mm ee) (rfl) (fun H locs hP hS => ?_)
        refine lv_aload_n hx hb dL_ask_88 rfl (lv_lk hl rfl) ?_
        refine iv_iconst hx hb dL_ask_89 ?_
        refine lv_iload hx hb dL_ask_90 (lv_lk hl rfl) ?_
        refine iv_imul hx hb dL_ask_92 ?_
        refine iv_iconst hx hb dL_ask_93 ?_
        refine iv_iadd hx hb dL_ask_94 ?_
        refine lv_dup2_11 hx hb dL_ask_95 rfl rfl ?_
        refine iv_iald hx hb hK hP 1 rfl (5 * cs st (k / 6) (n9 + 1) + 4) (by omega) (by omega) dL_ask_96 ?_
        refine iv_iconst hx hb dL_ask_97 ?_
        refine iv_iadd hx hb dL_ask_98 ?_
        refine iv_iast hx hb hK hP (dm hD rfl) hS 1 rfl (5 * cs st (k / 6) (n9 + 1) + 4) (by omega) (by omega) dL_ask_99 (lwW E β (up (up q1 2 (q1 2 + 1)) 4 ((up q1 2 (q1 2 + 1)) 4 + 1)) (up z1 (5 * cs st (k / 6) (n9 + 1) + 4) (z1 (5 * cs st (k / 6) (n9 + 1) + 4) + 1)) r a mm ee) (rfl) (fun H locs hP hS => ?_)
        refine lv_aload_n hx hb dL_ask_100 rfl (lv_lk hl rfl) ?_
        refine iv_iconst hx hb dL_ask_101 ?_
        refine lv_iload hx hb dL_ask_102 (lv_lk hl rfl) ?_
        refine iv_imul hx hb dL_ask_104 ?_
        refine iv_iconst hx hb dL_ask_105 ?_
        refine iv_iadd hx hb dL_ask_106 ?_
        refine lv_aload_n hx hb dL_ask_107 rfl (lv_lk hl rfl) ?_
        refine iv_iconst hx hb dL_ask_108 ?_
        refine iv_iald hx hb hK hP 0 rfl (0) (by omega) (by omega) dL_ask_109 ?_
        refine lv_aload_n hx hb dL_ask_110 rfl (lv_lk hl rfl) ?_
        refine iv_iconst hx hb dL_ask_111 ?_
        refine lv_iload hx hb dL_ask_112 (lv_lk hl rfl) ?_
        refine iv_imul hx hb dL_ask_114 ?_
        refine iv_iconst hx hb dL_ask_115 ?_
        refine iv_iadd hx hb dL_ask_116 ?_
        refine iv_iald hx hb hK hP 1 rfl (5 * cs st (k / 6) (n9 + 1) + 1) (by omega) (by omega) dL_ask_117 ?_
        refine iv_iadd hx hb dL_ask_118 ?_
        refine iv_iast hx hb hK hP (dm hD rfl) hS 1 rfl (5 * cs st (k / 6) n9 + 3) (by omega) (by omega) dL_ask_119 (lwW E β (up (up q1 2 (q1 2 + 1)) 4 ((up q1 2 (q1 2 + 1)) 4 + 1)) (up (up z1 (5 * cs st (k / 6) (n9 + 1) + 4) (z1 (5 * cs st (k / 6) (n9 + 1) + 4) + 1)) (5 * cs st (k / 6) n9 + 3) ((up (up q1 2 (q1 2 + 1)) 4 ((up q1 2 (q1 2 + 1)) 4 + 1)) 0 + (up z1 (5 * cs st (k / 6) (n9 + 1) + 4) (z1 (5 * cs st (k / 6) (n9 + 1) + 4) + 1)) (5 * cs st (k / 6) (n9 + 1) + 1))) r a mm ee) (rfl) (fun H locs hP hS => ?_)
        refine iv_iinc (k := 2) hx hb dL_ask_120 hl rfl ((n9 : Int)) (by omega) (by decide) [(9, .int (I _)), (11, .int (I _)), (10, .int (I _)), (7, .int (I _)), (0, .int (I _)), (1, .ref _), (2, .ref _), (3, .ref _), (4, .ref _), (5, .ref _), (6, .ref _)] rfl (fun ls hl => ?_)
        refine lv_goto (tgt := 47) hx hb dL_ask_123 (by decide) ?_
        exact ih (up (up q1 2 (q1 2 + 1)) 4 ((up q1 2 (q1 2 + 1)) 4 + 1)) (up (up z1 (5 * cs st (k / 6) (n9 + 1) + 4) (z1 (5 * cs st (k / 6) (n9 + 1) + 4) + 1)) (5 * cs st (k / 6) n9 + 3) ((up (up q1 2 (q1 2 + 1)) 4 ((up q1 2 (q1 2 + 1)) 4 + 1)) 0 + (up z1 (5 * cs st (k / 6) (n9 + 1) + 4) (z1 (5 * cs st (k / 6) (n9 + 1) + 4) + 1)) (5 * cs st (k / 6) (n9 + 1) + 1))) (by omega) (by rw [come_step hI hY6 (hc9 n9 (by omega)) (hz8 n9 (by omega))]; exact LR_way hL1 hP6 hY6) H locs ls hP hS (lv_sub hl [0, 3, 4, 5, 6, 7, 8, 9, 10] rfl)
    exact LOOP47 t q z (by omega) (by rw [come_end hex]; exact hL) _ _ _ hP hS (lv_sub hl [0, 2, 3, 4, 5, 6, 7, 8, 9] rfl)
  refine lv_iload_n hx hb dL_ask_0 rfl (lv_lk hl rfl) ?_
  refine iv_bipush hx hb dL_ask_1 (by decide +kernel) ?_
  refine iv_idiv hx hb dL_ask_3 (((k / 6 : Nat) : Int)) (I_div (x := k) (y := 6) (by omega) (by omega)) (by omega) ?_
  refine lv_istore (lv' := [(7, .int (I _)), (0, .int (I _)), (1, .ref _), (2, .ref _), (3, .ref _), (4, .ref _), (5, .ref _), (6, .ref _)]) hx hb dL_ask_4 hl (by decide) rfl (fun ls hl => ?_)
  refine iv_iconst hx hb dL_ask_6 ?_
  refine lv_istore (lv' := [(8, .int (I _)), (7, .int (I _)), (0, .int (I _)), (1, .ref _), (2, .ref _), (3, .ref _), (4, .ref _), (5, .ref _), (6, .ref _)]) hx hb dL_ask_7 hl (by decide) rfl (fun ls hl => ?_)
  have LOOP9 : ∀ (n9 t : Nat), (t + n9 = 6) → (∀ j, j < t → cs st (k / 6) j ≠ 0) → (∀ j, j < t → st (6 + 5 * cs st (k / 6) j + 3) = 0) → ∀ (H : Heap) (locs : List Loc) (ls : Array Slot), va_P E.1 vwCl (lwW E β q z r a mm ee) H → va_S (adIn (lwW E β q z r a mm ee)) s.heap H locs → lv_has ls 12 [(8, .int (I (t : Int))), (7, .int (I ((k / 6 : Nat) : Int))), (0, .int (I (k : Int))), (1, .ref (β 0)), (2, .ref (β 1)), (3, .ref (β 2)), (4, .ref (β 3)), (5, .ref (β 4)), (6, .ref (β 5))] → W p l e ({ frames := 1, cells := 0, slots := 0, locals := 24 }) s m args below meth c H locs 0 0 (MQ below (qX none E (lwW E β q z r a mm ee) (fun (g : LRs (asks st k) r a) => lwG E β r a g)) args s 0 0 (adIn (lwW E β q z r a mm ee))) (F0 m 9 ls []) := by
    intro n9
    induction n9 with
    | zero =>
      intro  t ht8 hc9 hz8 H locs ls hP hS hl
      exfalso
      have h9 := cs_le hI (z := k / 6) (by omega) t hc9
      omega
    | succ n9 ih =>
      intro  t ht8 hc9 hz8 H locs ls hP hS hl
      have hlt := cs_lt hI (z := k / 6) (by omega) (i := t) hc9
      have he9 : z (5 * cs st (k / 6) t + 3) = st (6 + 5 * cs st (k / 6) t + 3) := by rw [hL.2.1 _ (by omega)]; exact congrArg st (by omega)
      have hb9 := (hI.2.2.1 _ hlt).2.2.2.2.2
      have hT9 := hI.1
      refine lv_iload hx hb dL_ask_9 (lv_lk hl rfl) ?_
      refine lv_iload hx hb dL_ask_11 (lv_lk hl rfl) ?_
      refine lv_aload_n hx hb dL_ask_13 rfl (lv_lk hl rfl) ?_
      refine call_S (va_runS ⟨hx, hb, hml, hown, hts⟩ (m_L_above l E (β 1) z T st hI hz9 (k / 6) t (by omega) (by omega) hc9) (va_cwS 3 hts (gi_S ml_L_10 st_L_above it_L cd_L_above) rfl rfl rfl (by decide +kernel) ⟨Nat.le_of_ble_eq_true rfl, Nat.le_of_ble_eq_true rfl⟩) (pR_S (hP.sub (ws' := [(β 1, iA E 30 z)]) [1] rfl) hK) rfl rfl hl.1 rfl (lv_room (Nat.le_of_ble_eq_true rfl)) dL_ask_14 ⟨Nat.le_of_ble_eq_true rfl, Nat.le_of_ble_eq_true rfl⟩) (fun _ h => h) hS rfl (fun locs hS => ?_)
      refine iv_if_le (tgt := 43) hx hb dL_ask_17 (by decide) (by omega) (fun c_17 => ?_) (fun c_17 => ?_)
      · exact CUT43 t (by omega) hc9 hz8 (Or.inl (by omega)) _ _ _ hP hS (lv_sub hl [0, 1, 2, 3, 4, 5, 6, 7, 8] rfl)
      · refine lv_aload_n hx hb dL_ask_20 rfl (lv_lk hl rfl) ?_
        refine iv_iconst hx hb dL_ask_21 ?_
        refine lv_iload hx hb dL_ask_22 (lv_lk hl rfl) ?_
        refine lv_iload hx hb dL_ask_24 (lv_lk hl rfl) ?_
        refine lv_aload_n hx hb dL_ask_26 rfl (lv_lk hl rfl) ?_
        refine call_S (va_runS ⟨hx, hb, hml, hown, hts⟩ (m_L_above l E (β 1) z T st hI hz9 (k / 6) t (by omega) (by omega) hc9) (va_cwS 3 hts (gi_S ml_L_10 st_L_above it_L cd_L_above) rfl rfl rfl (by decide +kernel) ⟨Nat.le_of_ble_eq_true rfl, Nat.le_of_ble_eq_true rfl⟩) (pR_S (hP.sub (ws' := [(β 1, iA E 30 z)]) [1] rfl) hK) rfl rfl hl.1 rfl (lv_room (Nat.le_of_ble_eq_true rfl)) dL_ask_27 ⟨Nat.le_of_ble_eq_true rfl, Nat.le_of_ble_eq_true rfl⟩) (fun _ h => h) hS rfl (fun locs hS => ?_)
        refine iv_imul hx hb dL_ask_30 ?_
        refine iv_iconst hx hb dL_ask_31 ?_
        refine iv_iadd hx hb dL_ask_32 ?_
        refine iv_iald hx hb hK hP 1 rfl (5 * cs st (k / 6) t + 3) (by omega) (by omega) dL_ask_33 ?_
        refine iv_if_ne (tgt := 43) hx hb dL_ask_34 (by decide) (by omega) (fun c_34 => ?_) (fun c_34 => ?_)
        · exact CUT43 t (by omega) hc9 hz8 (Or.inr (by omega)) _ _ _ hP hS (lv_sub hl [0, 1, 2, 3, 4, 5, 6, 7, 8] rfl)
        · refine iv_iinc (k := 0) hx hb dL_ask_37 hl rfl (((t + 1 : Nat) : Int)) (by omega) (by decide) [(8, .int (I _)), (7, .int (I _)), (0, .int (I _)), (1, .ref _), (2, .ref _), (3, .ref _), (4, .ref _), (5, .ref _), (6, .ref _)] rfl (fun ls hl => ?_)
          refine lv_goto (tgt := 9) hx hb dL_ask_40 (by decide) ?_
          exact ih (t + 1) (by omega) (fun j hj => by by_cases h9 : j = t; (· subst h9; omega); (· exact hc9 j (by omega))) (fun j hj => by by_cases h9 : j = t; (· subst h9; omega); (· exact hz8 j (by omega))) H locs ls hP hS (lv_sub hl [0, 1, 2, 3, 4, 5, 6, 7, 8] rfl)
  exact LOOP9 6 0 (by omega) (fun j hj => absurd hj (Nat.not_lt_zero j)) (fun j hj => absurd hj (Nat.not_lt_zero j)) _ _ _ hP hS (lv_sub hl [0, 1, 2, 3, 4, 5, 6, 7, 8] rfl)
theorem take_k {T : Int} {s : S} (h : IB T s) {r : Nat} (hr : r < 36) : take s r (36 + 6 * r + 3) ≠ 0 := by
  by_cases c : s (36 + 6 * r + 3) = 0
  · obtain ⟨-, -, -, k3, -⟩ := asks_k h hr (q := r) hr
    rw [take_pos c, k3, if_pos rfl]
    split <;> omega
  · rw [take_neg c, up_ne _ _ (by omega)]
    exact c
theorem solves_f {n : Nat} {st : S} {k : Nat} (h : take st k (36 + 6 * k + 3) ≠ 2) : (solvesF (n + 1) st k).1 = take st k := by rw [solves_e h]
theorem solves_1 {n : Nat} {st : S} {k : Nat} (h : take st k (36 + 6 * k + 3) = 1) : (solvesF (n + 1) st k).2 = take st k (36 + 6 * k + 4) := by rw [solves_e (by omega)]; exact if_pos h
theorem solves_3 {n : Nat} {st : S} {k : Nat} (h : take st k (36 + 6 * k + 3) ≠ 2) (h1 : take st k (36 + 6 * k + 3) ≠ 1) : (solvesF (n + 1) st k).2 = -1 := by rw [solves_e h]; exact if_neg h1
set_option maxHeartbeats 4000000 in
set_option maxRecDepth 100000 in
theorem m_L_solve (l : Launch) (E : Env3) (β : Nat → Nat) (hβ : dR β 6) (T : Int) (st q z r a mm ee : S) (hI : IB T st) (hL : LR st q z r a mm ee) (k : Nat) (hk : k < 36) : Met l yL_solve (Cond.code yL_solve cL_solve 9 (some .int) :: ALL) ({ frames := 2, cells := 0, slots := 0, locals := 55 }) (pR [.int (I (k : Int)), .ref (β 0), .ref (β 1), .ref (β 2), .ref (β 3), .ref (β 4), .ref (β 5)] E (lwW E β q z r a mm ee)) (qX (some (.int (I (solvesF 7 st k).2))) E (lwW E β q z r a mm ee) (fun (g : LRs (solvesF 7 st k).1 r a) => lwG E β r a g)) 0 0 (adIn (lwW E β q z r a mm ee)) := by
  refine mk_met (by decide) rfl (Nat.le_of_ble_eq_true rfl) ?_
  intro p e s m args below meth c hx hb hrt hml hts hown hlocks hnm hP hK ls hl
  have hown : s.vm.findClass RL = some m.cls := hown
  have hl : lv_has ls 9 [(0, .int (I (k : Int))), (1, .ref (β 0)), (2, .ref (β 1)), (3, .ref (β 2)), (4, .ref (β 3)), (5, .ref (β 4)), (6, .ref (β 5))] := hl
  have hD : va_D (adIn (lwW E β q z r a mm ee)) (lwW E β q z r a mm ee) := D_of_dR hβ rfl
  have hS : va_S (adIn (lwW E β q z r a mm ee)) s.heap s.heap [] := va_S.rf
  refine lv_iload_n hx hb dL_solve_0 rfl (lv_lk hl rfl) ?_
  refine lv_istore (lv' := [(7, .int (I _)), (0, .int (I _)), (1, .ref _), (2, .ref _), (3, .ref _), (4, .ref _), (5, .ref _), (6, .ref _)]) hx hb dL_solve_1 hl (by decide) rfl (fun ls hl => ?_)
  refine iv_iconst hx hb dL_solve_3 ?_
  refine lv_istore (lv' := [(8, .int (I _)), (7, .int (I _)), (0, .int (I _)), (1, .ref _), (2, .ref _), (3, .ref _), (4, .ref _), (5, .ref _), (6, .ref _)]) hx hb dL_solve_4 hl (by decide) rfl (fun ls hl => ?_)
  have LOOP6 : ∀ (n9 n j : Nat) (s9 q1 z1 m1 e1 : S), (n + n9 = 7) → (j < 36) → (IB T s9) → (LR s9 q1 z1 r a m1 e1) → (solvesF n9 s9 j = solvesF 7 st k) → ∀ (H : Heap) (locs : List Loc) (ls : Array Slot), va_P E.1 vwCl (lwW E β q1 z1 r a m1 e1) H → va_S (adIn (lwW E β q z r a mm ee)) s.heap H locs → lv_has ls 9 [(7, .int (I (j : Int))), (8, .int (I (n : Int))), (0, .int (I (k : Int))), (1, .ref (β 0)), (2, .ref (β 1)), (3, .ref (β 2)), (4, .ref (β 3)), (5, .ref (β 4)), (6, .ref (β 5))] → W p l e ({ frames := 2, cells := 0, slots := 0, locals := 55 }) s m args below meth c H locs 0 0 (MQ below (qX (some (.int (I (solvesF 7 st k).2))) E (lwW E β q z r a mm ee) (fun (g : LRs (solvesF 7 st k).1 r a) => lwG E β r a g)) args s 0 0 (adIn (lwW E β q z r a mm ee))) (F0 m 6 ls []) := by
    intro n9
    induction n9 with
    | zero =>
      intro  n j s9 q1 z1 m1 e1 hn8 hj hI1 hL1 he9 H locs ls hP hS hl
      refine lv_iload hx hb dL_solve_6 (lv_lk hl rfl) ?_
      refine iv_bipush hx hb dL_solve_8 (by decide +kernel) ?_
      refine iv_icmp_ge (tgt := 96) hx hb dL_solve_10 (by decide) (by omega) (by omega) (fun c_10 => ?_) (fun c_10 => by exfalso; omega)
      refine iv_bipush hx hb dL_solve_96 (by decide +kernel) ?_
      refine iv_eq ((solvesF 7 st k).2) (by rw [← he9]; rfl) ?_
      exact W.iret hx hb hrt (fun t ht hW => ⟨rfl, ⟨⟨(q1, z1, m1, e1), by rw [← he9]; exact hL1⟩, by rw [ht]; exact hP⟩, hS.F ht⟩) hS.2.2 dL_solve_98 hlocks
    | succ n9 ih =>
      intro  n j s9 q1 z1 m1 e1 hn8 hj hI1 hL1 he9 H locs ls hP hS hl
      have hm1 := eM_0 hL1 hI1 hj
      refine lv_iload hx hb dL_solve_6 (lv_lk hl rfl) ?_
      refine iv_bipush hx hb dL_solve_8 (by decide +kernel) ?_
      refine iv_icmp_ge (tgt := 96) hx hb dL_solve_10 (by decide) (by omega) (by omega) (fun c_10 => by exfalso; omega) (fun c_10 => ?_)
      refine lv_aload hx hb dL_solve_13 (lv_lk hl rfl) ?_
      refine lv_iload hx hb dL_solve_15 (lv_lk hl rfl) ?_
      refine iv_iald hx hb hK hP 4 rfl (j) (by omega) (by omega) dL_solve_17 ?_
      refine iv_if_ne (tgt := 38) hx hb dL_solve_18 (by decide) (by omega) (fun c_18 => ?_) (fun c_18 => ?_)
      · refine lv_aload_n hx hb dL_solve_38 rfl (lv_lk hl rfl) ?_
        refine iv_iconst hx hb dL_solve_39 ?_
        refine lv_dup2_11 hx hb dL_solve_40 rfl rfl ?_
        refine iv_iald hx hb hK hP 0 rfl (3) (by omega) (by omega) dL_solve_41 ?_
        refine iv_iconst hx hb dL_solve_42 ?_
        refine iv_iadd hx hb dL_solve_43 ?_
        refine iv_iast hx hb hK hP (dm hD rfl) hS 0 rfl (3) (by omega) (by omega) dL_solve_44 (lwW E β (up q1 3 (q1 3 + 1)) z1 r a m1 e1) (rfl) (fun H locs hP hS => ?_)
        have hL2 : LR (take s9 j) (up q1 3 (q1 3 + 1)) z1 r a m1 e1 := by rw [take_neg (by omega)]; exact LR_q hL1 (by omega) (by rw [hL1.1 3 (by omega)])
        have hI2 := IB_take hI1 hj
        have hm2 := eM_0 hL2 hI2 hj
        have hb2 := (hI2.2.2.2 j hj).2
        unfold triM at hb2
        have hk2 := take_k hI1 hj
        refine lv_aload hx hb dL_solve_45 (lv_lk hl rfl) ?_
        refine lv_iload hx hb dL_solve_47 (lv_lk hl rfl) ?_
        refine iv_iald hx hb hK hP 4 rfl (j) (by omega) (by omega) dL_solve_49 ?_
        refine iv_sipush hx hb dL_solve_50 (by decide +kernel) ?_
        refine iv_icmp_lt (tgt := 58) hx hb dL_solve_53 (by decide) (by omega) (by omega) (fun c_53 => ?_) (fun c_53 => ?_)
        · refine lv_aload hx hb dL_solve_58 (lv_lk hl rfl) ?_
          refine lv_iload hx hb dL_solve_60 (lv_lk hl rfl) ?_
          refine iv_iald hx hb hK hP 4 rfl (j) (by omega) (by omega) dL_solve_62 ?_
          refine iv_sipush hx hb dL_solve_63 (by decide +kernel) ?_
          refine iv_icmp_ge (tgt := 79) hx hb dL_solve_66 (by decide) (by omega) (by omega) (fun c_66 => ?_) (fun c_66 => ?_)
          · refine lv_aload hx hb dL_solve_79 (lv_lk hl rfl) ?_
            refine lv_iload hx hb dL_solve_81 (lv_lk hl rfl) ?_
            refine iv_iald hx hb hK hP 4 rfl (j) (by omega) (by omega) dL_solve_83 ?_
            refine iv_sipush hx hb dL_solve_84 (by decide +kernel) ?_
            refine iv_isub hx hb dL_solve_87 ?_
            have hnx := IB_next hI2 hj (by omega)
            refine iv_eq (((take s9 j (36 + 6 * j + 4)).toNat : Int)) (by omega) ?_
            refine lv_istore (lv' := [(7, .int (I _)), (8, .int (I _)), (0, .int (I _)), (1, .ref _), (2, .ref _), (3, .ref _), (4, .ref _), (5, .ref _), (6, .ref _)]) hx hb dL_solve_88 hl (by decide) rfl (fun ls hl => ?_)
            refine iv_iinc (k := 1) hx hb dL_solve_90 hl rfl (((n + 1 : Nat) : Int)) (by omega) (by decide) [(8, .int (I _)), (7, .int (I _)), (0, .int (I _)), (1, .ref _), (2, .ref _), (3, .ref _), (4, .ref _), (5, .ref _), (6, .ref _)] rfl (fun ls hl => ?_)
            refine lv_goto (tgt := 6) hx hb dL_solve_93 (by decide) ?_
            exact ih (n + 1) (take s9 j (36 + 6 * j + 4)).toNat (take s9 j) (up q1 3 (q1 3 + 1)) (z1) (m1) (e1) (by omega) hnx.2 hI2 hL2 (by rw [← he9, solves_s (by omega)]) H locs ls hP hS (lv_sub hl [1, 0, 2, 3, 4, 5, 6, 7, 8] rfl)
          · refine lv_aload hx hb dL_solve_69 (lv_lk hl rfl) ?_
            refine lv_iload hx hb dL_solve_71 (lv_lk hl rfl) ?_
            refine iv_iald hx hb hK hP 4 rfl (j) (by omega) (by omega) dL_solve_73 ?_
            refine iv_sipush hx hb dL_solve_74 (by decide +kernel) ?_
            refine iv_isub hx hb dL_solve_77 ?_
            refine iv_eq ((solvesF 7 st k).2) (by rw [← he9, solves_1 (n := n9) (st := s9) (k := j) (by omega)]; omega) ?_
            exact W.iret hx hb hrt (fun t ht hW => ⟨rfl, ⟨⟨(up q1 3 (q1 3 + 1), z1, m1, e1), by rw [← he9, solves_f (by omega)]; exact hL2⟩, by rw [ht]; exact hP⟩, hS.F ht⟩) hS.2.2 dL_solve_78 hlocks
        · refine iv_iconst hx hb dL_solve_56 ?_
          refine iv_eq ((solvesF 7 st k).2) (by rw [← he9, solves_3 (by omega) (by omega)]) ?_
          exact W.iret hx hb hrt (fun t ht hW => ⟨rfl, ⟨⟨(up q1 3 (q1 3 + 1), z1, m1, e1), by rw [← he9, solves_f (by omega)]; exact hL2⟩, by rw [ht]; exact hP⟩, hS.F ht⟩) hS.2.2 dL_solve_57 hlocks
      · refine lv_iload hx hb dL_solve_21 (lv_lk hl rfl) ?_
        refine lv_aload_n hx hb dL_solve_23 rfl (lv_lk hl rfl) ?_
        refine lv_aload_n hx hb dL_solve_24 rfl (lv_lk hl rfl) ?_
        refine lv_aload_n hx hb dL_solve_25 rfl (lv_lk hl rfl) ?_
        refine lv_aload hx hb dL_solve_26 (lv_lk hl rfl) ?_
        refine lv_aload hx hb dL_solve_28 (lv_lk hl rfl) ?_
        refine lv_aload hx hb dL_solve_30 (lv_lk hl rfl) ?_
        refine call_X (va_runS ⟨hx, hb, hml, hown, hts⟩ (m_L_ask l E β hβ T s9 q1 z1 r a m1 e1 hI1 hL1 j hj) (va_cwS 7 hts (gi_S ml_L_16 st_L_ask it_L cd_L_ask) rfl rfl rfl (by decide +kernel) ⟨Nat.le_of_ble_eq_true rfl, Nat.le_of_ble_eq_true rfl⟩) (pR_S hP hK) rfl rfl hl.1 rfl (lv_room (Nat.le_of_ble_eq_true rfl)) dL_solve_32 ⟨Nat.le_of_ble_eq_true rfl, Nat.le_of_ble_eq_true rfl⟩) (dm hD rfl) hS rfl (fun g H locs hP hS => ?_)
        have hP : va_P E.1 vwCl (lwW E β g.1.1 g.1.2.1 r a g.1.2.2.1 g.1.2.2.2) H := hP
        refine lv_goto (tgt := 45) hx hb dL_solve_35 (by decide) ?_
        have hL2 : LR (take s9 j) g.1.1 g.1.2.1 r a g.1.2.2.1 g.1.2.2.2 := by rw [take_pos (by omega)]; exact g.2
        have hI2 := IB_take hI1 hj
        have hm2 := eM_0 hL2 hI2 hj
        have hb2 := (hI2.2.2.2 j hj).2
        unfold triM at hb2
        have hk2 := take_k hI1 hj
        refine lv_aload hx hb dL_solve_45 (lv_lk hl rfl) ?_
        refine lv_iload hx hb dL_solve_47 (lv_lk hl rfl) ?_
        refine iv_iald hx hb hK hP 4 rfl (j) (by omega) (by omega) dL_solve_49 ?_
        refine iv_sipush hx hb dL_solve_50 (by decide +kernel) ?_
        refine iv_icmp_lt (tgt := 58) hx hb dL_solve_53 (by decide) (by omega) (by omega) (fun c_53 => ?_) (fun c_53 => ?_)
        · refine lv_aload hx hb dL_solve_58 (lv_lk hl rfl) ?_
          refine lv_iload hx hb dL_solve_60 (lv_lk hl rfl) ?_
          refine iv_iald hx hb hK hP 4 rfl (j) (by omega) (by omega) dL_solve_62 ?_
          refine iv_sipush hx hb dL_solve_63 (by decide +kernel) ?_
          refine iv_icmp_ge (tgt := 79) hx hb dL_solve_66 (by decide) (by omega) (by omega) (fun c_66 => ?_) (fun c_66 => ?_)
          · refine lv_aload hx hb dL_solve_79 (lv_lk hl rfl) ?_
            refine lv_iload hx hb dL_solve_81 (lv_lk hl rfl) ?_
            refine iv_iald hx hb hK hP 4 rfl (j) (by omega) (by omega) dL_solve_83 ?_
            refine iv_sipush hx hb dL_solve_84 (by decide +kernel) ?_
            refine iv_isub hx hb dL_solve_87 ?_
            have hnx := IB_next hI2 hj (by omega)
            refine iv_eq (((take s9 j (36 + 6 * j + 4)).toNat : Int)) (by omega) ?_
            refine lv_istore (lv' := [(7, .int (I _)), (8, .int (I _)), (0, .int (I _)), (1, .ref _), (2, .ref _), (3, .ref _), (4, .ref _), (5, .ref _), (6, .ref _)]) hx hb dL_solve_88 hl (by decide) rfl (fun ls hl => ?_)
            refine iv_iinc (k := 1) hx hb dL_solve_90 hl rfl (((n + 1 : Nat) : Int)) (by omega) (by decide) [(8, .int (I _)), (7, .int (I _)), (0, .int (I _)), (1, .ref _), (2, .ref _), (3, .ref _), (4, .ref _), (5, .ref _), (6, .ref _)] rfl (fun ls hl => ?_)
            refine lv_goto (tgt := 6) hx hb dL_solve_93 (by decide) ?_
            exact ih (n + 1) (take s9 j (36 + 6 * j + 4)).toNat (take s9 j) (g.1.1) (g.1.2.1) (g.1.2.2.1) (g.1.2.2.2) (by omega) hnx.2 hI2 hL2 (by rw [← he9, solves_s (by omega)]) H locs ls hP hS (lv_sub hl [1, 0, 2, 3, 4, 5, 6, 7, 8] rfl)
          · refine lv_aload hx hb dL_solve_69 (lv_lk hl rfl) ?_
            refine lv_iload hx hb dL_solve_71 (lv_lk hl rfl) ?_
            refine iv_iald hx hb hK hP 4 rfl (j) (by omega) (by omega) dL_solve_73 ?_
            refine iv_sipush hx hb dL_solve_74 (by decide +kernel) ?_
            refine iv_isub hx hb dL_solve_77 ?_
            refine iv_eq ((solvesF 7 st k).2) (by rw [← he9, solves_1 (n := n9) (st := s9) (k := j) (by omega)]; omega) ?_
            exact W.iret hx hb hrt (fun t ht hW => ⟨rfl, ⟨⟨(g.1.1, g.1.2.1, g.1.2.2.1, g.1.2.2.2), by rw [← he9, solves_f (by omega)]; exact hL2⟩, by rw [ht]; exact hP⟩, hS.F ht⟩) hS.2.2 dL_solve_78 hlocks
        · refine iv_iconst hx hb dL_solve_56 ?_
          refine iv_eq ((solvesF 7 st k).2) (by rw [← he9, solves_3 (by omega) (by omega)]) ?_
          exact W.iret hx hb hrt (fun t ht hW => ⟨rfl, ⟨⟨(g.1.1, g.1.2.1, g.1.2.2.1, g.1.2.2.2), by rw [← he9, solves_f (by omega)]; exact hL2⟩, by rw [ht]; exact hP⟩, hS.F ht⟩) hS.2.2 dL_solve_57 hlocks
  exact LOOP6 7 0 k st q z mm ee (by omega) hk hI hL rfl _ _ _ hP hS (lv_sub hl [1, 0, 2, 3, 4, 5, 6, 7, 8] rfl)
set_option maxHeartbeats 4000000 in
set_option maxRecDepth 100000 in
theorem m_L_pass (l : Launch) (E : Env3) (β : Nat → Nat) (hβ : dR β 6) (T : Int) (st q z r a mm ee : S) (hI : IB T st) (hL : LR st q z r a mm ee) (tk U : Int) (ht : 0 ≤ tk ∧ tk ≤ 1000) (hU : T + tk ≤ U ∧ U ≤ 100000) : Met l yL_pass (Cond.code yL_pass cL_pass 7 (some .int) :: ALL) ({ frames := 0, cells := 0, slots := 0, locals := 0 }) (pR [.int (I tk), .ref (β 0), .ref (β 1), .ref (β 4), .ref (β 5)] E (lwW E β q z r a mm ee)) (qX (some (.int (I (passes st tk 5 - st 5)))) E (lwW E β q z r a mm ee) (fun (g : LRs (passes st tk) r a) => lwG E β r a g)) 0 0 (adIn (lwW E β q z r a mm ee)) := by
  refine mk_met (by decide) rfl (Nat.le_of_ble_eq_true rfl) ?_
  intro p e s m args below meth c hx hb hrt hml hts hown hlocks hnm hP hK ls hl
  have hown : s.vm.findClass RL = some m.cls := hown
  have hl : lv_has ls 7 [(0, .int (I tk)), (1, .ref (β 0)), (2, .ref (β 1)), (3, .ref (β 4)), (4, .ref (β 5))] := hl
  have hD : va_D (adIn (lwW E β q z r a mm ee)) (lwW E β q z r a mm ee) := D_of_dR hβ rfl
  have hS : va_S (adIn (lwW E β q z r a mm ee)) s.heap s.heap [] := va_S.rf
  refine iv_iconst hx hb dL_pass_0 ?_
  refine iv_eq ((up st 0 (st 0 + tk)) 5 - st 5) (by rw [up_ne st (k := 0) (j := 5) _ (by omega)]; omega) ?_
  refine lv_istore (lv' := [(5, .int (I _)), (0, .int (I _)), (1, .ref _), (2, .ref _), (3, .ref _), (4, .ref _)]) hx hb dL_pass_1 hl (by decide) rfl (fun ls hl => ?_)
  refine lv_aload_n hx hb dL_pass_3 rfl (lv_lk hl rfl) ?_
  refine iv_iconst hx hb dL_pass_4 ?_
  refine lv_dup2_11 hx hb dL_pass_5 rfl rfl ?_
  refine iv_iald hx hb hK hP 0 rfl (0) (by omega) (by omega) dL_pass_6 ?_
  refine lv_iload_n hx hb dL_pass_7 rfl (lv_lk hl rfl) ?_
  refine iv_iadd hx hb dL_pass_8 ?_
  refine iv_iast hx hb hK hP (dm hD rfl) hS 0 rfl (0) (by omega) (by omega) dL_pass_9 (lwW E β (up q 0 (q 0 + tk)) z r a mm ee) (rfl) (fun H locs hP hS => ?_)
  refine iv_iconst hx hb dL_pass_10 ?_
  refine lv_istore (lv' := [(6, .int (I _)), (5, .int (I _)), (0, .int (I _)), (1, .ref _), (2, .ref _), (3, .ref _), (4, .ref _)]) hx hb dL_pass_11 hl (by decide) rfl (fun ls hl => ?_)
  have hT8 := hI.1
  have hI0 : IB U (up st 0 (st 0 + tk)) := IB_time hI _ (by omega) U (by omega)
  have hs9 : (up st 0 (st 0 + tk)) 9 = 0 := by rw [up_ne _ _ (by omega)]; exact hI.2.1.2
  have hL0 : LR (up (up st 0 (st 0 + tk)) 5 (st 5)) (up q 0 (q 0 + tk)) z r a mm ee := by
    have h9 : up (up st 0 (st 0 + tk)) 5 (st 5) = (up st 0 (st 0 + tk)) := by rw [show st 5 = (up st 0 (st 0 + tk)) 5 from (up_ne _ _ (by omega)).symm, up_self]
    rw [h9]; exact LR_q hL (by omega) (by rw [hL.1 0 (by omega)])
  have LOOP13 : ∀ (n9 i : Nat) (s9 q1 z1 m1 e1 : S), (i + n9 = 6) → (1 ≤ i) → (IB U s9) → (s9 = iter passZ i (up st 0 (st 0 + tk))) → (LR (up s9 5 (st 5)) q1 z1 r a m1 e1) → ∀ (H : Heap) (locs : List Loc) (ls : Array Slot), va_P E.1 vwCl (lwW E β q1 z1 r a m1 e1) H → va_S (adIn (lwW E β q z r a mm ee)) s.heap H locs → lv_has ls 7 [(6, .int (I (i : Int))), (5, .int (I (s9 5 - st 5))), (0, .int (I tk)), (1, .ref (β 0)), (2, .ref (β 1)), (3, .ref (β 4)), (4, .ref (β 5))] → W p l e ({ frames := 0, cells := 0, slots := 0, locals := 0 }) s m args below meth c H locs 0 0 (MQ below (qX (some (.int (I (passes st tk 5 - st 5)))) E (lwW E β q z r a mm ee) (fun (g : LRs (passes st tk) r a) => lwG E β r a g)) args s 0 0 (adIn (lwW E β q z r a mm ee))) (F0 m 13 ls []) := by
    intro n9
    induction n9 with
    | zero =>
      intro  i s9 q1 z1 m1 e1 hn8 hi1 hI1 hE1 hL1 H locs ls hP hS hl
      obtain rfl : i = 6 := by omega
      refine lv_iload hx hb dL_pass_13 (lv_lk hl rfl) ?_
      refine iv_bipush hx hb dL_pass_15 (by decide +kernel) ?_
      refine iv_icmp_ge (tgt := 66) hx hb dL_pass_17 (by decide) (by omega) (by omega) (fun c_17 => ?_) (fun c_17 => by exfalso; omega)
      refine iv_iconst hx hb dL_pass_66 ?_
      refine lv_istore (lv' := [(6, .int (I _)), (5, .int (I _)), (0, .int (I _)), (1, .ref _), (2, .ref _), (3, .ref _), (4, .ref _)]) hx hb dL_pass_67 hl (by decide) rfl (fun ls hl => ?_)
      have LOOP69 : ∀ (n9 i : Nat) (s8 q2 z2 m2 e2 : S), (i + n9 = 36) → (IB U s8) → (s8 = iter passR i (iter passZ 6 (up st 0 (st 0 + tk)))) → (LR (up s8 5 (st 5)) q2 z2 r a m2 e2) → ∀ (H : Heap) (locs : List Loc) (ls : Array Slot), va_P E.1 vwCl (lwW E β q2 z2 r a m2 e2) H → va_S (adIn (lwW E β q z r a mm ee)) s.heap H locs → lv_has ls 7 [(6, .int (I (i : Int))), (5, .int (I (s8 5 - st 5))), (0, .int (I tk)), (1, .ref (β 0)), (2, .ref (β 1)), (3, .ref (β 4)), (4, .ref (β 5))] → W p l e ({ frames := 0, cells := 0, slots := 0, locals := 0 }) s m args below meth c H locs 0 0 (MQ below (qX (some (.int (I (passes st tk 5 - st 5)))) E (lwW E β q z r a mm ee) (fun (g : LRs (passes st tk) r a) => lwG E β r a g)) args s 0 0 (adIn (lwW E β q z r a mm ee))) (F0 m 69 ls []) := by
        intro n9
        induction n9 with
        | zero =>
          intro  i s8 q2 z2 m2 e2 hn7 hI2 hE2 hL2 H locs ls hP hS hl
          obtain rfl : i = 36 := by omega
          have hs8 : s8 = passes st tk := hE2
          subst hs8
          refine lv_iload hx hb dL_pass_69 (lv_lk hl rfl) ?_
          refine iv_bipush hx hb dL_pass_71 (by decide +kernel) ?_
          refine iv_icmp_ge (tgt := 111) hx hb dL_pass_73 (by decide) (by omega) (by omega) (fun c_73 => ?_) (fun c_73 => by exfalso; omega)
          refine lv_aload_n hx hb dL_pass_111 rfl (lv_lk hl rfl) ?_
          refine iv_iconst hx hb dL_pass_112 ?_
          refine lv_dup2_11 hx hb dL_pass_113 rfl rfl ?_
          refine iv_iald hx hb hK hP 0 rfl (5) (by omega) (by omega) dL_pass_114 ?_
          refine lv_iload hx hb dL_pass_115 (lv_lk hl rfl) ?_
          refine iv_iadd hx hb dL_pass_117 ?_
          refine iv_iast hx hb hK hP (dm hD rfl) hS 0 rfl (5) (by omega) (by omega) dL_pass_118 (lwW E β (up q2 5 (q2 5 + (passes st tk 5 - st 5))) z2 r a m2 e2) (rfl) (fun H locs hP hS => ?_)
          refine lv_iload hx hb dL_pass_119 (lv_lk hl rfl) ?_
          exact W.iret hx hb hrt (fun t ht hW => ⟨rfl, ⟨⟨(up q2 5 (q2 5 + (passes st tk 5 - st 5)), z2, m2, e2), LR_done hL2⟩, by rw [ht]; exact hP⟩, hS.F ht⟩) hS.2.2 dL_pass_121 hlocks
        | succ n9 ih =>
          intro  i s8 q2 z2 m2 e2 hn7 hI2 hE2 hL2 H locs ls hP hS hl
          have hI3 : IB U (up s8 5 (st 5)) := IB_free hI2 5 _ (by omega)
          have hm1 := eM_0 hL2 hI3 (k := i) (by omega)
          have hL4 := (hL2.2.2 i (by omega)).2.2
          rw [up_ne _ _ (by omega), up_ne _ _ (by omega)] at hL4
          rw [up_ne s8 (k := 5) (j := 36 + 6 * i + 3) _ (by omega)] at hm1
          have hq1 : q2 0 = s8 0 := by rw [hL2.1 0 (by omega), up_ne _ _ (by omega)]
          have hb9 := (hI2.2.2.2 i (by omega)).2
          unfold triM at hb9
          have hT9 := hI2.1
          refine lv_iload hx hb dL_pass_69 (lv_lk hl rfl) ?_
          refine iv_bipush hx hb dL_pass_71 (by decide +kernel) ?_
          refine iv_icmp_ge (tgt := 111) hx hb dL_pass_73 (by decide) (by omega) (by omega) (fun c_73 => by exfalso; omega) (fun c_73 => ?_)
          refine lv_aload_n hx hb dL_pass_76 rfl (lv_lk hl rfl) ?_
          refine lv_iload hx hb dL_pass_77 (lv_lk hl rfl) ?_
          refine iv_iald hx hb hK hP 4 rfl (i) (by omega) (by omega) dL_pass_79 ?_
          refine iv_if_eq (tgt := 105) hx hb dL_pass_80 (by decide) (by omega) (fun c_80 => ?_) (fun c_80 => ?_)
          · have e9 : passR s8 i = s8 := by unfold passR; rw [if_neg (by omega)]
            refine iv_iinc (k := 0) hx hb dL_pass_105 hl rfl (((i + 1 : Nat) : Int)) (by omega) (by decide) [(6, .int (I _)), (5, .int (I _)), (0, .int (I _)), (1, .ref _), (2, .ref _), (3, .ref _), (4, .ref _)] rfl (fun ls hl => ?_)
            refine lv_goto (tgt := 69) hx hb dL_pass_108 (by decide) ?_
            exact ih (i + 1) (s8) q2 z2 (m2) e2 (by omega) hI2 (by rw [← e9, hE2]; rfl) hL2 H locs ls hP hS (lv_sub hl [0, 1, 2, 3, 4, 5, 6] rfl)
          · have hL5 := hL4 (by omega)
            refine lv_aload hx hb dL_pass_83 (lv_lk hl rfl) ?_
            refine lv_iload hx hb dL_pass_85 (lv_lk hl rfl) ?_
            refine iv_iald hx hb hK hP 5 rfl (i) (by omega) (by omega) dL_pass_87 ?_
            refine lv_aload_n hx hb dL_pass_88 rfl (lv_lk hl rfl) ?_
            refine iv_iconst hx hb dL_pass_89 ?_
            refine iv_iald hx hb hK hP 0 rfl (0) (by omega) (by omega) dL_pass_90 ?_
            refine iv_icmp_le (tgt := 97) hx hb dL_pass_91 (by decide) (by omega) (by omega) (fun c_91 => ?_) (fun c_91 => ?_)
            · refine lv_aload_n hx hb dL_pass_97 rfl (lv_lk hl rfl) ?_
              refine lv_iload hx hb dL_pass_98 (lv_lk hl rfl) ?_
              refine iv_iconst hx hb dL_pass_100 ?_
              refine iv_iast hx hb hK hP (dm hD rfl) hS 4 rfl (i) (by omega) (by omega) dL_pass_101 (lwW E β q2 z2 r a (up m2 i 0) e2) (rfl) (fun H locs hP hS => ?_)
              have e9 : passR s8 i = forg s8 i := by unfold passR; rw [if_pos ⟨by omega, by omega⟩]
              have e8 : passR s8 i 5 = s8 5 + 1 := by rw [e9]; unfold forg forg3; rw [up_eq, up_ne _ _ (by omega), up_ne _ _ (by omega), up_ne _ _ (by omega)]
              have hL3 : LR (up (passR s8 i) 5 (st 5)) q2 z2 r a (up m2 i 0) e2 := by rw [e9, forg_5 _ _ _ (by omega)]; exact LR_m hL2 (by omega) rfl (fun _ _ => rfl) (fun h9 => absurd rfl h9)
              refine iv_iinc (k := 1) hx hb dL_pass_102 hl rfl (passR s8 i 5 - st 5) (by omega) (by decide) [(5, .int (I _)), (6, .int (I _)), (0, .int (I _)), (1, .ref _), (2, .ref _), (3, .ref _), (4, .ref _)] rfl (fun ls hl => ?_)
              refine iv_iinc (k := 1) hx hb dL_pass_105 hl rfl (((i + 1 : Nat) : Int)) (by omega) (by decide) [(6, .int (I _)), (5, .int (I _)), (0, .int (I _)), (1, .ref _), (2, .ref _), (3, .ref _), (4, .ref _)] rfl (fun ls hl => ?_)
              refine lv_goto (tgt := 69) hx hb dL_pass_108 (by decide) ?_
              exact ih (i + 1) (passR s8 i) q2 z2 (up m2 i 0) e2 (by omega) (IB_passR hI2 (by omega)) (by rw [hE2]; rfl) hL3 H locs ls hP hS (lv_sub hl [0, 1, 2, 3, 4, 5, 6] rfl)
            · refine lv_goto (tgt := 105) hx hb dL_pass_94 (by decide) ?_
              have e9 : passR s8 i = s8 := by unfold passR; rw [if_neg (by omega)]
              refine iv_iinc (k := 0) hx hb dL_pass_105 hl rfl (((i + 1 : Nat) : Int)) (by omega) (by decide) [(6, .int (I _)), (5, .int (I _)), (0, .int (I _)), (1, .ref _), (2, .ref _), (3, .ref _), (4, .ref _)] rfl (fun ls hl => ?_)
              refine lv_goto (tgt := 69) hx hb dL_pass_108 (by decide) ?_
              exact ih (i + 1) (s8) q2 z2 (m2) e2 (by omega) hI2 (by rw [← e9, hE2]; rfl) hL2 H locs ls hP hS (lv_sub hl [0, 1, 2, 3, 4, 5, 6] rfl)
      exact LOOP69 36 0 s9 q1 z1 m1 e1 (by omega) hI1 hE1 hL1 _ _ _ hP hS (lv_sub hl [0, 1, 2, 3, 4, 5, 6] rfl)
    | succ n9 ih =>
      intro  i s9 q1 z1 m1 e1 hn8 hi1 hI1 hE1 hL1 H locs ls hP hS hl
      have hz1 : z1 (5 * i + 3) = s9 (6 + 5 * i + 3) := by rw [hL1.2.1 _ (by omega), up_ne _ _ (by omega)]; exact congrArg s9 (by omega)
      have hq1 : q1 0 = s9 0 := by rw [hL1.1 0 (by omega), up_ne _ _ (by omega)]
      have hb9 := (hI1.2.2.1 i (by omega)).2.2.2.2.2
      have hT9 := hI1.1
      refine lv_iload hx hb dL_pass_13 (lv_lk hl rfl) ?_
      refine iv_bipush hx hb dL_pass_15 (by decide +kernel) ?_
      refine iv_icmp_ge (tgt := 66) hx hb dL_pass_17 (by decide) (by omega) (by omega) (fun c_17 => by exfalso; omega) (fun c_17 => ?_)
      refine lv_aload_n hx hb dL_pass_20 rfl (lv_lk hl rfl) ?_
      refine iv_iconst hx hb dL_pass_21 ?_
      refine lv_iload hx hb dL_pass_22 (lv_lk hl rfl) ?_
      refine iv_imul hx hb dL_pass_24 ?_
      refine iv_iconst hx hb dL_pass_25 ?_
      refine iv_iadd hx hb dL_pass_26 ?_
      refine iv_iald hx hb hK hP 1 rfl (5 * i + 3) (by omega) (by omega) dL_pass_27 ?_
      refine iv_if_eq (tgt := 60) hx hb dL_pass_28 (by decide) (by omega) (fun c_28 => ?_) (fun c_28 => ?_)
      · have e9 : passZ s9 i = s9 := by unfold passZ; rw [if_neg (by omega)]
        refine iv_iinc (k := 0) hx hb dL_pass_60 hl rfl (((i + 1 : Nat) : Int)) (by omega) (by decide) [(6, .int (I _)), (5, .int (I _)), (0, .int (I _)), (1, .ref _), (2, .ref _), (3, .ref _), (4, .ref _)] rfl (fun ls hl => ?_)
        refine lv_goto (tgt := 13) hx hb dL_pass_63 (by decide) ?_
        exact ih (i + 1) (s9) q1 (z1) m1 e1 (by omega) (by omega) hI1 (by rw [← e9, hE1]; rfl) hL1 H locs ls hP hS (lv_sub hl [0, 1, 2, 3, 4, 5, 6] rfl)
      · refine lv_aload_n hx hb dL_pass_31 rfl (lv_lk hl rfl) ?_
        refine iv_iconst hx hb dL_pass_32 ?_
        refine lv_iload hx hb dL_pass_33 (lv_lk hl rfl) ?_
        refine iv_imul hx hb dL_pass_35 ?_
        refine iv_iconst hx hb dL_pass_36 ?_
        refine iv_iadd hx hb dL_pass_37 ?_
        refine iv_iald hx hb hK hP 1 rfl (5 * i + 3) (by omega) (by omega) dL_pass_38 ?_
        refine lv_aload_n hx hb dL_pass_39 rfl (lv_lk hl rfl) ?_
        refine iv_iconst hx hb dL_pass_40 ?_
        refine iv_iald hx hb hK hP 0 rfl (0) (by omega) (by omega) dL_pass_41 ?_
        refine iv_icmp_le (tgt := 48) hx hb dL_pass_42 (by decide) (by omega) (by omega) (fun c_42 => ?_) (fun c_42 => ?_)
        · refine lv_aload_n hx hb dL_pass_48 rfl (lv_lk hl rfl) ?_
          refine iv_iconst hx hb dL_pass_49 ?_
          refine lv_iload hx hb dL_pass_50 (lv_lk hl rfl) ?_
          refine iv_imul hx hb dL_pass_52 ?_
          refine iv_iconst hx hb dL_pass_53 ?_
          refine iv_iadd hx hb dL_pass_54 ?_
          refine iv_iconst hx hb dL_pass_55 ?_
          refine iv_iast hx hb hK hP (dm hD rfl) hS 1 rfl (5 * i + 3) (by omega) (by omega) dL_pass_56 (lwW E β q1 (up z1 (5 * i + 3) 0) r a m1 e1) (rfl) (fun H locs hP hS => ?_)
          have e9 : passZ s9 i = up (up s9 (6 + 5 * i + 3) 0) 5 (up s9 (6 + 5 * i + 3) 0 5 + 1) := by unfold passZ; rw [if_pos (by omega)]
          have e8 : passZ s9 i 5 = s9 5 + 1 := by rw [e9, up_eq, up_ne _ _ (by omega)]
          have hL2 : LR (up (passZ s9 i) 5 (st 5)) q1 (up z1 (5 * i + 3) 0) r a m1 e1 := by rw [e9, passZ_5 _ _ _ _ (by omega)]; exact LR_z hL1 (by omega) (by omega) rfl
          refine iv_iinc (k := 1) hx hb dL_pass_57 hl rfl (passZ s9 i 5 - st 5) (by omega) (by decide) [(5, .int (I _)), (6, .int (I _)), (0, .int (I _)), (1, .ref _), (2, .ref _), (3, .ref _), (4, .ref _)] rfl (fun ls hl => ?_)
          refine iv_iinc (k := 1) hx hb dL_pass_60 hl rfl (((i + 1 : Nat) : Int)) (by omega) (by decide) [(6, .int (I _)), (5, .int (I _)), (0, .int (I _)), (1, .ref _), (2, .ref _), (3, .ref _), (4, .ref _)] rfl (fun ls hl => ?_)
          refine lv_goto (tgt := 13) hx hb dL_pass_63 (by decide) ?_
          exact ih (i + 1) (passZ s9 i) q1 (up z1 (5 * i + 3) 0) m1 e1 (by omega) (by omega) (IB_passZ hI1 (by omega)) (by rw [hE1]; rfl) hL2 H locs ls hP hS (lv_sub hl [0, 1, 2, 3, 4, 5, 6] rfl)
        · refine lv_goto (tgt := 60) hx hb dL_pass_45 (by decide) ?_
          have e9 : passZ s9 i = s9 := by unfold passZ; rw [if_neg (by omega)]
          refine iv_iinc (k := 0) hx hb dL_pass_60 hl rfl (((i + 1 : Nat) : Int)) (by omega) (by decide) [(6, .int (I _)), (5, .int (I _)), (0, .int (I _)), (1, .ref _), (2, .ref _), (3, .ref _), (4, .ref _)] rfl (fun ls hl => ?_)
          refine lv_goto (tgt := 13) hx hb dL_pass_63 (by decide) ?_
          exact ih (i + 1) (s9) q1 (z1) m1 e1 (by omega) (by omega) hI1 (by rw [← e9, hE1]; rfl) hL1 H locs ls hP hS (lv_sub hl [0, 1, 2, 3, 4, 5, 6] rfl)
  exact LOOP13 5 1 (up st 0 (st 0 + tk)) (up q 0 (q 0 + tk)) z mm ee (by omega) (by omega) hI0 (passZ_0 hs9).symm hL0 _ _ _ hP hS (lv_sub hl [0, 1, 2, 3, 4, 5, 6] rfl)
