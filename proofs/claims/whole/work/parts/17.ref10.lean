/-! the reference, tenth part: the digest; written by ref.py -/
set_option maxHeartbeats 4000000 in
set_option maxRecDepth 100000 in
theorem m_X6_digest (l : Launch) (E : Env3) (ρ : Nat → Nat) (th rc tl pa kd nm : Int) (st hi ke tx wy : S) (hρ : dR ρ 6) (T : Int) (hI : IB T st) : Met l yX6_digest (Cond.code yX6_digest cX6_digest 4 (some .long) :: ALL) ({ frames := 6, cells := 0, slots := 0, locals := 136 }) (pR [.ref (ρ 0)] E (refW E ρ th rc tl pa kd nm st hi ke tx wy)) (qX (some (.long (dig st))) E (refW E ρ th rc tl pa kd nm st hi ke tx wy) (fun (g : S × S) => (refW E ρ 0 rc tl pa kd nm st hi g.1 tx g.2))) 0 0 (adIn (refW E ρ th rc tl pa kd nm st hi ke tx wy)) := by
  refine mk_met (by decide) rfl (Nat.le_of_ble_eq_true rfl) ?_
  intro p e s m args below meth c hx hb hrt hml hts hown hlocks hnm hP hK ls hl
  have hown : s.vm.findClass RX6 = some m.cls := hown
  have hl : lv_has ls 4 [(0, .ref (ρ 0))] := hl
  have hD : va_D (adIn (refW E ρ th rc tl pa kd nm st hi ke tx wy)) (refW E ρ th rc tl pa kd nm st hi ke tx wy) := D_of_dR hρ rfl
  have hS : va_S (adIn (refW E ρ th rc tl pa kd nm st hi ke tx wy)) s.heap s.heap [] := va_S.rf
  refine lv_aload_n hx hb dX6_digest_0 rfl (lv_lk hl rfl) ?_
  refine iv_iconst hx hb dX6_digest_1 ?_
  refine va_put (ci := 6) (ty := .int) hx hb hts inX6 tyX6 tyX6_ok nmX6 hown hK.1 hP (dm hD rfl) hS 0 rfl rfl 0 (by decide) (hts _ fl_X6_32) (fun _ h9 => h9) rfl (by decide +kernel) rfl rfl (Nat.le_of_ble_eq_true rfl) dX6_digest_2 (fun H locs hP _ hS => ?_)
  have hP : va_P E.1 vwCl (refW E ρ 0 rc tl pa kd nm st hi ke tx wy) H := hP
  refine lv_ldc2 hx hb hown (hts _ kl_X6_163) dX6_digest_5 ?_
  refine lv_lstore_n (lv' := [(1, .long _), (0, .ref _)]) hx hb dX6_digest_8 rfl hl (by decide) rfl (fun ls hl => ?_)
  refine lv_ldc2 hx hb hown (hts _ kl_X6_165) dX6_digest_9 ?_
  refine lv_lload_n hx hb dX6_digest_12 rfl (lv_lk hl rfl) ?_
  refine lv_lmul hx hb dX6_digest_13 ?_
  refine lv_aload_n hx hb dX6_digest_14 rfl (lv_lk hl rfl) ?_
  refine va_get (D := E.1) (ci := 6) hx hb hts inX6 hown hK.1 hP 0 rfl rfl 1 (by decide) (hts _ fl_X6_7) (fun _ h9 => h9) rfl dX6_digest_15 ?_
  refine iv_iconst hx hb dX6_digest_18 ?_
  refine iv_iald hx hb hK hP 1 rfl (0) (by omega) (by omega) dX6_digest_19 ?_
  refine lv_i2l hx hb dX6_digest_20 rfl ?_
  refine lv_ladd hx hb dX6_digest_21 ?_
  refine lv_mix ?_
  refine lv_lstore_n (lv' := [(1, .long _), (0, .ref _)]) hx hb dX6_digest_22 rfl hl (by decide) rfl (fun ls hl => ?_)
  refine lv_ldc2 hx hb hown (hts _ kl_X6_165) dX6_digest_23 ?_
  refine lv_lload_n hx hb dX6_digest_26 rfl (lv_lk hl rfl) ?_
  refine lv_lmul hx hb dX6_digest_27 ?_
  refine lv_aload_n hx hb dX6_digest_28 rfl (lv_lk hl rfl) ?_
  refine call_S (va_runV ⟨hx, hb, hml, hown, hts⟩ (m_X6_memories l E ρ 0 rc tl pa kd nm st hi ke tx wy T hI) (cwV 0 hts (gi_V ml_X6_112 im_X6_memories sl_X6_memories it_X6 cd_X6_memories) rfl rfl rfl (by decide +kernel) ⟨Nat.le_of_ble_eq_true rfl, Nat.le_of_ble_eq_true rfl⟩) (pR_V (q0 := 0) (ci := 6) hP hK rfl rfl) rfl rfl hl.1 rfl (lv_room (Nat.le_of_ble_eq_true rfl)) dX6_digest_29 ⟨Nat.le_of_ble_eq_true rfl, Nat.le_of_ble_eq_true rfl⟩) (fun _ h => h) hS rfl (fun locs hS => ?_)
  refine lv_i2l hx hb dX6_digest_32 rfl ?_
  refine lv_ladd hx hb dX6_digest_33 ?_
  refine lv_mix ?_
  refine lv_lstore_n (lv' := [(1, .long _), (0, .ref _)]) hx hb dX6_digest_34 rfl hl (by decide) rfl (fun ls hl => ?_)
  refine lv_ldc2 hx hb hown (hts _ kl_X6_165) dX6_digest_35 ?_
  refine lv_lload_n hx hb dX6_digest_38 rfl (lv_lk hl rfl) ?_
  refine lv_lmul hx hb dX6_digest_39 ?_
  refine lv_aload_n hx hb dX6_digest_40 rfl (lv_lk hl rfl) ?_
  refine call_S (va_runV ⟨hx, hb, hml, hown, hts⟩ (m_X6_untilForgetting l E ρ 0 rc tl pa kd nm st hi ke tx wy T hI) (cwV 0 hts (gi_V ml_X6_119 im_X6_untilForgetting sl_X6_untilForgetting it_X6 cd_X6_untilForgetting) rfl rfl rfl (by decide +kernel) ⟨Nat.le_of_ble_eq_true rfl, Nat.le_of_ble_eq_true rfl⟩) (pR_V (q0 := 0) (ci := 6) hP hK rfl rfl) rfl rfl hl.1 rfl (lv_room (Nat.le_of_ble_eq_true rfl)) dX6_digest_41 ⟨Nat.le_of_ble_eq_true rfl, Nat.le_of_ble_eq_true rfl⟩) (fun _ h => h) hS rfl (fun locs hS => ?_)
  refine lv_i2l hx hb dX6_digest_44 rfl ?_
  refine lv_ladd hx hb dX6_digest_45 ?_
  refine lv_mix ?_
  refine lv_lstore_n (lv' := [(1, .long _), (0, .ref _)]) hx hb dX6_digest_46 rfl hl (by decide) rfl (fun ls hl => ?_)
  refine lv_ldc2 hx hb hown (hts _ kl_X6_165) dX6_digest_47 ?_
  refine lv_lload_n hx hb dX6_digest_50 rfl (lv_lk hl rfl) ?_
  refine lv_lmul hx hb dX6_digest_51 ?_
  refine lv_aload_n hx hb dX6_digest_52 rfl (lv_lk hl rfl) ?_
  refine va_get (D := E.1) (ci := 6) hx hb hts inX6 hown hK.1 hP 0 rfl rfl 1 (by decide) (hts _ fl_X6_7) (fun _ h9 => h9) rfl dX6_digest_53 ?_
  refine iv_iconst hx hb dX6_digest_56 ?_
  refine iv_iald hx hb hK hP 1 rfl (1) (by omega) (by omega) dX6_digest_57 ?_
  refine lv_i2l hx hb dX6_digest_58 rfl ?_
  refine lv_ladd hx hb dX6_digest_59 ?_
  refine lv_mix ?_
  refine lv_lstore_n (lv' := [(1, .long _), (0, .ref _)]) hx hb dX6_digest_60 rfl hl (by decide) rfl (fun ls hl => ?_)
  refine lv_ldc2 hx hb hown (hts _ kl_X6_165) dX6_digest_61 ?_
  refine lv_lload_n hx hb dX6_digest_64 rfl (lv_lk hl rfl) ?_
  refine lv_lmul hx hb dX6_digest_65 ?_
  refine lv_aload_n hx hb dX6_digest_66 rfl (lv_lk hl rfl) ?_
  refine va_get (D := E.1) (ci := 6) hx hb hts inX6 hown hK.1 hP 0 rfl rfl 1 (by decide) (hts _ fl_X6_7) (fun _ h9 => h9) rfl dX6_digest_67 ?_
  refine iv_iconst hx hb dX6_digest_70 ?_
  refine iv_iald hx hb hK hP 1 rfl (2) (by omega) (by omega) dX6_digest_71 ?_
  refine lv_i2l hx hb dX6_digest_72 rfl ?_
  refine lv_ladd hx hb dX6_digest_73 ?_
  refine lv_mix ?_
  refine lv_lstore_n (lv' := [(1, .long _), (0, .ref _)]) hx hb dX6_digest_74 rfl hl (by decide) rfl (fun ls hl => ?_)
  refine lv_ldc2 hx hb hown (hts _ kl_X6_165) dX6_digest_75 ?_
  refine lv_lload_n hx hb dX6_digest_78 rfl (lv_lk hl rfl) ?_
  refine lv_lmul hx hb dX6_digest_79 ?_
  refine lv_aload_n hx hb dX6_digest_80 rfl (lv_lk hl rfl) ?_
  refine va_get (D := E.1) (ci := 6) hx hb hts inX6 hown hK.1 hP 0 rfl rfl 1 (by decide) (hts _ fl_X6_7) (fun _ h9 => h9) rfl dX6_digest_81 ?_
  refine iv_iconst hx hb dX6_digest_84 ?_
  refine iv_iald hx hb hK hP 1 rfl (3) (by omega) (by omega) dX6_digest_85 ?_
  refine lv_i2l hx hb dX6_digest_86 rfl ?_
  refine lv_ladd hx hb dX6_digest_87 ?_
  refine lv_mix ?_
  refine lv_lstore_n (lv' := [(1, .long _), (0, .ref _)]) hx hb dX6_digest_88 rfl hl (by decide) rfl (fun ls hl => ?_)
  refine iv_iconst hx hb dX6_digest_89 ?_
  refine lv_istore_n (lv' := [(3, .int (I _)), (1, .long _), (0, .ref _)]) hx hb dX6_digest_90 rfl hl (by decide) rfl (fun ls hl => ?_)
  have LOOP91 : ∀ (n9 i : Nat) (h9 : Int64), (i + n9 = 6) → (h9 = iterL (digZ st) i (dig0 st)) → ∀ (H : Heap) (locs : List Loc) (ls : Array Slot), va_P E.1 vwCl (refW E ρ 0 rc tl pa kd nm st hi ke tx wy) H → va_S (adIn (refW E ρ th rc tl pa kd nm st hi ke tx wy)) s.heap H locs → lv_has ls 4 [(0, .ref (ρ 0)), (1, .long h9), (3, .int (I (i : Int)))] → W p l e ({ frames := 6, cells := 0, slots := 0, locals := 136 }) s m args below meth c H locs 0 0 (MQ below (qX (some (.long (dig st))) E (refW E ρ th rc tl pa kd nm st hi ke tx wy) (fun (g : S × S) => (refW E ρ 0 rc tl pa kd nm st hi g.1 tx g.2))) args s 0 0 (adIn (refW E ρ th rc tl pa kd nm st hi ke tx wy))) (F0 m 91 ls []) := by
    intro n9
    induction n9 with
    | zero =>
      intro  i h9 hi9 hh9 H locs ls hP hS hl
      obtain rfl : i = 6 := by omega
      refine lv_iload_n hx hb dX6_digest_91 rfl (lv_lk hl rfl) ?_
      refine iv_bipush hx hb dX6_digest_92 (by decide +kernel) ?_
      refine iv_icmp_ge (tgt := 162) hx hb dX6_digest_94 (by decide) (by omega) (by omega) (fun c_94 => ?_) (fun c_94 => by exfalso; omega)
      refine iv_iconst hx hb dX6_digest_162 ?_
      refine lv_istore_n (lv' := [(3, .int (I _)), (0, .ref _), (1, .long _)]) hx hb dX6_digest_163 rfl hl (by decide) rfl (fun ls hl => ?_)
      have LOOP164 : ∀ (n9 i : Nat) (g1 : S × S) (h9 : Int64), (i + n9 = 36) → (h9 = iterL (digR st) i (iterL (digZ st) 6 (dig0 st))) → ∀ (H : Heap) (locs : List Loc) (ls : Array Slot), va_P E.1 vwCl (refW E ρ 0 rc tl pa kd nm st hi g1.1 tx g1.2) H → va_S (adIn (refW E ρ th rc tl pa kd nm st hi ke tx wy)) s.heap H locs → lv_has ls 4 [(0, .ref (ρ 0)), (1, .long h9), (3, .int (I (i : Int)))] → W p l e ({ frames := 6, cells := 0, slots := 0, locals := 136 }) s m args below meth c H locs 0 0 (MQ below (qX (some (.long (dig st))) E (refW E ρ th rc tl pa kd nm st hi ke tx wy) (fun (g : S × S) => (refW E ρ 0 rc tl pa kd nm st hi g.1 tx g.2))) args s 0 0 (adIn (refW E ρ th rc tl pa kd nm st hi ke tx wy))) (F0 m 164 ls []) := by
        intro n9
        induction n9 with
        | zero =>
          intro  i g1 h9 hi9 hh8 H locs ls hP hS hl
          obtain rfl : i = 36 := by omega
          rw [dig_eq] at hh8
          subst hh8
          refine lv_iload_n hx hb dX6_digest_164 rfl (lv_lk hl rfl) ?_
          refine iv_bipush hx hb dX6_digest_165 (by decide +kernel) ?_
          refine iv_icmp_ge (tgt := 296) hx hb dX6_digest_167 (by decide) (by omega) (by omega) (fun c_167 => ?_) (fun c_167 => by exfalso; omega)
          refine lv_lload_n hx hb dX6_digest_296 rfl (lv_lk hl rfl) ?_
          exact W.lret hx hb hrt (fun t ht hW => ⟨rfl, ⟨(g1.1, g1.2), by rw [ht]; exact hP⟩, hS.F ht⟩) hS.2.2 dX6_digest_297 hlocks
        | succ n9 ih =>
          intro  i g1 h9 hi9 hh8 H locs ls hP hS hl
          have t3 := (hI.2.2.2 i (by omega)).2
          unfold triM at t3
          have t0 := hI.1
          have q9 := old_01 st i
          refine lv_iload_n hx hb dX6_digest_164 rfl (lv_lk hl rfl) ?_
          refine iv_bipush hx hb dX6_digest_165 (by decide +kernel) ?_
          refine iv_icmp_ge (tgt := 296) hx hb dX6_digest_167 (by decide) (by omega) (by omega) (fun c_167 => by exfalso; omega) (fun c_167 => ?_)
          refine lv_ldc2 hx hb hown (hts _ kl_X6_165) dX6_digest_170 ?_
          refine lv_lload_n hx hb dX6_digest_173 rfl (lv_lk hl rfl) ?_
          refine lv_lmul hx hb dX6_digest_174 ?_
          refine lv_aload_n hx hb dX6_digest_175 rfl (lv_lk hl rfl) ?_
          refine lv_iload_n hx hb dX6_digest_176 rfl (lv_lk hl rfl) ?_
          refine iv_iconst hx hb dX6_digest_177 ?_
          refine call_S (va_runV ⟨hx, hb, hml, hown, hts⟩ (m_X6_of l E ρ 0 rc tl pa kd nm st hi g1.1 tx g1.2 i 0 (by omega) (by decide)) (cwV 2 hts (gi_V ml_X6_61 im_X6_of sl_X6_of it_X6 cd_X6_of) rfl rfl rfl (by decide +kernel) ⟨Nat.le_of_ble_eq_true rfl, Nat.le_of_ble_eq_true rfl⟩) (pR_V (q0 := 0) (ci := 6) hP hK rfl rfl) rfl rfl hl.1 rfl (lv_room (Nat.le_of_ble_eq_true rfl)) dX6_digest_178 ⟨Nat.le_of_ble_eq_true rfl, Nat.le_of_ble_eq_true rfl⟩) (fun _ h => h) hS rfl (fun locs hS => ?_)
          refine lv_i2l hx hb dX6_digest_181 rfl ?_
          refine lv_ladd hx hb dX6_digest_182 ?_
          refine lv_mix ?_
          refine lv_lstore_n (lv' := [(1, .long _), (0, .ref _), (3, .int (I _))]) hx hb dX6_digest_183 rfl hl (by decide) rfl (fun ls hl => ?_)
          refine lv_ldc2 hx hb hown (hts _ kl_X6_165) dX6_digest_184 ?_
          refine lv_lload_n hx hb dX6_digest_187 rfl (lv_lk hl rfl) ?_
          refine lv_lmul hx hb dX6_digest_188 ?_
          refine lv_aload_n hx hb dX6_digest_189 rfl (lv_lk hl rfl) ?_
          refine lv_iload_n hx hb dX6_digest_190 rfl (lv_lk hl rfl) ?_
          refine iv_iconst hx hb dX6_digest_191 ?_
          refine call_S (va_runV ⟨hx, hb, hml, hown, hts⟩ (m_X6_of l E ρ 0 rc tl pa kd nm st hi g1.1 tx g1.2 i 1 (by omega) (by decide)) (cwV 2 hts (gi_V ml_X6_61 im_X6_of sl_X6_of it_X6 cd_X6_of) rfl rfl rfl (by decide +kernel) ⟨Nat.le_of_ble_eq_true rfl, Nat.le_of_ble_eq_true rfl⟩) (pR_V (q0 := 0) (ci := 6) hP hK rfl rfl) rfl rfl hl.1 rfl (lv_room (Nat.le_of_ble_eq_true rfl)) dX6_digest_192 ⟨Nat.le_of_ble_eq_true rfl, Nat.le_of_ble_eq_true rfl⟩) (fun _ h => h) hS rfl (fun locs hS => ?_)
          refine lv_i2l hx hb dX6_digest_195 rfl ?_
          refine lv_ladd hx hb dX6_digest_196 ?_
          refine lv_mix ?_
          refine lv_lstore_n (lv' := [(1, .long _), (0, .ref _), (3, .int (I _))]) hx hb dX6_digest_197 rfl hl (by decide) rfl (fun ls hl => ?_)
          refine lv_ldc2 hx hb hown (hts _ kl_X6_165) dX6_digest_198 ?_
          refine lv_lload_n hx hb dX6_digest_201 rfl (lv_lk hl rfl) ?_
          refine lv_lmul hx hb dX6_digest_202 ?_
          refine lv_aload_n hx hb dX6_digest_203 rfl (lv_lk hl rfl) ?_
          refine lv_iload_n hx hb dX6_digest_204 rfl (lv_lk hl rfl) ?_
          refine call_S (va_runV ⟨hx, hb, hml, hown, hts⟩ (m_X6_truth l E ρ 0 rc tl pa kd nm st hi g1.1 tx g1.2 T hI i (by omega)) (cwV 1 hts (gi_V ml_X6_106 im_X6_truth sl_X6_truth it_X6 cd_X6_truth) rfl rfl rfl (by decide +kernel) ⟨Nat.le_of_ble_eq_true rfl, Nat.le_of_ble_eq_true rfl⟩) (pR_V (q0 := 0) (ci := 6) hP hK rfl rfl) rfl rfl hl.1 rfl (lv_room (Nat.le_of_ble_eq_true rfl)) dX6_digest_205 ⟨Nat.le_of_ble_eq_true rfl, Nat.le_of_ble_eq_true rfl⟩) (fun _ h => h) hS rfl (fun locs hS => ?_)
          refine lv_i2l hx hb dX6_digest_208 rfl ?_
          refine lv_ladd hx hb dX6_digest_209 ?_
          refine lv_mix ?_
          refine lv_lstore_n (lv' := [(1, .long _), (0, .ref _), (3, .int (I _))]) hx hb dX6_digest_210 rfl hl (by decide) rfl (fun ls hl => ?_)
          refine lv_ldc2 hx hb hown (hts _ kl_X6_165) dX6_digest_211 ?_
          refine lv_lload_n hx hb dX6_digest_214 rfl (lv_lk hl rfl) ?_
          refine lv_lmul hx hb dX6_digest_215 ?_
          refine lv_aload_n hx hb dX6_digest_216 rfl (lv_lk hl rfl) ?_
          refine lv_iload_n hx hb dX6_digest_217 rfl (lv_lk hl rfl) ?_
          refine iv_iconst hx hb dX6_digest_218 ?_
          refine call_S (va_runV ⟨hx, hb, hml, hown, hts⟩ (m_X6_of l E ρ 0 rc tl pa kd nm st hi g1.1 tx g1.2 i 3 (by omega) (by decide)) (cwV 2 hts (gi_V ml_X6_61 im_X6_of sl_X6_of it_X6 cd_X6_of) rfl rfl rfl (by decide +kernel) ⟨Nat.le_of_ble_eq_true rfl, Nat.le_of_ble_eq_true rfl⟩) (pR_V (q0 := 0) (ci := 6) hP hK rfl rfl) rfl rfl hl.1 rfl (lv_room (Nat.le_of_ble_eq_true rfl)) dX6_digest_219 ⟨Nat.le_of_ble_eq_true rfl, Nat.le_of_ble_eq_true rfl⟩) (fun _ h => h) hS rfl (fun locs hS => ?_)
          refine lv_i2l hx hb dX6_digest_222 rfl ?_
          refine lv_ladd hx hb dX6_digest_223 ?_
          refine lv_mix ?_
          refine lv_lstore_n (lv' := [(1, .long _), (0, .ref _), (3, .int (I _))]) hx hb dX6_digest_224 rfl hl (by decide) rfl (fun ls hl => ?_)
          refine lv_ldc2 hx hb hown (hts _ kl_X6_165) dX6_digest_225 ?_
          refine lv_lload_n hx hb dX6_digest_228 rfl (lv_lk hl rfl) ?_
          refine lv_lmul hx hb dX6_digest_229 ?_
          refine lv_aload_n hx hb dX6_digest_230 rfl (lv_lk hl rfl) ?_
          refine lv_aload_n hx hb dX6_digest_231 rfl (lv_lk hl rfl) ?_
          refine lv_iload_n hx hb dX6_digest_232 rfl (lv_lk hl rfl) ?_
          refine iv_iconst hx hb dX6_digest_233 ?_
          refine call_S (va_runV ⟨hx, hb, hml, hown, hts⟩ (m_X6_of l E ρ 0 rc tl pa kd nm st hi g1.1 tx g1.2 i 5 (by omega) (by decide)) (cwV 2 hts (gi_V ml_X6_61 im_X6_of sl_X6_of it_X6 cd_X6_of) rfl rfl rfl (by decide +kernel) ⟨Nat.le_of_ble_eq_true rfl, Nat.le_of_ble_eq_true rfl⟩) (pR_V (q0 := 0) (ci := 6) hP hK rfl rfl) rfl rfl hl.1 rfl (lv_room (Nat.le_of_ble_eq_true rfl)) dX6_digest_234 ⟨Nat.le_of_ble_eq_true rfl, Nat.le_of_ble_eq_true rfl⟩) (fun _ h => h) hS rfl (fun locs hS => ?_)
          refine call_S (va_runV ⟨hx, hb, hml, hown, hts⟩ (m_X6_leftUntil l E ρ 0 rc tl pa kd nm st hi g1.1 tx g1.2 _ (by omega)) (cwV 1 hts (gi_V ml_X6_109 im_X6_leftUntil sl_X6_leftUntil it_X6 cd_X6_leftUntil) rfl rfl rfl (by decide +kernel) ⟨Nat.le_of_ble_eq_true rfl, Nat.le_of_ble_eq_true rfl⟩) (pR_V (q0 := 0) (ci := 6) hP hK rfl rfl) rfl rfl hl.1 rfl (lv_room (Nat.le_of_ble_eq_true rfl)) dX6_digest_237 ⟨Nat.le_of_ble_eq_true rfl, Nat.le_of_ble_eq_true rfl⟩) (fun _ h => h) hS rfl (fun locs hS => ?_)
          refine lv_i2l hx hb dX6_digest_240 rfl ?_
          refine lv_ladd hx hb dX6_digest_241 ?_
          refine lv_mix ?_
          refine lv_lstore_n (lv' := [(1, .long _), (0, .ref _), (3, .int (I _))]) hx hb dX6_digest_242 rfl hl (by decide) rfl (fun ls hl => ?_)
          refine lv_ldc2 hx hb hown (hts _ kl_X6_165) dX6_digest_243 ?_
          refine lv_lload_n hx hb dX6_digest_246 rfl (lv_lk hl rfl) ?_
          refine lv_lmul hx hb dX6_digest_247 ?_
          refine lv_aload_n hx hb dX6_digest_248 rfl (lv_lk hl rfl) ?_
          refine lv_iload_n hx hb dX6_digest_249 rfl (lv_lk hl rfl) ?_
          refine call_S (va_runV ⟨hx, hb, hml, hown, hts⟩ (m_X6_isOld l E ρ 0 rc tl pa kd nm st hi g1.1 tx g1.2 T hI i (by omega)) (cwV 1 hts (gi_V ml_X6_122 im_X6_isOld sl_X6_isOld it_X6 cd_X6_isOld) rfl rfl rfl (by decide +kernel) ⟨Nat.le_of_ble_eq_true rfl, Nat.le_of_ble_eq_true rfl⟩) (pR_V (q0 := 0) (ci := 6) hP hK rfl rfl) rfl rfl hl.1 rfl (lv_room (Nat.le_of_ble_eq_true rfl)) dX6_digest_250 ⟨Nat.le_of_ble_eq_true rfl, Nat.le_of_ble_eq_true rfl⟩) (fun _ h => h) hS rfl (fun locs hS => ?_)
          refine iv_if_eq (tgt := 260) hx hb dX6_digest_253 (by decide) (by omega) (fun c_253 => ?_) (fun c_253 => ?_)
          · refine iv_iconst hx hb dX6_digest_260 ?_
            refine iv_eq (oldI st i) (by omega) ?_
            refine lv_i2l hx hb dX6_digest_261 rfl ?_
            refine lv_ladd hx hb dX6_digest_262 ?_
            refine lv_mix ?_
            refine lv_lstore_n (lv' := [(1, .long _), (0, .ref _), (3, .int (I _))]) hx hb dX6_digest_263 rfl hl (by decide) rfl (fun ls hl => ?_)
            refine lv_ldc2 hx hb hown (hts _ kl_X6_165) dX6_digest_264 ?_
            refine lv_lload_n hx hb dX6_digest_267 rfl (lv_lk hl rfl) ?_
            refine lv_lmul hx hb dX6_digest_268 ?_
            refine lv_aload_n hx hb dX6_digest_269 rfl (lv_lk hl rfl) ?_
            refine lv_iload_n hx hb dX6_digest_270 rfl (lv_lk hl rfl) ?_
            refine call_X (va_runV ⟨hx, hb, hml, hown, hts⟩ (m_X6_would l E ρ 0 rc tl pa kd nm st hi g1.1 tx g1.2 hρ T hI i (by omega)) (cwV 1 hts (gi_V ml_X6_125 im_X6_would sl_X6_would it_X6 cd_X6_would) rfl rfl rfl (by decide +kernel) ⟨Nat.le_of_ble_eq_true rfl, Nat.le_of_ble_eq_true rfl⟩) (pR_V (q0 := 0) (ci := 6) hP hK rfl rfl) rfl rfl hl.1 rfl (lv_room (Nat.le_of_ble_eq_true rfl)) dX6_digest_271 ⟨Nat.le_of_ble_eq_true rfl, Nat.le_of_ble_eq_true rfl⟩) (dm hD rfl) hS rfl (fun g2 H locs hP hS => ?_)
            have hP : va_P E.1 vwCl (refW E ρ 0 rc tl pa kd nm st hi g2.1 tx g2.2) H := hP
            refine lv_i2l hx hb dX6_digest_274 rfl ?_
            refine lv_ladd hx hb dX6_digest_275 ?_
            refine lv_mix ?_
            refine lv_lstore_n (lv' := [(1, .long _), (0, .ref _), (3, .int (I _))]) hx hb dX6_digest_276 rfl hl (by decide) rfl (fun ls hl => ?_)
            refine lv_ldc2 hx hb hown (hts _ kl_X6_165) dX6_digest_277 ?_
            refine lv_lload_n hx hb dX6_digest_280 rfl (lv_lk hl rfl) ?_
            refine lv_lmul hx hb dX6_digest_281 ?_
            refine lv_aload_n hx hb dX6_digest_282 rfl (lv_lk hl rfl) ?_
            refine lv_iload_n hx hb dX6_digest_283 rfl (lv_lk hl rfl) ?_
            refine call_X (va_runV ⟨hx, hb, hml, hown, hts⟩ (m_X6_cost l E ρ 0 rc tl pa kd nm st hi g2.1 tx g2.2 hρ T hI i (by omega)) (cwV 1 hts (gi_V ml_X6_128 im_X6_cost sl_X6_cost it_X6 cd_X6_cost) rfl rfl rfl (by decide +kernel) ⟨Nat.le_of_ble_eq_true rfl, Nat.le_of_ble_eq_true rfl⟩) (pR_V (q0 := 0) (ci := 6) hP hK rfl rfl) rfl rfl hl.1 rfl (lv_room (Nat.le_of_ble_eq_true rfl)) dX6_digest_284 ⟨Nat.le_of_ble_eq_true rfl, Nat.le_of_ble_eq_true rfl⟩) (dm hD rfl) hS rfl (fun g3 H locs hP hS => ?_)
            have hP : va_P E.1 vwCl (refW E ρ 0 rc tl pa kd nm st hi g3.1 tx g3.2) H := hP
            refine lv_i2l hx hb dX6_digest_287 rfl ?_
            refine lv_ladd hx hb dX6_digest_288 ?_
            refine lv_mix ?_
            refine lv_lstore_n (lv' := [(1, .long _), (0, .ref _), (3, .int (I _))]) hx hb dX6_digest_289 rfl hl (by decide) rfl (fun ls hl => ?_)
            refine iv_iinc (k := 2) hx hb dX6_digest_290 hl rfl (((i + 1 : Nat) : Int)) (by omega) (by decide) [(3, .int (I _)), (1, .long _), (0, .ref _)] rfl (fun ls hl => ?_)
            refine lv_goto (tgt := 164) hx hb dX6_digest_293 (by decide) ?_
            exact ih (i + 1) g3 (digR st h9 i) (by omega) (by rw [iterL_s, ← hh8]) H locs ls hP hS (lv_sub hl [2, 1, 0] rfl)
          · refine iv_iconst hx hb dX6_digest_256 ?_
            refine lv_goto (tgt := 261) hx hb dX6_digest_257 (by decide) ?_
            refine iv_eq (oldI st i) (by omega) ?_
            refine lv_i2l hx hb dX6_digest_261 rfl ?_
            refine lv_ladd hx hb dX6_digest_262 ?_
            refine lv_mix ?_
            refine lv_lstore_n (lv' := [(1, .long _), (0, .ref _), (3, .int (I _))]) hx hb dX6_digest_263 rfl hl (by decide) rfl (fun ls hl => ?_)
            refine lv_ldc2 hx hb hown (hts _ kl_X6_165) dX6_digest_264 ?_
            refine lv_lload_n hx hb dX6_digest_267 rfl (lv_lk hl rfl) ?_
            refine lv_lmul hx hb dX6_digest_268 ?_
            refine lv_aload_n hx hb dX6_digest_269 rfl (lv_lk hl rfl) ?_
            refine lv_iload_n hx hb dX6_digest_270 rfl (lv_lk hl rfl) ?_
            refine call_X (va_runV ⟨hx, hb, hml, hown, hts⟩ (m_X6_would l E ρ 0 rc tl pa kd nm st hi g1.1 tx g1.2 hρ T hI i (by omega)) (cwV 1 hts (gi_V ml_X6_125 im_X6_would sl_X6_would it_X6 cd_X6_would) rfl rfl rfl (by decide +kernel) ⟨Nat.le_of_ble_eq_true rfl, Nat.le_of_ble_eq_true rfl⟩) (pR_V (q0 := 0) (ci := 6) hP hK rfl rfl) rfl rfl hl.1 rfl (lv_room (Nat.le_of_ble_eq_true rfl)) dX6_digest_271 ⟨Nat.le_of_ble_eq_true rfl, Nat.le_of_ble_eq_true rfl⟩) (dm hD rfl) hS rfl (fun g2 H locs hP hS => ?_)
            have hP : va_P E.1 vwCl (refW E ρ 0 rc tl pa kd nm st hi g2.1 tx g2.2) H := hP
            refine lv_i2l hx hb dX6_digest_274 rfl ?_
            refine lv_ladd hx hb dX6_digest_275 ?_
            refine lv_mix ?_
            refine lv_lstore_n (lv' := [(1, .long _), (0, .ref _), (3, .int (I _))]) hx hb dX6_digest_276 rfl hl (by decide) rfl (fun ls hl => ?_)
            refine lv_ldc2 hx hb hown (hts _ kl_X6_165) dX6_digest_277 ?_
            refine lv_lload_n hx hb dX6_digest_280 rfl (lv_lk hl rfl) ?_
            refine lv_lmul hx hb dX6_digest_281 ?_
            refine lv_aload_n hx hb dX6_digest_282 rfl (lv_lk hl rfl) ?_
            refine lv_iload_n hx hb dX6_digest_283 rfl (lv_lk hl rfl) ?_
            refine call_X (va_runV ⟨hx, hb, hml, hown, hts⟩ (m_X6_cost l E ρ 0 rc tl pa kd nm st hi g2.1 tx g2.2 hρ T hI i (by omega)) (cwV 1 hts (gi_V ml_X6_128 im_X6_cost sl_X6_cost it_X6 cd_X6_cost) rfl rfl rfl (by decide +kernel) ⟨Nat.le_of_ble_eq_true rfl, Nat.le_of_ble_eq_true rfl⟩) (pR_V (q0 := 0) (ci := 6) hP hK rfl rfl) rfl rfl hl.1 rfl (lv_room (Nat.le_of_ble_eq_true rfl)) dX6_digest_284 ⟨Nat.le_of_ble_eq_true rfl, Nat.le_of_ble_eq_true rfl⟩) (dm hD rfl) hS rfl (fun g3 H locs hP hS => ?_)
            have hP : va_P E.1 vwCl (refW E ρ 0 rc tl pa kd nm st hi g3.1 tx g3.2) H := hP
            refine lv_i2l hx hb dX6_digest_287 rfl ?_
            refine lv_ladd hx hb dX6_digest_288 ?_
            refine lv_mix ?_
            refine lv_lstore_n (lv' := [(1, .long _), (0, .ref _), (3, .int (I _))]) hx hb dX6_digest_289 rfl hl (by decide) rfl (fun ls hl => ?_)
            refine iv_iinc (k := 2) hx hb dX6_digest_290 hl rfl (((i + 1 : Nat) : Int)) (by omega) (by decide) [(3, .int (I _)), (1, .long _), (0, .ref _)] rfl (fun ls hl => ?_)
            refine lv_goto (tgt := 164) hx hb dX6_digest_293 (by decide) ?_
            exact ih (i + 1) g3 (digR st h9 i) (by omega) (by rw [iterL_s, ← hh8]) H locs ls hP hS (lv_sub hl [2, 1, 0] rfl)
      exact LOOP164 36 0 (ke, wy) h9 (by omega) (by rw [iterL_0]; exact hh9) _ _ _ hP hS (lv_sub hl [1, 2, 0] rfl)
    | succ n9 ih =>
      intro  i h9 hi9 hh9 H locs ls hP hS hl
      have t3 := (hI.2.2.1 i (by omega)).2.2.2.2.2
      have t0 := hI.1
      refine lv_iload_n hx hb dX6_digest_91 rfl (lv_lk hl rfl) ?_
      refine iv_bipush hx hb dX6_digest_92 (by decide +kernel) ?_
      refine iv_icmp_ge (tgt := 162) hx hb dX6_digest_94 (by decide) (by omega) (by omega) (fun c_94 => by exfalso; omega) (fun c_94 => ?_)
      refine lv_ldc2 hx hb hown (hts _ kl_X6_165) dX6_digest_97 ?_
      refine lv_lload_n hx hb dX6_digest_100 rfl (lv_lk hl rfl) ?_
      refine lv_lmul hx hb dX6_digest_101 ?_
      refine lv_aload_n hx hb dX6_digest_102 rfl (lv_lk hl rfl) ?_
      refine lv_iload_n hx hb dX6_digest_103 rfl (lv_lk hl rfl) ?_
      refine iv_iconst hx hb dX6_digest_104 ?_
      refine call_S (va_runV ⟨hx, hb, hml, hown, hts⟩ (m_X6_ofZone l E ρ 0 rc tl pa kd nm st hi ke tx wy i 0 (by omega) (by decide)) (cwV 2 hts (gi_V ml_X6_50 im_X6_ofZone sl_X6_ofZone it_X6 cd_X6_ofZone) rfl rfl rfl (by decide +kernel) ⟨Nat.le_of_ble_eq_true rfl, Nat.le_of_ble_eq_true rfl⟩) (pR_V (q0 := 0) (ci := 6) hP hK rfl rfl) rfl rfl hl.1 rfl (lv_room (Nat.le_of_ble_eq_true rfl)) dX6_digest_105 ⟨Nat.le_of_ble_eq_true rfl, Nat.le_of_ble_eq_true rfl⟩) (fun _ h => h) hS rfl (fun locs hS => ?_)
      refine lv_i2l hx hb dX6_digest_108 rfl ?_
      refine lv_ladd hx hb dX6_digest_109 ?_
      refine lv_mix ?_
      refine lv_lstore_n (lv' := [(1, .long _), (0, .ref _), (3, .int (I _))]) hx hb dX6_digest_110 rfl hl (by decide) rfl (fun ls hl => ?_)
      refine lv_ldc2 hx hb hown (hts _ kl_X6_165) dX6_digest_111 ?_
      refine lv_lload_n hx hb dX6_digest_114 rfl (lv_lk hl rfl) ?_
      refine lv_lmul hx hb dX6_digest_115 ?_
      refine lv_aload_n hx hb dX6_digest_116 rfl (lv_lk hl rfl) ?_
      refine lv_iload_n hx hb dX6_digest_117 rfl (lv_lk hl rfl) ?_
      refine call_S (va_runV ⟨hx, hb, hml, hown, hts⟩ (m_X6_depth l E ρ 0 rc tl pa kd nm st hi ke tx wy T hI i (by omega)) (cwV 1 hts (gi_V ml_X6_100 im_X6_depth sl_X6_depth it_X6 cd_X6_depth) rfl rfl rfl (by decide +kernel) ⟨Nat.le_of_ble_eq_true rfl, Nat.le_of_ble_eq_true rfl⟩) (pR_V (q0 := 0) (ci := 6) hP hK rfl rfl) rfl rfl hl.1 rfl (lv_room (Nat.le_of_ble_eq_true rfl)) dX6_digest_118 ⟨Nat.le_of_ble_eq_true rfl, Nat.le_of_ble_eq_true rfl⟩) (fun _ h => h) hS rfl (fun locs hS => ?_)
      refine lv_i2l hx hb dX6_digest_121 rfl ?_
      refine lv_ladd hx hb dX6_digest_122 ?_
      refine lv_mix ?_
      refine lv_lstore_n (lv' := [(1, .long _), (0, .ref _), (3, .int (I _))]) hx hb dX6_digest_123 rfl hl (by decide) rfl (fun ls hl => ?_)
      refine lv_ldc2 hx hb hown (hts _ kl_X6_165) dX6_digest_124 ?_
      refine lv_lload_n hx hb dX6_digest_127 rfl (lv_lk hl rfl) ?_
      refine lv_lmul hx hb dX6_digest_128 ?_
      refine lv_aload_n hx hb dX6_digest_129 rfl (lv_lk hl rfl) ?_
      refine lv_aload_n hx hb dX6_digest_130 rfl (lv_lk hl rfl) ?_
      refine lv_iload_n hx hb dX6_digest_131 rfl (lv_lk hl rfl) ?_
      refine iv_iconst hx hb dX6_digest_132 ?_
      refine call_S (va_runV ⟨hx, hb, hml, hown, hts⟩ (m_X6_ofZone l E ρ 0 rc tl pa kd nm st hi ke tx wy i 3 (by omega) (by decide)) (cwV 2 hts (gi_V ml_X6_50 im_X6_ofZone sl_X6_ofZone it_X6 cd_X6_ofZone) rfl rfl rfl (by decide +kernel) ⟨Nat.le_of_ble_eq_true rfl, Nat.le_of_ble_eq_true rfl⟩) (pR_V (q0 := 0) (ci := 6) hP hK rfl rfl) rfl rfl hl.1 rfl (lv_room (Nat.le_of_ble_eq_true rfl)) dX6_digest_133 ⟨Nat.le_of_ble_eq_true rfl, Nat.le_of_ble_eq_true rfl⟩) (fun _ h => h) hS rfl (fun locs hS => ?_)
      refine call_S (va_runV ⟨hx, hb, hml, hown, hts⟩ (m_X6_leftUntil l E ρ 0 rc tl pa kd nm st hi ke tx wy _ (by omega)) (cwV 1 hts (gi_V ml_X6_109 im_X6_leftUntil sl_X6_leftUntil it_X6 cd_X6_leftUntil) rfl rfl rfl (by decide +kernel) ⟨Nat.le_of_ble_eq_true rfl, Nat.le_of_ble_eq_true rfl⟩) (pR_V (q0 := 0) (ci := 6) hP hK rfl rfl) rfl rfl hl.1 rfl (lv_room (Nat.le_of_ble_eq_true rfl)) dX6_digest_136 ⟨Nat.le_of_ble_eq_true rfl, Nat.le_of_ble_eq_true rfl⟩) (fun _ h => h) hS rfl (fun locs hS => ?_)
      refine lv_i2l hx hb dX6_digest_139 rfl ?_
      refine lv_ladd hx hb dX6_digest_140 ?_
      refine lv_mix ?_
      refine lv_lstore_n (lv' := [(1, .long _), (0, .ref _), (3, .int (I _))]) hx hb dX6_digest_141 rfl hl (by decide) rfl (fun ls hl => ?_)
      refine lv_ldc2 hx hb hown (hts _ kl_X6_165) dX6_digest_142 ?_
      refine lv_lload_n hx hb dX6_digest_145 rfl (lv_lk hl rfl) ?_
      refine lv_lmul hx hb dX6_digest_146 ?_
      refine lv_aload_n hx hb dX6_digest_147 rfl (lv_lk hl rfl) ?_
      refine lv_iload_n hx hb dX6_digest_148 rfl (lv_lk hl rfl) ?_
      refine iv_iconst hx hb dX6_digest_149 ?_
      refine call_S (va_runV ⟨hx, hb, hml, hown, hts⟩ (m_X6_ofZone l E ρ 0 rc tl pa kd nm st hi ke tx wy i 4 (by omega) (by decide)) (cwV 2 hts (gi_V ml_X6_50 im_X6_ofZone sl_X6_ofZone it_X6 cd_X6_ofZone) rfl rfl rfl (by decide +kernel) ⟨Nat.le_of_ble_eq_true rfl, Nat.le_of_ble_eq_true rfl⟩) (pR_V (q0 := 0) (ci := 6) hP hK rfl rfl) rfl rfl hl.1 rfl (lv_room (Nat.le_of_ble_eq_true rfl)) dX6_digest_150 ⟨Nat.le_of_ble_eq_true rfl, Nat.le_of_ble_eq_true rfl⟩) (fun _ h => h) hS rfl (fun locs hS => ?_)
      refine lv_i2l hx hb dX6_digest_153 rfl ?_
      refine lv_ladd hx hb dX6_digest_154 ?_
      refine lv_mix ?_
      refine lv_lstore_n (lv' := [(1, .long _), (0, .ref _), (3, .int (I _))]) hx hb dX6_digest_155 rfl hl (by decide) rfl (fun ls hl => ?_)
      refine iv_iinc (k := 2) hx hb dX6_digest_156 hl rfl (((i + 1 : Nat) : Int)) (by omega) (by decide) [(3, .int (I _)), (1, .long _), (0, .ref _)] rfl (fun ls hl => ?_)
      refine lv_goto (tgt := 91) hx hb dX6_digest_159 (by decide) ?_
      exact ih (i + 1) (digZ st h9 i) (by omega) (by rw [iterL_s, ← hh9]) H locs ls hP hS (lv_sub hl [2, 1, 0] rfl)
  exact LOOP91 6 0 (dig0 st) (by omega) (iterL_0 _ _).symm _ _ _ hP hS (lv_sub hl [2, 1, 0] rfl)
