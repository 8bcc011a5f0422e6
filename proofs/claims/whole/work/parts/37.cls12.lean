/-! the class: acts; written by cls12.py -/
theorem drop_s {α : Type} {L : List α} {i : Nat} {a : α} (h : L[i]? = some a) : L.drop i = a :: L.drop (i + 1) := by
  obtain ⟨h1, h2⟩ := List.getElem?_eq_some_iff.mp h
  rw [List.drop_eq_getElem_cons h1, h2]
theorem acF_len : ∀ (n : Nat) (tx : S) (k : Nat) (sg nm : Int), (sg = -1 → nm = -1) → 3 * (acF n tx k sg nm).length ≤ n + (if sg = -1 then 1 else if nm = -1 then 2 else 3)
  | 0, tx, k, sg, nm, h => by
    show 3 * (if nm = -1 then [] else [(sg, nm)]).length ≤ _
    by_cases h1 : nm = -1
    · rw [if_pos h1]; exact Nat.zero_le _
    · rw [if_neg h1, if_neg (fun h2 => h1 (h h2)), if_neg h1]; exact Nat.le_refl _
  | n + 1, tx, k, sg, nm, h => by
    rw [acF]
    by_cases h1 : sg = -1
    · rw [if_pos h1, if_pos h1]
      have := acF_len n tx (k + 1) (tx k) (-1) (fun _ => rfl)
      rw [if_pos (rfl : (-1 : Int) = -1)] at this
      split at this <;> omega
    · rw [if_neg h1, if_neg h1]
      by_cases h2 : tx k = 44 ∧ nm ≠ -1
      · rw [if_pos h2, if_neg h2.2, List.length_cons]
        have := acF_len n tx (k + 1) (-1) (-1) (fun _ => rfl)
        rw [if_pos (rfl : (-1 : Int) = -1)] at this
        omega
      · rw [if_neg h2]
        have := acF_len n tx (k + 1) sg (wdg sg nm (tx k)) (fun h3 => absurd h3 h1)
        rw [if_neg h1] at this
        by_cases h3 : nm = -1
        · rw [if_pos h3]; split at this <;> omega
        · rw [if_neg h3]; split at this <;> omega
def actOk (a : Int × Int) : Prop := (a.1 = 63 ∧ 0 ≤ a.2 ∧ a.2 ≤ 35) ∨ (a.1 = 43 ∧ 1 ≤ a.2 ∧ a.2 ≤ 99)
theorem wdg_ok {sg nm c : Int} (hs : sg = 63 ∨ sg = 43) (h : wdg sg nm c ≠ -1) : actOk (sg, wdg sg nm c) := by
  unfold wdg at h ⊢
  unfold actOk
  rcases hs with rfl | rfl
  · left
    refine ⟨rfl, ?_⟩
    dsimp only at h ⊢
    (repeat split at h) <;> simp_all <;> omega
  · right
    refine ⟨rfl, ?_⟩
    dsimp only at h ⊢
    (repeat split at h) <;> simp_all <;> omega
theorem acF_ok : ∀ (n : Nat) (tx : S) (k : Nat) (sg nm : Int), ((sg = -1 ∧ nm = -1) ∨ ((sg = 63 ∨ sg = 43) ∧ (nm = -1 ∨ actOk (sg, nm)))) → pmF n tx k sg nm = -1 → ∀ a ∈ acF n tx k sg nm, actOk a
  | 0, tx, k, sg, nm, h, hp => by
    intro a ha
    have ha : a ∈ (if nm = -1 then [] else [(sg, nm)]) := ha
    by_cases h1 : nm = -1
    · rw [if_pos h1] at ha; cases ha
    · rw [if_neg h1] at ha
      rw [List.mem_singleton.mp ha]
      rcases h with ⟨_, h⟩ | ⟨_, h | h⟩
      · exact absurd h h1
      · exact absurd h h1
      · exact h
  | n + 1, tx, k, sg, nm, h, hp => by
    intro a ha
    rw [acF] at ha
    rw [pmF] at hp
    by_cases h1 : sg = -1
    · rw [if_pos h1] at ha hp
      by_cases h2 : tx k ≠ 63 ∧ tx k ≠ 43
      · rw [if_pos h2] at hp; omega
      · rw [if_neg h2] at hp
        exact acF_ok n tx (k + 1) (tx k) (-1) (Or.inr ⟨by omega, Or.inl rfl⟩) hp a ha
    · rw [if_neg h1] at ha hp
      have hs : sg = 63 ∨ sg = 43 := by rcases h with h | h; (· exact absurd h.1 h1); (· exact h.1)
      by_cases h2 : tx k = 44 ∧ nm ≠ -1
      · rw [if_pos h2] at ha hp
        rcases List.mem_cons.mp ha with h3 | h3
        · rw [h3]
          rcases h with ⟨_, h⟩ | ⟨_, h | h⟩
          · exact absurd h h2.2
          · exact absurd h h2.2
          · exact h
        · exact acF_ok n tx (k + 1) (-1) (-1) (Or.inl ⟨rfl, rfl⟩) hp a h3
      · rw [if_neg h2] at ha hp
        by_cases h3 : wdg sg nm (tx k) = -1
        · rw [if_pos h3] at hp; omega
        · rw [if_neg h3] at hp
          exact acF_ok n tx (k + 1) sg _ (Or.inr ⟨hs, Or.inr (wdg_ok hs h3)⟩) hp a ha
set_option maxHeartbeats 4000000 in
set_option maxRecDepth 100000 in
theorem m_X5_letHappen_solve (l : Launch) (E : Env3) (γ α : Nat → Nat) (β : Nat → Nat → Nat) (st : S) (sv : Nat → S) (n N ac : Int) (tx fs fn : S) (hN : ndP γ α β) (T : Int) (hI : IB T st) (k : Nat) (hk : k < 20) (r : Nat) (hr : r < 36) (h1 : fs k = 63) (h2 : fn k = (r : Int)) : Met l yX5_letHappen (Cond.code yX5_letHappen cX5_letHappen 3 (some .boolean) :: ALL) ({ frames := 5, cells := 0, slots := 0, locals := 116 }) (pR [.ref (γ 0), .int (I (k : Int))] E (pW E γ α β st sv n N ac tx fs fn)) (qW (some (.int (I 1))) E (pW E γ α β st sv n N ac tx fs fn) (pW E γ α β ((solve1 st r).1) sv n N ac tx fs fn)) 0 0 (adIn (pW E γ α β st sv n N ac tx fs fn)) := by
  refine mk_met (by decide) rfl (Nat.le_of_ble_eq_true rfl) ?_
  intro p e s m args below meth c hx hb hrt hml hts hown hlocks hnm hP hK ls hl
  have hown : s.vm.findClass RX5 = some m.cls := hown
  have hl : lv_has ls 3 [(0, .ref (γ 0)), (1, .int (I (k : Int)))] := hl
  have hD : va_D (adIn (pW E γ α β st sv n N ac tx fs fn)) (pW E γ α β st sv n N ac tx fs fn) := D_pW hN
  have hS : va_S (adIn (pW E γ α β st sv n N ac tx fs fn)) s.heap s.heap [] := va_S.rf
  have h09 := hI.1
  refine lv_aload_n hx hb dX5_letHappen_0 rfl (lv_lk hl rfl) ?_
  refine va_get (D := E.1) (ci := 5) hx hb hts inX5 hown hK.1 hP 0 rfl rfl 3 (by decide) (hts _ fl_X5_27) (fun _ h9 => h9) rfl dX5_letHappen_1 ?_
  refine va_get (D := E.1) (ci := 1) hx hb hts inX1 hown hK.1 hP 2 rfl rfl 3 (by decide) (hts _ fl_X5_282) (fun _ h9 => h9) rfl dX5_letHappen_4 ?_
  refine lv_iload_n hx hb dX5_letHappen_7 rfl (lv_lk hl rfl) ?_
  refine call_S (va_runS ⟨hx, hb, hml, hown, hts⟩ (m_X5_read l E (γ 5) 20 k fn (by omega) (by omega)) (va_cwS 2 hts (gi_S ml_X5_59 st_X5_read it_X5 cd_X5_read) rfl rfl rfl (by decide +kernel) ⟨Nat.le_of_ble_eq_true rfl, Nat.le_of_ble_eq_true rfl⟩) (pR_S (hP.sub (ws' := [(γ 5, iA E 20 fn)]) [5] rfl) hK) rfl rfl hl.1 rfl (lv_room (Nat.le_of_ble_eq_true rfl)) dX5_letHappen_8 ⟨Nat.le_of_ble_eq_true rfl, Nat.le_of_ble_eq_true rfl⟩) (fun _ h => h) hS rfl (fun locs hS => ?_)
  refine lv_istore_n (lv' := [(2, .int (I _)), (0, .ref _), (1, .int (I _))]) hx hb dX5_letHappen_11 rfl hl (by decide) rfl (fun ls hl => ?_)
  refine lv_aload_n hx hb dX5_letHappen_12 rfl (lv_lk hl rfl) ?_
  refine va_get (D := E.1) (ci := 5) hx hb hts inX5 hown hK.1 hP 0 rfl rfl 3 (by decide) (hts _ fl_X5_27) (fun _ h9 => h9) rfl dX5_letHappen_13 ?_
  refine va_get (D := E.1) (ci := 1) hx hb hts inX1 hown hK.1 hP 2 rfl rfl 2 (by decide) (hts _ fl_X5_285) (fun _ h9 => h9) rfl dX5_letHappen_16 ?_
  refine lv_iload_n hx hb dX5_letHappen_19 rfl (lv_lk hl rfl) ?_
  refine call_S (va_runS ⟨hx, hb, hml, hown, hts⟩ (m_X5_read l E (γ 4) 20 k fs (by omega) (by omega)) (va_cwS 2 hts (gi_S ml_X5_59 st_X5_read it_X5 cd_X5_read) rfl rfl rfl (by decide +kernel) ⟨Nat.le_of_ble_eq_true rfl, Nat.le_of_ble_eq_true rfl⟩) (pR_S (hP.sub (ws' := [(γ 4, iA E 20 fs)]) [4] rfl) hK) rfl rfl hl.1 rfl (lv_room (Nat.le_of_ble_eq_true rfl)) dX5_letHappen_20 ⟨Nat.le_of_ble_eq_true rfl, Nat.le_of_ble_eq_true rfl⟩) (fun _ h => h) hS rfl (fun locs hS => ?_)
  refine iv_bipush hx hb dX5_letHappen_23 (by decide +kernel) ?_
  refine iv_icmp_ne (tgt := 39) hx hb dX5_letHappen_25 (by decide) (by omega) (by omega) (fun c_25 => by exfalso; omega) (fun c_25 => ?_)
  refine lv_aload_n hx hb dX5_letHappen_28 rfl (lv_lk hl rfl) ?_
  refine va_get (D := E.1) (ci := 5) hx hb hts inX5 hown hK.1 hP 0 rfl rfl 0 (by decide) (hts _ fl_X5_10) (fun _ h9 => h9) rfl dX5_letHappen_29 ?_
  refine lv_iload_n hx hb dX5_letHappen_32 rfl (lv_lk hl rfl) ?_
  refine iv_eq ((r : Int)) (h2) ?_
  refine call_M (X := (hdW E γ (α 0) [β 0 0, β 1 0, β 2 0, β 3 0, β 4 0, β 5 0] n N ac tx fs fn)) (Y := (stW E α st)) (Z := (svS E β sv)) (Y1 := (stW E α ((solve1 st r).1))) (va_runV ⟨hx, hb, hml, hown, hts⟩ (m_X3_findResult l E α st (ndP_dR hN) T hI r hr) (cwV 1 hts (gi_V ml_X5_100 im_X3_findResult sl_X3_findResult it_X3 cd_X3_findResult) rfl rfl rfl (by decide +kernel) ⟨Nat.le_of_ble_eq_true rfl, Nat.le_of_ble_eq_true rfl⟩) (pR_V (q0 := 0) (ci := 3) (hP.sub (ws' := (stW E α st)) [6, 7, 8, 9, 10, 11, 12, 13, 14, 15, 16, 17, 18, 19, 20, 21] rfl) hK rfl rfl) rfl rfl hl.1 rfl (lv_room (Nat.le_of_ble_eq_true rfl)) dX5_letHappen_33 ⟨Nat.le_of_ble_eq_true rfl, Nat.le_of_ble_eq_true rfl⟩) hP (dm hD rfl) hS rfl (fun H locs hP hS => ?_)
  have hP : va_P E.1 vwCl (pW E γ α β ((solve1 st r).1) sv n N ac tx fs fn) H := hP
  refine lv_pop hx hb dX5_letHappen_36 rfl ?_
  refine iv_iconst hx hb dX5_letHappen_37 ?_
  exact W.zret (ty := .boolean) hx hb hrt (by rfl) (fun t ht hW => ⟨rfl, by rw [ht]; exact hP, hS.F ht⟩) hS.2.2 dX5_letHappen_38 hlocks
set_option maxHeartbeats 4000000 in
set_option maxRecDepth 100000 in
theorem m_X5_letHappen_pass (l : Launch) (E : Env3) (γ α : Nat → Nat) (β : Nat → Nat → Nat) (st : S) (sv : Nat → S) (n N ac : Int) (tx fs fn : S) (hN : ndP γ α β) (T : Int) (hI : IB T st) (k : Nat) (hk : k < 20) (v : Int) (hv : 1 ≤ v ∧ v ≤ 99) (h1 : fs k = 43) (h2 : fn k = v) (hT : T ≤ 99900) (h9 : st 0 + v ≤ 9999) : Met l yX5_letHappen (Cond.code yX5_letHappen cX5_letHappen 3 (some .boolean) :: ALL) ({ frames := 5, cells := 0, slots := 0, locals := 116 }) (pR [.ref (γ 0), .int (I (k : Int))] E (pW E γ α β st sv n N ac tx fs fn)) (qW (some (.int (I 1))) E (pW E γ α β st sv n N ac tx fs fn) (pW E γ α β (passes st v) sv n N ac tx fs fn)) 0 0 (adIn (pW E γ α β st sv n N ac tx fs fn)) := by
  refine mk_met (by decide) rfl (Nat.le_of_ble_eq_true rfl) ?_
  intro p e s m args below meth c hx hb hrt hml hts hown hlocks hnm hP hK ls hl
  have hown : s.vm.findClass RX5 = some m.cls := hown
  have hl : lv_has ls 3 [(0, .ref (γ 0)), (1, .int (I (k : Int)))] := hl
  have hD : va_D (adIn (pW E γ α β st sv n N ac tx fs fn)) (pW E γ α β st sv n N ac tx fs fn) := D_pW hN
  have hS : va_S (adIn (pW E γ α β st sv n N ac tx fs fn)) s.heap s.heap [] := va_S.rf
  have h09 := hI.1
  refine lv_aload_n hx hb dX5_letHappen_0 rfl (lv_lk hl rfl) ?_
  refine va_get (D := E.1) (ci := 5) hx hb hts inX5 hown hK.1 hP 0 rfl rfl 3 (by decide) (hts _ fl_X5_27) (fun _ h9 => h9) rfl dX5_letHappen_1 ?_
  refine va_get (D := E.1) (ci := 1) hx hb hts inX1 hown hK.1 hP 2 rfl rfl 3 (by decide) (hts _ fl_X5_282) (fun _ h9 => h9) rfl dX5_letHappen_4 ?_
  refine lv_iload_n hx hb dX5_letHappen_7 rfl (lv_lk hl rfl) ?_
  refine call_S (va_runS ⟨hx, hb, hml, hown, hts⟩ (m_X5_read l E (γ 5) 20 k fn (by omega) (by omega)) (va_cwS 2 hts (gi_S ml_X5_59 st_X5_read it_X5 cd_X5_read) rfl rfl rfl (by decide +kernel) ⟨Nat.le_of_ble_eq_true rfl, Nat.le_of_ble_eq_true rfl⟩) (pR_S (hP.sub (ws' := [(γ 5, iA E 20 fn)]) [5] rfl) hK) rfl rfl hl.1 rfl (lv_room (Nat.le_of_ble_eq_true rfl)) dX5_letHappen_8 ⟨Nat.le_of_ble_eq_true rfl, Nat.le_of_ble_eq_true rfl⟩) (fun _ h => h) hS rfl (fun locs hS => ?_)
  refine lv_istore_n (lv' := [(2, .int (I _)), (0, .ref _), (1, .int (I _))]) hx hb dX5_letHappen_11 rfl hl (by decide) rfl (fun ls hl => ?_)
  refine lv_aload_n hx hb dX5_letHappen_12 rfl (lv_lk hl rfl) ?_
  refine va_get (D := E.1) (ci := 5) hx hb hts inX5 hown hK.1 hP 0 rfl rfl 3 (by decide) (hts _ fl_X5_27) (fun _ h9 => h9) rfl dX5_letHappen_13 ?_
  refine va_get (D := E.1) (ci := 1) hx hb hts inX1 hown hK.1 hP 2 rfl rfl 2 (by decide) (hts _ fl_X5_285) (fun _ h9 => h9) rfl dX5_letHappen_16 ?_
  refine lv_iload_n hx hb dX5_letHappen_19 rfl (lv_lk hl rfl) ?_
  refine call_S (va_runS ⟨hx, hb, hml, hown, hts⟩ (m_X5_read l E (γ 4) 20 k fs (by omega) (by omega)) (va_cwS 2 hts (gi_S ml_X5_59 st_X5_read it_X5 cd_X5_read) rfl rfl rfl (by decide +kernel) ⟨Nat.le_of_ble_eq_true rfl, Nat.le_of_ble_eq_true rfl⟩) (pR_S (hP.sub (ws' := [(γ 4, iA E 20 fs)]) [4] rfl) hK) rfl rfl hl.1 rfl (lv_room (Nat.le_of_ble_eq_true rfl)) dX5_letHappen_20 ⟨Nat.le_of_ble_eq_true rfl, Nat.le_of_ble_eq_true rfl⟩) (fun _ h => h) hS rfl (fun locs hS => ?_)
  refine iv_bipush hx hb dX5_letHappen_23 (by decide +kernel) ?_
  refine iv_icmp_ne (tgt := 39) hx hb dX5_letHappen_25 (by decide) (by omega) (by omega) (fun c_25 => ?_) (fun c_25 => by exfalso; omega)
  refine lv_aload_n hx hb dX5_letHappen_39 rfl (lv_lk hl rfl) ?_
  refine va_get (D := E.1) (ci := 5) hx hb hts inX5 hown hK.1 hP 0 rfl rfl 0 (by decide) (hts _ fl_X5_10) (fun _ h9 => h9) rfl dX5_letHappen_40 ?_
  refine lv_iload_n hx hb dX5_letHappen_43 rfl (lv_lk hl rfl) ?_
  refine iv_eq (v) (h2) ?_
  refine call_S (va_runV ⟨hx, hb, hml, hown, hts⟩ (m_X3_hasRoomFor l E α st v (by omega) (by omega)) (cwV 1 hts (gi_V ml_X5_111 im_X3_hasRoomFor sl_X3_hasRoomFor it_X3 cd_X3_hasRoomFor) rfl rfl rfl (by decide +kernel) ⟨Nat.le_of_ble_eq_true rfl, Nat.le_of_ble_eq_true rfl⟩) (pR_V (q0 := 0) (ci := 3) (hP.sub (ws' := (stW E α st)) [6, 7, 8, 9, 10, 11, 12, 13, 14, 15, 16, 17, 18, 19, 20, 21] rfl) hK rfl rfl) rfl rfl hl.1 rfl (lv_room (Nat.le_of_ble_eq_true rfl)) dX5_letHappen_44 ⟨Nat.le_of_ble_eq_true rfl, Nat.le_of_ble_eq_true rfl⟩) (fun _ h => h) hS rfl (fun locs hS => ?_)
  refine iv_eq (1) (by rw [if_pos h9]) ?_
  refine iv_if_ne (tgt := 52) hx hb dX5_letHappen_47 (by decide) (by omega) (fun c_47 => ?_) (fun c_47 => by exfalso; omega)
  refine lv_aload_n hx hb dX5_letHappen_52 rfl (lv_lk hl rfl) ?_
  refine va_get (D := E.1) (ci := 5) hx hb hts inX5 hown hK.1 hP 0 rfl rfl 0 (by decide) (hts _ fl_X5_10) (fun _ h9 => h9) rfl dX5_letHappen_53 ?_
  refine lv_iload_n hx hb dX5_letHappen_56 rfl (lv_lk hl rfl) ?_
  refine iv_eq (v) (h2) ?_
  refine call_M (X := (hdW E γ (α 0) [β 0 0, β 1 0, β 2 0, β 3 0, β 4 0, β 5 0] n N ac tx fs fn)) (Y := (stW E α st)) (Z := (svS E β sv)) (Y1 := (stW E α (passes st v))) (va_runV ⟨hx, hb, hml, hown, hts⟩ (m_X3_letPass l E α st (ndP_dR hN) T hI v (by omega)) (cwV 1 hts (gi_V ml_X5_117 im_X3_letPass sl_X3_letPass it_X3 cd_X3_letPass) rfl rfl rfl (by decide +kernel) ⟨Nat.le_of_ble_eq_true rfl, Nat.le_of_ble_eq_true rfl⟩) (pR_V (q0 := 0) (ci := 3) (hP.sub (ws' := (stW E α st)) [6, 7, 8, 9, 10, 11, 12, 13, 14, 15, 16, 17, 18, 19, 20, 21] rfl) hK rfl rfl) rfl rfl hl.1 rfl (lv_room (Nat.le_of_ble_eq_true rfl)) dX5_letHappen_57 ⟨Nat.le_of_ble_eq_true rfl, Nat.le_of_ble_eq_true rfl⟩) hP (dm hD rfl) hS rfl (fun H locs hP hS => ?_)
  have hP : va_P E.1 vwCl (pW E γ α β (passes st v) sv n N ac tx fs fn) H := hP
  refine lv_pop hx hb dX5_letHappen_60 rfl ?_
  refine iv_iconst hx hb dX5_letHappen_61 ?_
  exact W.zret (ty := .boolean) hx hb hrt (by rfl) (fun t ht hW => ⟨rfl, by rw [ht]; exact hP, hS.F ht⟩) hS.2.2 dX5_letHappen_62 hlocks
set_option maxHeartbeats 4000000 in
set_option maxRecDepth 100000 in
theorem m_X5_letHappen_no (l : Launch) (E : Env3) (γ α : Nat → Nat) (β : Nat → Nat → Nat) (st : S) (sv : Nat → S) (n N ac : Int) (tx fs fn : S) (hN : ndP γ α β) (T : Int) (hI : IB T st) (k : Nat) (hk : k < 20) (v : Int) (hv : 1 ≤ v ∧ v ≤ 99) (h1 : fs k = 43) (h2 : fn k = v) (h9 : ¬ st 0 + v ≤ 9999) : Met l yX5_letHappen (Cond.code yX5_letHappen cX5_letHappen 3 (some .boolean) :: ALL) ({ frames := 5, cells := 0, slots := 0, locals := 116 }) (pR [.ref (γ 0), .int (I (k : Int))] E (pW E γ α β st sv n N ac tx fs fn)) (qW (some (.int (I 0))) E (pW E γ α β st sv n N ac tx fs fn) (pW E γ α β st sv n N ac tx fs fn)) 0 0 (adIn (pW E γ α β st sv n N ac tx fs fn)) := by
  refine mk_met (by decide) rfl (Nat.le_of_ble_eq_true rfl) ?_
  intro p e s m args below meth c hx hb hrt hml hts hown hlocks hnm hP hK ls hl
  have hown : s.vm.findClass RX5 = some m.cls := hown
  have hl : lv_has ls 3 [(0, .ref (γ 0)), (1, .int (I (k : Int)))] := hl
  have hD : va_D (adIn (pW E γ α β st sv n N ac tx fs fn)) (pW E γ α β st sv n N ac tx fs fn) := D_pW hN
  have hS : va_S (adIn (pW E γ α β st sv n N ac tx fs fn)) s.heap s.heap [] := va_S.rf
  have h09 := hI.1
  refine lv_aload_n hx hb dX5_letHappen_0 rfl (lv_lk hl rfl) ?_
  refine va_get (D := E.1) (ci := 5) hx hb hts inX5 hown hK.1 hP 0 rfl rfl 3 (by decide) (hts _ fl_X5_27) (fun _ h9 => h9) rfl dX5_letHappen_1 ?_
  refine va_get (D := E.1) (ci := 1) hx hb hts inX1 hown hK.1 hP 2 rfl rfl 3 (by decide) (hts _ fl_X5_282) (fun _ h9 => h9) rfl dX5_letHappen_4 ?_
  refine lv_iload_n hx hb dX5_letHappen_7 rfl (lv_lk hl rfl) ?_
  refine call_S (va_runS ⟨hx, hb, hml, hown, hts⟩ (m_X5_read l E (γ 5) 20 k fn (by omega) (by omega)) (va_cwS 2 hts (gi_S ml_X5_59 st_X5_read it_X5 cd_X5_read) rfl rfl rfl (by decide +kernel) ⟨Nat.le_of_ble_eq_true rfl, Nat.le_of_ble_eq_true rfl⟩) (pR_S (hP.sub (ws' := [(γ 5, iA E 20 fn)]) [5] rfl) hK) rfl rfl hl.1 rfl (lv_room (Nat.le_of_ble_eq_true rfl)) dX5_letHappen_8 ⟨Nat.le_of_ble_eq_true rfl, Nat.le_of_ble_eq_true rfl⟩) (fun _ h => h) hS rfl (fun locs hS => ?_)
  refine lv_istore_n (lv' := [(2, .int (I _)), (0, .ref _), (1, .int (I _))]) hx hb dX5_letHappen_11 rfl hl (by decide) rfl (fun ls hl => ?_)
  refine lv_aload_n hx hb dX5_letHappen_12 rfl (lv_lk hl rfl) ?_
  refine va_get (D := E.1) (ci := 5) hx hb hts inX5 hown hK.1 hP 0 rfl rfl 3 (by decide) (hts _ fl_X5_27) (fun _ h9 => h9) rfl dX5_letHappen_13 ?_
  refine va_get (D := E.1) (ci := 1) hx hb hts inX1 hown hK.1 hP 2 rfl rfl 2 (by decide) (hts _ fl_X5_285) (fun _ h9 => h9) rfl dX5_letHappen_16 ?_
  refine lv_iload_n hx hb dX5_letHappen_19 rfl (lv_lk hl rfl) ?_
  refine call_S (va_runS ⟨hx, hb, hml, hown, hts⟩ (m_X5_read l E (γ 4) 20 k fs (by omega) (by omega)) (va_cwS 2 hts (gi_S ml_X5_59 st_X5_read it_X5 cd_X5_read) rfl rfl rfl (by decide +kernel) ⟨Nat.le_of_ble_eq_true rfl, Nat.le_of_ble_eq_true rfl⟩) (pR_S (hP.sub (ws' := [(γ 4, iA E 20 fs)]) [4] rfl) hK) rfl rfl hl.1 rfl (lv_room (Nat.le_of_ble_eq_true rfl)) dX5_letHappen_20 ⟨Nat.le_of_ble_eq_true rfl, Nat.le_of_ble_eq_true rfl⟩) (fun _ h => h) hS rfl (fun locs hS => ?_)
  refine iv_bipush hx hb dX5_letHappen_23 (by decide +kernel) ?_
  refine iv_icmp_ne (tgt := 39) hx hb dX5_letHappen_25 (by decide) (by omega) (by omega) (fun c_25 => ?_) (fun c_25 => by exfalso; omega)
  refine lv_aload_n hx hb dX5_letHappen_39 rfl (lv_lk hl rfl) ?_
  refine va_get (D := E.1) (ci := 5) hx hb hts inX5 hown hK.1 hP 0 rfl rfl 0 (by decide) (hts _ fl_X5_10) (fun _ h9 => h9) rfl dX5_letHappen_40 ?_
  refine lv_iload_n hx hb dX5_letHappen_43 rfl (lv_lk hl rfl) ?_
  refine iv_eq (v) (h2) ?_
  refine call_S (va_runV ⟨hx, hb, hml, hown, hts⟩ (m_X3_hasRoomFor l E α st v (by omega) (by omega)) (cwV 1 hts (gi_V ml_X5_111 im_X3_hasRoomFor sl_X3_hasRoomFor it_X3 cd_X3_hasRoomFor) rfl rfl rfl (by decide +kernel) ⟨Nat.le_of_ble_eq_true rfl, Nat.le_of_ble_eq_true rfl⟩) (pR_V (q0 := 0) (ci := 3) (hP.sub (ws' := (stW E α st)) [6, 7, 8, 9, 10, 11, 12, 13, 14, 15, 16, 17, 18, 19, 20, 21] rfl) hK rfl rfl) rfl rfl hl.1 rfl (lv_room (Nat.le_of_ble_eq_true rfl)) dX5_letHappen_44 ⟨Nat.le_of_ble_eq_true rfl, Nat.le_of_ble_eq_true rfl⟩) (fun _ h => h) hS rfl (fun locs hS => ?_)
  refine iv_eq (0) (by rw [if_neg h9]) ?_
  refine iv_if_ne (tgt := 52) hx hb dX5_letHappen_47 (by decide) (by omega) (fun c_47 => by exfalso; omega) (fun c_47 => ?_)
  refine iv_iconst hx hb dX5_letHappen_50 ?_
  exact W.zret (ty := .boolean) hx hb hrt (by rfl) (fun t ht hW => ⟨rfl, by rw [ht]; exact hP, hS.F ht⟩) hS.2.2 dX5_letHappen_51 hlocks
set_option maxHeartbeats 4000000 in
set_option maxRecDepth 100000 in
theorem m_X5_runActs_ok (l : Launch) (E : Env3) (γ α : Nat → Nat) (β : Nat → Nat → Nat) (st : S) (sv : Nat → S) (N : Nat) (ac : Int) (tx fs fn : S) (hN : ndP γ α β) (n : Nat) (hn : n ≤ 6) (hB : txB N tx) (hI : IB 9999 st) (hp0 : pmF N tx 0 (-1) (-1) = -1) : Met l yX5_runActs (Cond.code yX5_runActs cX5_runActs 2 (some .int) :: ALL) ({ frames := 6, cells := 0, slots := 0, locals := 148 }) (pR [.ref (γ 0)] E (pW E γ α β st sv ((n : Int)) ((N : Int)) ac tx fs fn)) (qX (some (.int (I (runA (acF N tx 0 (-1) (-1)) st).2))) E (pW E γ α β st sv ((n : Int)) ((N : Int)) ac tx fs fn) (fun (g : {g : Nat × S × S // pmF N tx 0 (-1) (-1) = -1 → actsR (acF N tx 0 (-1) (-1)) g.1 g.2.1 g.2.2}) => (pW E γ α (bN β n) ((runA (acF N tx 0 (-1) (-1)) st).1) (sN sv st n) (((recN n : Nat) : Int)) 0 ((g.1.1 : Int)) tx g.1.2.1 g.1.2.2))) 0 0 (adIn (pW E γ α β st sv ((n : Int)) ((N : Int)) ac tx fs fn)) := by
  refine mk_met (by decide) rfl (Nat.le_of_ble_eq_true rfl) ?_
  intro p e s m args below meth c hx hb hrt hml hts hown hlocks hnm hP hK ls hl
  have hown : s.vm.findClass RX5 = some m.cls := hown
  have hl : lv_has ls 2 [(0, .ref (γ 0))] := hl
  have hD : va_D (adIn (pW E γ α β st sv ((n : Int)) ((N : Int)) ac tx fs fn)) (pW E γ α β st sv ((n : Int)) ((N : Int)) ac tx fs fn) := D_pW hN
  have hS : va_S (adIn (pW E γ α β st sv ((n : Int)) ((N : Int)) ac tx fs fn)) s.heap s.heap [] := va_S.rf
  refine lv_aload_n hx hb dX5_runActs_0 rfl (lv_lk hl rfl) ?_
  refine va_get (D := E.1) (ci := 5) hx hb hts inX5 hown hK.1 hP 0 rfl rfl 3 (by decide) (hts _ fl_X5_27) (fun _ h9 => h9) rfl dX5_runActs_1 ?_
  refine call_XM (X := (oB E γ (α 0) [β 0 0, β 1 0, β 2 0, β 3 0, β 4 0, β 5 0] ((n : Int)))) (Y := [(γ 2, .inr (1, [.ref (γ 3), .int (I ((N : Int))), .ref (γ 4), .ref (γ 5), .int (I ac)])), (γ 3, iA E 60 tx), (γ 4, iA E 20 fs), (γ 5, iA E 20 fn)]) (Z := (stW E α st ++ (svS E β sv))) (va_runV ⟨hx, hb, hml, hown, hts⟩ (m_X1_readActs l E (γ 2) (γ 3) (γ 4) (γ 5) N ac tx fs fn (((dm (ws' := (pW E γ α β st sv ((n : Int)) ((N : Int)) ac tx fs fn)) hD rfl).sub (ws' := [(γ 2, .inr (1, [.ref (γ 3), .int (I ((N : Int))), .ref (γ 4), .ref (γ 5), .int (I ac)])), (γ 3, iA E 60 tx), (γ 4, iA E 20 fs), (γ 5, iA E 20 fn)]) [2, 3, 4, 5] (by decide) rfl).weaken (fun _ _ _ _ => trivial)) hB) (cwV 0 hts (gi_V ml_X5_193 im_X1_readActs sl_X1_readActs it_X1 cd_X1_readActs) rfl rfl rfl (by decide +kernel) ⟨Nat.le_of_ble_eq_true rfl, Nat.le_of_ble_eq_true rfl⟩) (pR_V (q0 := 0) (ci := 1) (hP.sub (ws' := [(γ 2, .inr (1, [.ref (γ 3), .int (I ((N : Int))), .ref (γ 4), .ref (γ 5), .int (I ac)])), (γ 3, iA E 60 tx), (γ 4, iA E 20 fs), (γ 5, iA E 20 fn)]) [2, 3, 4, 5] rfl) hK rfl rfl) rfl rfl hl.1 rfl (lv_room (Nat.le_of_ble_eq_true rfl)) dX5_runActs_4 ⟨Nat.le_of_ble_eq_true rfl, Nat.le_of_ble_eq_true rfl⟩) hP (dm hD rfl) hS rfl (fun g1 H locs hP hS => ?_)
  have hP : va_P E.1 vwCl (pW E γ α β st sv ((n : Int)) ((N : Int)) ((g1.1.1 : Int)) tx g1.1.2.1 g1.1.2.2) H := hP
  refine iv_iconst hx hb dX5_runActs_7 ?_
  refine iv_icmp_eq (tgt := 21) hx hb dX5_runActs_8 (by decide) (by omega) (by omega) (fun c_8 => ?_) (fun c_8 => by exfalso; omega)
  refine lv_aload_n hx hb dX5_runActs_21 rfl (lv_lk hl rfl) ?_
  refine call_F (va_runV ⟨hx, hb, hml, hown, hts⟩ (m_X5_save l E γ α β st sv N (g1.1.1 : Int) tx g1.1.2.1 g1.1.2.2 hN n hn) (cwV 0 hts (gi_V ml_X5_46 im_X5_save sl_X5_save it_X5 cd_X5_save) rfl rfl rfl (by decide +kernel) ⟨Nat.le_of_ble_eq_true rfl, Nat.le_of_ble_eq_true rfl⟩) (pR_V (q0 := 0) (ci := 5) hP hK rfl rfl) rfl rfl hl.1 rfl (lv_room (Nat.le_of_ble_eq_true rfl)) dX5_runActs_22 ⟨Nat.le_of_ble_eq_true rfl, Nat.le_of_ble_eq_true rfl⟩) (dm hD rfl) hS rfl (fun H locs hP hS => ?_)
  have hP : va_P E.1 vwCl (pW E γ α (bN β n) st (sN sv st n) (((recN n : Nat) : Int)) ((N : Int)) ((g1.1.1 : Int)) tx g1.1.2.1 g1.1.2.2) H := hP
  have hD : va_D (adIn (pW E γ α β st sv ((n : Int)) ((N : Int)) ac tx fs fn)) (pW E γ α (bN β n) st (sN sv st n) (((recN n : Nat) : Int)) ((N : Int)) ((g1.1.1 : Int)) tx g1.1.2.1 g1.1.2.2) := D_bN hN n
  have hA := g1.2 hp0
  have hlen := acF_len N tx 0 (-1) (-1) (fun _ => rfl)
  rw [if_pos rfl] at hlen
  have hk1 := hA.1
  have hN9 := ndP_bN hN n
  have hB0 := hB.1
  refine iv_iconst hx hb dX5_runActs_25 ?_
  refine lv_istore_n (lv' := [(1, .int (I _)), (0, .ref _)]) hx hb dX5_runActs_26 rfl hl (by decide) rfl (fun ls hl => ?_)
  have LOOP27 : ∀ (n9 i : Nat) (s1 : S), (i + n9 = g1.1.1) → (IB 9999 s1) → ((i : Int) + (runA ((acF N tx 0 (-1) (-1)).drop i) s1).2 = (runA (acF N tx 0 (-1) (-1)) st).2) → ((runA ((acF N tx 0 (-1) (-1)).drop i) s1).1 = (runA (acF N tx 0 (-1) (-1)) st).1) → ∀ (H : Heap) (locs : List Loc) (ls : Array Slot), va_P E.1 vwCl (pW E γ α (bN β n) s1 (sN sv st n) (((recN n : Nat) : Int)) ((N : Int)) ((g1.1.1 : Int)) tx g1.1.2.1 g1.1.2.2) H → va_S (adIn (pW E γ α β st sv ((n : Int)) ((N : Int)) ac tx fs fn)) s.heap H locs → lv_has ls 2 [(0, .ref (γ 0)), (1, .int (I (i : Int)))] → W p l e ({ frames := 6, cells := 0, slots := 0, locals := 148 }) s m args below meth c H locs 0 0 (MQ below (qX (some (.int (I (runA (acF N tx 0 (-1) (-1)) st).2))) E (pW E γ α β st sv ((n : Int)) ((N : Int)) ac tx fs fn) (fun (g : {g : Nat × S × S // pmF N tx 0 (-1) (-1) = -1 → actsR (acF N tx 0 (-1) (-1)) g.1 g.2.1 g.2.2}) => (pW E γ α (bN β n) ((runA (acF N tx 0 (-1) (-1)) st).1) (sN sv st n) (((recN n : Nat) : Int)) 0 ((g.1.1 : Int)) tx g.1.2.1 g.1.2.2))) args s 0 0 (adIn (pW E γ α β st sv ((n : Int)) ((N : Int)) ac tx fs fn))) (F0 m 27 ls []) := by
    intro n9
    induction n9 with
    | zero =>
      intro  i s1 hi9 hI1 he9 he8 H locs ls hP hS hl
      obtain rfl : i = g1.1.1 := by omega
      have hdr : (acF N tx 0 (-1) (-1)).drop g1.1.1 = [] := List.drop_eq_nil_of_le (by omega)
      rw [hdr] at he9 he8
      refine lv_iload_n hx hb dX5_runActs_27 rfl (lv_lk hl rfl) ?_
      refine lv_aload_n hx hb dX5_runActs_28 rfl (lv_lk hl rfl) ?_
      refine va_get (D := E.1) (ci := 5) hx hb hts inX5 hown hK.1 hP 0 rfl rfl 3 (by decide) (hts _ fl_X5_27) (fun _ h9 => h9) rfl dX5_runActs_29 ?_
      refine va_get (D := E.1) (ci := 1) hx hb hts inX1 hown hK.1 hP 2 rfl rfl 4 (by decide) (hts _ fl_X5_198) (fun _ h9 => h9) rfl dX5_runActs_32 ?_
      refine iv_icmp_ge (tgt := 52) hx hb dX5_runActs_35 (by decide) (by omega) (by omega) (fun c_35 => ?_) (fun c_35 => by exfalso; omega)
      refine lv_aload_n hx hb dX5_runActs_52 rfl (lv_lk hl rfl) ?_
      refine va_get (D := E.1) (ci := 5) hx hb hts inX5 hown hK.1 hP 0 rfl rfl 3 (by decide) (hts _ fl_X5_27) (fun _ h9 => h9) rfl dX5_runActs_53 ?_
      refine iv_iconst hx hb dX5_runActs_56 ?_
      refine va_put (ci := 1) (ty := .int) hx hb hts inX1 tyX1 tyX1_ok nmX1 hown hK.1 hP (dm hD rfl) hS 2 rfl rfl 1 (by decide) (hts _ fl_X5_185) (fun _ h9 => h9) rfl (by decide +kernel) rfl rfl (Nat.le_of_ble_eq_true rfl) dX5_runActs_57 (fun H locs hP _ hS => ?_)
      have hP : va_P E.1 vwCl (pW E γ α (bN β n) s1 (sN sv st n) (((recN n : Nat) : Int)) 0 ((g1.1.1 : Int)) tx g1.1.2.1 g1.1.2.2) H := hP
      refine lv_iload_n hx hb dX5_runActs_60 rfl (lv_lk hl rfl) ?_
      refine iv_eq ((runA (acF N tx 0 (-1) (-1)) st).2) (by rw [← he9]; exact (Int.add_zero _).symm) ?_
      exact W.iret hx hb hrt (fun t ht hW => ⟨rfl, ⟨g1, by rw [ht]; exact (by rw [← he8]; exact hP)⟩, hS.F ht⟩) hS.2.2 dX5_runActs_61 hlocks
    | succ n9 ih =>
      intro  i s1 hi9 hI1 he9 he8 H locs ls hP hS hl
      refine lv_iload_n hx hb dX5_runActs_27 rfl (lv_lk hl rfl) ?_
      refine lv_aload_n hx hb dX5_runActs_28 rfl (lv_lk hl rfl) ?_
      refine va_get (D := E.1) (ci := 5) hx hb hts inX5 hown hK.1 hP 0 rfl rfl 3 (by decide) (hts _ fl_X5_27) (fun _ h9 => h9) rfl dX5_runActs_29 ?_
      refine va_get (D := E.1) (ci := 1) hx hb hts inX1 hown hK.1 hP 2 rfl rfl 4 (by decide) (hts _ fl_X5_198) (fun _ h9 => h9) rfl dX5_runActs_32 ?_
      refine iv_icmp_ge (tgt := 52) hx hb dX5_runActs_35 (by decide) (by omega) (by omega) (fun c_35 => by exfalso; omega) (fun c_35 => ?_)
      have ha9 := hA.2 i (by omega)
      have hdr := drop_s ha9
      rw [hdr] at he9 he8
      have hok := acF_ok N tx 0 (-1) (-1) (Or.inl ⟨rfl, rfl⟩) hp0 _ (List.mem_of_getElem? ha9)
      rcases hok with ⟨h1, h2, h3⟩ | ⟨h1, h2, h3⟩
      · refine lv_aload_n hx hb dX5_runActs_38 rfl (lv_lk hl rfl) ?_
        refine lv_iload_n hx hb dX5_runActs_39 rfl (lv_lk hl rfl) ?_
        refine call_F (va_runV ⟨hx, hb, hml, hown, hts⟩ (m_X5_letHappen_solve l E γ α (bN β n) s1 (sN sv st n) ((recN n : Nat) : Int) (N : Int) (g1.1.1 : Int) tx g1.1.2.1 g1.1.2.2 hN9 9999 hI1 i (by omega) (g1.1.2.2 i).toNat (by dsimp only at h2 h3; omega) h1 (by dsimp only at h2 h3; omega)) (cwV 1 hts (gi_V ml_X5_201 im_X5_letHappen sl_X5_letHappen it_X5 cd_X5_letHappen) rfl rfl rfl (by decide +kernel) ⟨Nat.le_of_ble_eq_true rfl, Nat.le_of_ble_eq_true rfl⟩) (pR_V (q0 := 0) (ci := 5) hP hK rfl rfl) rfl rfl hl.1 rfl (lv_room (Nat.le_of_ble_eq_true rfl)) dX5_runActs_40 ⟨Nat.le_of_ble_eq_true rfl, Nat.le_of_ble_eq_true rfl⟩) (dm hD rfl) hS rfl (fun H locs hP hS => ?_)
        have hP : va_P E.1 vwCl (pW E γ α (bN β n) ((solve1 s1 (g1.1.2.2 i).toNat).1) (sN sv st n) (((recN n : Nat) : Int)) ((N : Int)) ((g1.1.1 : Int)) tx g1.1.2.1 g1.1.2.2) H := hP
        refine iv_if_eq (tgt := 52) hx hb dX5_runActs_43 (by decide) (by omega) (fun c_43 => by exfalso; omega) (fun c_43 => ?_)
        refine iv_iinc (k := 1) hx hb dX5_runActs_46 hl rfl (((i + 1 : Nat) : Int)) (by omega) (by decide) [(1, .int (I _)), (0, .ref _)] rfl (fun ls hl => ?_)
        refine lv_goto (tgt := 27) hx hb dX5_runActs_49 (by decide) ?_
        exact ih (i + 1) ((solve1 s1 (g1.1.2.2 i).toNat).1) (by omega) (IB_solve1 hI1 (by dsimp only at h2 h3; omega)) (by rw [← he9, runA, if_pos (Or.inl h1)]; show _ = (i : Int) + (1 + (runA _ (actSt s1 _)).2); rw [actSt, if_pos h1]; dsimp only; omega) (by rw [← he8, runA, if_pos (Or.inl h1)]; show _ = (runA _ (actSt s1 _)).1; rw [actSt, if_pos h1]) H locs ls hP hS (lv_sub hl [1, 0] rfl)
      · refine lv_aload_n hx hb dX5_runActs_38 rfl (lv_lk hl rfl) ?_
        refine lv_iload_n hx hb dX5_runActs_39 rfl (lv_lk hl rfl) ?_
        by_cases h9 : s1 0 + g1.1.2.2 i ≤ 9999
        · refine call_F (va_runV ⟨hx, hb, hml, hown, hts⟩ (m_X5_letHappen_pass l E γ α (bN β n) s1 (sN sv st n) ((recN n : Nat) : Int) (N : Int) (g1.1.1 : Int) tx g1.1.2.1 g1.1.2.2 hN9 9999 hI1 i (by omega) (g1.1.2.2 i) ⟨h2, h3⟩ h1 rfl (by omega) h9) (cwV 1 hts (gi_V ml_X5_201 im_X5_letHappen sl_X5_letHappen it_X5 cd_X5_letHappen) rfl rfl rfl (by decide +kernel) ⟨Nat.le_of_ble_eq_true rfl, Nat.le_of_ble_eq_true rfl⟩) (pR_V (q0 := 0) (ci := 5) hP hK rfl rfl) rfl rfl hl.1 rfl (lv_room (Nat.le_of_ble_eq_true rfl)) dX5_runActs_40 ⟨Nat.le_of_ble_eq_true rfl, Nat.le_of_ble_eq_true rfl⟩) (dm hD rfl) hS rfl (fun H locs hP hS => ?_)
          have hP : va_P E.1 vwCl (pW E γ α (bN β n) (passes s1 (g1.1.2.2 i)) (sN sv st n) (((recN n : Nat) : Int)) ((N : Int)) ((g1.1.1 : Int)) tx g1.1.2.1 g1.1.2.2) H := hP
          refine iv_if_eq (tgt := 52) hx hb dX5_runActs_43 (by decide) (by omega) (fun c_43 => by exfalso; omega) (fun c_43 => ?_)
          refine iv_iinc (k := 1) hx hb dX5_runActs_46 hl rfl (((i + 1 : Nat) : Int)) (by omega) (by decide) [(1, .int (I _)), (0, .ref _)] rfl (fun ls hl => ?_)
          refine lv_goto (tgt := 27) hx hb dX5_runActs_49 (by decide) ?_
          exact ih (i + 1) (passes s1 (g1.1.2.2 i)) (by omega) (IB_passes2 hI1 _ (by omega) 9999 (by omega)) (by rw [← he9, runA, if_pos (Or.inr h9)]; show _ = (i : Int) + (1 + (runA _ (actSt s1 _)).2); rw [actSt, if_neg (by dsimp only at h1 ⊢; omega)]; dsimp only; omega) (by rw [← he8, runA, if_pos (Or.inr h9)]; show _ = (runA _ (actSt s1 _)).1; rw [actSt, if_neg (by dsimp only at h1 ⊢; omega)]) H locs ls hP hS (lv_sub hl [1, 0] rfl)
        · refine call_F (va_runV ⟨hx, hb, hml, hown, hts⟩ (m_X5_letHappen_no l E γ α (bN β n) s1 (sN sv st n) ((recN n : Nat) : Int) (N : Int) (g1.1.1 : Int) tx g1.1.2.1 g1.1.2.2 hN9 9999 hI1 i (by omega) (g1.1.2.2 i) ⟨h2, h3⟩ h1 rfl h9) (cwV 1 hts (gi_V ml_X5_201 im_X5_letHappen sl_X5_letHappen it_X5 cd_X5_letHappen) rfl rfl rfl (by decide +kernel) ⟨Nat.le_of_ble_eq_true rfl, Nat.le_of_ble_eq_true rfl⟩) (pR_V (q0 := 0) (ci := 5) hP hK rfl rfl) rfl rfl hl.1 rfl (lv_room (Nat.le_of_ble_eq_true rfl)) dX5_runActs_40 ⟨Nat.le_of_ble_eq_true rfl, Nat.le_of_ble_eq_true rfl⟩) (dm hD rfl) hS rfl (fun H locs hP hS => ?_)
          have hP : va_P E.1 vwCl (pW E γ α (bN β n) s1 (sN sv st n) (((recN n : Nat) : Int)) ((N : Int)) ((g1.1.1 : Int)) tx g1.1.2.1 g1.1.2.2) H := hP
          refine iv_if_eq (tgt := 52) hx hb dX5_runActs_43 (by decide) (by omega) (fun c_43 => ?_) (fun c_43 => by exfalso; omega)
          refine lv_aload_n hx hb dX5_runActs_52 rfl (lv_lk hl rfl) ?_
          refine va_get (D := E.1) (ci := 5) hx hb hts inX5 hown hK.1 hP 0 rfl rfl 3 (by decide) (hts _ fl_X5_27) (fun _ h9 => h9) rfl dX5_runActs_53 ?_
          refine iv_iconst hx hb dX5_runActs_56 ?_
          refine va_put (ci := 1) (ty := .int) hx hb hts inX1 tyX1 tyX1_ok nmX1 hown hK.1 hP (dm hD rfl) hS 2 rfl rfl 1 (by decide) (hts _ fl_X5_185) (fun _ h9 => h9) rfl (by decide +kernel) rfl rfl (Nat.le_of_ble_eq_true rfl) dX5_runActs_57 (fun H locs hP _ hS => ?_)
          have hP : va_P E.1 vwCl (pW E γ α (bN β n) s1 (sN sv st n) (((recN n : Nat) : Int)) 0 ((g1.1.1 : Int)) tx g1.1.2.1 g1.1.2.2) H := hP
          refine lv_iload_n hx hb dX5_runActs_60 rfl (lv_lk hl rfl) ?_
          refine iv_eq ((runA (acF N tx 0 (-1) (-1)) st).2) (by rw [← he9, runA, if_neg (by dsimp only at h1 ⊢; omega)]; exact (Int.add_zero _).symm) ?_
          exact W.iret hx hb hrt (fun t ht hW => ⟨rfl, ⟨g1, by rw [ht]; exact (by rw [← he8, runA, if_neg (by dsimp only at h1 ⊢; omega)]; exact hP)⟩, hS.F ht⟩) hS.2.2 dX5_runActs_61 hlocks
  exact LOOP27 g1.1.1 0 st (by omega) hI (by rw [List.drop_zero]; omega) (by rw [List.drop_zero]) _ _ _ hP hS (lv_sub hl [1, 0] rfl)
