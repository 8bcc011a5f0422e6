/-! the law: what stands at its entry and in its loop; its rows -/
def LawC (p : Program) (l : Launch) (s : State) (m : MethodId) (args : Array Value) (meth : Method) (c : Code) (b L : Nat) (xs : Nat → Int32) (E : Env3) (γ α ρ : Nat → Nat) (o : Nat) (A : Nat → Prop) : Prop :=
  (p.tables.exec = Jvm.exec ∧ c.code = cL_law ∧ meth.sig.returnType = ret ∧ c.maxLocals = 9 ∧ s.vm.findClass RL = some m.cls ∧ meth.locks = false ∧ (∀ w ∈ ALL, w.before args s = true)) ∧
  (va_X b L xs s s.heap ∧ b < s.heap.size ∧ L ≤ 2048) ∧
  (KB E s ∧ KX s ∧ ZX (fun q => s.heap.size ≤ q) s s.heap ∧ l.stackTraces = false) ∧
  ((∀ q, A q → s.heap.size ≤ q) ∧ (∀ q, adR ρ q → s.heap.size ≤ q) ∧ s.heap.size ≤ o ∧ ¬ A o ∧ ¬ adR ρ o ∧ (∀ q, A q → ¬ adR ρ q) ∧ dR ρ 6)
theorem LawC.drawn {p : Program} {l : Launch} {s : State} {m : MethodId} {args : Array Value} {meth : Method} {c : Code} {b L : Nat} {xs : Nat → Int32} {E : Env3} {γ α ρ : Nat → Nat} {o : Nat} {A : Nat → Prop} (h : LawC p l s m args meth c b L xs E γ α ρ o A) (d : Drawn) : LawC p l (s.setDrawn d) m args meth c b L xs E γ α ρ o A :=
  ⟨⟨h.1.1, h.1.2.1, h.1.2.2.1, h.1.2.2.2.1, h.1.2.2.2.2.1, h.1.2.2.2.2.2.1, dr_words h.1.2.2.2.2.2.2 d⟩, ⟨va_X.moved (u := s) (Vm.Alike.refl _) h.2.1.1, h.2.1.2⟩,
    ⟨KB.same (s := s) rfl h.2.2.1.1, KX.same (s := s) rfl h.2.2.1.2.1, ZX.moved (u := s) (Vm.Alike.refl _) h.2.2.1.2.2.1, h.2.2.1.2.2.2⟩, h.2.2.2⟩
/-- both sides, alike -/
def Dyn (s : State) (E : Env3) (γ α ρ : Nat → Nat) (o : Nat) (A : Nat → Prop) (H : Heap) (locs : List Loc) : Prop :=
  ∃ (st : S) (sv : Nat → S) (n N : Nat) (tx hi : S), LI st sv n N tx hi ∧ CP E γ α A st sv n N tx H ∧ RPa E ρ st hi n N tx H ∧ outA E o H ∧ va_S (fun q => s.heap.size ≤ q) s.heap H locs
abbrev lvL (b : Nat) (γ ρ : Nat → Nat) (o i : Nat) : List (Nat × Value) := [(0, .ref b), (1, .ref (γ 0)), (2, .ref (ρ 0)), (3, .ref o), (4, .int (I (i : Int)))]
theorem lg_cmp_self (v : Int64) : lg_cmp v v = I 0 := by
  unfold lg_cmp
  rw [if_neg (by intro h; exact absurd h Int64.lt_irrefl), if_pos rfl]
  rfl
theorem thr_P {l : Launch} {E : Env3} {ρ : Nat → Nat} {th : Int} {st hi : S} {n N : Nat} {tx : S} : Met l yX6_thrown (Cond.code yX6_thrown cX6_thrown 1 (some .int) :: ALL) ({ frames := 0, cells := 0, slots := 0, locals := 0 }) (pP [.ref (ρ 0)] E (RP E ρ th st hi n N tx)) (qH (some (.int (I th))) noA (fun _ => True)) 0 0 noA := by
  intro p e h1 h2 h3 s m args below hf' ha hPc hK
  obtain ⟨e1, hKB, pa, kd, nm, ke, wy, hP⟩ := hPc
  obtain ⟨k, o, a, b, c, ⟨hq1, hq2⟩, L, hF, hL⟩ := m_X6_thrown l E ρ th (n : Int) (N : Int) pa kd nm st hi ke tx wy p e h1 h2 h3 s m args below hf' ha ⟨e1, hP, hKB⟩ hK
  exact ⟨k, o, a, b, c, ⟨hq1, trivial, by rw [hq2]; exact Nat.le_refl _, fun q _ _ => by rw [hq2]⟩, L, hF, hL⟩
theorem RP_0 {E : Env3} {ρ : Nat → Nat} {th : Int} {st hi : S} {n N : Nat} {tx : S} {H : Heap} (h : RP E ρ th st hi n N tx H) : ∃ fs, va_at E.1 vwCl (ρ 0, .inr (6, fs)) H := RPa_0 H ⟨th, h⟩
section LR
variable {p : Program} {l : Launch} {e : Jvm.Env} {R : Room} {s : State} {m : MethodId} {args : Array Value} {below : List Frame} {meth : Method} {c : Code} {H : Heap} {locs : List Loc} {cells slots : Nat} {Q : State → Prop}
variable {pc : Nat} {ls : Array Slot} {rest st0 : List Value} {b L : Nat} {xs : Nat → Int32} {E : Env3} {γ α ρ : Nat → Nat} {o : Nat} {A : Nat → Prop} {lv : List (Nat × Value)}
theorem L_ld (hC : LawC p l s m args meth c b L xs E γ α ρ o A) (hS : va_S (fun q => s.heap.size ≤ q) s.heap H locs) {i : Nat} (hi : i < L) (hdg : decode cL_law pc = .ok (.iaload, 1))
    (kk : W p l e R s m args below meth c H locs cells slots Q (F0 m (pc + 1) ls (.int (xs i) :: rest))) : W p l e R s m args below meth c H locs cells slots Q (F0 m pc ls (.int (I (i : Int)) :: .ref b :: rest)) := by
  obtain ⟨⟨hx, hb, hr, hml, hown, hlocks, hts⟩, ⟨hX, hbl, hL8⟩, -⟩ := hC
  refine va_sld hx hb hX hbl (Nat.not_le.mpr hbl) hS (I_in hi (by omega)) hdg ?_
  rw [I_nat (by omega)]
  exact kk
/-- script[i + j] -/
theorem L_arg (hC : LawC p l s m args meth c b L xs E γ α ρ o A) (hS : va_S (fun q => s.heap.size ≤ q) s.heap H locs) (hl : lv_has ls 9 lv) {i : Nat} (h0 : lv.find? (fun q => q.1 == 0) = some (0, .ref b)) (h4 : lv.find? (fun q => q.1 == 4) = some (4, .int (I (i : Int)))) (j : Nat) {jz : Int} (hj : jz = (j : Int)) (hij : i + j < L)
    (d0 : decode cL_law pc = .ok (.aload_n 0, 1)) (d1 : decode cL_law (pc + 1) = .ok (.iload 4, 2)) (d3 : decode cL_law (pc + 3) = .ok (.iconst jz, 1)) (d4 : decode cL_law (pc + 4) = .ok (.iadd, 1)) (d5 : decode cL_law (pc + 5) = .ok (.iaload, 1))
    (kk : W p l e R s m args below meth c H locs cells slots Q (F0 m (pc + 6) ls (.int (xs (i + j)) :: rest))) : W p l e R s m args below meth c H locs cells slots Q (F0 m pc ls rest) := by
  subst hj
  have hx := hC.1.1
  have hb := hC.1.2.1
  refine lv_aload_n hx hb d0 rfl (lv_lk hl h0) ?_
  refine lv_iload hx hb d1 (lv_lk hl h4) ?_
  refine iv_iconst hx hb d3 ?_
  refine iv_iadd hx hb d4 ?_
  refine iv_eq (((i + j : Nat) : Int)) (by omega) ?_
  exact L_ld hC hS hij d5 kk
theorem call_O {k : Int} {ov : Int64} {Po : Heap → Prop} {aa : Array Value} {mc ms : Nat} {A0 : Nat → Prop} {H0 : Heap} (hr : va_Run p l e R s m args below meth c H locs cells slots mc ms (F0 m pc ls st0) rest (qO E A o k ov Po aa) (fun q => A q ∨ q = o)) (hA : ∀ q, (A q ∨ q = o) → A0 q) (hS : va_S A0 H0 H locs)
    (kk : ∀ (H1 : Heap) (locs1 : List Loc), H.size ≤ H1.size → (∀ q : Nat, q < H.size → ¬ (A q ∨ q = o) → H1[q]? = H[q]?) → Po H1 → ∀ v, outC E o v H1 → (k = 0 → v = ov) → va_S A0 H0 H1 locs1 → W p l e R s m args below meth c H1 locs1 (cells + mc) (slots + ms) Q (F0 m (pc + 3) ls (.int (I k) :: rest))) : W p l e R s m args below meth c H locs cells slots Q (F0 m pc ls st0) := by
  intro T hT X
  obtain ⟨v', st₀, t, T', L, h0, X', hL, e1, e2, ⟨hv, hP1, ⟨v, hov, hvk⟩, hF⟩, st⟩ := hr T hT X
  cases hv
  obtain ⟨k1, k2, k3⟩ := vx_keep (A1 := fun q => A q ∨ q = o) h0 e1 hS (fun q _ z => hA q z) hA hL hF
  obtain ⟨t2, a1, b1⟩ := kk T'.heap (locs ++ L) k1 k2 (by rw [e1]; exact hP1) v (by rw [e1]; exact hov) hvk k3 T' rfl X'
  exact ⟨t2, st t2 a1, b1⟩
theorem outC.kept {H1 : Heap} {v : Int64} (h : outC E o v H) (hq : H1[o]? = H[o]?) : outC E o v H1 := by
  obtain ⟨f, h1, h2⟩ := h
  exact ⟨f, h1, h2.kept hq⟩
theorem outC.lt {v : Int64} (h : outC E o v H) : o < H.size := by
  obtain ⟨f, h1, h2⟩ := h
  exact h2.lt
/-- out[0] -/
theorem L_out (hx : p.tables.exec = Jvm.exec) (hb : c.code = cL_law) (hK : KB E s) {v : Int64} (ho : outC E o v H) (hdg : decode cL_law pc = .ok (.laload, 1))
    (kk : W p l e R s m args below meth c H locs cells slots Q (F0 m (pc + 1) ls (.long v :: rest))) : W p l e R s m args below meth c H locs cells slots Q (F0 m pc ls (.int (I 0) :: .ref o :: rest)) := by
  obtain ⟨f, h1, h2⟩ := ho
  have hP : va_P E.1 vwCl [(o, .inl (E.2.2.2, 1, .inr (.inl f)))] H := fun k q hk => by rcases k with _ | k <;> simp at hk; subst hk; exact h2
  refine va_lald (ws := [(o, .inl (E.2.2.2, 1, .inr (.inl f)))]) hx hb hK.1 hP 0 2 rfl rfl (I_in (n := 0) (L := 1) (by omega) (by omega)) hdg ?_
  have e0 : (I 0).toNatClampNeg = 0 := rfl
  rw [e0, h1]
  exact kk
end LR
