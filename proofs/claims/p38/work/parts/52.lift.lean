/-! a face that changes nothing, told of the whole post -/
theorem fc_mem {E : Env3} {γ α : Nat → Nat} {β : Nat → Nat → Nat} {L : List Nat} {st : S} {sv : Nat → S} {n N ac : Int} {tx fs fn : S} : ∀ q ∈ fcW E α (γ 0) (γ 1) (γ 2) n st, q ∈ pWf E γ α β L st sv n N ac tx fs fn := by
  intro q hq
  rcases List.mem_cons.mp hq with h | h
  · rw [h]; exact List.mem_append_left _ List.mem_cons_self
  · exact List.mem_append_right _ (List.mem_append_left _ h)
theorem met_fc {l : Launch} {y : MethodName} {cs : List Cond} {rm : Room} {av : List Value} {E : Env3} {v : Option Value} {mc ms : Nat} {free : Addr → Prop} {γ α : Nat → Nat} {β : Nat → Nat → Nat} {L : List Nat} {st : S} {sv : Nat → S} {n N ac : Int} {tx fs fn : S}
    (h : Met l y cs rm (pR av E (fcW E α (γ 0) (γ 1) (γ 2) n st)) (qS v) mc ms free) : Met l y cs rm (pR av E (pWf E γ α β L st sv n N ac tx fs fn)) (qS v) mc ms free := by
  intro p e g1 g2 g3 s m args below hf ha hPc hK
  exact h p e g1 g2 g3 s m args below hf ha ⟨hPc.1, P_mono fc_mem hPc.2.1, hPc.2.2⟩ hK
