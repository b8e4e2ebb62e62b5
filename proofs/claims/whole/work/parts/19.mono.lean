/-! more fuel, more depth: the same answer -/
def LEo (a b : Option Rz) : Prop := ∀ x, a = some x → b = some x
theorem LEo.rf {a : Option Rz} : LEo a a := fun _ h => h
theorem LEo.no {b : Option Rz} : LEo none b := fun _ h => by cases h
theorem LEo.bd {a b : Option Rz} {f g : Rz → Option Rz} (h : LEo a b) (hf : ∀ p, LEo (f p) (g p)) : LEo (a.bind f) (b.bind g) := by
  intro x hx
  cases a with
  | none => cases hx
  | some p =>
    rw [h p rfl]
    exact hf p x hx
theorem LEo.bf {c : Bool} {a b a' b' : Option Rz} (h : LEo a b) (h' : LEo a' b') : LEo (bif c then a else a') (bif c then b else b') := by
  cases c
  · exact h'
  · exact h
theorem LEo.it {c : Prop} [Decidable c] {a b a' b' : Option Rz} (h : LEo a b) (h' : LEo a' b') : LEo (if c then a else a') (if c then b else b') := by
  split
  · exact h
  · exact h'
theorem LEo.br1 {o : Nat} {x : Int32} {a b a' b' : Option Rz} (h : LEo a b) (h' : LEo a' b') : LEo (br1 o x a a') (br1 o x b b') := by
  unfold Jvm.Pilot.CRowGuardLaw_law_r2150_d2d5db.br1
  split <;> split <;> assumption
theorem LEo.br2 {o : Nat} {x y : Int32} {a b a' b' : Option Rz} (h : LEo a b) (h' : LEo a' b') : LEo (br2 o x y a a') (br2 o x y b b') := by
  unfold Jvm.Pilot.CRowGuardLaw_law_r2150_d2d5db.br2
  split <;> split <;> assumption
theorem LEo.pick {v : Int32} {f g : Nat → Option Rz} (h : ∀ t, LEo (f t) (g t)) : ∀ (r : List (Int32 × Nat)) (d : Nat), LEo (pickK v r f d) (pickK v r g d)
  | [], d => h d
  | a :: r, d => by
    unfold pickK
    split
    · exact h a.2
    · exact LEo.pick h r d
section MO
variable {T : LT} {i : Ins} {l : Lc} {st : List AV} {μ : Mm} {c c' : CC} {K K' : KK}
theorem exT_mono (hc : ∀ k m a μ, LEo (c k m a μ) (c' k m a μ)) (hK : ∀ p l s μ, LEo (K p l s μ) (K' p l s μ)) (o : Nat) : LEo (exT o T i l st μ c K) (exT o T i l st μ c' K') := by
  unfold exT
  split
  case h_30 => unfold e_sw; split <;> first | exact LEo.no | exact LEo.pick (fun t => hK _ _ _ _) _ _
  case h_31 => unfold e_sw; split <;> first | exact LEo.no | exact LEo.pick (fun t => hK _ _ _ _) _ _
  all_goals first
    | (unfold e_const; exact hK _ _ _ _)
    | (unfold e_lcon; exact hK _ _ _ _)
    | (unfold e_goto; exact hK _ _ _ _)
    | (unfold e_gets; exact hK _ _ _ _)
    | (unfold e_bad; exact LEo.no)
    | (unfold e_iload; split <;> first | exact LEo.no | exact hK _ _ _ _)
    | (unfold e_aload; split <;> first | exact LEo.no | exact hK _ _ _ _)
    | (unfold e_lload; split <;> first | exact LEo.no | exact hK _ _ _ _)
    | (unfold e_istore; split <;> first | exact LEo.no | exact LEo.bf (hK _ _ _ _) LEo.no)
    | (unfold e_astore; split <;> first | exact LEo.no | exact LEo.bf (hK _ _ _ _) LEo.no)
    | (unfold e_iinc; split <;> first | exact LEo.no | exact LEo.bf (hK _ _ _ _) LEo.no)
    | (unfold e_bin; split <;> first | exact LEo.no | exact hK _ _ _ _)
    | (unfold e_idiv; split <;> first | exact LEo.no | exact LEo.it LEo.no (hK _ _ _ _))
    | (unfold e_irem; split <;> first | exact LEo.no | exact LEo.it LEo.no (hK _ _ _ _))
    | (unfold e_ineg; split <;> first | exact LEo.no | exact hK _ _ _ _)
    | (unfold e_i2l; split <;> first | exact LEo.no | exact hK _ _ _ _)
    | (unfold e_i2b; split <;> first | exact LEo.no | exact hK _ _ _ _)
    | (unfold e_lcmp; split <;> first | exact LEo.no | exact hK _ _ _ _)
    | (unfold e_dup; split <;> first | exact LEo.no | exact LEo.bf (hK _ _ _ _) LEo.no)
    | (unfold e_dup2; split <;> first | exact LEo.no | exact LEo.bf (hK _ _ _ _) LEo.no)
    | (unfold e_pop; split <;> first | exact LEo.no | exact LEo.bf (hK _ _ _ _) LEo.no)
    | (unfold e_getf; split <;> first | exact LEo.no | exact LEo.bf (hK _ _ _ _) LEo.no)
    | (unfold e_putf; split <;> first | exact LEo.no | exact LEo.bf (hK _ _ _ _) LEo.no)
    | (unfold e_iald; split <;> first | exact LEo.no | exact LEo.bf (LEo.bf (hK _ _ _ _) LEo.no) (LEo.bf (LEo.bf (hK _ _ _ _) LEo.no) LEo.no))
    | (unfold e_bald; split <;> first | exact LEo.no | exact LEo.bf (LEo.bf (hK _ _ _ _) LEo.no) LEo.no)
    | (unfold e_aald; split <;> first | exact LEo.no | exact LEo.bf (LEo.bf (hK _ _ _ _) LEo.no) LEo.no)
    | (unfold e_iast; split <;> first | exact LEo.no | exact LEo.bf (LEo.bf (hK _ _ _ _) LEo.no) LEo.no)
    | (unfold e_bast; split <;> first | exact LEo.no | exact LEo.bf (LEo.bf (hK _ _ _ _) LEo.no) (LEo.bf (LEo.bf (hK _ _ _ _) LEo.no) LEo.no))
    | (unfold e_alen; split <;> first | exact LEo.no | exact LEo.bf (hK _ _ _ _) LEo.no)
    | (unfold e_if; split <;> first | exact LEo.no | exact LEo.br1 (hK _ _ _ _) (hK _ _ _ _))
    | (unfold e_icmp; split <;> first | exact LEo.no | exact LEo.br2 (hK _ _ _ _) (hK _ _ _ _))
    | (unfold e_iret; split <;> first | exact LEo.no | exact LEo.rf)
    | (unfold e_vret; split <;> first | exact LEo.no | exact LEo.rf)
    | (unfold e_callV; split <;> first | exact LEo.no | exact LEo.bf (LEo.bd (hc _ _ _ _) (fun p => hK _ _ _ _)) LEo.no)
    | (unfold e_callS; exact LEo.bf (LEo.bd (hc _ _ _ _) (fun p => hK _ _ _ _)) LEo.no)
    | (unfold e_acpy; split <;> first | exact LEo.no | exact LEo.bf (hK _ _ _ _) LEo.no)
    | (unfold e_mmax; split <;> first | exact LEo.no | exact LEo.bf (hK _ _ _ _) LEo.no)
    | (unfold e_mmin; split <;> first | exact LEo.no | exact LEo.bf (hK _ _ _ _) LEo.no)
    | (unfold e_mabs; split <;> first | exact LEo.no | exact LEo.bf (hK _ _ _ _) LEo.no)
theorem den_mono {CO : Nat → Ins} {f g : Nat → Lc → Mm → Option Rz} (hc : ∀ k m a μ, LEo (c k m a μ) (c' k m a μ)) (hf : ∀ p l μ, LEo (f p l μ) (g p l μ)) : ∀ (n pc : Nat) (l : Lc) (st : List AV) (μ : Mm), LEo (den CO T c f n pc l st μ) (den CO T c' g n pc l st μ)
  | 0, pc, l, st, μ => LEo.no
  | n + 1, pc, l, st, μ => by
    unfold den
    refine exT_mono hc (fun p l s μ => ?_) _
    split
    · exact den_mono hc hf n p l s μ
    · split
      · exact hf _ _ _
      · exact LEo.no
theorem DF_mono {CO : Nat → Nat → Ins} : ∀ (F F' d d' k pc : Nat) (l : Lc) (μ : Mm), F ≤ F' → d ≤ d' → LEo (DF CO T F d k pc l μ) (DF CO T F' d' k pc l μ) := by
  intro F
  induction F with
  | zero =>
    intro F' d d' k pc l μ h1 h2
    rw [DF_zero]
    exact LEo.no
  | succ F ih =>
    intro F' d d' k pc l μ h1 h2
    obtain ⟨F', rfl⟩ : ∃ G, F' = G + 1 := ⟨F' - 1, by omega⟩
    rw [DF_succ, DF_succ]
    refine den_mono (fun k m a μ => ?_) (fun p l μ => ih F' d d' k p l μ (by omega) h2) _ _ _ _ _
    unfold dcall
    cases d with
    | zero => exact LEo.no
    | succ d =>
      obtain ⟨d', rfl⟩ : ∃ G, d' = G + 1 := ⟨d' - 1, by omega⟩
      exact LEo.bf (ih F' d d' k 0 _ μ (by omega) (by omega)) LEo.no
end MO
theorem run_up {L : Nat} {S : Ad → Nat → Int32} {F F' d d' k pc : Nat} {l : Lc} {μ : Mm} {x : Rz} (h : run L S F d k pc l μ = some x) (hF : F ≤ F') (hd : d ≤ d') : run L S F' d' k pc l μ = some x :=
  DF_mono F F' d d' k pc l μ hF hd x h
