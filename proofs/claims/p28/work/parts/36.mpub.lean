theorem q_In_k {f f' : q_St} (hI : q_In f) (h : ∀ i, i < 312 → f' i = f i) : q_In f' := q_In_c hI fun i hi => Or.inl (h i hi)
section
variable {E : q_E} {g : q_G} {st : Nat}
end
