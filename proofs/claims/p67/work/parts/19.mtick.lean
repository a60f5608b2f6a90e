/-! The reference model: what a traveller does (printed by wip/whole/src19.py). -/
theorem zBf_ex (G : GM) : ∃ A B f l, G = zBf G A B f l := ⟨_, _, _, _, zBf_self.symm⟩
