theorem uA_uA (A : Nat → Nat → Int32) (o : Nat) (f h : Nat → Int32) : uA (uA A o f) o h = uA A o h := by
  funext q
  unfold uA
  split <;> rfl
theorem uI_uI (I : Nat → Nat → Int32) (f o : Nat) (v x : Int32) : uI (uI I f o v) f o x = uI I f o x := by
  funext a b
  unfold uI
  split <;> rfl
theorem uA_same (A : Nat → Nat → Int32) (o : Nat) : uA A o (A o) = A := by
  funext q
  unfold uA
  split
  · rename_i h
    rw [h]
  · rfl
theorem uI_same (I : Nat → Nat → Int32) (f o : Nat) : uI I f o (I f o) = I := by
  funext a b
  unfold uI
  split
  · rename_i h
    rw [h.1, h.2]
  · rfl
section AWl
variable {g : GG} {cc : ByteArray} {nL : Nat} {ret : Option FieldType} {R : Room} {own : String} {Qc : Array Value → State → Outcome → State → Prop} {pc pc' tgt : Nat} {lv : List (Option Value)} {st : List Value} {σ : SG}
/-- a counter that goes up to e -/
theorem for_up (inv : Nat → SG → Prop) (lvf : Nat → List (Option Value)) (e : Nat) (step : ∀ i σ, i < e → inv i σ → (∀ σ', inv (i + 1) σ' → AW g cc nL ret R own Qc pc (lvf (i + 1)) st σ') → AW g cc nL ret R own Qc pc (lvf i) st σ) (last : ∀ σ, inv e σ → AW g cc nL ret R own Qc pc (lvf e) st σ) : ∀ (i : Nat) (σ : SG), i ≤ e → inv i σ → AW g cc nL ret R own Qc pc (lvf i) st σ := by
  have key : ∀ (n i : Nat) (σ : SG), n = e - i → i ≤ e → inv i σ → AW g cc nL ret R own Qc pc (lvf i) st σ := by
    intro n
    induction n with
    | zero =>
      intro i σ hn hi hv
      have : i = e := by omega
      subst this
      exact last σ hv
    | succ n ih =>
      intro i σ hn hi hv
      exact step i σ (by omega) hv (fun σ' h' => ih (i + 1) σ' (by omega) (by omega) h')
  exact fun i σ hi hv => key (e - i) i σ rfl hi hv
/-- any loop, by a measure that falls -/
theorem for_wf (P : Nat → SG → List (Option Value) → Prop) (step : ∀ n σ lv, P n σ lv → (∀ m σ' lv', m < n → P m σ' lv' → AW g cc nL ret R own Qc pc lv' st σ') → AW g cc nL ret R own Qc pc lv st σ) : ∀ n σ lv, P n σ lv → AW g cc nL ret R own Qc pc lv st σ := by
  intro n
  induction n using Nat.strongRecOn with
  | ind n ih => exact fun σ lv h => step n σ lv h (fun m σ' lv' hm h' => ih m hm σ' lv' h')
end AWl
/-- a part of a row moved down by four -/
def sh4 (f : Nat → Int32) (s i : Nat) : Nat → Int32 := fun k => if s ≤ k ∧ k < i then f (k + 4) else f k
theorem sh4_0 (f : Nat → Int32) (s : Nat) : sh4 f s s = f := by
  funext k
  unfold sh4
  rw [if_neg (by omega)]
theorem sh4_s {f : Nat → Int32} {s i : Nat} (h : s ≤ i) : upd (sh4 f s i) i (sh4 f s i (i + 4)) = sh4 f s (i + 1) := by
  funext k
  by_cases e : k = i
  · subst e
    rw [pk_us]
    unfold sh4
    rw [if_neg (by omega), if_pos (by omega)]
  · rw [pk_un e]
    unfold sh4
    by_cases q : s ≤ k ∧ k < i
    · rw [if_pos q, if_pos (by omega)]
    · rw [if_neg q, if_neg (by omega)]
/-- a row whose first i places are another's -/
def cp_ (f h : Nat → Int32) (i : Nat) : Nat → Int32 := fun k => if k < i then h k else f k
theorem cp_0 (f h : Nat → Int32) : cp_ f h 0 = f := by
  funext k
  unfold cp_
  rw [if_neg (by omega)]
theorem cp_s (f h : Nat → Int32) (i : Nat) : upd (cp_ f h i) i (h i) = cp_ f h (i + 1) := by
  funext k
  by_cases e : k = i
  · subst e
    rw [pk_us]
    unfold cp_
    rw [if_pos (by omega)]
  · rw [pk_un e]
    unfold cp_
    by_cases q : k < i
    · rw [if_pos q, if_pos (by omega)]
    · rw [if_neg q, if_neg (by omega)]
theorem k_0 : kd 0 = 9 := by decide +kernel
theorem k_1 : kd 1 = 3 := by decide +kernel
theorem k_2 : kd 2 = 5 := by decide +kernel
theorem k_3 : kd 3 = 11 := by decide +kernel
theorem k_4 : kd 4 = 5 := by decide +kernel
theorem k_5 : kd 5 = 11 := by decide +kernel
theorem k_6 : kd 6 = 11 := by decide +kernel
theorem k_7 : kd 7 = 13 := by decide +kernel
theorem k_8 : kd 8 = 3 := by decide +kernel
theorem k_9 : kd 9 = 5 := by decide +kernel
theorem k_10 : kd 10 = 11 := by decide +kernel
theorem k_11 : kd 11 = 5 := by decide +kernel
theorem k_12 : kd 12 = 11 := by decide +kernel
theorem k_13 : kd 13 = 11 := by decide +kernel
theorem k_14 : kd 14 = 3 := by decide +kernel
theorem k_15 : kd 15 = 5 := by decide +kernel
theorem k_16 : kd 16 = 11 := by decide +kernel
theorem k_17 : kd 17 = 5 := by decide +kernel
theorem k_18 : kd 18 = 11 := by decide +kernel
theorem k_19 : kd 19 = 11 := by decide +kernel
theorem k_20 : kd 20 = 12 := by decide +kernel
theorem k_21 : kd 21 = 0 := by decide +kernel
theorem k_22 : kd 22 = 1 := by decide +kernel
theorem k_23 : kd 23 = 11 := by decide +kernel
theorem k_24 : kd 24 = 7 := by decide +kernel
theorem k_25 : kd 25 = 14 := by decide +kernel
theorem k_26 : kd 26 = 6 := by decide +kernel
theorem k_27 : kd 27 = 6 := by decide +kernel
theorem k_28 : kd 28 = 6 := by decide +kernel
theorem k_29 : kd 29 = 6 := by decide +kernel
theorem k_30 : kd 30 = 6 := by decide +kernel
theorem k_31 : kd 31 = 6 := by decide +kernel
theorem k_32 : kd 32 = 6 := by decide +kernel
theorem k_33 : kd 33 = 6 := by decide +kernel
theorem k_34 : kd 34 = 6 := by decide +kernel
theorem k_35 : kd 35 = 6 := by decide +kernel
theorem k_36 : kd 36 = 6 := by decide +kernel
theorem k_37 : kd 37 = 6 := by decide +kernel
theorem k_38 : kd 38 = 6 := by decide +kernel
theorem k_39 : kd 39 = 6 := by decide +kernel
theorem k_40 : kd 40 = 6 := by decide +kernel
theorem k_41 : kd 41 = 6 := by decide +kernel
theorem k_42 : kd 42 = 6 := by decide +kernel
theorem k_43 : kd 43 = 6 := by decide +kernel
theorem k_44 : kd 44 = 6 := by decide +kernel
theorem k_45 : kd 45 = 6 := by decide +kernel
theorem k_46 : kd 46 = 6 := by decide +kernel
theorem k_47 : kd 47 = 6 := by decide +kernel
theorem k_48 : kd 48 = 6 := by decide +kernel
theorem k_49 : kd 49 = 6 := by decide +kernel
theorem k_50 : kd 50 = 11 := by decide +kernel
theorem k_51 : kd 51 = 15 := by decide +kernel
theorem k_52 : kd 52 = 8 := by decide +kernel
theorem k_53 : kd 53 = 2 := by decide +kernel
theorem k_54 : kd 54 = 16 := by decide +kernel
theorem k_55 : kd 55 = 11 := by decide +kernel
theorem k_56 : kd 56 = 11 := by decide +kernel
theorem k_57 : kd 57 = 11 := by decide +kernel
theorem k_58 : kd 58 = 12 := by decide +kernel
theorem k_59 : kd 59 = 11 := by decide +kernel
theorem k_60 : kd 60 = 16 := by decide +kernel
theorem k_61 : kd 61 = 11 := by decide +kernel
theorem k_62 : kd 62 = 11 := by decide +kernel
theorem k_63 : kd 63 = 11 := by decide +kernel
theorem k_64 : kd 64 = 11 := by decide +kernel
theorem k_65 : kd 65 = 11 := by decide +kernel
theorem k_66 : kd 66 = 11 := by decide +kernel
theorem k_67 : kd 67 = 11 := by decide +kernel
theorem k_68 : kd 68 = 16 := by decide +kernel
theorem k_69 : kd 69 = 11 := by decide +kernel
theorem k_70 : kd 70 = 11 := by decide +kernel
theorem k_71 : kd 71 = 11 := by decide +kernel
theorem k_72 : kd 72 = 8 := by decide +kernel
theorem k_73 : kd 73 = 2 := by decide +kernel
theorem k_74 : kd 74 = 16 := by decide +kernel
theorem k_75 : kd 75 = 11 := by decide +kernel
theorem k_76 : kd 76 = 11 := by decide +kernel
theorem k_77 : kd 77 = 11 := by decide +kernel
theorem k_78 : kd 78 = 12 := by decide +kernel
theorem k_79 : kd 79 = 11 := by decide +kernel
theorem k_80 : kd 80 = 16 := by decide +kernel
theorem k_81 : kd 81 = 11 := by decide +kernel
theorem k_82 : kd 82 = 11 := by decide +kernel
theorem k_83 : kd 83 = 11 := by decide +kernel
theorem k_84 : kd 84 = 11 := by decide +kernel
theorem k_85 : kd 85 = 11 := by decide +kernel
theorem k_86 : kd 86 = 11 := by decide +kernel
theorem k_87 : kd 87 = 11 := by decide +kernel
theorem k_88 : kd 88 = 16 := by decide +kernel
theorem k_89 : kd 89 = 11 := by decide +kernel
theorem k_90 : kd 90 = 11 := by decide +kernel
theorem k_91 : kd 91 = 11 := by decide +kernel
theorem k_92 : kd 92 = 8 := by decide +kernel
theorem k_93 : kd 93 = 2 := by decide +kernel
theorem k_94 : kd 94 = 16 := by decide +kernel
theorem k_95 : kd 95 = 11 := by decide +kernel
theorem k_96 : kd 96 = 11 := by decide +kernel
theorem k_97 : kd 97 = 11 := by decide +kernel
theorem k_98 : kd 98 = 12 := by decide +kernel
theorem k_99 : kd 99 = 11 := by decide +kernel
theorem k_100 : kd 100 = 16 := by decide +kernel
theorem k_101 : kd 101 = 11 := by decide +kernel
theorem k_102 : kd 102 = 11 := by decide +kernel
theorem k_103 : kd 103 = 11 := by decide +kernel
theorem k_104 : kd 104 = 11 := by decide +kernel
theorem k_105 : kd 105 = 11 := by decide +kernel
theorem k_106 : kd 106 = 11 := by decide +kernel
theorem k_107 : kd 107 = 11 := by decide +kernel
theorem k_108 : kd 108 = 16 := by decide +kernel
theorem k_109 : kd 109 = 11 := by decide +kernel
theorem k_110 : kd 110 = 11 := by decide +kernel
theorem k_111 : kd 111 = 11 := by decide +kernel
theorem k_112 : kd 112 = 8 := by decide +kernel
theorem k_113 : kd 113 = 2 := by decide +kernel
theorem k_114 : kd 114 = 16 := by decide +kernel
theorem k_115 : kd 115 = 11 := by decide +kernel
theorem k_116 : kd 116 = 11 := by decide +kernel
theorem k_117 : kd 117 = 11 := by decide +kernel
theorem k_118 : kd 118 = 12 := by decide +kernel
theorem k_119 : kd 119 = 11 := by decide +kernel
theorem k_120 : kd 120 = 16 := by decide +kernel
theorem k_121 : kd 121 = 11 := by decide +kernel
theorem k_122 : kd 122 = 11 := by decide +kernel
theorem k_123 : kd 123 = 11 := by decide +kernel
theorem k_124 : kd 124 = 11 := by decide +kernel
theorem k_125 : kd 125 = 11 := by decide +kernel
theorem k_126 : kd 126 = 11 := by decide +kernel
theorem k_127 : kd 127 = 11 := by decide +kernel
theorem k_128 : kd 128 = 16 := by decide +kernel
theorem k_129 : kd 129 = 11 := by decide +kernel
theorem k_130 : kd 130 = 11 := by decide +kernel
theorem k_131 : kd 131 = 11 := by decide +kernel
theorem k_132 : kd 132 = 8 := by decide +kernel
theorem k_133 : kd 133 = 2 := by decide +kernel
theorem k_134 : kd 134 = 16 := by decide +kernel
theorem k_135 : kd 135 = 11 := by decide +kernel
theorem k_136 : kd 136 = 11 := by decide +kernel
theorem k_137 : kd 137 = 11 := by decide +kernel
theorem k_138 : kd 138 = 12 := by decide +kernel
theorem k_139 : kd 139 = 11 := by decide +kernel
theorem k_140 : kd 140 = 16 := by decide +kernel
theorem k_141 : kd 141 = 11 := by decide +kernel
theorem k_142 : kd 142 = 11 := by decide +kernel
theorem k_143 : kd 143 = 11 := by decide +kernel
theorem k_144 : kd 144 = 11 := by decide +kernel
theorem k_145 : kd 145 = 11 := by decide +kernel
theorem k_146 : kd 146 = 11 := by decide +kernel
theorem k_147 : kd 147 = 11 := by decide +kernel
theorem k_148 : kd 148 = 16 := by decide +kernel
theorem k_149 : kd 149 = 11 := by decide +kernel
theorem k_150 : kd 150 = 11 := by decide +kernel
theorem k_151 : kd 151 = 11 := by decide +kernel
theorem k_152 : kd 152 = 8 := by decide +kernel
theorem k_153 : kd 153 = 2 := by decide +kernel
theorem k_154 : kd 154 = 16 := by decide +kernel
theorem k_155 : kd 155 = 11 := by decide +kernel
theorem k_156 : kd 156 = 11 := by decide +kernel
theorem k_157 : kd 157 = 11 := by decide +kernel
theorem k_158 : kd 158 = 12 := by decide +kernel
theorem k_159 : kd 159 = 11 := by decide +kernel
theorem k_160 : kd 160 = 16 := by decide +kernel
theorem k_161 : kd 161 = 11 := by decide +kernel
theorem k_162 : kd 162 = 11 := by decide +kernel
theorem k_163 : kd 163 = 11 := by decide +kernel
theorem k_164 : kd 164 = 11 := by decide +kernel
theorem k_165 : kd 165 = 11 := by decide +kernel
theorem k_166 : kd 166 = 11 := by decide +kernel
theorem k_167 : kd 167 = 11 := by decide +kernel
theorem k_168 : kd 168 = 16 := by decide +kernel
theorem k_169 : kd 169 = 11 := by decide +kernel
theorem k_170 : kd 170 = 11 := by decide +kernel
theorem k_171 : kd 171 = 11 := by decide +kernel
theorem k_172 : kd 172 = 4 := by decide +kernel
theorem k_173 : kd 173 = 11 := by decide +kernel
theorem k_174 : kd 174 = 11 := by decide +kernel
theorem k_175 : kd 175 = 11 := by decide +kernel
theorem k_176 : kd 176 = 10 := by decide +kernel
theorem k_177 : kd 177 = 11 := by decide +kernel
theorem k_178 : kd 178 = 11 := by decide +kernel
theorem k_179 : kd 179 = 11 := by decide +kernel
theorem k_180 : kd 180 = 11 := by decide +kernel
theorem k_181 : kd 181 = 11 := by decide +kernel
theorem k_182 : kd 182 = 11 := by decide +kernel
theorem k_183 : kd 183 = 11 := by decide +kernel
theorem k_184 : kd 184 = 11 := by decide +kernel
theorem k_185 : kd 185 = 11 := by decide +kernel
theorem k_186 : kd 186 = 11 := by decide +kernel
theorem k_187 : kd 187 = 11 := by decide +kernel
theorem k_188 : kd 188 = 11 := by decide +kernel
theorem k_189 : kd 189 = 11 := by decide +kernel
theorem k_190 : kd 190 = 11 := by decide +kernel
theorem k_191 : kd 191 = 11 := by decide +kernel
theorem k_192 : kd 192 = 11 := by decide +kernel
theorem k_193 : kd 193 = 12 := by decide +kernel
theorem l_3 : ln 3 = 96 := by decide +kernel
theorem l_5 : ln 5 = 80 := by decide +kernel
theorem l_6 : ln 6 = 3 := by decide +kernel
theorem l_7 : ln 7 = 2 := by decide +kernel
theorem l_10 : ln 10 = 96 := by decide +kernel
theorem l_12 : ln 12 = 80 := by decide +kernel
theorem l_13 : ln 13 = 3 := by decide +kernel
theorem l_16 : ln 16 = 96 := by decide +kernel
theorem l_18 : ln 18 = 80 := by decide +kernel
theorem l_19 : ln 19 = 3 := by decide +kernel
theorem l_20 : ln 20 = 2 := by decide +kernel
theorem l_23 : ln 23 = 121 := by decide +kernel
theorem l_25 : ln 25 = 24 := by decide +kernel
theorem l_50 : ln 50 = 24 := by decide +kernel
theorem l_51 : ln 51 = 6 := by decide +kernel
theorem l_54 : ln 54 = 2 := by decide +kernel
theorem l_55 : ln 55 = 22 := by decide +kernel
theorem l_56 : ln 56 = 22 := by decide +kernel
theorem l_57 : ln 57 = 2 := by decide +kernel
theorem l_58 : ln 58 = 264 := by decide +kernel
theorem l_59 : ln 59 = 121 := by decide +kernel
theorem l_60 : ln 60 = 7 := by decide +kernel
theorem l_61 : ln 61 = 121 := by decide +kernel
theorem l_62 : ln 62 = 121 := by decide +kernel
theorem l_63 : ln 63 = 121 := by decide +kernel
theorem l_64 : ln 64 = 121 := by decide +kernel
theorem l_65 : ln 65 = 121 := by decide +kernel
theorem l_66 : ln 66 = 121 := by decide +kernel
theorem l_67 : ln 67 = 121 := by decide +kernel
theorem l_68 : ln 68 = 3 := by decide +kernel
theorem l_69 : ln 69 = 121 := by decide +kernel
theorem l_70 : ln 70 = 121 := by decide +kernel
theorem l_71 : ln 71 = 121 := by decide +kernel
theorem l_74 : ln 74 = 2 := by decide +kernel
theorem l_75 : ln 75 = 18 := by decide +kernel
theorem l_76 : ln 76 = 18 := by decide +kernel
theorem l_77 : ln 77 = 2 := by decide +kernel
theorem l_78 : ln 78 = 180 := by decide +kernel
theorem l_79 : ln 79 = 81 := by decide +kernel
theorem l_80 : ln 80 = 7 := by decide +kernel
theorem l_81 : ln 81 = 81 := by decide +kernel
theorem l_82 : ln 82 = 81 := by decide +kernel
theorem l_83 : ln 83 = 81 := by decide +kernel
theorem l_84 : ln 84 = 81 := by decide +kernel
theorem l_85 : ln 85 = 81 := by decide +kernel
theorem l_86 : ln 86 = 81 := by decide +kernel
theorem l_87 : ln 87 = 81 := by decide +kernel
theorem l_88 : ln 88 = 3 := by decide +kernel
theorem l_89 : ln 89 = 81 := by decide +kernel
theorem l_90 : ln 90 = 81 := by decide +kernel
theorem l_91 : ln 91 = 81 := by decide +kernel
theorem l_94 : ln 94 = 2 := by decide +kernel
theorem l_95 : ln 95 = 14 := by decide +kernel
theorem l_96 : ln 96 = 14 := by decide +kernel
theorem l_97 : ln 97 = 2 := by decide +kernel
theorem l_98 : ln 98 = 112 := by decide +kernel
theorem l_99 : ln 99 = 49 := by decide +kernel
theorem l_100 : ln 100 = 7 := by decide +kernel
theorem l_101 : ln 101 = 49 := by decide +kernel
theorem l_102 : ln 102 = 49 := by decide +kernel
theorem l_103 : ln 103 = 49 := by decide +kernel
theorem l_104 : ln 104 = 49 := by decide +kernel
theorem l_105 : ln 105 = 49 := by decide +kernel
theorem l_106 : ln 106 = 49 := by decide +kernel
theorem l_107 : ln 107 = 49 := by decide +kernel
theorem l_108 : ln 108 = 3 := by decide +kernel
theorem l_109 : ln 109 = 49 := by decide +kernel
theorem l_110 : ln 110 = 49 := by decide +kernel
theorem l_111 : ln 111 = 49 := by decide +kernel
theorem l_114 : ln 114 = 2 := by decide +kernel
theorem l_115 : ln 115 = 10 := by decide +kernel
theorem l_116 : ln 116 = 10 := by decide +kernel
theorem l_117 : ln 117 = 2 := by decide +kernel
theorem l_118 : ln 118 = 60 := by decide +kernel
theorem l_119 : ln 119 = 25 := by decide +kernel
theorem l_120 : ln 120 = 7 := by decide +kernel
theorem l_121 : ln 121 = 25 := by decide +kernel
theorem l_122 : ln 122 = 25 := by decide +kernel
theorem l_123 : ln 123 = 25 := by decide +kernel
theorem l_124 : ln 124 = 25 := by decide +kernel
theorem l_125 : ln 125 = 25 := by decide +kernel
theorem l_126 : ln 126 = 25 := by decide +kernel
theorem l_127 : ln 127 = 25 := by decide +kernel
theorem l_128 : ln 128 = 3 := by decide +kernel
theorem l_129 : ln 129 = 25 := by decide +kernel
theorem l_130 : ln 130 = 25 := by decide +kernel
theorem l_131 : ln 131 = 25 := by decide +kernel
theorem l_134 : ln 134 = 2 := by decide +kernel
theorem l_135 : ln 135 = 6 := by decide +kernel
theorem l_136 : ln 136 = 6 := by decide +kernel
theorem l_137 : ln 137 = 2 := by decide +kernel
theorem l_138 : ln 138 = 24 := by decide +kernel
theorem l_139 : ln 139 = 9 := by decide +kernel
theorem l_140 : ln 140 = 7 := by decide +kernel
theorem l_141 : ln 141 = 9 := by decide +kernel
theorem l_142 : ln 142 = 9 := by decide +kernel
theorem l_143 : ln 143 = 9 := by decide +kernel
theorem l_144 : ln 144 = 9 := by decide +kernel
theorem l_145 : ln 145 = 9 := by decide +kernel
theorem l_146 : ln 146 = 9 := by decide +kernel
theorem l_147 : ln 147 = 9 := by decide +kernel
theorem l_148 : ln 148 = 3 := by decide +kernel
theorem l_149 : ln 149 = 9 := by decide +kernel
theorem l_150 : ln 150 = 9 := by decide +kernel
theorem l_151 : ln 151 = 9 := by decide +kernel
theorem l_154 : ln 154 = 2 := by decide +kernel
theorem l_155 : ln 155 = 2 := by decide +kernel
theorem l_156 : ln 156 = 2 := by decide +kernel
theorem l_157 : ln 157 = 2 := by decide +kernel
theorem l_158 : ln 158 = 4 := by decide +kernel
theorem l_159 : ln 159 = 1 := by decide +kernel
theorem l_160 : ln 160 = 7 := by decide +kernel
theorem l_161 : ln 161 = 1 := by decide +kernel
theorem l_162 : ln 162 = 1 := by decide +kernel
theorem l_163 : ln 163 = 1 := by decide +kernel
theorem l_164 : ln 164 = 1 := by decide +kernel
theorem l_165 : ln 165 = 1 := by decide +kernel
theorem l_166 : ln 166 = 1 := by decide +kernel
theorem l_167 : ln 167 = 1 := by decide +kernel
theorem l_168 : ln 168 = 3 := by decide +kernel
theorem l_169 : ln 169 = 1 := by decide +kernel
theorem l_170 : ln 170 = 1 := by decide +kernel
theorem l_171 : ln 171 = 1 := by decide +kernel
theorem l_173 : ln 173 = 20 := by decide +kernel
theorem l_174 : ln 174 = 20 := by decide +kernel
theorem l_175 : ln 175 = 20 := by decide +kernel
theorem l_177 : ln 177 = 96 := by decide +kernel
theorem l_178 : ln 178 = 80 := by decide +kernel
theorem l_179 : ln 179 = 3 := by decide +kernel
theorem l_180 : ln 180 = 121 := by decide +kernel
theorem l_181 : ln 181 = 168 := by decide +kernel
theorem l_182 : ln 182 = 24 := by decide +kernel
theorem l_183 : ln 183 = 264 := by decide +kernel
theorem l_184 : ln 184 = 12 := by decide +kernel
theorem l_185 : ln 185 = 7 := by decide +kernel
theorem l_186 : ln 186 = 7 := by decide +kernel
theorem l_187 : ln 187 = 121 := by decide +kernel
theorem l_188 : ln 188 = 726 := by decide +kernel
theorem l_189 : ln 189 = 20 := by decide +kernel
theorem l_190 : ln 190 = 20 := by decide +kernel
theorem l_191 : ln 191 = 96 := by decide +kernel
theorem l_192 : ln 192 = 362 := by decide +kernel
theorem l_193 : ln 193 = 2 := by decide +kernel
theorem k_rule {r : Nat} (h : r < 24) : kd (25 + 1 + r) = 6 := by
  have : ∀ r, r < 24 → kd (25 + 1 + r) = 6 := by decide +kernel
  exact this r h
