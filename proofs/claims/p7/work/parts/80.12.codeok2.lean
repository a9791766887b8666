theorem ckU0 : ∀ a, a < 0 → ckP a := lt_0
theorem ckU1 : ∀ a, a < 1 → ckP a := lt_s ckU0 ck0
theorem ckU2 : ∀ a, a < 2 → ckP a := lt_s ckU1 ck1
theorem ckU3 : ∀ a, a < 3 → ckP a := lt_s ckU2 ck2
theorem ckU4 : ∀ a, a < 4 → ckP a := lt_s ckU3 ck3
theorem ckU5 : ∀ a, a < 5 → ckP a := lt_s ckU4 ck4
theorem ckU6 : ∀ a, a < 6 → ckP a := lt_s ckU5 ck5
theorem ckU7 : ∀ a, a < 7 → ckP a := lt_s ckU6 ck6
theorem ckU8 : ∀ a, a < 8 → ckP a := lt_s ckU7 ck7
theorem ckU9 : ∀ a, a < 9 → ckP a := lt_s ckU8 ck8
theorem ckU10 : ∀ a, a < 10 → ckP a := lt_s ckU9 ck9
theorem ckU11 : ∀ a, a < 11 → ckP a := lt_s ckU10 ck10
theorem ckU12 : ∀ a, a < 12 → ckP a := lt_s ckU11 ck11
theorem ckU13 : ∀ a, a < 13 → ckP a := lt_s ckU12 ck12
theorem ckU14 : ∀ a, a < 14 → ckP a := lt_s ckU13 ck13
theorem ckU15 : ∀ a, a < 15 → ckP a := lt_s ckU14 ck14
theorem ckU16 : ∀ a, a < 16 → ckP a := lt_s ckU15 ck15
theorem ckU17 : ∀ a, a < 17 → ckP a := lt_s ckU16 ck16
theorem ckU18 : ∀ a, a < 18 → ckP a := lt_s ckU17 ck17
theorem ckU19 : ∀ a, a < 19 → ckP a := lt_s ckU18 ck18
theorem ckU20 : ∀ a, a < 20 → ckP a := lt_s ckU19 ck19
theorem ckU21 : ∀ a, a < 21 → ckP a := lt_s ckU20 ck20
theorem ckU22 : ∀ a, a < 22 → ckP a := lt_s ckU21 ck21
theorem ckU23 : ∀ a, a < 23 → ckP a := lt_s ckU22 ck22
theorem ckU24 : ∀ a, a < 24 → ckP a := lt_s ckU23 ck23
theorem ckU25 : ∀ a, a < 25 → ckP a := lt_s ckU24 ck24
theorem ckU26 : ∀ a, a < 26 → ckP a := lt_s ckU25 ck25
theorem ckU27 : ∀ a, a < 27 → ckP a := lt_s ckU26 ck26
theorem ckU28 : ∀ a, a < 28 → ckP a := lt_s ckU27 ck27
theorem ckU29 : ∀ a, a < 29 → ckP a := lt_s ckU28 ck28
theorem ckU30 : ∀ a, a < 30 → ckP a := lt_s ckU29 ck29
theorem ckU31 : ∀ a, a < 31 → ckP a := lt_s ckU30 ck30
theorem ckU32 : ∀ a, a < 32 → ckP a := lt_s ckU31 ck31
theorem ckU33 : ∀ a, a < 33 → ckP a := lt_s ckU32 ck32
theorem ckU34 : ∀ a, a < 34 → ckP a := lt_s ckU33 ck33
theorem ckU35 : ∀ a, a < 35 → ckP a := lt_s ckU34 ck34
theorem ckU36 : ∀ a, a < 36 → ckP a := lt_s ckU35 ck35
theorem ckU37 : ∀ a, a < 37 → ckP a := lt_s ckU36 ck36
theorem ckU38 : ∀ a, a < 38 → ckP a := lt_s ckU37 ck37
theorem ckU39 : ∀ a, a < 39 → ckP a := lt_s ckU38 ck38
theorem ckU40 : ∀ a, a < 40 → ckP a := lt_s ckU39 ck39
theorem ckU41 : ∀ a, a < 41 → ckP a := lt_s ckU40 ck40
theorem ckU42 : ∀ a, a < 42 → ckP a := lt_s ckU41 ck41
theorem ckU43 : ∀ a, a < 43 → ckP a := lt_s ckU42 ck42
theorem ckU44 : ∀ a, a < 44 → ckP a := lt_s ckU43 ck43
theorem ckU45 : ∀ a, a < 45 → ckP a := lt_s ckU44 ck44
theorem ckU46 : ∀ a, a < 46 → ckP a := lt_s ckU45 ck45
theorem ckU47 : ∀ a, a < 47 → ckP a := lt_s ckU46 ck46
theorem ckU48 : ∀ a, a < 48 → ckP a := lt_s ckU47 ck47
theorem ckU49 : ∀ a, a < 49 → ckP a := lt_s ckU48 ck48
theorem ckU50 : ∀ a, a < 50 → ckP a := lt_s ckU49 ck49
theorem ckU51 : ∀ a, a < 51 → ckP a := lt_s ckU50 ck50
theorem ckU52 : ∀ a, a < 52 → ckP a := lt_s ckU51 ck51
theorem ckU53 : ∀ a, a < 53 → ckP a := lt_s ckU52 ck52
theorem ckU54 : ∀ a, a < 54 → ckP a := lt_s ckU53 ck53
theorem ckU55 : ∀ a, a < 55 → ckP a := lt_s ckU54 ck54
theorem ckU56 : ∀ a, a < 56 → ckP a := lt_s ckU55 ck55
theorem ckU57 : ∀ a, a < 57 → ckP a := lt_s ckU56 ck56
theorem ckU58 : ∀ a, a < 58 → ckP a := lt_s ckU57 ck57
theorem ckU59 : ∀ a, a < 59 → ckP a := lt_s ckU58 ck58
theorem ckU60 : ∀ a, a < 60 → ckP a := lt_s ckU59 ck59
theorem ckU61 : ∀ a, a < 61 → ckP a := lt_s ckU60 ck60
theorem ckU62 : ∀ a, a < 62 → ckP a := lt_s ckU61 ck61
theorem ckU63 : ∀ a, a < 63 → ckP a := lt_s ckU62 ck62
theorem ckU64 : ∀ a, a < 64 → ckP a := lt_s ckU63 ck63
theorem ckU65 : ∀ a, a < 65 → ckP a := lt_s ckU64 ck64
theorem ckU66 : ∀ a, a < 66 → ckP a := lt_s ckU65 ck65
theorem ckU67 : ∀ a, a < 67 → ckP a := lt_s ckU66 ck66
theorem ckU68 : ∀ a, a < 68 → ckP a := lt_s ckU67 ck67
theorem ckU69 : ∀ a, a < 69 → ckP a := lt_s ckU68 ck68
theorem ckU70 : ∀ a, a < 70 → ckP a := lt_s ckU69 ck69
theorem ckU71 : ∀ a, a < 71 → ckP a := lt_s ckU70 ck70
theorem ckU72 : ∀ a, a < 72 → ckP a := lt_s ckU71 ck71
theorem ckU73 : ∀ a, a < 73 → ckP a := lt_s ckU72 ck72
theorem ckU74 : ∀ a, a < 74 → ckP a := lt_s ckU73 ck73
theorem ckU75 : ∀ a, a < 75 → ckP a := lt_s ckU74 ck74
theorem ckU76 : ∀ a, a < 76 → ckP a := lt_s ckU75 ck75
theorem ckU77 : ∀ a, a < 77 → ckP a := lt_s ckU76 ck76
theorem ckU78 : ∀ a, a < 78 → ckP a := lt_s ckU77 ck77
theorem ckU79 : ∀ a, a < 79 → ckP a := lt_s ckU78 ck78
theorem ckU80 : ∀ a, a < 80 → ckP a := lt_s ckU79 ck79
theorem ckU81 : ∀ a, a < 81 → ckP a := lt_s ckU80 ck80
theorem ckU82 : ∀ a, a < 82 → ckP a := lt_s ckU81 ck81
theorem ckU83 : ∀ a, a < 83 → ckP a := lt_s ckU82 ck82
theorem ckU84 : ∀ a, a < 84 → ckP a := lt_s ckU83 ck83
theorem ckU85 : ∀ a, a < 85 → ckP a := lt_s ckU84 ck84
theorem ckU86 : ∀ a, a < 86 → ckP a := lt_s ckU85 ck85
theorem ckU87 : ∀ a, a < 87 → ckP a := lt_s ckU86 ck86
theorem ckU88 : ∀ a, a < 88 → ckP a := lt_s ckU87 ck87
theorem ckU89 : ∀ a, a < 89 → ckP a := lt_s ckU88 ck88
theorem ckU90 : ∀ a, a < 90 → ckP a := lt_s ckU89 ck89
theorem ckU91 : ∀ a, a < 91 → ckP a := lt_s ckU90 ck90
theorem ckU92 : ∀ a, a < 92 → ckP a := lt_s ckU91 ck91
theorem ckU93 : ∀ a, a < 93 → ckP a := lt_s ckU92 ck92
theorem ckU94 : ∀ a, a < 94 → ckP a := lt_s ckU93 ck93
theorem ckU95 : ∀ a, a < 95 → ckP a := lt_s ckU94 ck94
theorem ckU96 : ∀ a, a < 96 → ckP a := lt_s ckU95 ck95
theorem ckU97 : ∀ a, a < 97 → ckP a := lt_s ckU96 ck96
theorem ckU98 : ∀ a, a < 98 → ckP a := lt_s ckU97 ck97
theorem ckU99 : ∀ a, a < 99 → ckP a := lt_s ckU98 ck98
theorem ckU100 : ∀ a, a < 100 → ckP a := lt_s ckU99 ck99
theorem ckU101 : ∀ a, a < 101 → ckP a := lt_s ckU100 ck100
theorem ckU102 : ∀ a, a < 102 → ckP a := lt_s ckU101 ck101
theorem ckU103 : ∀ a, a < 103 → ckP a := lt_s ckU102 ck102
theorem ckU104 : ∀ a, a < 104 → ckP a := lt_s ckU103 ck103
theorem ckU105 : ∀ a, a < 105 → ckP a := lt_s ckU104 ck104
theorem ckU106 : ∀ a, a < 106 → ckP a := lt_s ckU105 ck105
theorem ckU107 : ∀ a, a < 107 → ckP a := lt_s ckU106 ck106
theorem ckU108 : ∀ a, a < 108 → ckP a := lt_s ckU107 ck107
theorem ckU109 : ∀ a, a < 109 → ckP a := lt_s ckU108 ck108
theorem ckU110 : ∀ a, a < 110 → ckP a := lt_s ckU109 ck109
theorem ckU111 : ∀ a, a < 111 → ckP a := lt_s ckU110 ck110
theorem ckU112 : ∀ a, a < 112 → ckP a := lt_s ckU111 ck111
theorem ckU113 : ∀ a, a < 113 → ckP a := lt_s ckU112 ck112
theorem ckU114 : ∀ a, a < 114 → ckP a := lt_s ckU113 ck113
theorem ckU115 : ∀ a, a < 115 → ckP a := lt_s ckU114 ck114
theorem ckU116 : ∀ a, a < 116 → ckP a := lt_s ckU115 ck115
theorem ckU117 : ∀ a, a < 117 → ckP a := lt_s ckU116 ck116
theorem ckU118 : ∀ a, a < 118 → ckP a := lt_s ckU117 ck117
theorem ckU119 : ∀ a, a < 119 → ckP a := lt_s ckU118 ck118
theorem ckU120 : ∀ a, a < 120 → ckP a := lt_s ckU119 ck119
theorem ckU121 : ∀ a, a < 121 → ckP a := lt_s ckU120 ck120
theorem ckU122 : ∀ a, a < 122 → ckP a := lt_s ckU121 ck121
theorem ckU123 : ∀ a, a < 123 → ckP a := lt_s ckU122 ck122
theorem ckU124 : ∀ a, a < 124 → ckP a := lt_s ckU123 ck123
theorem ckU125 : ∀ a, a < 125 → ckP a := lt_s ckU124 ck124
theorem ckU126 : ∀ a, a < 126 → ckP a := lt_s ckU125 ck125
theorem ckU127 : ∀ a, a < 127 → ckP a := lt_s ckU126 ck126
theorem ckU128 : ∀ a, a < 128 → ckP a := lt_s ckU127 ck127
theorem ckU129 : ∀ a, a < 129 → ckP a := lt_s ckU128 ck128
theorem ckU130 : ∀ a, a < 130 → ckP a := lt_s ckU129 ck129
theorem ckU131 : ∀ a, a < 131 → ckP a := lt_s ckU130 ck130
theorem ckU132 : ∀ a, a < 132 → ckP a := lt_s ckU131 ck131
theorem ckU133 : ∀ a, a < 133 → ckP a := lt_s ckU132 ck132
theorem ckU134 : ∀ a, a < 134 → ckP a := lt_s ckU133 ck133
theorem ckU135 : ∀ a, a < 135 → ckP a := lt_s ckU134 ck134
theorem ckU136 : ∀ a, a < 136 → ckP a := lt_s ckU135 ck135
theorem ckU137 : ∀ a, a < 137 → ckP a := lt_s ckU136 ck136
theorem ckU138 : ∀ a, a < 138 → ckP a := lt_s ckU137 ck137
theorem ckU139 : ∀ a, a < 139 → ckP a := lt_s ckU138 ck138
theorem ckU140 : ∀ a, a < 140 → ckP a := lt_s ckU139 ck139
theorem ckU141 : ∀ a, a < 141 → ckP a := lt_s ckU140 ck140
theorem ckU142 : ∀ a, a < 142 → ckP a := lt_s ckU141 ck141
theorem ckU143 : ∀ a, a < 143 → ckP a := lt_s ckU142 ck142
theorem ckU144 : ∀ a, a < 144 → ckP a := lt_s ckU143 ck143
theorem ckU145 : ∀ a, a < 145 → ckP a := lt_s ckU144 ck144
theorem ckU146 : ∀ a, a < 146 → ckP a := lt_s ckU145 ck145
theorem ckU147 : ∀ a, a < 147 → ckP a := lt_s ckU146 ck146
theorem ckU148 : ∀ a, a < 148 → ckP a := lt_s ckU147 ck147
theorem ckU149 : ∀ a, a < 149 → ckP a := lt_s ckU148 ck148
theorem ckU150 : ∀ a, a < 150 → ckP a := lt_s ckU149 ck149
theorem ckU151 : ∀ a, a < 151 → ckP a := lt_s ckU150 ck150
theorem ckU152 : ∀ a, a < 152 → ckP a := lt_s ckU151 ck151
theorem ckU153 : ∀ a, a < 153 → ckP a := lt_s ckU152 ck152
theorem ckU154 : ∀ a, a < 154 → ckP a := lt_s ckU153 ck153
theorem ckU155 : ∀ a, a < 155 → ckP a := lt_s ckU154 ck154
theorem ckU156 : ∀ a, a < 156 → ckP a := lt_s ckU155 ck155
theorem ckU157 : ∀ a, a < 157 → ckP a := lt_s ckU156 ck156
theorem ckU158 : ∀ a, a < 158 → ckP a := lt_s ckU157 ck157
theorem ckU159 : ∀ a, a < 159 → ckP a := lt_s ckU158 ck158
theorem ckU160 : ∀ a, a < 160 → ckP a := lt_s ckU159 ck159
theorem ckU161 : ∀ a, a < 161 → ckP a := lt_s ckU160 ck160
theorem ckU162 : ∀ a, a < 162 → ckP a := lt_s ckU161 ck161
theorem ckU163 : ∀ a, a < 163 → ckP a := lt_s ckU162 ck162
theorem ckU164 : ∀ a, a < 164 → ckP a := lt_s ckU163 ck163
theorem ckU165 : ∀ a, a < 165 → ckP a := lt_s ckU164 ck164
theorem ckU166 : ∀ a, a < 166 → ckP a := lt_s ckU165 ck165
theorem ckU167 : ∀ a, a < 167 → ckP a := lt_s ckU166 ck166
theorem ckU168 : ∀ a, a < 168 → ckP a := lt_s ckU167 ck167
theorem ckU169 : ∀ a, a < 169 → ckP a := lt_s ckU168 ck168
theorem ckU170 : ∀ a, a < 170 → ckP a := lt_s ckU169 ck169
theorem ckU171 : ∀ a, a < 171 → ckP a := lt_s ckU170 ck170
theorem ckU172 : ∀ a, a < 172 → ckP a := lt_s ckU171 ck171
theorem ckU173 : ∀ a, a < 173 → ckP a := lt_s ckU172 ck172
theorem ckU174 : ∀ a, a < 174 → ckP a := lt_s ckU173 ck173
theorem ckU175 : ∀ a, a < 175 → ckP a := lt_s ckU174 ck174
theorem ckU176 : ∀ a, a < 176 → ckP a := lt_s ckU175 ck175
theorem ckU177 : ∀ a, a < 177 → ckP a := lt_s ckU176 ck176
theorem ckU178 : ∀ a, a < 178 → ckP a := lt_s ckU177 ck177
theorem ckU179 : ∀ a, a < 179 → ckP a := lt_s ckU178 ck178
theorem ckU180 : ∀ a, a < 180 → ckP a := lt_s ckU179 ck179
theorem ckU181 : ∀ a, a < 181 → ckP a := lt_s ckU180 ck180
theorem ckU182 : ∀ a, a < 182 → ckP a := lt_s ckU181 ck181
theorem ckU183 : ∀ a, a < 183 → ckP a := lt_s ckU182 ck182
theorem ckU184 : ∀ a, a < 184 → ckP a := lt_s ckU183 ck183
theorem ckU185 : ∀ a, a < 185 → ckP a := lt_s ckU184 ck184
theorem ckU186 : ∀ a, a < 186 → ckP a := lt_s ckU185 ck185
theorem ckU187 : ∀ a, a < 187 → ckP a := lt_s ckU186 ck186
theorem ckU188 : ∀ a, a < 188 → ckP a := lt_s ckU187 ck187
theorem ckU189 : ∀ a, a < 189 → ckP a := lt_s ckU188 ck188
theorem ckU190 : ∀ a, a < 190 → ckP a := lt_s ckU189 ck189
theorem ckU191 : ∀ a, a < 191 → ckP a := lt_s ckU190 ck190
theorem ckU192 : ∀ a, a < 192 → ckP a := lt_s ckU191 ck191
theorem ckU193 : ∀ a, a < 193 → ckP a := lt_s ckU192 ck192
theorem ckU194 : ∀ a, a < 194 → ckP a := lt_s ckU193 ck193
theorem ckU195 : ∀ a, a < 195 → ckP a := lt_s ckU194 ck194
theorem ckU196 : ∀ a, a < 196 → ckP a := lt_s ckU195 ck195
theorem ckU197 : ∀ a, a < 197 → ckP a := lt_s ckU196 ck196
theorem ckU198 : ∀ a, a < 198 → ckP a := lt_s ckU197 ck197
theorem ckU199 : ∀ a, a < 199 → ckP a := lt_s ckU198 ck198
theorem ckU200 : ∀ a, a < 200 → ckP a := lt_s ckU199 ck199
theorem ckU201 : ∀ a, a < 201 → ckP a := lt_s ckU200 ck200
theorem ckU202 : ∀ a, a < 202 → ckP a := lt_s ckU201 ck201
theorem ckU203 : ∀ a, a < 203 → ckP a := lt_s ckU202 ck202
theorem ckU204 : ∀ a, a < 204 → ckP a := lt_s ckU203 ck203
theorem ckU205 : ∀ a, a < 205 → ckP a := lt_s ckU204 ck204
theorem ckU206 : ∀ a, a < 206 → ckP a := lt_s ckU205 ck205
theorem ckU207 : ∀ a, a < 207 → ckP a := lt_s ckU206 ck206
theorem ckU208 : ∀ a, a < 208 → ckP a := lt_s ckU207 ck207
theorem ckU209 : ∀ a, a < 209 → ckP a := lt_s ckU208 ck208
theorem ckU210 : ∀ a, a < 210 → ckP a := lt_s ckU209 ck209
theorem ckU211 : ∀ a, a < 211 → ckP a := lt_s ckU210 ck210
theorem ckU212 : ∀ a, a < 212 → ckP a := lt_s ckU211 ck211
theorem ckU213 : ∀ a, a < 213 → ckP a := lt_s ckU212 ck212
theorem ckU214 : ∀ a, a < 214 → ckP a := lt_s ckU213 ck213
theorem ckU215 : ∀ a, a < 215 → ckP a := lt_s ckU214 ck214
theorem ckU216 : ∀ a, a < 216 → ckP a := lt_s ckU215 ck215
theorem ckU217 : ∀ a, a < 217 → ckP a := lt_s ckU216 ck216
theorem ckU218 : ∀ a, a < 218 → ckP a := lt_s ckU217 ck217
theorem ckU219 : ∀ a, a < 219 → ckP a := lt_s ckU218 ck218
theorem ckU220 : ∀ a, a < 220 → ckP a := lt_s ckU219 ck219
theorem ckU221 : ∀ a, a < 221 → ckP a := lt_s ckU220 ck220
theorem ckU222 : ∀ a, a < 222 → ckP a := lt_s ckU221 ck221
theorem ckU223 : ∀ a, a < 223 → ckP a := lt_s ckU222 ck222
theorem ckU224 : ∀ a, a < 224 → ckP a := lt_s ckU223 ck223
theorem ckU225 : ∀ a, a < 225 → ckP a := lt_s ckU224 ck224
theorem ckU226 : ∀ a, a < 226 → ckP a := lt_s ckU225 ck225
theorem ckU227 : ∀ a, a < 227 → ckP a := lt_s ckU226 ck226
theorem ckU228 : ∀ a, a < 228 → ckP a := lt_s ckU227 ck227
theorem ckU229 : ∀ a, a < 229 → ckP a := lt_s ckU228 ck228
theorem ckU230 : ∀ a, a < 230 → ckP a := lt_s ckU229 ck229
theorem ckU231 : ∀ a, a < 231 → ckP a := lt_s ckU230 ck230
theorem ckU232 : ∀ a, a < 232 → ckP a := lt_s ckU231 ck231
theorem ckU233 : ∀ a, a < 233 → ckP a := lt_s ckU232 ck232
theorem ckU234 : ∀ a, a < 234 → ckP a := lt_s ckU233 ck233
theorem ckU235 : ∀ a, a < 235 → ckP a := lt_s ckU234 ck234
theorem ckU236 : ∀ a, a < 236 → ckP a := lt_s ckU235 ck235
theorem ckU237 : ∀ a, a < 237 → ckP a := lt_s ckU236 ck236
theorem ckU238 : ∀ a, a < 238 → ckP a := lt_s ckU237 ck237
theorem ckU239 : ∀ a, a < 239 → ckP a := lt_s ckU238 ck238
theorem ckU240 : ∀ a, a < 240 → ckP a := lt_s ckU239 ck239
theorem ckU241 : ∀ a, a < 241 → ckP a := lt_s ckU240 ck240
theorem ckU242 : ∀ a, a < 242 → ckP a := lt_s ckU241 ck241
theorem ckU243 : ∀ a, a < 243 → ckP a := lt_s ckU242 ck242
theorem ckU244 : ∀ a, a < 244 → ckP a := lt_s ckU243 ck243
theorem ckU245 : ∀ a, a < 245 → ckP a := lt_s ckU244 ck244
theorem ckU246 : ∀ a, a < 246 → ckP a := lt_s ckU245 ck245
theorem ckU247 : ∀ a, a < 247 → ckP a := lt_s ckU246 ck246
theorem ckU248 : ∀ a, a < 248 → ckP a := lt_s ckU247 ck247
theorem ckU249 : ∀ a, a < 249 → ckP a := lt_s ckU248 ck248
theorem ckU250 : ∀ a, a < 250 → ckP a := lt_s ckU249 ck249
theorem ckU251 : ∀ a, a < 251 → ckP a := lt_s ckU250 ck250
theorem ckU252 : ∀ a, a < 252 → ckP a := lt_s ckU251 ck251
theorem ckU253 : ∀ a, a < 253 → ckP a := lt_s ckU252 ck252
theorem ckU254 : ∀ a, a < 254 → ckP a := lt_s ckU253 ck253
theorem ckU255 : ∀ a, a < 255 → ckP a := lt_s ckU254 ck254
theorem ckU256 : ∀ a, a < 256 → ckP a := lt_s ckU255 ck255
theorem ckU257 : ∀ a, a < 257 → ckP a := lt_s ckU256 ck256
theorem ckU258 : ∀ a, a < 258 → ckP a := lt_s ckU257 ck257
theorem ckU259 : ∀ a, a < 259 → ckP a := lt_s ckU258 ck258
theorem ckU260 : ∀ a, a < 260 → ckP a := lt_s ckU259 ck259
theorem ckU261 : ∀ a, a < 261 → ckP a := lt_s ckU260 ck260
theorem ckU262 : ∀ a, a < 262 → ckP a := lt_s ckU261 ck261
theorem ckU263 : ∀ a, a < 263 → ckP a := lt_s ckU262 ck262
theorem ckU264 : ∀ a, a < 264 → ckP a := lt_s ckU263 ck263
theorem ckU265 : ∀ a, a < 265 → ckP a := lt_s ckU264 ck264
theorem ckU266 : ∀ a, a < 266 → ckP a := lt_s ckU265 ck265
theorem ckU267 : ∀ a, a < 267 → ckP a := lt_s ckU266 ck266
theorem ckU268 : ∀ a, a < 268 → ckP a := lt_s ckU267 ck267
theorem ckU269 : ∀ a, a < 269 → ckP a := lt_s ckU268 ck268
theorem ckU270 : ∀ a, a < 270 → ckP a := lt_s ckU269 ck269
theorem ckU271 : ∀ a, a < 271 → ckP a := lt_s ckU270 ck270
theorem ckU272 : ∀ a, a < 272 → ckP a := lt_s ckU271 ck271
theorem ckU273 : ∀ a, a < 273 → ckP a := lt_s ckU272 ck272
theorem ckU274 : ∀ a, a < 274 → ckP a := lt_s ckU273 ck273
theorem ckU275 : ∀ a, a < 275 → ckP a := lt_s ckU274 ck274
theorem ckU276 : ∀ a, a < 276 → ckP a := lt_s ckU275 ck275
theorem ckU277 : ∀ a, a < 277 → ckP a := lt_s ckU276 ck276
theorem ckU278 : ∀ a, a < 278 → ckP a := lt_s ckU277 ck277
theorem ckU279 : ∀ a, a < 279 → ckP a := lt_s ckU278 ck278
theorem ckU280 : ∀ a, a < 280 → ckP a := lt_s ckU279 ck279
theorem ckU281 : ∀ a, a < 281 → ckP a := lt_s ckU280 ck280
theorem ckU282 : ∀ a, a < 282 → ckP a := lt_s ckU281 ck281
theorem ckU283 : ∀ a, a < 283 → ckP a := lt_s ckU282 ck282
theorem ckU284 : ∀ a, a < 284 → ckP a := lt_s ckU283 ck283
theorem ckU285 : ∀ a, a < 285 → ckP a := lt_s ckU284 ck284
theorem ckU286 : ∀ a, a < 286 → ckP a := lt_s ckU285 ck285
theorem ckU287 : ∀ a, a < 287 → ckP a := lt_s ckU286 ck286
theorem ckU288 : ∀ a, a < 288 → ckP a := lt_s ckU287 ck287
theorem ckU289 : ∀ a, a < 289 → ckP a := lt_s ckU288 ck288
theorem ckU290 : ∀ a, a < 290 → ckP a := lt_s ckU289 ck289
theorem ckU291 : ∀ a, a < 291 → ckP a := lt_s ckU290 ck290
theorem ckU292 : ∀ a, a < 292 → ckP a := lt_s ckU291 ck291
theorem ckU293 : ∀ a, a < 293 → ckP a := lt_s ckU292 ck292
theorem ckU294 : ∀ a, a < 294 → ckP a := lt_s ckU293 ck293
theorem ckU295 : ∀ a, a < 295 → ckP a := lt_s ckU294 ck294
theorem ckU296 : ∀ a, a < 296 → ckP a := lt_s ckU295 ck295
theorem ckU297 : ∀ a, a < 297 → ckP a := lt_s ckU296 ck296
theorem ckU298 : ∀ a, a < 298 → ckP a := lt_s ckU297 ck297
theorem ckU299 : ∀ a, a < 299 → ckP a := lt_s ckU298 ck298
theorem ckU300 : ∀ a, a < 300 → ckP a := lt_s ckU299 ck299
theorem ckU301 : ∀ a, a < 301 → ckP a := lt_s ckU300 ck300
theorem ckU302 : ∀ a, a < 302 → ckP a := lt_s ckU301 ck301
theorem ckU303 : ∀ a, a < 303 → ckP a := lt_s ckU302 ck302
theorem ckU304 : ∀ a, a < 304 → ckP a := lt_s ckU303 ck303
theorem ckU305 : ∀ a, a < 305 → ckP a := lt_s ckU304 ck304
theorem ckU306 : ∀ a, a < 306 → ckP a := lt_s ckU305 ck305
theorem ckU307 : ∀ a, a < 307 → ckP a := lt_s ckU306 ck306
theorem ckU308 : ∀ a, a < 308 → ckP a := lt_s ckU307 ck307
theorem ckU309 : ∀ a, a < 309 → ckP a := lt_s ckU308 ck308
theorem ckU310 : ∀ a, a < 310 → ckP a := lt_s ckU309 ck309
theorem ckU311 : ∀ a, a < 311 → ckP a := lt_s ckU310 ck310
theorem ckU312 : ∀ a, a < 312 → ckP a := lt_s ckU311 ck311
theorem ckU313 : ∀ a, a < 313 → ckP a := lt_s ckU312 ck312
theorem ckU314 : ∀ a, a < 314 → ckP a := lt_s ckU313 ck313
theorem ckU315 : ∀ a, a < 315 → ckP a := lt_s ckU314 ck314
theorem ckU316 : ∀ a, a < 316 → ckP a := lt_s ckU315 ck315
theorem ckU317 : ∀ a, a < 317 → ckP a := lt_s ckU316 ck316
theorem ckU318 : ∀ a, a < 318 → ckP a := lt_s ckU317 ck317
theorem ckU319 : ∀ a, a < 319 → ckP a := lt_s ckU318 ck318
theorem ckU320 : ∀ a, a < 320 → ckP a := lt_s ckU319 ck319
theorem ckU321 : ∀ a, a < 321 → ckP a := lt_s ckU320 ck320
theorem ckU322 : ∀ a, a < 322 → ckP a := lt_s ckU321 ck321
theorem lookup_mem {α : Type} {k : Nat} {v : α} : ∀ {l : List (Nat × α)}, l.lookup k = some v → (k, v) ∈ l
  | [], h => by cases h
  | (k', v') :: l, h => by
    rw [List.lookup_cons] at h
    split at h
    · rename_i he
      cases h
      rw [beq_iff_eq] at he
      rw [he]
      exact List.mem_cons_self
    · exact List.mem_cons_of_mem _ (lookup_mem h)
theorem cd_ok {M pc : Nat} {ce : CE} (h : cd M pc = some ce) : okB M pc ce = true := by
  unfold cd at h
  have hm := lookup_mem h
  have hM : M < 322 := by
    rcases Nat.lt_or_ge M 322 with q | q
    · exact q
    · have hn : allC[M]? = none := List.getElem?_eq_none (by
        have : allC.length = 322 := by decide +kernel
        omega)
      rw [hn] at hm
      cases hm
  exact List.all_eq_true.mp (ckU322 M hM) _ hm
theorem cd_lt {M pc : Nat} {ce : CE} (h : cd M pc = some ce) : M < 322 := by
  unfold cd at h
  have hm := lookup_mem h
  rcases Nat.lt_or_ge M 322 with q | q
  · exact q
  · have hn : allC[M]? = none := List.getElem?_eq_none (by
      have : allC.length = 322 := by decide +kernel
      omega)
    rw [hn] at hm
    cases hm
theorem my_ok : (List.range 321).all (fun M => decide (M < 4) || decide ((mY M).cls = cnm (mO M) ∧ plainName (mY M).cls = true ∧ (mY M).cls ≠ "java/lang/invoke/MethodHandle" ∧ (mY M).cls ≠ "java/lang/invoke/VarHandle" ∧ mO M < 15 ∧ (parseMethodDescriptor (mY M).desc).map (fun d => d.parameters.length) = some (pN M) ∧ mL M ≤ 12)) = true := by decide +kernel
theorem my_at {M : Nat} (h : M < 321) (h4 : 4 ≤ M) : (mY M).cls = cnm (mO M) ∧ plainName (mY M).cls = true ∧ (mY M).cls ≠ "java/lang/invoke/MethodHandle" ∧ (mY M).cls ≠ "java/lang/invoke/VarHandle" ∧ mO M < 15 ∧ (parseMethodDescriptor (mY M).desc).map (fun d => d.parameters.length) = some (pN M) ∧ mL M ≤ 12 := by
  have h2 := List.all_eq_true.mp my_ok M (List.mem_range.mpr h)
  rw [Bool.or_eq_true] at h2
  exact of_decide_eq_true (h2.resolve_left fun h => absurd (of_decide_eq_true h) (by omega))
theorem ft_ok : (List.range 11).all (fun c => (List.range (nF c)).all (fun k => (match tyO c k with
  | .int => fT c k == 0
  | .long => fT c k == 1
  | .boolean => fT c k == 2
  | .object _ => fT c k == 3
  | .array _ => fT c k == 3
  | _ => false))) = true := by decide +kernel
theorem ft_at {c k : Nat} (hc : c < 11) (hk : k < nF c) : (match tyO c k with
  | .int => fT c k == 0
  | .long => fT c k == 1
  | .boolean => fT c k == 2
  | .object _ => fT c k == 3
  | .array _ => fT c k == 3
  | _ => false) = true := by
  have h2 := List.all_eq_true.mp ft_ok c (List.mem_range.mpr hc)
  exact List.all_eq_true.mp h2 k (List.mem_range.mpr hk)
