/-! THE CHECK OF THE TABLES, 5: put together (by emit93.py) -/
theorem am_cb0 : ∀ k, k < 20 → am_chkL (0 + k) (am_tab (0 + k)) (am_pls (0 + k)) = true := fun k hk => match k, hk with
  | 0, _ => am_ckL0
  | 1, _ => am_ckL1
  | 2, _ => am_ckL2
  | 3, _ => am_ckL3
  | 4, _ => am_ckL4
  | 5, _ => am_ckL5
  | 6, _ => am_ckL6
  | 7, _ => am_ckL7
  | 8, _ => am_ckL8
  | 9, _ => am_ckL9
  | 10, _ => am_ckL10
  | 11, _ => am_ckL11
  | 12, _ => am_ckL12
  | 13, _ => am_ckL13
  | 14, _ => am_ckL14
  | 15, _ => am_ckL15
  | 16, _ => am_ckL16
  | 17, _ => am_ckL17
  | 18, _ => am_ckL18
  | 19, _ => am_ckL19
  | k + 20, h => absurd h (by omega)
theorem am_cb1 : ∀ k, k < 20 → am_chkL (20 + k) (am_tab (20 + k)) (am_pls (20 + k)) = true := fun k hk => match k, hk with
  | 0, _ => am_ckL20
  | 1, _ => am_ckL21
  | 2, _ => am_ckL22
  | 3, _ => am_ckL23
  | 4, _ => am_ckL24
  | 5, _ => am_ckL25
  | 6, _ => am_ckL26
  | 7, _ => am_ckL27
  | 8, _ => am_ckL28
  | 9, _ => am_ckL29
  | 10, _ => am_ckL30
  | 11, _ => am_ckL31
  | 12, _ => am_ckL32
  | 13, _ => am_ckL33
  | 14, _ => am_ckL34
  | 15, _ => am_ckL35
  | 16, _ => am_ckL36
  | 17, _ => am_ckL37
  | 18, _ => am_ckL38
  | 19, _ => am_ckL39
  | k + 20, h => absurd h (by omega)
theorem am_cb2 : ∀ k, k < 20 → am_chkL (40 + k) (am_tab (40 + k)) (am_pls (40 + k)) = true := fun k hk => match k, hk with
  | 0, _ => am_ckL40
  | 1, _ => am_ckL41
  | 2, _ => am_ckL42
  | 3, _ => am_ckL43
  | 4, _ => am_ckL44
  | 5, _ => am_ckL45
  | 6, _ => am_ckL46
  | 7, _ => am_ckL47
  | 8, _ => am_ckL48
  | 9, _ => am_ckL49
  | 10, _ => am_ckL50
  | 11, _ => am_ckL51
  | 12, _ => am_ckL52
  | 13, _ => am_ckL53
  | 14, _ => am_ckL54
  | 15, _ => am_ckL55
  | 16, _ => am_ckL56
  | 17, _ => am_ckL57
  | 18, _ => am_ckL58
  | 19, _ => am_ckL59
  | k + 20, h => absurd h (by omega)
theorem am_cb3 : ∀ k, k < 20 → am_chkL (60 + k) (am_tab (60 + k)) (am_pls (60 + k)) = true := fun k hk => match k, hk with
  | 0, _ => am_ckL60
  | 1, _ => am_ckL61
  | 2, _ => am_ckL62
  | 3, _ => am_ckL63
  | 4, _ => am_ckL64
  | 5, _ => am_ckL65
  | 6, _ => am_ckL66
  | 7, _ => am_ckL67
  | 8, _ => am_ckL68
  | 9, _ => am_ckL69
  | 10, _ => am_ckL70
  | 11, _ => am_ckL71
  | 12, _ => am_ckL72
  | 13, _ => am_ckL73
  | 14, _ => am_ckL74
  | 15, _ => am_ckL75
  | 16, _ => am_ckL76
  | 17, _ => am_ckL77
  | 18, _ => am_ckL78
  | 19, _ => am_ckL79
  | k + 20, h => absurd h (by omega)
theorem am_cb4 : ∀ k, k < 20 → am_chkL (80 + k) (am_tab (80 + k)) (am_pls (80 + k)) = true := fun k hk => match k, hk with
  | 0, _ => am_ckL80
  | 1, _ => am_ckL81
  | 2, _ => am_ckL82
  | 3, _ => am_ckL83
  | 4, _ => am_ckL84
  | 5, _ => am_ckL85
  | 6, _ => am_ckL86
  | 7, _ => am_ckL87
  | 8, _ => am_ckL88
  | 9, _ => am_ckL89
  | 10, _ => am_ckL90
  | 11, _ => am_ckL91
  | 12, _ => am_ckL92
  | 13, _ => am_ckL93
  | 14, _ => am_ckL94
  | 15, _ => am_ckL95
  | 16, _ => am_ckL96
  | 17, _ => am_ckL97
  | 18, _ => am_ckL98
  | 19, _ => am_ckL99
  | k + 20, h => absurd h (by omega)
theorem am_cb5 : ∀ k, k < 20 → am_chkL (100 + k) (am_tab (100 + k)) (am_pls (100 + k)) = true := fun k hk => match k, hk with
  | 0, _ => am_ckL100
  | 1, _ => am_ckL101
  | 2, _ => am_ckL102
  | 3, _ => am_ckL103
  | 4, _ => am_ckL104
  | 5, _ => am_ckL105
  | 6, _ => am_ckL106
  | 7, _ => am_ckL107
  | 8, _ => am_ckL108
  | 9, _ => am_ckL109
  | 10, _ => am_ckL110
  | 11, _ => am_ckL111
  | 12, _ => am_ckL112
  | 13, _ => am_ckL113
  | 14, _ => am_ckL114
  | 15, _ => am_ckL115
  | 16, _ => am_ckL116
  | 17, _ => am_ckL117
  | 18, _ => am_ckL118
  | 19, _ => am_ckL119
  | k + 20, h => absurd h (by omega)
theorem am_cb6 : ∀ k, k < 20 → am_chkL (120 + k) (am_tab (120 + k)) (am_pls (120 + k)) = true := fun k hk => match k, hk with
  | 0, _ => am_ckL120
  | 1, _ => am_ckL121
  | 2, _ => am_ckL122
  | 3, _ => am_ckL123
  | 4, _ => am_ckL124
  | 5, _ => am_ckL125
  | 6, _ => am_ckL126
  | 7, _ => am_ckL127
  | 8, _ => am_ckL128
  | 9, _ => am_ckL129
  | 10, _ => am_ckL130
  | 11, _ => am_ckL131
  | 12, _ => am_ckL132
  | 13, _ => am_ckL133
  | 14, _ => am_ckL134
  | 15, _ => am_ckL135
  | 16, _ => am_ckL136
  | 17, _ => am_ckL137
  | 18, _ => am_ckL138
  | 19, _ => am_ckL139
  | k + 20, h => absurd h (by omega)
theorem am_cb7 : ∀ k, k < 20 → am_chkL (140 + k) (am_tab (140 + k)) (am_pls (140 + k)) = true := fun k hk => match k, hk with
  | 0, _ => am_ckL140
  | 1, _ => am_ckL141
  | 2, _ => am_ckL142
  | 3, _ => am_ckL143
  | 4, _ => am_ckL144
  | 5, _ => am_ckL145
  | 6, _ => am_ckL146
  | 7, _ => am_ckL147
  | 8, _ => am_ckL148
  | 9, _ => am_ckL149
  | 10, _ => am_ckL150
  | 11, _ => am_ckL151
  | 12, _ => am_ckL152
  | 13, _ => am_ckL153
  | 14, _ => am_ckL154
  | 15, _ => am_ckL155
  | 16, _ => am_ckL156
  | 17, _ => am_ckL157
  | 18, _ => am_ckL158
  | 19, _ => am_ckL159
  | k + 20, h => absurd h (by omega)
theorem am_cb8 : ∀ k, k < 20 → am_chkL (160 + k) (am_tab (160 + k)) (am_pls (160 + k)) = true := fun k hk => match k, hk with
  | 0, _ => am_ckL160
  | 1, _ => am_ckL161
  | 2, _ => am_ckL162
  | 3, _ => am_ckL163
  | 4, _ => am_ckL164
  | 5, _ => am_ckL165
  | 6, _ => am_ckL166
  | 7, _ => am_ckL167
  | 8, _ => am_ckL168
  | 9, _ => am_ckL169
  | 10, _ => am_ckL170
  | 11, _ => am_ckL171
  | 12, _ => am_ckL172
  | 13, _ => am_ckL173
  | 14, _ => am_ckL174
  | 15, _ => am_ckL175
  | 16, _ => am_ckL176
  | 17, _ => am_ckL177
  | 18, _ => am_ckL178
  | 19, _ => am_ckL179
  | k + 20, h => absurd h (by omega)
theorem am_cb9 : ∀ k, k < 20 → am_chkL (180 + k) (am_tab (180 + k)) (am_pls (180 + k)) = true := fun k hk => match k, hk with
  | 0, _ => am_ckL180
  | 1, _ => am_ckL181
  | 2, _ => am_ckL182
  | 3, _ => am_ckL183
  | 4, _ => am_ckL184
  | 5, _ => am_ckL185
  | 6, _ => am_ckL186
  | 7, _ => am_ckL187
  | 8, _ => am_ckL188
  | 9, _ => am_ckL189
  | 10, _ => am_ckL190
  | 11, _ => am_ckL191
  | 12, _ => am_ckL192
  | 13, _ => am_ckL193
  | 14, _ => am_ckL194
  | 15, _ => am_ckL195
  | 16, _ => am_ckL196
  | 17, _ => am_ckL197
  | 18, _ => am_ckL198
  | 19, _ => am_ckL199
  | k + 20, h => absurd h (by omega)
theorem am_cb10 : ∀ k, k < 20 → am_chkL (200 + k) (am_tab (200 + k)) (am_pls (200 + k)) = true := fun k hk => match k, hk with
  | 0, _ => am_ckL200
  | 1, _ => am_ckL201
  | 2, _ => am_ckL202
  | 3, _ => am_ckL203
  | 4, _ => am_ckL204
  | 5, _ => am_ckL205
  | 6, _ => am_ckL206
  | 7, _ => am_ckL207
  | 8, _ => am_ckL208
  | 9, _ => am_ckL209
  | 10, _ => am_ckL210
  | 11, _ => am_ckL211
  | 12, _ => am_ckL212
  | 13, _ => am_ckL213
  | 14, _ => am_ckL214
  | 15, _ => am_ckL215
  | 16, _ => am_ckL216
  | 17, _ => am_ckL217
  | 18, _ => am_ckL218
  | 19, _ => am_ckL219
  | k + 20, h => absurd h (by omega)
theorem am_cb11 : ∀ k, k < 20 → am_chkL (220 + k) (am_tab (220 + k)) (am_pls (220 + k)) = true := fun k hk => match k, hk with
  | 0, _ => am_ckL220
  | 1, _ => am_ckL221
  | 2, _ => am_ckL222
  | 3, _ => am_ckL223
  | 4, _ => am_ckL224
  | 5, _ => am_ckL225
  | 6, _ => am_ckL226
  | 7, _ => am_ckL227
  | 8, _ => am_ckL228
  | 9, _ => am_ckL229
  | 10, _ => am_ckL230
  | 11, _ => am_ckL231
  | 12, _ => am_ckL232
  | 13, _ => am_ckL233
  | 14, _ => am_ckL234
  | 15, _ => am_ckL235
  | 16, _ => am_ckL236
  | 17, _ => am_ckL237
  | 18, _ => am_ckL238
  | 19, _ => am_ckL239
  | k + 20, h => absurd h (by omega)
theorem am_cb12 : ∀ k, k < 20 → am_chkL (240 + k) (am_tab (240 + k)) (am_pls (240 + k)) = true := fun k hk => match k, hk with
  | 0, _ => am_ckL240
  | 1, _ => am_ckL241
  | 2, _ => am_ckL242
  | 3, _ => am_ckL243
  | 4, _ => am_ckL244
  | 5, _ => am_ckL245
  | 6, _ => am_ckL246
  | 7, _ => am_ckL247
  | 8, _ => am_ckL248
  | 9, _ => am_ckL249
  | 10, _ => am_ckL250
  | 11, _ => am_ckL251
  | 12, _ => am_ckL252
  | 13, _ => am_ckL253
  | 14, _ => am_ckL254
  | 15, _ => am_ckL255
  | 16, _ => am_ckL256
  | 17, _ => am_ckL257
  | 18, _ => am_ckL258
  | 19, _ => am_ckL259
  | k + 20, h => absurd h (by omega)
theorem am_cb13 : ∀ k, k < 20 → am_chkL (260 + k) (am_tab (260 + k)) (am_pls (260 + k)) = true := fun k hk => match k, hk with
  | 0, _ => am_ckL260
  | 1, _ => am_ckL261
  | 2, _ => am_ckL262
  | 3, _ => am_ckL263
  | 4, _ => am_ckL264
  | 5, _ => am_ckL265
  | 6, _ => am_ckL266
  | 7, _ => am_ckL267
  | 8, _ => am_ckL268
  | 9, _ => am_ckL269
  | 10, _ => am_ckL270
  | 11, _ => am_ckL271
  | 12, _ => am_ckL272
  | 13, _ => am_ckL273
  | 14, _ => am_ckL274
  | 15, _ => am_ckL275
  | 16, _ => am_ckL276
  | 17, _ => am_ckL277
  | 18, _ => am_ckL278
  | 19, _ => am_ckL279
  | k + 20, h => absurd h (by omega)
theorem am_cb14 : ∀ k, k < 6 → am_chkL (280 + k) (am_tab (280 + k)) (am_pls (280 + k)) = true := fun k hk => match k, hk with
  | 0, _ => am_ckL280
  | 1, _ => am_ckL281
  | 2, _ => am_ckL282
  | 3, _ => am_ckL283
  | 4, _ => am_ckL284
  | 5, _ => am_ckL285
  | k + 6, h => absurd h (by omega)
theorem am_cc0 : ∀ k, k < 20 → Jvm.Cond.code (am_Mt (0 + k)).1 (am_Mt (0 + k)).2.1 (am_mx (0 + k)) (am_Mt (0 + k)).2.2 ∈ lw_tbl := fun k hk => match k, hk with
  | 0, _ => am_cd0
  | 1, _ => am_cd1
  | 2, _ => am_cd2
  | 3, _ => am_cd3
  | 4, _ => am_cd4
  | 5, _ => am_cd5
  | 6, _ => am_cd6
  | 7, _ => am_cd7
  | 8, _ => am_cd8
  | 9, _ => am_cd9
  | 10, _ => am_cd10
  | 11, _ => am_cd11
  | 12, _ => am_cd12
  | 13, _ => am_cd13
  | 14, _ => am_cd14
  | 15, _ => am_cd15
  | 16, _ => am_cd16
  | 17, _ => am_cd17
  | 18, _ => am_cd18
  | 19, _ => am_cd19
  | k + 20, h => absurd h (by omega)
theorem am_cc1 : ∀ k, k < 20 → Jvm.Cond.code (am_Mt (20 + k)).1 (am_Mt (20 + k)).2.1 (am_mx (20 + k)) (am_Mt (20 + k)).2.2 ∈ lw_tbl := fun k hk => match k, hk with
  | 0, _ => am_cd20
  | 1, _ => am_cd21
  | 2, _ => am_cd22
  | 3, _ => am_cd23
  | 4, _ => am_cd24
  | 5, _ => am_cd25
  | 6, _ => am_cd26
  | 7, _ => am_cd27
  | 8, _ => am_cd28
  | 9, _ => am_cd29
  | 10, _ => am_cd30
  | 11, _ => am_cd31
  | 12, _ => am_cd32
  | 13, _ => am_cd33
  | 14, _ => am_cd34
  | 15, _ => am_cd35
  | 16, _ => am_cd36
  | 17, _ => am_cd37
  | 18, _ => am_cd38
  | 19, _ => am_cd39
  | k + 20, h => absurd h (by omega)
theorem am_cc2 : ∀ k, k < 20 → Jvm.Cond.code (am_Mt (40 + k)).1 (am_Mt (40 + k)).2.1 (am_mx (40 + k)) (am_Mt (40 + k)).2.2 ∈ lw_tbl := fun k hk => match k, hk with
  | 0, _ => am_cd40
  | 1, _ => am_cd41
  | 2, _ => am_cd42
  | 3, _ => am_cd43
  | 4, _ => am_cd44
  | 5, _ => am_cd45
  | 6, _ => am_cd46
  | 7, _ => am_cd47
  | 8, _ => am_cd48
  | 9, _ => am_cd49
  | 10, _ => am_cd50
  | 11, _ => am_cd51
  | 12, _ => am_cd52
  | 13, _ => am_cd53
  | 14, _ => am_cd54
  | 15, _ => am_cd55
  | 16, _ => am_cd56
  | 17, _ => am_cd57
  | 18, _ => am_cd58
  | 19, _ => am_cd59
  | k + 20, h => absurd h (by omega)
theorem am_cc3 : ∀ k, k < 20 → Jvm.Cond.code (am_Mt (60 + k)).1 (am_Mt (60 + k)).2.1 (am_mx (60 + k)) (am_Mt (60 + k)).2.2 ∈ lw_tbl := fun k hk => match k, hk with
  | 0, _ => am_cd60
  | 1, _ => am_cd61
  | 2, _ => am_cd62
  | 3, _ => am_cd63
  | 4, _ => am_cd64
  | 5, _ => am_cd65
  | 6, _ => am_cd66
  | 7, _ => am_cd67
  | 8, _ => am_cd68
  | 9, _ => am_cd69
  | 10, _ => am_cd70
  | 11, _ => am_cd71
  | 12, _ => am_cd72
  | 13, _ => am_cd73
  | 14, _ => am_cd74
  | 15, _ => am_cd75
  | 16, _ => am_cd76
  | 17, _ => am_cd77
  | 18, _ => am_cd78
  | 19, _ => am_cd79
  | k + 20, h => absurd h (by omega)
theorem am_cc4 : ∀ k, k < 20 → Jvm.Cond.code (am_Mt (80 + k)).1 (am_Mt (80 + k)).2.1 (am_mx (80 + k)) (am_Mt (80 + k)).2.2 ∈ lw_tbl := fun k hk => match k, hk with
  | 0, _ => am_cd80
  | 1, _ => am_cd81
  | 2, _ => am_cd82
  | 3, _ => am_cd83
  | 4, _ => am_cd84
  | 5, _ => am_cd85
  | 6, _ => am_cd86
  | 7, _ => am_cd87
  | 8, _ => am_cd88
  | 9, _ => am_cd89
  | 10, _ => am_cd90
  | 11, _ => am_cd91
  | 12, _ => am_cd92
  | 13, _ => am_cd93
  | 14, _ => am_cd94
  | 15, _ => am_cd95
  | 16, _ => am_cd96
  | 17, _ => am_cd97
  | 18, _ => am_cd98
  | 19, _ => am_cd99
  | k + 20, h => absurd h (by omega)
theorem am_cc5 : ∀ k, k < 20 → Jvm.Cond.code (am_Mt (100 + k)).1 (am_Mt (100 + k)).2.1 (am_mx (100 + k)) (am_Mt (100 + k)).2.2 ∈ lw_tbl := fun k hk => match k, hk with
  | 0, _ => am_cd100
  | 1, _ => am_cd101
  | 2, _ => am_cd102
  | 3, _ => am_cd103
  | 4, _ => am_cd104
  | 5, _ => am_cd105
  | 6, _ => am_cd106
  | 7, _ => am_cd107
  | 8, _ => am_cd108
  | 9, _ => am_cd109
  | 10, _ => am_cd110
  | 11, _ => am_cd111
  | 12, _ => am_cd112
  | 13, _ => am_cd113
  | 14, _ => am_cd114
  | 15, _ => am_cd115
  | 16, _ => am_cd116
  | 17, _ => am_cd117
  | 18, _ => am_cd118
  | 19, _ => am_cd119
  | k + 20, h => absurd h (by omega)
theorem am_cc6 : ∀ k, k < 20 → Jvm.Cond.code (am_Mt (120 + k)).1 (am_Mt (120 + k)).2.1 (am_mx (120 + k)) (am_Mt (120 + k)).2.2 ∈ lw_tbl := fun k hk => match k, hk with
  | 0, _ => am_cd120
  | 1, _ => am_cd121
  | 2, _ => am_cd122
  | 3, _ => am_cd123
  | 4, _ => am_cd124
  | 5, _ => am_cd125
  | 6, _ => am_cd126
  | 7, _ => am_cd127
  | 8, _ => am_cd128
  | 9, _ => am_cd129
  | 10, _ => am_cd130
  | 11, _ => am_cd131
  | 12, _ => am_cd132
  | 13, _ => am_cd133
  | 14, _ => am_cd134
  | 15, _ => am_cd135
  | 16, _ => am_cd136
  | 17, _ => am_cd137
  | 18, _ => am_cd138
  | 19, _ => am_cd139
  | k + 20, h => absurd h (by omega)
theorem am_cc7 : ∀ k, k < 20 → Jvm.Cond.code (am_Mt (140 + k)).1 (am_Mt (140 + k)).2.1 (am_mx (140 + k)) (am_Mt (140 + k)).2.2 ∈ lw_tbl := fun k hk => match k, hk with
  | 0, _ => am_cd140
  | 1, _ => am_cd141
  | 2, _ => am_cd142
  | 3, _ => am_cd143
  | 4, _ => am_cd144
  | 5, _ => am_cd145
  | 6, _ => am_cd146
  | 7, _ => am_cd147
  | 8, _ => am_cd148
  | 9, _ => am_cd149
  | 10, _ => am_cd150
  | 11, _ => am_cd151
  | 12, _ => am_cd152
  | 13, _ => am_cd153
  | 14, _ => am_cd154
  | 15, _ => am_cd155
  | 16, _ => am_cd156
  | 17, _ => am_cd157
  | 18, _ => am_cd158
  | 19, _ => am_cd159
  | k + 20, h => absurd h (by omega)
theorem am_cc8 : ∀ k, k < 20 → Jvm.Cond.code (am_Mt (160 + k)).1 (am_Mt (160 + k)).2.1 (am_mx (160 + k)) (am_Mt (160 + k)).2.2 ∈ lw_tbl := fun k hk => match k, hk with
  | 0, _ => am_cd160
  | 1, _ => am_cd161
  | 2, _ => am_cd162
  | 3, _ => am_cd163
  | 4, _ => am_cd164
  | 5, _ => am_cd165
  | 6, _ => am_cd166
  | 7, _ => am_cd167
  | 8, _ => am_cd168
  | 9, _ => am_cd169
  | 10, _ => am_cd170
  | 11, _ => am_cd171
  | 12, _ => am_cd172
  | 13, _ => am_cd173
  | 14, _ => am_cd174
  | 15, _ => am_cd175
  | 16, _ => am_cd176
  | 17, _ => am_cd177
  | 18, _ => am_cd178
  | 19, _ => am_cd179
  | k + 20, h => absurd h (by omega)
theorem am_cc9 : ∀ k, k < 20 → Jvm.Cond.code (am_Mt (180 + k)).1 (am_Mt (180 + k)).2.1 (am_mx (180 + k)) (am_Mt (180 + k)).2.2 ∈ lw_tbl := fun k hk => match k, hk with
  | 0, _ => am_cd180
  | 1, _ => am_cd181
  | 2, _ => am_cd182
  | 3, _ => am_cd183
  | 4, _ => am_cd184
  | 5, _ => am_cd185
  | 6, _ => am_cd186
  | 7, _ => am_cd187
  | 8, _ => am_cd188
  | 9, _ => am_cd189
  | 10, _ => am_cd190
  | 11, _ => am_cd191
  | 12, _ => am_cd192
  | 13, _ => am_cd193
  | 14, _ => am_cd194
  | 15, _ => am_cd195
  | 16, _ => am_cd196
  | 17, _ => am_cd197
  | 18, _ => am_cd198
  | 19, _ => am_cd199
  | k + 20, h => absurd h (by omega)
theorem am_cc10 : ∀ k, k < 20 → Jvm.Cond.code (am_Mt (200 + k)).1 (am_Mt (200 + k)).2.1 (am_mx (200 + k)) (am_Mt (200 + k)).2.2 ∈ lw_tbl := fun k hk => match k, hk with
  | 0, _ => am_cd200
  | 1, _ => am_cd201
  | 2, _ => am_cd202
  | 3, _ => am_cd203
  | 4, _ => am_cd204
  | 5, _ => am_cd205
  | 6, _ => am_cd206
  | 7, _ => am_cd207
  | 8, _ => am_cd208
  | 9, _ => am_cd209
  | 10, _ => am_cd210
  | 11, _ => am_cd211
  | 12, _ => am_cd212
  | 13, _ => am_cd213
  | 14, _ => am_cd214
  | 15, _ => am_cd215
  | 16, _ => am_cd216
  | 17, _ => am_cd217
  | 18, _ => am_cd218
  | 19, _ => am_cd219
  | k + 20, h => absurd h (by omega)
theorem am_cc11 : ∀ k, k < 20 → Jvm.Cond.code (am_Mt (220 + k)).1 (am_Mt (220 + k)).2.1 (am_mx (220 + k)) (am_Mt (220 + k)).2.2 ∈ lw_tbl := fun k hk => match k, hk with
  | 0, _ => am_cd220
  | 1, _ => am_cd221
  | 2, _ => am_cd222
  | 3, _ => am_cd223
  | 4, _ => am_cd224
  | 5, _ => am_cd225
  | 6, _ => am_cd226
  | 7, _ => am_cd227
  | 8, _ => am_cd228
  | 9, _ => am_cd229
  | 10, _ => am_cd230
  | 11, _ => am_cd231
  | 12, _ => am_cd232
  | 13, _ => am_cd233
  | 14, _ => am_cd234
  | 15, _ => am_cd235
  | 16, _ => am_cd236
  | 17, _ => am_cd237
  | 18, _ => am_cd238
  | 19, _ => am_cd239
  | k + 20, h => absurd h (by omega)
theorem am_cc12 : ∀ k, k < 20 → Jvm.Cond.code (am_Mt (240 + k)).1 (am_Mt (240 + k)).2.1 (am_mx (240 + k)) (am_Mt (240 + k)).2.2 ∈ lw_tbl := fun k hk => match k, hk with
  | 0, _ => am_cd240
  | 1, _ => am_cd241
  | 2, _ => am_cd242
  | 3, _ => am_cd243
  | 4, _ => am_cd244
  | 5, _ => am_cd245
  | 6, _ => am_cd246
  | 7, _ => am_cd247
  | 8, _ => am_cd248
  | 9, _ => am_cd249
  | 10, _ => am_cd250
  | 11, _ => am_cd251
  | 12, _ => am_cd252
  | 13, _ => am_cd253
  | 14, _ => am_cd254
  | 15, _ => am_cd255
  | 16, _ => am_cd256
  | 17, _ => am_cd257
  | 18, _ => am_cd258
  | 19, _ => am_cd259
  | k + 20, h => absurd h (by omega)
theorem am_cc13 : ∀ k, k < 20 → Jvm.Cond.code (am_Mt (260 + k)).1 (am_Mt (260 + k)).2.1 (am_mx (260 + k)) (am_Mt (260 + k)).2.2 ∈ lw_tbl := fun k hk => match k, hk with
  | 0, _ => am_cd260
  | 1, _ => am_cd261
  | 2, _ => am_cd262
  | 3, _ => am_cd263
  | 4, _ => am_cd264
  | 5, _ => am_cd265
  | 6, _ => am_cd266
  | 7, _ => am_cd267
  | 8, _ => am_cd268
  | 9, _ => am_cd269
  | 10, _ => am_cd270
  | 11, _ => am_cd271
  | 12, _ => am_cd272
  | 13, _ => am_cd273
  | 14, _ => am_cd274
  | 15, _ => am_cd275
  | 16, _ => am_cd276
  | 17, _ => am_cd277
  | 18, _ => am_cd278
  | 19, _ => am_cd279
  | k + 20, h => absurd h (by omega)
theorem am_cc14 : ∀ k, k < 5 → Jvm.Cond.code (am_Mt (280 + k)).1 (am_Mt (280 + k)).2.1 (am_mx (280 + k)) (am_Mt (280 + k)).2.2 ∈ lw_tbl := fun k hk => match k, hk with
  | 0, _ => am_cd280
  | 1, _ => am_cd281
  | 2, _ => am_cd282
  | 3, _ => am_cd283
  | 4, _ => am_cd284
  | k + 5, h => absurd h (by omega)
theorem am_allL : ∀ y, y < 286 → am_chkL y (am_tab y) (am_pls y) = true := by
  intro y hy
  rcases Nat.lt_or_ge y 20 with h0 | h0
  · have e : y = 0 + (y - 0) := by omega
    rw [e]
    exact am_cb0 (y - 0) (by omega)
  rcases Nat.lt_or_ge y 40 with h1 | h1
  · have e : y = 20 + (y - 20) := by omega
    rw [e]
    exact am_cb1 (y - 20) (by omega)
  rcases Nat.lt_or_ge y 60 with h2 | h2
  · have e : y = 40 + (y - 40) := by omega
    rw [e]
    exact am_cb2 (y - 40) (by omega)
  rcases Nat.lt_or_ge y 80 with h3 | h3
  · have e : y = 60 + (y - 60) := by omega
    rw [e]
    exact am_cb3 (y - 60) (by omega)
  rcases Nat.lt_or_ge y 100 with h4 | h4
  · have e : y = 80 + (y - 80) := by omega
    rw [e]
    exact am_cb4 (y - 80) (by omega)
  rcases Nat.lt_or_ge y 120 with h5 | h5
  · have e : y = 100 + (y - 100) := by omega
    rw [e]
    exact am_cb5 (y - 100) (by omega)
  rcases Nat.lt_or_ge y 140 with h6 | h6
  · have e : y = 120 + (y - 120) := by omega
    rw [e]
    exact am_cb6 (y - 120) (by omega)
  rcases Nat.lt_or_ge y 160 with h7 | h7
  · have e : y = 140 + (y - 140) := by omega
    rw [e]
    exact am_cb7 (y - 140) (by omega)
  rcases Nat.lt_or_ge y 180 with h8 | h8
  · have e : y = 160 + (y - 160) := by omega
    rw [e]
    exact am_cb8 (y - 160) (by omega)
  rcases Nat.lt_or_ge y 200 with h9 | h9
  · have e : y = 180 + (y - 180) := by omega
    rw [e]
    exact am_cb9 (y - 180) (by omega)
  rcases Nat.lt_or_ge y 220 with h10 | h10
  · have e : y = 200 + (y - 200) := by omega
    rw [e]
    exact am_cb10 (y - 200) (by omega)
  rcases Nat.lt_or_ge y 240 with h11 | h11
  · have e : y = 220 + (y - 220) := by omega
    rw [e]
    exact am_cb11 (y - 220) (by omega)
  rcases Nat.lt_or_ge y 260 with h12 | h12
  · have e : y = 240 + (y - 240) := by omega
    rw [e]
    exact am_cb12 (y - 240) (by omega)
  rcases Nat.lt_or_ge y 280 with h13 | h13
  · have e : y = 260 + (y - 260) := by omega
    rw [e]
    exact am_cb13 (y - 260) (by omega)
  rcases Nat.lt_or_ge y 286 with h14 | h14
  · have e : y = 280 + (y - 280) := by omega
    rw [e]
    exact am_cb14 (y - 280) (by omega)
  · omega

theorem am_allC : ∀ y, y < 285 → Jvm.Cond.code (am_Mt y).1 (am_Mt y).2.1 (am_mx y) (am_Mt y).2.2 ∈ lw_tbl := by
  intro y hy
  rcases Nat.lt_or_ge y 20 with h0 | h0
  · have e : y = 0 + (y - 0) := by omega
    rw [e]
    exact am_cc0 (y - 0) (by omega)
  rcases Nat.lt_or_ge y 40 with h1 | h1
  · have e : y = 20 + (y - 20) := by omega
    rw [e]
    exact am_cc1 (y - 20) (by omega)
  rcases Nat.lt_or_ge y 60 with h2 | h2
  · have e : y = 40 + (y - 40) := by omega
    rw [e]
    exact am_cc2 (y - 40) (by omega)
  rcases Nat.lt_or_ge y 80 with h3 | h3
  · have e : y = 60 + (y - 60) := by omega
    rw [e]
    exact am_cc3 (y - 60) (by omega)
  rcases Nat.lt_or_ge y 100 with h4 | h4
  · have e : y = 80 + (y - 80) := by omega
    rw [e]
    exact am_cc4 (y - 80) (by omega)
  rcases Nat.lt_or_ge y 120 with h5 | h5
  · have e : y = 100 + (y - 100) := by omega
    rw [e]
    exact am_cc5 (y - 100) (by omega)
  rcases Nat.lt_or_ge y 140 with h6 | h6
  · have e : y = 120 + (y - 120) := by omega
    rw [e]
    exact am_cc6 (y - 120) (by omega)
  rcases Nat.lt_or_ge y 160 with h7 | h7
  · have e : y = 140 + (y - 140) := by omega
    rw [e]
    exact am_cc7 (y - 140) (by omega)
  rcases Nat.lt_or_ge y 180 with h8 | h8
  · have e : y = 160 + (y - 160) := by omega
    rw [e]
    exact am_cc8 (y - 160) (by omega)
  rcases Nat.lt_or_ge y 200 with h9 | h9
  · have e : y = 180 + (y - 180) := by omega
    rw [e]
    exact am_cc9 (y - 180) (by omega)
  rcases Nat.lt_or_ge y 220 with h10 | h10
  · have e : y = 200 + (y - 200) := by omega
    rw [e]
    exact am_cc10 (y - 200) (by omega)
  rcases Nat.lt_or_ge y 240 with h11 | h11
  · have e : y = 220 + (y - 220) := by omega
    rw [e]
    exact am_cc11 (y - 220) (by omega)
  rcases Nat.lt_or_ge y 260 with h12 | h12
  · have e : y = 240 + (y - 240) := by omega
    rw [e]
    exact am_cc12 (y - 240) (by omega)
  rcases Nat.lt_or_ge y 280 with h13 | h13
  · have e : y = 260 + (y - 260) := by omega
    rw [e]
    exact am_cc13 (y - 260) (by omega)
  rcases Nat.lt_or_ge y 285 with h14 | h14
  · have e : y = 280 + (y - 280) := by omega
    rw [e]
    exact am_cc14 (y - 280) (by omega)
  · omega

theorem am_ckMb : ∀ b, b < 15 → am_ckM b = true := fun b hb => match b, hb with
  | 0, _ => am_ckM0
  | 1, _ => am_ckM1
  | 2, _ => am_ckM2
  | 3, _ => am_ckM3
  | 4, _ => am_ckM4
  | 5, _ => am_ckM5
  | 6, _ => am_ckM6
  | 7, _ => am_ckM7
  | 8, _ => am_ckM8
  | 9, _ => am_ckM9
  | 10, _ => am_ckM10
  | 11, _ => am_ckM11
  | 12, _ => am_ckM12
  | 13, _ => am_ckM13
  | 14, _ => am_ckM14
  | b + 15, h => absurd h (by omega)
theorem am_allM (y : Nat) (hy : y < 285) : am_okM am_Mt am_mx y ∧ am_np (am_Mt y).1.desc (am_mpq y).2.2.2 := by
  have h := am_ckMb (y / 20) (by omega)
  unfold am_ckM at h
  have h1 := List.all_eq_true.mp h (y % 20) (List.mem_range.mpr (by omega))
  have e : y / 20 * 20 + y % 20 = y := by omega
  rw [e, if_pos hy] at h1
  have h2 := am_chkM_ok (am_allC y hy) h1
  exact ⟨h2.1, h2.2.1⟩
theorem am_tab_big {y : Nat} (h : 286 ≤ y) : am_tab y = [] := by
  unfold am_tab
  rcases Nat.lt_or_ge y 300 with h1 | h1
  · have e : y / 20 = 14 := by omega
    rw [e]
    rcases (show y = 286 ∨ y = 287 ∨ y = 288 ∨ y = 289 ∨ y = 290 ∨ y = 291 ∨ y = 292 ∨ y = 293 ∨ y = 294 ∨ y = 295 ∨ y = 296 ∨ y = 297 ∨ y = 298 ∨ y = 299 by omega) with rfl | rfl | rfl | rfl | rfl | rfl | rfl | rfl | rfl | rfl | rfl | rfl | rfl | rfl <;> rfl
  · have e : am_tbs.getD (y / 20) [] = [] := by
      rw [List.getD_eq_getElem?_getD, List.getElem?_eq_none (by show 15 ≤ y / 20; omega)]
      rfl
    rw [e]
    rfl
theorem am_T_ok : ∀ y pc t, am_T y pc = some t → am_ok am_Mt am_mx am_DF y pc t := by
  intro y pc t h
  unfold am_T at h
  cases hf : (am_tab y).find? (fun e => e.1 == pc) with
  | none => rw [hf] at h; cases h
  | some e =>
    rw [hf] at h
    cases h
    have hm := List.mem_of_find?_eq_some hf
    have hp := List.find?_some hf
    simp only [beq_iff_eq] at hp
    rcases Nat.lt_or_ge y 286 with hy | hy
    · obtain ⟨pl, hc⟩ := am_chkL_ok (am_allL y hy) e hm
      rw [hp] at hc
      exact am_chk_ok am_allM hc
    · rw [am_tab_big hy] at hm
      cases hm
