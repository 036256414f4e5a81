/** The boundary cases that the sentences of 'Terms' (1 to 3) name, a test for each sentence. */
public final class TermsEdgeTest {
    private static final Check CHECK = new Check("TermsEdgeTest");

    public static void main(String[] args) {
        systemTerms();
        beatTerms();
        settingTerms();
        goodTerms();
        handTerms();
        useTerms();
        bellowsTerms();
        CHECK.end();
    }

    private static void systemTerms() {
        noteTwelveComesAgainAsZero();
        rootIsANote();
        rowsAreBits();
        buttonStandsInColumnAndRow();
        notesAreToldAsBits();
    }

    private static void beatTerms() {
        beatsAreNumberedEightAtMost();
        chordZeroIsNone();
        lowNoteOrNone();
        lengthFromOneToEight();
    }

    private static void settingTerms() {
        oneLowButtonIfThereIsOne();
        noneOneOrTwoChordButtons();
        lowButtonDoesNotFillTheChord();
        oneMoreWithoutALowButton();
        extraOfChordButtonsAlone();
    }

    private static void goodTerms() {
        lackThenExtraThenButtons();
        lesserAtTheFirstPlaceUnlike();
        onlyTheFirstTwentyCount();
        theHandSeesOnlyTwenty();
    }

    private static void handTerms() {
        placeIsTheLeastColumn();
        columnsDoNotGoRound();
        jumpsGoOverBeatsWithoutButtons();
        fewestJumps();
        lesserNumberAtTheFirstUnlikeBeat();
    }

    private static void useTerms() {
        useFromNothingToTheMost();
        aNoteCountsOnce();
        airIsStartAheadOfAll();
    }

    private static void bellowsTerms() {
        outNotAboveRoom();
        inNotBelowZero();
        noTurnAtTheFirstBeat();
        turnCostsByMark();
        noTurnAtATiedBeat();
        theyCostLeast();
        outAtTheFirstUnlikeBeat();
        thereMayBeNoWay();
    }

    private static void dueSound(int base, int button, int notes) {
        BassButtons x = new BassButtons();
        x.system(base, 63);
        CHECK.due("sound(" + button + ") of base " + base, x.sound(button), notes);
    }

    /** Each note of each row: once it is 11, once it would be 12. */
    private static void noteTwelveComesAgainAsZero() {
        CHECK.sentence("Term 1: NOTES are 0 to 11 (12 comes again as 0)");
        dueSound(7, 0, Edge.notes(11));
        dueSound(8, 0, Edge.notes(0));
        dueSound(4, 2, Edge.notes(4, 8, 11));
        dueSound(5, 2, Edge.notes(5, 9, 0));
        dueSound(7, 2, Edge.notes(7, 11, 2));
        dueSound(8, 2, Edge.notes(8, 0, 3));
        dueSound(4, 3, Edge.notes(4, 7, 11));
        dueSound(5, 3, Edge.notes(5, 8, 0));
        dueSound(8, 3, Edge.notes(8, 11, 3));
        dueSound(9, 3, Edge.notes(9, 0, 4));
        dueSound(1, 4, Edge.notes(1, 5, 11));
        dueSound(2, 4, Edge.notes(2, 6, 0));
        dueSound(7, 4, Edge.notes(7, 11, 5));
        dueSound(8, 4, Edge.notes(8, 0, 6));
        dueSound(2, 5, Edge.notes(2, 5, 11));
        dueSound(3, 5, Edge.notes(3, 6, 0));
        dueSound(8, 5, Edge.notes(8, 11, 5));
        dueSound(9, 5, Edge.notes(9, 0, 6));
        // The bass of column 1, a fifth above the base.
        dueSound(4, 7, Edge.notes(11));
        dueSound(5, 7, Edge.notes(0));
    }

    private static void dueRoot(int base, int column, int root) {
        BassButtons x = new BassButtons();
        x.system(base, 63);
        CHECK.due("root(" + column + ") of base " + base, x.root(column), root);
    }

    private static void rootIsANote() {
        CHECK.sentence("Term 1: the ROOT of COLUMN c is BASE and 7 c, as a NOTE");
        dueRoot(0, 0, 0);
        dueRoot(11, 0, 11);
        dueRoot(4, 1, 11);
        dueRoot(5, 1, 0);
        dueRoot(6, 11, 11);
        dueRoot(7, 11, 0);
        dueRoot(11, 11, 4);
    }

    private static void rowsAreBits() {
        CHECK.sentence("Term 1: ROWS, bits (row r is 2 to the power of r; all six at first); it is there if its ROW is");
        BassButtons atFirst = new BassButtons();
        for (int button = 0; button < 72; button++) {
            CHECK.due(button + " at first", atFirst.sound(button) > 0 ? 1 : 0, 1);
        }
        for (int row = 0; row < 6; row++) {
            BassButtons alone = new BassButtons();
            alone.system(0, 1 << row);
            BassButtons without = new BassButtons();
            without.system(0, 63 - (1 << row));
            for (int button = 0; button < 72; button++) {
                boolean stands = button % 6 == row;
                CHECK.due(button + ", row " + row + " alone", alone.sound(button) == Edge.NONE ? 0 : 1, stands ? 1 : 0);
                CHECK.due(button + ", no row " + row, without.sound(button) == Edge.NONE ? 0 : 1, stands ? 0 : 1);
            }
        }
    }

    private static void buttonStandsInColumnAndRow() {
        CHECK.sentence("Term 1: BUTTON 6 c + r stands in COLUMN c and ROW r");
        dueSound(0, 0, Edge.notes(4));
        dueSound(0, 5, Edge.notes(0, 3, 9));
        dueSound(0, 6, Edge.notes(11));
        dueSound(0, 65, Edge.notes(10, 1, 7));
        dueSound(0, 66, Edge.notes(9));
        dueSound(0, 71, Edge.notes(5, 8, 2));
    }

    private static void notesAreToldAsBits() {
        CHECK.sentence("Term 1: NOTES together are told as bits (NOTE n is 2 to the power of n)");
        for (int note = 0; note < 12; note++) {
            dueSound(note, 1, (int) Math.pow(2, note));
        }
    }

    private static void beatsAreNumberedEightAtMost() {
        CHECK.sentence("Term 2: BEATS are numbered from 0 as they come, 8 at most");
        BassButtons x = new BassButtons();
        for (int number = 0; number < 8; number++) {
            CHECK.due("beat " + number, x.beat(1 << number, -1, 1, 0), number);
        }
        CHECK.due("a ninth", x.beat(1, -1, 1, 0), Edge.FULL);
        for (int number = 0; number < 8; number++) {
            CHECK.due("of(" + number + ", 0)", x.of(number, 0), 1 << number);
        }
    }

    private static void chordZeroIsNone() {
        CHECK.sentence("Term 2: a CHORD (bits of NOTES; 0: none)");
        BassButtons x = Edge.chords(0, 1, 2048, 4095);
        Edge.dueGood(CHECK, x, 0, 0, 0, 0, 1);
        Edge.dueGood(CHECK, x, 1, 0, 2, 1, 12);
        Edge.dueGood(CHECK, x, 2, 0, 2, 1, 12);
        Edge.dueGood(CHECK, x, 3, 6, 0, 2, 20);
        CHECK.due("no chord sounds nothing", x.sounds(0), 0);
    }

    private static void lowNoteOrNone() {
        CHECK.sentence("Term 2: a LOW NOTE (0 to 11, or -1: none)");
        BassButtons x = new BassButtons();
        x.beat(0, -1, 1, 0);
        Edge.dueGood(CHECK, x, 0, 0, 0, 0, 1);
        for (int low = 0; low < 12; low++) {
            x.alter(0, 0, low, 1, 0);
            Edge.dueGood(CHECK, x, 0, 0, 0, 1, 2);
            CHECK.due("low note " + low + " alone", x.sounds(0), 1 << low);
        }
        x.alter(0, 0, 0, 1, 0);
        Edge.dueButtons(CHECK, x, 0, 0, 1);
        Edge.dueButtons(CHECK, x, 0, 1, 48);
        x.alter(0, 0, 11, 1, 0);
        Edge.dueButtons(CHECK, x, 0, 0, 6);
        Edge.dueButtons(CHECK, x, 0, 1, 31);
    }

    private static void lengthFromOneToEight() {
        CHECK.sentence("Term 2: a LENGTH (1 to 8) and a MARK (0 none, 1 REST, 2 STRONG, 3 TIED)");
        BassButtons x = new BassButtons();
        CHECK.due("least", x.beat(Edge.C_MAJOR, -1, 1, Edge.NO_MARK), 0);
        CHECK.due("most", x.beat(Edge.C_MAJOR, -1, 8, Edge.TIED), 1);
        CHECK.due("use of length 1", x.use(0), 3);
        CHECK.due("use of length 8", x.use(1), 24);
    }

    private static BassButtons inRows(int rows, int chord, int low) {
        BassButtons x = new BassButtons();
        x.system(0, rows);
        x.beat(chord, low, 1, 0);
        return x;
    }

    private static void oneLowButtonIfThereIsOne() {
        CHECK.sentence("Term 2: if it has a LOW NOTE one of ROWS 0 and 1 that sounds this, if there is one (else none of these ROWS)");
        BassButtons both = inRows(63, Edge.C_MAJOR, 0);
        Edge.dueGood(CHECK, both, 0, 0, 0, 2, 2);
        Edge.dueButtons(CHECK, both, 0, 0, 1, 2);
        Edge.dueButtons(CHECK, both, 0, 1, 2, 48);
        BassButtons counter = inRows(61, Edge.C_MAJOR, 0);
        Edge.dueGood(CHECK, counter, 0, 0, 0, 2, 1);
        Edge.dueButtons(CHECK, counter, 0, 0, 2, 48);
        BassButtons bass = inRows(62, Edge.C_MAJOR, 0);
        Edge.dueGood(CHECK, bass, 0, 0, 0, 2, 1);
        Edge.dueButtons(CHECK, bass, 0, 0, 1, 2);
        BassButtons neither = inRows(60, Edge.C_MAJOR, 0);
        Edge.dueGood(CHECK, neither, 0, 1, 0, 1, 1);
        Edge.dueButtons(CHECK, neither, 0, 0, 2);
        BassButtons noLow = inRows(3, Edge.C, -1);
        Edge.dueGood(CHECK, noLow, 0, 1, 0, 0, 1);
        Edge.dueButtons(CHECK, noLow, 0, 0);
    }

    private static void noneOneOrTwoChordButtons() {
        CHECK.sentence("Term 2: and none, one or two of ROWS 2 to 5");
        Edge.dueGood(CHECK, inRows(63, 0, -1), 0, 0, 0, 0, 1);
        Edge.dueGood(CHECK, inRows(63, Edge.C_MAJOR, -1), 0, 0, 0, 1, 1);
        Edge.dueGood(CHECK, inRows(63, Edge.C_SEVENTH, -1), 0, 0, 0, 2, 3);
        // Three chords, 0 4 7, 2 6 9 and 1 5 8, would sound all of this; two leave three notes out.
        BassButtons three = inRows(4, Edge.notes(0, 4, 7, 2, 6, 9, 1, 5, 8), -1);
        CHECK.due("three would lack none", three.good(0, 0), 3);
        CHECK.due("but two are the most", three.good(0, 2), 2);
        // Two chord buttons and one for the low note.
        CHECK.due("three with the low one", inRows(63, Edge.C_SEVENTH, 2).good(0, 2), 3);
        Edge.dueGood(CHECK, inRows(3, 4095, -1), 0, 12, 0, 0, 1);
        for (int row = 2; row < 6; row++) {
            CHECK.due("row " + row + " alone", inRows(1 << row, 4095, -1).good(0, 2), 2);
            CHECK.due("row " + row + " alone, one note", inRows(1 << row, Edge.C, -1).good(0, 3), 3);
        }
    }

    private static void lowButtonDoesNotFillTheChord() {
        CHECK.sentence("Term 2: It LACKS NOTES of the CHORD that none of its BUTTONS of ROWS 2 to 5 sounds");
        Edge.dueGood(CHECK, inRows(2, Edge.C, 0), 0, 1, 0, 1, 1);
        Edge.dueGood(CHECK, inRows(1, Edge.C, 0), 0, 1, 0, 1, 1);
        // The 2 must come from 7 11 2, though the low button sounds it.
        BassButtons x = inRows(6, Edge.notes(0, 2, 4, 7), 2);
        Edge.dueGood(CHECK, x, 0, 0, 1, 3, 1);
        Edge.dueButtons(CHECK, x, 0, 0, 2, 8, 13);
    }

    private static void oneMoreWithoutALowButton() {
        CHECK.sentence("Term 2: and one more if it has no BUTTON for a LOW NOTE");
        CHECK.due("all and one", inRows(0, 4095, 11).good(0, 0), 13);
        CHECK.due("all", inRows(0, 4095, -1).good(0, 0), 12);
        CHECK.due("one alone", inRows(60, 0, 0).good(0, 0), 1);
        CHECK.due("none", inRows(60, 0, -1).good(0, 0), 0);
        CHECK.due("it has one", inRows(1, 0, 0).good(0, 0), 0);
    }

    private static void extraOfChordButtonsAlone() {
        CHECK.sentence("Term 2: it has as many EXTRA as its BUTTONS of ROWS 2 to 5 sound NOTES that aren't in the CHORD");
        CHECK.due("a low note is no extra", inRows(63, Edge.C_MAJOR, 2).good(0, 1), 0);
        CHECK.due("none is too much", inRows(63, Edge.C_MAJOR, -1).good(0, 1), 0);
        CHECK.due("two are", inRows(63, Edge.C, -1).good(0, 1), 2);
        // 0 4 7 and 1 4 7 have both notes that are too much in common.
        CHECK.due("a note is one, though two sound it", inRows(63, Edge.notes(0, 1), -1).good(0, 1), 2);
        // Diminished alone: no two chords with 0 and 1 have a note in common: 0 3 9 and 1 4 10, for one.
        CHECK.due("four are", inRows(32, Edge.notes(0, 1), -1).good(0, 1), 4);
    }

    private static void lackThenExtraThenButtons() {
        CHECK.sentence("Term 2: GOOD ones are those that LACK least, of these those with the fewest EXTRA, of these those with the fewest BUTTONS");
        // No button would have no extra, but lack one.
        Edge.dueGood(CHECK, inRows(63, Edge.C, -1), 0, 0, 2, 1, 12);
        // 0 4 7 alone would have no extra, but lack one; 3 7 10 brings less extra than 6 10 1 or 10 2 5.
        BassButtons x = inRows(4, Edge.C_SEVENTH, -1);
        Edge.dueGood(CHECK, x, 0, 0, 1, 2, 1);
        Edge.dueButtons(CHECK, x, 0, 0, 2, 56);
        // A second button would lack no less.
        BassButtons one = inRows(63, Edge.C_MAJOR, -1);
        Edge.dueGood(CHECK, one, 0, 0, 0, 1, 1);
        Edge.dueButtons(CHECK, one, 0, 0, 2);
        // Every button would only be extra.
        Edge.dueButtons(CHECK, inRows(63, 0, 0), 0, 0, 1);
    }

    private static void lesserAtTheFirstPlaceUnlike() {
        CHECK.sentence("Term 2: the one that has the lesser one at the first place at which two are unlike comes first");
        BassButtons x = inRows(63, Edge.C_SEVENTH, 2);
        int[][] due = {{2, 4, 13}, {2, 4, 60}, {2, 11, 13}, {2, 11, 60}, {4, 11, 13}, {4, 11, 60}};
        for (int k = 0; k < due.length; k++) {
            Edge.dueButtons(CHECK, x, 0, k, due[k]);
        }
        CHECK.due("no more", x.button(0, due.length, 0), Edge.NONE);
        // The low button stands at the first, the second or the last place.
        BassButtons low = inRows(63, Edge.C_SEVENTH, 11);
        int[][] dueLow = {{2, 4, 6}, {2, 4, 31}, {2, 6, 11}, {2, 11, 31}, {4, 6, 11}, {4, 11, 31}};
        for (int k = 0; k < dueLow.length; k++) {
            Edge.dueButtons(CHECK, low, 0, k, dueLow[k]);
        }
        BassButtons first = inRows(63, Edge.C_SEVENTH, 4);
        int[][] dueFirst = {{0, 2, 4}, {0, 2, 11}, {0, 4, 11}, {2, 4, 25}, {2, 11, 25}, {4, 11, 25}};
        for (int k = 0; k < dueFirst.length; k++) {
            Edge.dueButtons(CHECK, first, 0, k, dueFirst[k]);
        }
    }

    private static void onlyTheFirstTwentyCount() {
        CHECK.sentence("Term 2: Only the first 20 count");
        // Twelve chords have the note 0, and the low note 6 has two buttons, 12 and 37: 24 settings.
        BassButtons more = inRows(63, Edge.C, 6);
        Edge.dueGood(CHECK, more, 0, 0, 2, 2, 20);
        int[][] due = {
            {2, 12}, {2, 37}, {3, 12}, {3, 37}, {4, 12}, {4, 37}, {5, 12}, {5, 37}, {12, 16}, {12, 21},
            {12, 23}, {12, 50}, {12, 52}, {12, 59}, {12, 68}, {12, 69}, {16, 37}, {21, 37}, {23, 37}, {37, 50},
        };
        for (int k = 0; k < due.length; k++) {
            Edge.dueButtons(CHECK, more, 0, k, due[k]);
        }
        CHECK.due("[37, 52] does not count", more.button(0, 20, 0), Edge.NONE);
        // Nine chords without the diminished ones: 18.
        BassButtons fewer = inRows(31, Edge.C, 6);
        CHECK.due("eighteen", fewer.good(0, 3), 18);
        Edge.dueButtons(CHECK, fewer, 0, 17, 37, 69);
        CHECK.due("no nineteenth", fewer.button(0, 18, 0), Edge.NONE);
        // Ten pairs (2 and 10, 68 or 69; 3 and 10, 68, 69 or 70; 10 and 68 or 69; 22 and 68), two low
        // buttons: just twenty.
        BassButtons twenty = inRows(63, Edge.notes(0, 5, 7), 10);
        Edge.dueGood(CHECK, twenty, 0, 0, 2, 3, 20);
        Edge.dueButtons(CHECK, twenty, 0, 18, 22, 36, 68);
        Edge.dueButtons(CHECK, twenty, 0, 19, 22, 61, 68);
        CHECK.due("no twenty-first", twenty.button(0, 20, 0), Edge.NONE);
    }

    private static void theHandSeesOnlyTwenty() {
        CHECK.sentence("Term 2: Only the first 20 count: for THE HAND too");
        // With the low buttons 19 and 66 the settings at the places 9 and 11 come behind the twentieth.
        BassButtons x = Edge.chords(Edge.F_MAJOR);
        x.beat(Edge.C, 9, 1, 0);
        Edge.dueButtons(CHECK, x, 0, 0, 68);
        Edge.dueButtons(CHECK, x, 1, 19, 50, 66);
        CHECK.due("hand(1)", x.hand(1), 19);
        CHECK.due("jumps()", x.jumps(), 3);
    }

    private static void placeIsTheLeastColumn() {
        CHECK.sentence("Term 2: PLACE of a SETTING with BUTTONS is the least COLUMN of these");
        BassButtons x = Edge.chords(Edge.C_MAJOR);
        x.beat(Edge.F_SHARP_MAJOR, 0, 1, 0);
        Edge.dueButtons(CHECK, x, 1, 0, 1, 38);
        Edge.dueButtons(CHECK, x, 1, 1, 38, 48);
        CHECK.due("from column 0: the low button's column", x.hand(1), 0);
        CHECK.due("jumps()", x.jumps(), 0);
        x.alter(0, Edge.F_SHARP_MAJOR, -1, 1, 0);
        CHECK.due("from column 6: the chord's column", x.hand(1), 1);
        CHECK.due("jumps()", x.jumps(), 0);
        // Buttons 5 and 6 stand in columns 0 and 1, though they are neighbours.
        BassButtons border = Edge.chords(Edge.notes(0, 3, 9));
        border.beat(0, 11, 1, 0);
        Edge.dueButtons(CHECK, border, 0, 0, 5);
        Edge.dueButtons(CHECK, border, 1, 0, 6);
        CHECK.due("from column 0 to column 1", border.jumps(), 1);
    }

    private static void columnsDoNotGoRound() {
        CHECK.sentence("Term 2: JUMPS: the sizes of the differences of PLACES");
        CHECK.due("one beat", Edge.chords(Edge.C_MAJOR).jumps(), 0);
        CHECK.due("the same place", Edge.chords(Edge.C_MAJOR, Edge.C_MAJOR).jumps(), 0);
        CHECK.due("from column 0 to 11", Edge.chords(Edge.C_MAJOR, Edge.F_MAJOR).jumps(), 11);
        CHECK.due("from column 11 to 0", Edge.chords(Edge.F_MAJOR, Edge.C_MAJOR).jumps(), 11);
        int c = Edge.C_MAJOR;
        int f = Edge.F_MAJOR;
        CHECK.due("the most there can be", Edge.chords(c, f, c, f, c, f, c, f).jumps(), 77);
    }

    private static void jumpsGoOverBeatsWithoutButtons() {
        CHECK.sentence("Term 2: of each BEAT whose SETTING has BUTTONS to the next such one");
        CHECK.due("none has", Edge.chords(0, 0, 0).jumps(), 0);
        CHECK.due("one has", Edge.chords(0, Edge.F_MAJOR, 0).jumps(), 0);
        BassButtons x = Edge.chords(0, Edge.C_MAJOR, 0, 0, Edge.F_SHARP_MAJOR, 0, Edge.F_MAJOR, 0);
        CHECK.due("0, 6 and 11", x.jumps(), 11);
        CHECK.due("hand of the first, without buttons", x.hand(0), 0);
        CHECK.due("hand of the last, without buttons", x.hand(7), 0);
        // The setting behind a beat without buttons is still the nearest one.
        BassButtons near = Edge.chords(Edge.F_SHARP_MAJOR, 0, Edge.C);
        CHECK.due("from column 6 to 8", near.jumps(), 2);
        CHECK.due("hand(2)", near.hand(2), 7);
        // And so is the one ahead of it.
        near = Edge.chords(Edge.C, 0, Edge.F_MAJOR);
        CHECK.due("from column 11 to 11", near.jumps(), 0);
        CHECK.due("hand(0)", near.hand(0), 10);
    }

    private static void fewestJumps() {
        CHECK.sentence("Term 2: THE HAND has the fewest JUMPS");
        // The note 0 is in columns 0, 2, 3, 8, 9 and 11.
        BassButtons x = Edge.chords(Edge.C, Edge.F_MAJOR);
        CHECK.due("the first beat looks ahead", x.hand(0), 10);
        CHECK.due("jumps()", x.jumps(), 0);
        x = Edge.chords(Edge.F_MAJOR, Edge.C, Edge.F_MAJOR);
        CHECK.due("the middle one stays", x.hand(1), 10);
        CHECK.due("jumps()", x.jumps(), 0);
        x = Edge.chords(Edge.F_SHARP_MAJOR, Edge.C, Edge.C, Edge.C, Edge.C, Edge.C, Edge.C, Edge.F_MAJOR);
        CHECK.due("through eight beats", x.jumps(), 5);
    }

    private static void lesserNumberAtTheFirstUnlikeBeat() {
        CHECK.sentence("Term 2: of several it is the one in which the first BEAT for which they are unlike has the SETTING of the lesser number");
        BassButtons x = Edge.chords(Edge.C, Edge.C);
        CHECK.due("hand(0) of many without jumps", x.hand(0), 0);
        CHECK.due("hand(1) of many without jumps", x.hand(1), 0);
        // From 6 down to 0 each place on the way costs the same.
        x = Edge.chords(Edge.F_SHARP_MAJOR, Edge.C, Edge.C, Edge.C_MAJOR);
        CHECK.due("jumps()", x.jumps(), 6);
        CHECK.due("hand(1) down", x.hand(1), 0);
        CHECK.due("hand(2) down", x.hand(2), 0);
        // So it is from 0 up to 11.
        x = Edge.chords(Edge.C_MAJOR, Edge.C, Edge.C, Edge.F_MAJOR);
        CHECK.due("jumps()", x.jumps(), 11);
        CHECK.due("hand(1) up", x.hand(1), 0);
        CHECK.due("hand(2) up", x.hand(2), 0);
        // Settings 10 and 11 are buttons 68 and 69, both in column 11.
        x = Edge.chords(Edge.C, Edge.F_MAJOR, Edge.C);
        CHECK.due("hand(0) ahead of column 11", x.hand(0), 10);
        CHECK.due("hand(2) behind column 11", x.hand(2), 10);
    }

    private static void useFromNothingToTheMost() {
        CHECK.sentence("Term 3: USE of a BEAT: its LENGTH, times THE REGISTER (1 to 3; 1 at first), times how many NOTES");
        BassButtons x = new BassButtons();
        x.beat(0, 0, 1, 0);
        CHECK.due("the least of a button", x.use(0), 1);
        x.alter(0, 0, -1, 8, 0);
        CHECK.due("nothing", x.use(0), 0);
        // 0 4 7, 2 6 9 and a low 1: seven notes are the most.
        x.alter(0, Edge.notes(0, 4, 7, 2, 6, 9), 1, 8, 0);
        CHECK.due("of register 1", x.use(0), 56);
        x.rule(0, 3);
        CHECK.due("of register 3: the most", x.use(0), 168);
    }

    private static void aNoteCountsOnce() {
        CHECK.sentence("Term 3: sound together (a NOTE once)");
        BassButtons x = new BassButtons();
        x.beat(Edge.C_MAJOR, 0, 1, 0);
        CHECK.due("the low note is in the chord", x.use(0), 3);
        x.alter(0, Edge.C_MAJOR, 2, 1, 0);
        CHECK.due("it isn't", x.use(0), 4);
        x.alter(0, Edge.C_SEVENTH, -1, 1, 0);
        CHECK.due("two chords with two notes in common", x.use(0), 4);
        x.alter(0, Edge.C_SEVENTH, 0, 1, 0);
        CHECK.due("and a low note that both have", x.use(0), 4);
    }

    private static void airIsStartAheadOfAll() {
        CHECK.sentence("Term 3: AIR is START (0 to ROOM; 0 at first) ahead of all; ROOM is 1 to 400 (100 at first)");
        Edge.dueAir(CHECK, Edge.chords(Edge.C_MAJOR), 3);
        Edge.dueAir(CHECK, Edge.bellows(100, 100, 1, Edge.NO_MARK), 97);
        Edge.dueAir(CHECK, Edge.bellows(400, 400, 1, Edge.NO_MARK), 397);
        BassButtons first = new BassButtons();
        first.rule(2, 98);
        first.beat(Edge.C_MAJOR, -1, 1, 0);
        Edge.dueWay(CHECK, first, 0, 0);
        first.rule(2, 97);
        Edge.dueWay(CHECK, first, 0, 1);
        BassButtons silent = Edge.chords(0);
        silent.rule(1, 1);
        Edge.dueAir(CHECK, silent, 0);
        silent.rule(2, 1);
        Edge.dueAir(CHECK, silent, 1);
    }

    private static void outNotAboveRoom() {
        CHECK.sentence("Term 3: OUT (AIR is USE more, and not above ROOM)");
        BassButtons fits = Edge.bellows(0, 24, 8, Edge.NO_MARK);
        Edge.dueWay(CHECK, fits, 0, 1);
        Edge.dueAir(CHECK, fits, 24);
        Edge.dueNoWay(CHECK, Edge.bellows(0, 23, 8, Edge.NO_MARK));
        BassButtons later = Edge.bellows(0, 27, 8, Edge.NO_MARK, 1, Edge.TIED);
        Edge.dueAir(CHECK, later, 24, 27);
        Edge.dueNoWay(CHECK, Edge.bellows(0, 26, 8, Edge.NO_MARK, 1, Edge.TIED));
    }

    private static void inNotBelowZero() {
        CHECK.sentence("Term 3: IN (AIR is USE less, and not below 0)");
        BassButtons fits = Edge.bellows(24, 24, 8, Edge.NO_MARK);
        Edge.dueWay(CHECK, fits, 0, 0);
        Edge.dueAir(CHECK, fits, 0);
        Edge.dueNoWay(CHECK, Edge.bellows(23, 23, 8, Edge.NO_MARK));
        BassButtons later = Edge.bellows(27, 27, 8, Edge.NO_MARK, 1, Edge.TIED);
        Edge.dueAir(CHECK, later, 3, 0);
        Edge.dueNoWay(CHECK, Edge.bellows(26, 26, 8, Edge.NO_MARK, 1, Edge.TIED));
    }

    private static void noTurnAtTheFirstBeat() {
        CHECK.sentence("Term 3: At a BEAT behind the first they TURN if they go another way than in the one ahead");
        for (int mark = Edge.NO_MARK; mark <= Edge.TIED; mark++) {
            BassButtons in = Edge.bellows(100, 100, 1, mark);
            Edge.dueWay(CHECK, in, 0, 0);
            CHECK.due("many(5)", in.many(5), 0);
            BassButtons out = Edge.bellows(0, 100, 1, mark);
            Edge.dueWay(CHECK, out, 0, 1);
            CHECK.due("many(5)", out.many(5), 0);
        }
        BassButtons second = Edge.bellows(0, 3, 1, Edge.REST, 1, Edge.REST);
        Edge.dueWay(CHECK, second, 0, 1, 0);
        CHECK.due("many(5) at the second", second.many(5), 1);
    }

    private static void turnCostsByMark() {
        CHECK.sentence("Term 3: that COSTS 0 at a REST, 1 at a STRONG one, 3 at one without MARK");
        Edge.dueWay(CHECK, Edge.bellows(0, 24, 8, Edge.TIED, 8, Edge.REST), 0, 1, 0);
        Edge.dueWay(CHECK, Edge.bellows(0, 24, 8, Edge.TIED, 8, Edge.STRONG), 1, 1, 0);
        Edge.dueWay(CHECK, Edge.bellows(0, 24, 8, Edge.TIED, 8, Edge.NO_MARK), 3, 1, 0);
        // From in to out costs the same.
        Edge.dueWay(CHECK, Edge.bellows(24, 24, 8, Edge.TIED, 8, Edge.REST), 0, 0, 1);
        Edge.dueWay(CHECK, Edge.bellows(24, 24, 8, Edge.TIED, 8, Edge.STRONG), 1, 0, 1);
        Edge.dueWay(CHECK, Edge.bellows(24, 24, 8, Edge.TIED, 8, Edge.NO_MARK), 3, 0, 1);
    }

    private static void noTurnAtATiedBeat() {
        CHECK.sentence("Term 3: at a TIED one they can't");
        Edge.dueNoWay(CHECK, Edge.bellows(0, 24, 8, Edge.NO_MARK, 8, Edge.TIED));
        Edge.dueWay(CHECK, Edge.bellows(0, 48, 8, Edge.NO_MARK, 8, Edge.TIED), 0, 1, 1);
        Edge.dueWay(CHECK, Edge.bellows(0, 24, 8, Edge.TIED, 8, Edge.NO_MARK), 3, 1, 0);
        // The last of eight beats too.
        int n = Edge.NO_MARK;
        Edge.dueNoWay(CHECK, Edge.bellows(0, 24, 8, n, 8, n, 8, n, 8, n, 8, n, 8, n, 8, n, 8, Edge.TIED));
        // Even where a beat uses no air.
        BassButtons silent = Edge.bellows(24, 24, 8, n);
        silent.beat(0, -1, 1, Edge.TIED);
        silent.beat(Edge.C_MAJOR, -1, 8, Edge.TIED);
        Edge.dueNoWay(CHECK, silent);
        silent.alter(1, 0, -1, 1, Edge.REST);
        Edge.dueWay(CHECK, silent, 0, 0, 1, 1);
    }

    private static void theyCostLeast() {
        CHECK.sentence("Term 3: THE BELLOWS COST least");
        // Out first would have to turn twice.
        Edge.dueWay(CHECK, Edge.bellows(3, 9, 1, Edge.NO_MARK, 1, Edge.STRONG, 1, Edge.TIED, 1, Edge.NO_MARK), 1, 0, 1, 1, 1);
        // Two turns at strong beats are cheaper than one without mark, which would go out for longer.
        int s = Edge.STRONG;
        Edge.dueWay(CHECK, Edge.bellows(0, 9, 1, 0, 1, s, 1, s, 1, 0, 1, Edge.TIED), 2, 1, 0, 1, 1, 1);
        // Each beat fills the room: all seven turns.
        int n = Edge.NO_MARK;
        BassButtons all = Edge.bellows(0, 24, 8, n, 8, n, 8, n, 8, n, 8, n, 8, n, 8, n, 8, n);
        Edge.dueWay(CHECK, all, 21, 1, 0, 1, 0, 1, 0, 1, 0);
        CHECK.due("many(5)", all.many(5), 7);
    }

    private static void outAtTheFirstUnlikeBeat() {
        CHECK.sentence("Term 3: of several ways it is the one that, at the first BEAT at which they are unlike, goes OUT");
        int r = Edge.REST;
        Edge.dueWay(CHECK, Edge.bellows(50, 100, 1, r, 1, r, 1, r), 0, 1, 1, 1);
        Edge.dueWay(CHECK, Edge.bellows(0, 10, 1, r, 1, r, 1, r, 1, r, 1, r), 0, 1, 1, 1, 0, 1);
        Edge.dueWay(CHECK, Edge.bellows(3, 6, 1, r, 1, r, 1, r, 1, r), 0, 1, 0, 1, 0);
        // No air is used: out all through.
        Edge.dueWay(CHECK, Edge.chords(0, 0, 0, 0, 0, 0, 0, 0), 0, 1, 1, 1, 1, 1, 1, 1, 1);
        // One turn at the one strong beat or the other: the later turn goes out for longer.
        Edge.dueWay(CHECK, Edge.bellows(0, 6, 1, 0, 1, Edge.STRONG, 1, Edge.STRONG), 1, 1, 1, 0);
    }

    private static void thereMayBeNoWay() {
        CHECK.sentence("Term 3: There may be none");
        BassButtons x = Edge.bellows(1, 3, 1, Edge.NO_MARK);
        Edge.dueNoWay(CHECK, x);
        CHECK.due("bellows(0)", x.bellows(0), Edge.NONE);
        CHECK.due("air(0)", x.air(0), Edge.NONE);
        CHECK.due("many(5)", x.many(5), 0);
        CHECK.due("no beats, one way", new BassButtons().cost(), 0);
        x.drop();
        CHECK.due("there is one again", x.cost(), 0);
    }
}
