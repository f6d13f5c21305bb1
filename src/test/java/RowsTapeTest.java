import java.util.Arrays;

/** "Terms" and its part 1, sentence by sentence: refusals and findings, ROWS, THE TAPE and its FAULTS. */
public final class RowsTapeTest extends Trial {
    public static void main(String[] args) {
        RowsTapeTest test = new RowsTapeTest();
        test.numbersGoFrom0On();
        test.setsAreBits();
        test.refusalsInTheirOrder();
        test.findingsAndTheirNumbers();
        test.ofFindingsTheFirstInTime();
        test.rowsAreMissingAtFirst();
        test.lanesHaveTheirBits();
        test.rowsHave0To40Items();
        test.itemsAre0AtFirst();
        test.copiesAreAsTheyWereAhead();
        test.copiesFromEachRowToEach();
        test.copiesWithSumsThatWrapAround();
        test.theTapeHas100BytesAtMost();
        test.lettersSignsAndFiguresAlone();
        test.lettersEachByItself();
        test.numbersHaveTwoFiguresAtMost();
        test.numbersAsTold();
        test.howManyMotionsAndMembers();
        test.lawMotionsMembersInThisOrder();
        test.eachSort();
        test.theEndIsATokenToo();
        test.theFirstTokenThatHasAFault();
        test.ofOneTokenTheLeastFault();
        test.aReadHillStandsInPlace();
        test.aFaultLeavesAll();
        test.theLatestFaultStays();
        test.countsAtBothEnds();
        test.checks.end();
    }

    // ---- Terms

    private void numbersGoFrom0On() {
        fresh("h1;m10;m20;p5,1;l6,2;");
        due("motion 0", x.motion(0), 10);
        due("motion 1", x.motion(1), 20);
        dueBreaths(5, 6);
        due("day 0", x.count(3), 0);
        due("row 0", x.row(0, 0, 1), 1);
        due("item 0", x.set(0, 0, 1), 1);
        x.ask(0, 1);
        due("trace 0", x.trace(0), 21);
        due("image 0", x.image(0), 1);
        due("ROWS end with 7", x.row(7, 0, 1), 1);
        due("no row 8", x.row(8, 0, 1), BAD);
        due("no motion 2", x.motion(2), BAD);
        due("no member 2", x.member(2, 0), BAD);
        due("no image 2", x.image(2), BAD);
    }

    private void setsAreBits() {
        fresh("h1;m0;p19,0;p18,0;p16,0;p12,0;");
        for (int set = 0; set < 16; set++) {
            due("they weigh 1, 2, 4, 8: " + set, x.weight(set), set);
        }
        due("those of 10 speak", x.speak(10), 1);
        dueBreaths(19, 17, 16, 11);
    }

    private void refusalsInTheirOrder() {
        fresh();
        due("BAD ahead of STATE", x.image(2), BAD);
        due("STATE ahead of BAD, as told", x.speak(16), STATE);
        feed("a".repeat(100));
        due("BAD ahead of FULL", x.feed(256), BAD);
        due("BAD ahead of findings", x.copy(0, -1, 8, -1, -1), BAD);
        due("BAD ahead of SIZE", x.row(0, 3, MIN), BAD);
        due("STATE ahead of NULL", x.costs(0, 0, 1), STATE);
        x.hill();
        read("h1;m0;p0,0;");
        // No run of 512 calls comes so far, and no promise binds what follows; the order is kept all the same.
        for (int day = 0; day < 999; day++) {
            x.speak(0);
        }
        due("BAD ahead of STATE and FULL", x.speak(2), BAD);
        due("STATE ahead of FULL", x.speak(1), STATE);
        due("FULL", x.speak(0), FULL);
        due("what is FULL is no DAY", x.count(3), 999);
        due("undo", x.undo(), 23);
        due("DAY 998 goes by", x.speak(0), 1);
        due("FULL once more", x.speak(0), FULL);
    }

    private void dueFinding(String call, int answer, int finding) {
        due(call, answer, -1000010 - finding);
        due(call + ", status", x.status(), finding);
    }

    private void findingsAndTheirNumbers() {
        fresh("h1;m0;p0,0;");
        due("no finding yet", x.status(), 0);
        dueFinding("NULL", x.drop(0), 1);
        x.row(0, 0, 1);
        due("status of a row that is there", x.status(), 0);
        dueFinding("PLACE", x.set(0, 1, 0), 2);
        dueFinding("KIND", x.as(0, 4), 3);
        dueFinding("SIZE", x.row(0, 0, -1), 4);
        x.row(1, 1, 1);
        dueFinding("STORE", x.copy(0, 0, 1, 0, 1), 5);
        dueFinding("NULL, of costs", x.costs(2, 0, 1), 1);
        dueFinding("PLACE, of costs", x.costs(0, 1, 1), 2);
        dueFinding("NULL, of fits", x.fits(0, 2, 0, 1, 0), 1);
        dueFinding("PLACE, of fits", x.fits(0, 0, 1, 1, 0), 2);
    }

    private void ofFindingsTheFirstInTime() {
        fresh();
        x.row(0, 0, 1);
        x.row(1, 1, 1);
        due("NULL ahead of PLACE: the first", x.copy(2, 9, 0, 9, 9), NULL);
        due("NULL ahead of PLACE: the second", x.copy(0, 9, 2, 9, 9), NULL);
        due("NULL: both", x.copy(2, -1, 3, -1, -1), NULL);
        due("NULL: twice the same", x.copy(2, 0, 2, 0, 0), NULL);
        due("STORE ahead of PLACE", x.copy(0, -1, 1, 9, -9), STORE);
        due("PLACE", x.copy(0, -1, 0, 9, -9), PLACE);
        x.drop(1);
        due("a row that is dropped has no LANE: NULL", x.copy(0, 0, 1, 0, 1), NULL);
        due("NULL ahead of PLACE: set", x.set(2, MIN, 0), NULL);
    }

    // ---- 1 ROWS

    private void rowsAreMissingAtFirst() {
        fresh("h1;m0;p0,0;");
        due("no rows", x.count(0), 0);
        for (int row = 0; row < 8; row++) {
            due("set", x.set(row, 0, 0), NULL);
            due("copy", x.copy(row, 0, row, 0, 0), NULL);
            due("drop", x.drop(row), NULL);
            due("costs", x.costs(row, 0, 1), NULL);
            due("fits", x.fits(0, row, 0, 1, 0), NULL);
        }
        for (int row = 0; row < 8; row++) {
            due("row", x.row(row, row % 3, row), row);
            due("rows", x.count(0), row + 1);
        }
        for (int row = 0; row < 8; row++) {
            due("drop", x.drop(row), row);
            due("missing from now on", x.set(row, 0, 0), NULL);
            due("rows", x.count(0), 7 - row);
        }
    }

    private void lanesHaveTheirBits() {
        fresh();
        int[][] set = {
            {0, 127, 127}, {0, 128, -128}, {0, -128, -128}, {0, -129, 127}, {0, 255, -1}, {0, 256, 0}, {0, 511, -1},
            {0, MAX, -1}, {0, MIN, 0}, {0, 32768, 0},
            {1, 128, 128}, {1, 32767, 32767}, {1, 32768, -32768}, {1, -32768, -32768}, {1, -32769, 32767},
            {1, 65535, -1}, {1, 65536, 0}, {1, MAX, -1}, {1, MIN, 0},
            {2, 128, 128}, {2, 32768, 32768}, {2, 65536, 65536}, {2, MAX, MAX}, {2, MIN, MIN}, {2, -1, -1}};
        for (int[] one : set) {
            x.row(one[0], one[0], 1);
            due("lane " + one[0] + ", set " + one[1], x.set(one[0], 0, one[1]), one[2]);
        }
        fresh("h1;m0;");
        x.row(0, 0, 2);
        x.set(0, 0, 257);
        x.set(0, 1, 256);
        dueItems("what is left of them is kept", 0, 1, 0);
    }

    private void rowsHave0To40Items() {
        fresh();
        for (int n = 0; n <= 40; n++) {
            due("row", x.row(3, n % 3, n), n);
            if (n > 0) {
                due("the last place", x.set(3, n - 1, 7), 7);
            }
            due("none beyond", x.set(3, n, 7), PLACE);
            due("none ahead", x.set(3, -1, 7), PLACE);
        }
        due("41", x.row(3, 0, 41), BAD);
        due("41 changed nothing", x.set(3, 39, 7), 7);
        due("fewer than none", x.row(3, 0, -1), SIZE);
        due("that changed nothing", x.drop(3), 40);
    }

    private void itemsAre0AtFirst() {
        fresh("h1;m99;");
        x.row(7, 0, 40);
        dueAll0("at first", 7);
        for (int i = 0; i < 40; i++) {
            x.set(7, i, 1);
        }
        x.row(7, 0, 40);
        dueAll0("in place of one as long", 7);
        fresh("h1;m99;");
        x.row(7, 2, 40);
        for (int i = 0; i < 40; i++) {
            x.set(7, i, 1);
        }
        x.row(7, 2, 1);
        x.row(7, 2, 40);
        dueAll0("in place of a shorter one", 7);
        fresh("h1;m99;");
        x.row(7, 1, 40);
        for (int i = 0; i < 40; i++) {
            x.set(7, i, 1);
        }
        x.drop(7);
        x.row(7, 1, 40);
        dueAll0("behind a drop", 7);
    }

    /** The motion is never carried, so that just zeros come about by every cost. */
    private void dueAll0(String what, int row) {
        for (int i = 0; i < 40; i++) {
            due(what + ", item " + i, x.costs(row, i, 1), 1022);
        }
    }

    private void copiesAreAsTheyWereAhead() {
        for (int from = 0; from <= 5; from++) {
            for (int to = 0; to <= 5; to++) {
                for (int n = 0; n + Math.max(from, to) <= 5; n++) {
                    copyWithin(from, to, n);
                }
            }
        }
        fresh("h1;m0;");
        x.row(0, 2, 40);
        x.row(1, 2, 40);
        x.set(0, 0, 1);
        x.set(0, 39, 1);
        due("a whole row", x.copy(0, 0, 1, 0, 40), 40);
        x.set(0, 0, 5);
        due("its first", x.costs(1, 0, 1), 1022);
        due("its last", x.costs(1, 39, 1), 1022);
        due("one in between", x.costs(1, 20, 1), 0);
        due("41", x.copy(0, 0, 1, 0, 41), PLACE);
        due("none, behind the last", x.copy(0, 40, 1, 40, 0), 0);
        due("none, beyond", x.copy(0, 41, 1, 0, 0), PLACE);
        due("none, beyond", x.copy(0, 0, 1, 41, 0), PLACE);
        x.row(2, 2, 0);
        due("none of none", x.copy(2, 0, 2, 0, 0), 0);
        due("one of none", x.copy(2, 0, 1, 0, 1), PLACE);
    }

    private void copiesFromEachRowToEach() {
        int[] items = {0, 1, 1, 0, 1};
        for (int lane = 0; lane <= 2; lane++) {
            for (int a = 0; a < 8; a++) {
                for (int b = 0; b < 8; b++) {
                    if (a != b) {
                        fresh("h1;m0;");
                        x.row(a, lane, 5);
                        x.row(b, lane, 4);
                        setItems(a, items);
                        due("copy " + a + " to " + b, x.copy(a, 1, b, 0, 4), 4);
                        dueItems("copied " + a + " to " + b, b, 1, 1, 0, 1);
                        dueItems("what was copied stays", a, items);
                    }
                }
            }
        }
    }

    private void copiesWithSumsThatWrapAround() {
        fresh("h1;m0;");
        x.row(0, 2, 40);
        x.row(1, 2, 40);
        int[][] wraps = {{MAX, 0, 1}, {1, 0, MAX}, {2, 0, MAX - 1}, {MAX, 0, MAX}, {0, MAX, 1}, {0, 1, MAX},
            {0, MAX - 1, 2}, {MAX - 1, MAX - 1, 2}, {MIN, 0, MIN}, {MIN, MIN, MAX}, {0, MIN, MIN}};
        for (int[] w : wraps) {
            due("a sum that wraps around", x.copy(0, w[0], 1, w[1], w[2]), PLACE);
        }
    }

    private void copyWithin(int from, int to, int n) {
        int[] items = {1, 0, 0, 1, 1};
        int[] after = items.clone();
        System.arraycopy(items, from, after, to, n);
        fresh("h1;m0;");
        x.row(0, 1, 5);
        setItems(0, items);
        due("copy", x.copy(0, from, 0, to, n), n);
        dueItems("copied " + from + " to " + to + ", " + n, 0, after);
    }

    // ---- TEXTS

    private void theTapeHas100BytesAtMost() {
        fresh("h1;m1;");
        feed("h9;m99;m98;m97;m96;p20,9;l19,8;d18,7;i17,6;");
        for (int n = 43; n < 100; n++) {
            due("bytes", x.count(7), n);
            due("feed", x.feed(' '), n + 1);
        }
        due("full", x.feed(' '), FULL);
        due("full", x.count(7), 100);
        due("the place of the first blank", x.hill(), FAULTS - 43);
        due("empty then", x.count(7), 0);
        due("from 1 on", x.feed('h'), 1);
        for (int n = 2; n <= 100; n++) {
            x.feed('h');
        }
        due("full anew", x.feed('h'), FULL);
        due("its second byte", x.hill(), FAULTS - 1);
        due("what is FULL left nothing", read("h2;m1;"), 0);
        due("cost", x.count(4), 2);
    }

    /** At each place of a text each of 256 bytes, as the last one that comes. */
    private void lettersSignsAndFiguresAlone() {
        String text = "h1;m1;p1,1;";
        String figures = "0123456789";
        String[] fitting = {"h", "123456789", ";", "m", figures, ";" + figures, "mpldir", figures, "," + figures,
            figures, ";", "pldir"};
        for (int place = 0; place < fitting.length; place++) {
            for (int letter = 0; letter < 256; letter++) {
                boolean figure = letter >= '0' && letter <= '9';
                fresh();
                feed(text.substring(0, place));
                due("feed", x.feed(letter), place + 1);
                int answer = x.hill();
                String what = text.substring(0, place) + " and byte " + letter;
                if (fitting[place].indexOf(letter) >= 0) {
                    boolean whole = letter == ';' && place > 2;
                    due(what, answer, whole ? place / 10 : FAULTS - place - 1);
                    due(what, x.fault(), whole ? 0 : 1);
                } else if (figure && (place == 1 || place == 2 || place == 10)) {
                    due(what + ": not as told", answer, FAULTS - (place == 10 ? 9 : 1));
                    due(what, x.fault(), 2);
                } else {
                    due(what + ": cannot stand there", answer, FAULTS - place);
                    due(what, x.fault(), 1);
                }
            }
        }
    }

    private void lettersEachByItself() {
        fresh();
        dueFault("hh1;m1;", 1, 1);
        dueFault("h1;mm1;", 4, 1);
        dueFault("h1;m1;pp1,1;", 7, 1);
        dueFault("h1;m1;pl1,1;", 7, 1);
        dueFault("H1;m1;", 0, 1);
        dueFault("h1;M1;", 3, 1);
        dueFault("h1;m1;R1,1;", 6, 1);
        dueFault(" h1;m1;", 0, 1);
        dueFault("h 1;m1;", 1, 1);
        dueFault("h1;m1 ;", 5, 1);
        dueFault("h1;m1;p1, 1;", 9, 1);
        dueFault("h1;m1;\n", 6, 1);
        dueFault("h-1;m1;", 1, 1);
        dueFault("h1;m+1;", 4, 1);
        dueFault("h1,m1;", 2, 1);
        dueFault("h1;m1;p1;1;", 8, 1);
        dueFault("h1;m1;p1,1,", 10, 1);
        dueFault("h1;;m1;", 3, 1);
        dueFault("h1;m1;p1,,1;", 9, 1);
    }

    private void numbersHaveTwoFiguresAtMost() {
        fresh();
        due("two figures", read("h09;m00;m99;p00,00;l20,09;"), 2);
        due("cost", x.count(4), 9);
        due("needs", x.motion(0), 0);
        due("needs", x.motion(1), 99);
        dueBreaths(0, 20);
        for (String run : new String[] {"000", "001", "100", "999", "0000", "00000009", "1".repeat(80)}) {
            dueFault("h" + run + ";m1;", 1, 1);
            dueFault("h1;m" + run + ";", 4, 1);
            dueFault("h1;m1;p" + run + ",1;", 7, 1);
            dueFault("h1;m1;p1," + run + ";", 9, 1);
            dueFault(run, 0, 1);
            dueFault("h1;m1;" + run, 6, 1);
        }
    }

    /** What a number there answers, in both ways to write it: the read, or a fault 2 at its first figure. */
    private void dueNumber(String before, int number, String behind, boolean asTold) {
        int place = before.length();
        String padded = (number < 10 ? "0" : "") + number;
        for (String figures : new String[] {String.valueOf(number), padded}) {
            String text = before + figures + behind;
            fresh();
            int answer = read(text);
            due(text + " is as told", answer >= 0 ? 1 : 0, asTold ? 1 : 0);
            due(text + ", its fault", x.fault(), asTold ? 0 : 2);
            if (!asTold) {
                due(text, answer, FAULTS - place);
            }
        }
    }

    private void numbersAsTold() {
        for (int number = 0; number <= 99; number++) {
            dueNumber("h", number, ";m1;", number >= 1 && number <= 9);
            dueNumber("h1;m", number, ";", true);
            due("needs", x.motion(0), number);
            for (String sort : new String[] {"p", "l", "d", "i", "r"}) {
                dueNumber("h1;m1;" + sort, number, ",1;", number <= 20);
                due("breath", x.member(0, 0), number <= 20 ? number : BAD);
                dueNumber("h1;m1;" + sort + "1,", number, ";", number <= 9);
                due("mends", x.member(0, 1), number <= 9 ? number : BAD);
            }
        }
    }

    private void howManyMotionsAndMembers() {
        fresh();
        dueFault("h1;", 3, 1);
        for (int motions = 1; motions <= 4; motions++) {
            for (int members = 0; members <= 4; members++) {
                String text = "h1;" + "m5;".repeat(motions) + "i5,5;".repeat(members);
                due("read " + text, read(text), members);
                due("motions", x.count(1), motions);
                due("members", x.count(2), members);
                due("the last motion", x.motion(motions - 1), 5);
                due("none beyond", x.motion(motions), BAD);
                due("no member beyond", x.kind(members), BAD);
            }
        }
        for (String behind : new String[] {"m5;", "m", "m555;", "m5;m5;", "m;", "mm"}) {
            dueFault("h1;" + "m5;".repeat(4) + behind, 15, 3);
        }
        for (String sort : new String[] {"p", "l", "d", "i", "r"}) {
            for (int motions = 1; motions <= 4; motions++) {
                String four = "h1;" + "m5;".repeat(motions) + "i5,5;".repeat(4);
                dueFault(four + sort + "5,5;", four.length(), 3);
                dueFault(four + sort, four.length(), 3);
                dueFault(four + sort + "555,5;", four.length(), 3);
            }
        }
    }

    private void lawMotionsMembersInThisOrder() {
        fresh();
        dueFault("", 0, 1);
        dueFault("m1;h1;", 0, 1);
        dueFault("p1,1;", 0, 1);
        dueFault("h1;p1,1;", 3, 1);
        dueFault("h1;p1,1;m1;", 3, 1);
        dueFault("h1;h1;m1;", 3, 1);
        dueFault("h1;m1;h1;", 6, 1);
        dueFault("h1;m1;p1,1;m1;", 11, 1);
        dueFault("h1;m1;p1,1;h1;", 11, 1);
        dueFault("h1;m1;p1,1;h1;m1;", 11, 1);
    }

    private void eachSort() {
        String sorts = "pldir";
        for (int letter = 'a'; letter <= 'z'; letter++) {
            int kind = sorts.indexOf(letter) + 1;
            fresh();
            int answer = read("h1;m1;" + (char) letter + (letter == 'm' ? "3;" : "3,4;"));
            due("read a " + (char) letter, answer, kind > 0 ? 1 : letter == 'm' ? 0 : FAULTS - 6);
            due("its kind", x.kind(0), kind > 0 ? kind : BAD);
        }
    }

    private void theEndIsATokenToo() {
        String text = "h9;m99;m0;p20,9;r0,0;";
        for (int length = 0; length <= text.length(); length++) {
            fresh();
            int answer = read(text.substring(0, length));
            int members = length == 7 || length == 10 ? 0 : length == 16 ? 1 : length == 21 ? 2 : -1;
            due("read the first " + length, answer, members >= 0 ? members : FAULTS - length);
            due("fault", x.fault(), members >= 0 ? 0 : 1);
        }
    }

    private void theFirstTokenThatHasAFault() {
        fresh();
        dueFault("h0;m100;", 1, 2);
        dueFault("h1;m100;p21,1;", 4, 1);
        dueFault("h1;m1;p21,10;", 7, 2);
        dueFault("h1;m1;p20,10;x", 10, 2);
        dueFault("h1;m1;p21", 7, 2);
        dueFault("h0", 1, 2);
        dueFault("h10", 1, 2);
        dueFault("h1;m5;m5;m5;m5;m5;h", 15, 3);
        dueFault("h0;m5;m5;m5;m5;m5;", 1, 2);
        dueFault("x0;", 0, 1);
    }

    private void ofOneTokenTheLeastFault() {
        fresh();
        dueFault("h000;m1;", 1, 1);
        dueFault("h1;m1;p210,1;", 7, 1);
        dueFault("h1;m1;99", 6, 1);
        dueFault("h1;m1;m1;m1;m1;p1,1;m1;", 20, 1);
        dueFault("h1;m1;m1;m1;m1;p1,1;p1,1;p1,1;p1,1;m1;", 35, 1);
        dueFault("h1;m1;m1;m1;m1;h", 15, 1);
        dueFault("h1;m1;p1,1;p1,1;p1,1;p1,1;h", 26, 1);
    }

    private void aReadHillStandsInPlace() {
        fresh();
        due("none at first", x.weight(0), STATE);
        due("no motions", x.count(1), 0);
        read("h2;m0;m99;p9,1;l8,2;");
        x.speak(3);
        x.lozenge(1);
        x.needs(1, 3);
        due("read the same anew", read("h2;m0;m99;p9,1;l8,2;"), 2);
        dueBreaths(9, 8);
        due("needs", x.motion(1), 99);
        due("DAY 0", x.count(3), 0);
        due("nothing was CARRIED", x.count(8), 0);
        due("no ACT can be undone", x.count(6), 0);
        due("no ACT can be undone", x.undo(), STATE);
        due("read a smaller one", read("h3;m7;"), 0);
        due("motions", x.count(1), 1);
        due("no second motion", x.motion(1), BAD);
        due("no member", x.member(0, 0), BAD);
        due("nobody can speak", x.count(5), 0);
    }

    /** Only the fault itself and the tape are others: what is fed anew stands on it as it did. */
    private void aFaultLeavesAll() {
        for (Scene scene : Scene.all()) {
            if (scene.bytes != 11) {
                continue;
            }
            int[] untouched = Probe.of(scene.make());
            x = scene.make();
            x.feed('x');
            due(scene.name + ": a fault behind it all", x.hill(), FAULTS - 11);
            due("status", x.status(), scene.status);
            feed("h3;m7;p1,1;");
            int[] seen = Probe.of(x);
            due("the fault", seen[0], 1);
            seen[0] = untouched[0];
            checks.holds(scene.name + ": all else stays", Arrays.equals(seen, untouched));
        }
        fresh("h1;m5;p7,7;");
        for (String text : new String[] {"", "h2;m6;m7;p21,1;", "h2;m6;l1,1;l1,10;", "h2;m6;l1,1;l1,1", "h2"}) {
            read(text);
            due("motions", x.count(1), 1);
            due("needs", x.motion(0), 5);
            due("members", x.count(2), 1);
            due("cost", x.count(4), 1);
            due("kind", x.kind(0), 1);
            dueBreaths(7);
        }
    }

    private void theLatestFaultStays() {
        fresh();
        due("0 before one", x.fault(), 0);
        read("h1;m1;");
        due("0 before one", x.fault(), 0);
        read("h1;m1;m1;m1;m1;m1;");
        due("a fault", x.fault(), 3);
        read("h1;m1;p1,1;");
        due("it stays", x.fault(), 3);
        x.speak(16);
        x.drop(0);
        x.image(0);
        x.restore(0);
        due("it stays", x.fault(), 3);
        read("h0;");
        due("the latest", x.fault(), 2);
        x.hill();
        due("the latest", x.fault(), 1);
    }

    private void dueCounts(int... counts) {
        for (int what = 0; what < counts.length; what++) {
            due("count " + what, x.count(what), counts[what]);
        }
    }

    private void countsAtBothEnds() {
        fresh();
        dueCounts(0, 0, 0, 0, 0, 0, 0, 0, 0, BAD);
        read("h9;m0;");
        dueCounts(0, 1, 0, 0, 9, 0, 0, 0, 0, BAD);
        read("h9;m0;m0;m0;m0;p8,0;d8,0;l9,0;p0,0;");
        dueCounts(0, 4, 4, 0, 9, 0, 0, 0, 0, BAD);
        read("h1;m0;m0;m0;m0;p1,0;d1,0;l2,0;r0,0;");
        dueCounts(0, 4, 4, 0, 1, 15, 0, 0, 0, BAD);
        for (int row = 0; row < 8; row++) {
            x.row(row, 0, 0);
        }
        for (int day = 0; day < 30; day++) {
            x.speak(0);
        }
        feed("a".repeat(100));
        dueCounts(8, 4, 4, 30, 1, 15, 24, 100, 30, BAD);
        x.row(3, 0, 40);
        due("a row in place of one", x.count(0), 8);
    }
}
