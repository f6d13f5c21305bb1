/** KINDS of part 3 and part 4 of "Terms", sentence by sentence: what MEMBERS are, ASKS of them, THE TRACE, status. */
public final class AskedTest extends Trial {
    private static final String SORTS = "pldir";
    /** Of a KIND 1 to 5 all that it is. */
    private static final String[] IS = {"01", "012", "013", "04", "045"};
    private static final int[][] SIZE_TRACES =
        {{11, 10, 21, 20}, {12, 11, 10, 24, 21, 20}, {11, 10, 22, 21, 20}, {13, 10}, {14, 13, 10}};
    private static final int[][] MARK_TRACES =
        {{21, 20}, {24, 21, 20}, {22, 21, 20}, {23, 20, 13, 10}, {23, 20, 14, 13, 10}};

    public static void main(String[] args) {
        AskedTest test = new AskedTest();
        test.whatEachKindIs();
        test.asksOfEachKind();
        test.theTraceIsEmptyAhead();
        test.theTraceStays();
        test.theTraceBeyondItsEnd();
        test.statusOfTheLatestCall();
        test.statusIsLeftByOthers();
        test.checks.end();
    }

    private void whatEachKindIs() {
        for (int sort = 0; sort < 5; sort++) {
            fresh("h1;m1;i0,0;" + SORTS.charAt(sort) + "1,1;");
            due("kind", x.kind(1), sort + 1);
            for (int kind = 0; kind <= 5; kind++) {
                boolean is = IS[sort].indexOf((char) ('0' + kind)) >= 0;
                due(SORTS.charAt(sort) + " as " + kind, x.as(1, kind), is ? 1 : KIND);
                due("status", x.status(), is ? 0 : 3);
            }
            due("as 6", x.as(1, 6), BAD);
            due("as -1", x.as(1, -1), BAD);
            due("he stays what he is", x.kind(1), sort + 1);
        }
    }

    private void asksOfEachKind() {
        for (int sort = 0; sort < 5; sort++) {
            for (int number = 0; number < 4; number++) {
                for (int breath : new int[] {0, 1, 20}) {
                    for (int mends : new int[] {0, 1, 9}) {
                        asks(sort, number, breath, mends);
                    }
                }
            }
        }
    }

    private void asks(int sort, int number, int breath, int mends) {
        fresh("h1;m1;" + "i7,7;".repeat(number) + SORTS.charAt(sort) + breath + "," + mends + ";"
            + "p7,7;".repeat(3 - number));
        int plainMark = number + breath;
        int mildSize = mends - 100;
        int[] sizes = {mends + plainMark, -(mends + 2 * plainMark), mends + plainMark - 1000, mildSize, 2 * mildSize};
        int[] marks = {plainMark, 2 * plainMark, plainMark - 1000, number - mildSize, number - 2 * mildSize};
        due("SIZE of " + SORTS.charAt(sort), x.ask(number, 0), sizes[sort]);
        dueTrace(SIZE_TRACES[sort]);
        due("MARK of " + SORTS.charAt(sort), x.ask(number, 1), marks[sort]);
        dueTrace(MARK_TRACES[sort]);
        due("2", x.ask(number, 2), BAD);
        due("-1", x.ask(number, -1), BAD);
        dueTrace(MARK_TRACES[sort]);
    }

    private void dueTrace(int... trace) {
        for (int i = -1; i <= 17; i++) {
            due("trace " + i, x.trace(i), i >= 0 && i < trace.length ? trace[i] : NONE);
        }
    }

    private void theTraceIsEmptyAhead() {
        fresh("h1;m1;l3,3;i3,3;");
        dueTrace();
        x.ask(0, 0);
        dueTrace(SIZE_TRACES[1]);
        x.ask(1, 0);
        dueTrace(SIZE_TRACES[3]);
        x.ask(1, 0);
        dueTrace(SIZE_TRACES[3]);
    }

    private void theTraceStays() {
        fresh();
        due("nobody to ask", x.ask(0, 0), BAD);
        dueTrace();
        read("h1;m1;l3,3;");
        x.image(0);
        x.ask(0, 1);
        due("no such member", x.ask(1, 0), BAD);
        x.speak(0);
        x.undo();
        x.restore(0);
        read("h0;");
        read("h1;m1;");
        due("nobody to ask", x.ask(0, 0), BAD);
        dueTrace(MARK_TRACES[1]);
    }

    private void theTraceBeyondItsEnd() {
        fresh("h1;m1;l3,3;");
        x.ask(0, 0);
        due("the last", x.trace(5), 20);
        for (int i : new int[] {6, 15, 16, 17, MAX, -1, MIN}) {
            due("trace " + i, x.trace(i), NONE);
        }
    }

    private void statusOfTheLatestCall() {
        fresh("h1;m1;p3,3;");
        due("there was none", x.status(), 0);
        x.row(0, 0, 2);
        x.row(1, 1, 2);
        int[] found = {x.drop(5), x.status(), x.set(0, 0, 1), x.status(), x.as(0, 2), x.status(), x.as(0, 1),
            x.status(), x.row(2, 0, -1), x.status(), x.row(2, 0, 0), x.status(), x.copy(0, 0, 1, 0, 0), x.status(),
            x.copy(0, 0, 0, 0, 0), x.status(), x.set(2, 0, 0), x.status(), x.drop(2), x.status(),
            x.costs(0, 1, 2), x.status(), x.costs(0, 1, 1), x.status(), x.fits(0, 2, 0, 1, 0), x.status(),
            x.fits(0, 0, 0, 1, 0), x.status()};
        int[] statuses = {1, 0, 3, 0, 4, 0, 5, 0, 2, 0, 2, 0, 1, 0};
        for (int k = 0; k < statuses.length; k++) {
            due("status " + k, found[2 * k + 1], statuses[k]);
            due("the call " + k + " was found so", statuses[k] == 0 ? found[2 * k] >= 0 ? 0 : 1 : -1000010 - found[2 * k],
                statuses[k]);
        }
    }

    /** Neither what is refused nor a call without a ROW leaves a status. */
    private void statusIsLeftByOthers() {
        for (int status : new int[] {0, 4}) {
            fresh("h1;m1;p3,3;");
            x.row(0, 0, status == 0 ? 1 : -1);
            int[] refused = {x.row(8, 0, 1), x.row(0, 3, 1), x.row(0, 0, 41), x.set(8, 0, 0), x.copy(8, 0, 0, 0, 0),
                x.drop(-1), x.as(0, 6), x.as(1, 0), x.fits(0, 0, 0, 0, 0), x.costs(0, 0, 13), x.speak(2),
                x.image(2), x.ask(0, 2), x.count(9), x.needs(0, 100)};
            for (int answer : refused) {
                due("refused", answer, BAD);
            }
            due("refused", x.restore(1), STATE);
            x.speak(0);
            x.lozenge(0);
            x.undo();
            x.power(0, 0);
            x.plan(4, 0);
            x.ask(0, 0);
            x.image(0);
            x.restore(0);
            x.hill();
            due("status", x.status(), status);
            due("status is no call with a ROW", x.status(), status);
        }
        fresh();
        x.drop(0);
        due("no HILL", x.costs(0, 0, 1), STATE);
        due("status", x.status(), 1);
    }
}
