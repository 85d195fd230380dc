/** The edges of any call: how many there are, REFUSALS, and promise 19, sentence by sentence. */
public final class CallsEdgesTest {
    private static final int MIN = Integer.MIN_VALUE;
    private static final int MAX = Integer.MAX_VALUE;
    private static final int CALLS_OF_SOME_ROWS = 12;

    /** A call on a bench. */
    private interface Call {
        long on(ReckonBench bench);
    }

    /** A call and the answer that is due on a bench of someRows. */
    private record Due(String told, Call call, long answer) {
    }

    public static void main(String[] args) {
        calls512();
        laterCalls();
        answersOfRefused();
        refusedLongs();
        changesNothing();
        noSuchRow();
        anotherInt();
        noSecondRow();
        unlikeKinds();
        notSorted();
        noRoom();
        oneBeforeTwo();
        twoBeforeThree();
        twoBeforeFive();
        placeOfARow();
        noneYet();
        afterARefusedCall();
        afterAnAnsweredCall();
        statusItself();
        Checks.end();
    }

    /** Row 0 of doubles: 3, -1, 2, NaN, -0. Row 1 of singles: 5, 6, 7. Row 2: one double, 4. */
    private static ReckonBench someRows() {
        ReckonBench bench = Edges.benchOf(Edges.DOUBLE, 3, -1, 2, Double.NaN, -0.0);
        bench.row(3, true);
        for (int i = 0; i < 3; i++) {
            bench.whole(1, i, 5 + i);
        }
        bench.row(1, false);
        bench.whole(2, 0, 4);
        return bench;
    }

    private static void someRowsStand(String what, ReckonBench bench) {
        Edges.rowIs(what + ": row 0", bench, 0, Edges.bitsOf(Edges.DOUBLE, 3, -1, 2, Double.NaN, -0.0));
        Edges.rowIs(what + ": row 1", bench, 1, Edges.bitsOf(Edges.SINGLE, 5, 6, 7));
        Edges.rowIs(what + ": row 2", bench, 2, Edges.bitsOf(Edges.DOUBLE, 4));
    }

    /** Each method once, answered. */
    private static Due[] answered() {
        return new Due[] {
            new Due("row", b -> b.row(1, true), 3),
            new Due("set", b -> b.set(0, 4, -1), 3),
            new Due("whole", b -> b.whole(0, 4, -7), 5),
            new Due("get", b -> b.get(0, 4), Long.MIN_VALUE),
            new Due("cut", b -> b.cut(0, 0, true), 3),
            new Due("compare", b -> b.compare(0, 0, 1), 52),
            new Due("between", b -> b.between(0, 2, 1, 0), 3),
            new Due("total", b -> b.total(0, 1, 0), -1),
            new Due("sort", b -> b.sort(0, 0), 4),
            new Due("act", b -> b.act(0, 9, 1, 0, 4), 5),
            new Due("step", b -> b.step(0, 4, -2), 2),
            new Due("least", b -> b.least(0), 1),
            new Due("greatest", b -> b.greatest(0), 0),
            new Due("sum", b -> b.sum(1, 2), Checks.s(18)),
            new Due("find", b -> b.find(1, Checks.s(7)), 2),
            new Due("interval", b -> b.interval(0, 0, 1, 5), 1),
            new Due("move", b -> b.move(0, 1, 1, 2, true), 5),
            new Due("status", b -> b.status(), 0),
        };
    }

    /** Each method but status, refused: for want of the row, with an int beside it that is out of range too. */
    private static Call[] withoutRow(int row) {
        return new Call[] {
            b -> b.set(row, 9, 1), b -> b.whole(row, 9, 1), b -> b.get(row, 9), b -> b.cut(row, 9, true),
            b -> b.compare(row, 9, 0), b -> b.between(row, 0, 9, 0), b -> b.total(row, 0, 9), b -> b.sort(row, 3),
            b -> b.act(row, 14, 9, 9, 9), b -> b.step(row, 9, MAX), b -> b.least(row), b -> b.greatest(row),
            b -> b.sum(row, 3), b -> b.find(row, 1), b -> b.interval(row, 9, 9, 9),
            b -> b.move(row, 9, 9, 9, false), b -> b.set(row, 0, 1), b -> b.move(row, 0, 1, 0, true),
        };
    }

    /** Each int that can be out of its range, one by one, with what is just out of it. */
    private static Call[] outOfRange() {
        return new Call[] {
            b -> b.row(0, false), b -> b.row(501, true), b -> b.row(MIN, true), b -> b.row(MAX, true),
            b -> b.set(0, -1, 1), b -> b.set(0, 5, 1), b -> b.set(1, 3, 1),
            b -> b.whole(0, -1, 1), b -> b.whole(0, 5, 1), b -> b.whole(2, 1, 1),
            b -> b.get(0, -1), b -> b.get(0, 5), b -> b.get(1, MIN),
            b -> b.cut(0, -1, false), b -> b.cut(0, 5, true), b -> b.cut(0, MAX, true),
            b -> b.compare(0, -1, 0), b -> b.compare(0, 5, 0), b -> b.compare(0, 0, -1), b -> b.compare(0, 0, 5),
            b -> b.between(0, -1, 0, 0), b -> b.between(0, 5, 0, 0), b -> b.between(0, 0, -1, 0),
            b -> b.between(0, 0, 5, 0), b -> b.between(0, 0, 0, -1), b -> b.between(0, 0, 0, 5),
            b -> b.total(0, -1, 0), b -> b.total(0, 5, 0), b -> b.total(0, 0, -1), b -> b.total(0, 0, 5),
            b -> b.sort(0, -1), b -> b.sort(0, 3), b -> b.sort(0, MIN), b -> b.sort(0, MAX),
            b -> b.act(0, -1, 0, 0, 0), b -> b.act(0, 14, 0, 0, 0), b -> b.act(0, 8, -1, 0, 0),
            b -> b.act(0, 8, 5, 0, 0), b -> b.act(0, 8, 0, -1, 0), b -> b.act(0, 8, 0, 5, 0),
            b -> b.act(0, 8, 0, 0, -1), b -> b.act(0, 8, 0, 0, 5), b -> b.act(0, 13, 0, 5, 0),
            b -> b.step(0, -1, 1), b -> b.step(0, 5, 1), b -> b.step(0, 0, 1000000001),
            b -> b.step(0, 0, -1000000001), b -> b.step(0, 0, MIN), b -> b.step(0, 3, MAX),
            b -> b.sum(0, -1), b -> b.sum(0, 3), b -> b.sum(2, MIN), b -> b.sum(2, MAX),
            b -> b.interval(0, -1, 0, 4), b -> b.interval(0, 2, 0, 4), b -> b.interval(0, 0, -1, 4),
            b -> b.interval(0, 0, 2, 4), b -> b.interval(0, 0, 1, -1), b -> b.interval(0, 0, 1, 6),
            b -> b.interval(2, 0, 0, 4), b -> b.interval(1, 0, 1, 4),
            b -> b.move(0, -1, 0, 0, true), b -> b.move(0, 5, 0, 0, true), b -> b.move(0, 0, 1, -1, true),
            b -> b.move(0, 0, 1, 3, true), b -> b.move(0, 0, -1, 0, true), b -> b.move(0, 0, 3, 0, true),
        };
    }

    private static void calls512() {
        Checks.says("An object is used for at most 512 calls after it has been made");
        for (Due last : answered()) {
            ReckonBench bench = someRows();
            for (int made = CALLS_OF_SOME_ROWS; made < 511; made++) {
                bench.compare(0, 0, 1);
            }
            Checks.due(last.told + " as call 512", last.call.on(bench), last.answer);
        }
        for (Due first : answered()) {
            ReckonBench bench = someRows();
            Checks.due(first.told + " as call 13", first.call.on(bench), first.answer);
        }
        ReckonBench bench = Edges.benchOf(Edges.SINGLE, 0, 1);
        for (int made = 3; made < 511; made++) {
            bench.act(0, 8, 0, 1, 0);
        }
        Checks.due("508 times 1", bench.get(0, 0), Checks.s(508));
    }

    private static void laterCalls() {
        Checks.says("what later calls answer is free. [but each comes to an end]");
        ReckonBench bench = someRows();
        int ended = 0;
        for (int round = 0; round < 40; round++) {
            for (Due later : answered()) {
                later.call.on(bench);
                ended++;
            }
            for (Call later : outOfRange()) {
                later.on(bench);
                ended++;
            }
        }
        Checks.due("calls that came to an end", ended, 40 * (answered().length + outOfRange().length));
    }

    private static void answersOfRefused() {
        Checks.says("REFUSALS: a call that can't be answered answers -9");
        int refused = 0;
        for (Call call : withoutRow(3)) {
            long answer = call.on(someRows());
            refused += answer == -9 ? 1 : 0;
            Checks.due("-9 or, of long, 0", answer == -9 || answer == 0 ? 1 : 0, 1);
        }
        Checks.due("all but get, cut and sum", refused, 15);
        Checks.due("row", someRows().row(0, false), -9);
        Checks.due("find", someRows().find(0, 1), -9);
        Checks.due("move", someRows().move(0, 0, 1, 0, false), -9);
        Checks.due("row, 5", manyRows().row(1, false), -9);
        Checks.due("one that is answered", someRows().total(0, 1, 0), -1);
    }

    private static void refusedLongs() {
        Checks.says("(one of long: 0)");
        int[] wrong = {MIN, -1, 5, MAX};
        for (int i : wrong) {
            ReckonBench bench = someRows();
            Checks.refused("get", bench, bench.get(0, i), 0, 2);
            Checks.refused("get", bench, bench.get(i, 0), 0, 1);
            Checks.refused("cut", bench, bench.cut(0, i, false), 0, 2);
            Checks.refused("narrow cut", bench, bench.cut(0, i, true), 0, 2);
            Checks.refused("cut", bench, bench.cut(i, 0, false), 0, 1);
            Checks.refused("sum", bench, bench.sum(0, i), 0, 2);
            Checks.refused("sum", bench, bench.sum(i, 0), 0, 1);
        }
        ReckonBench bench = someRows();
        Checks.due("one that is answered", bench.cut(0, 4, false), 0);
        Checks.due("one that is answered", bench.status(), 0);
    }

    private static void changesNothing() {
        Checks.says("and changes nothing");
        for (Call[] calls : new Call[][] {outOfRange(), withoutRow(3), withoutRow(-1)}) {
            for (int i = 0; i < calls.length; i++) {
                ReckonBench bench = someRows();
                calls[i].on(bench);
                someRowsStand("refused call " + i, bench);
                Checks.due("no row was made", bench.row(1, false), 3);
            }
        }
        ReckonBench bench = someRows();
        bench.move(0, 0, 1, 0, false);
        bench.find(0, 1);
        someRowsStand("3 and 4", bench);
        bench = manyRows();
        bench.row(1, true);
        bench.row(500, true);
        Checks.refused("5: no row was made", bench, bench.get(64, 0), 0, 1);
        bench = fullBench(3999);
        Checks.refused("5: 4001", bench, bench.row(2, true), -9, 5);
        Checks.due("and took no room", bench.row(1, true), 8);
    }

    /** 64 rows of one number. */
    private static ReckonBench manyRows() {
        ReckonBench bench = new ReckonBench();
        for (int row = 0; row < 64; row++) {
            bench.row(1, row % 2 == 0);
        }
        return bench;
    }

    /** Eight rows of this many numbers together, 3501 to 4000. */
    private static ReckonBench fullBench(int numbers) {
        ReckonBench bench = new ReckonBench();
        for (int row = 0; row < 7; row++) {
            bench.row(500, row % 2 == 0);
        }
        bench.row(numbers - 3500, true);
        return bench;
    }

    private static void noSuchRow() {
        Checks.says("status() tells why: 1 there is no such ROW (the first one told)");
        int[] wrong = {MIN, -1, 3, 64, MAX};
        for (int row : wrong) {
            Call[] calls = withoutRow(row);
            for (int i = 0; i < calls.length; i++) {
                ReckonBench bench = someRows();
                calls[i].on(bench);
                Checks.due("row " + row + ", call " + i, bench.status(), 1);
            }
        }
        ReckonBench bench = someRows();
        Checks.due("row 2", bench.cut(2, 0, false), 4);
        Checks.due("row 2", bench.status(), 0);
        bench.row(1, false);
        bench.get(3, 0);
        Checks.due("row 3 when it is there", bench.status(), 0);
    }

    private static void anotherInt() {
        Checks.says("2 another int that is told is out of its range");
        Call[] calls = outOfRange();
        for (int i = 0; i < calls.length; i++) {
            ReckonBench bench = someRows();
            long answer = calls[i].on(bench);
            Checks.due("-9 or, of long, 0, call " + i, answer == -9 || answer == 0 ? 1 : 0, 1);
            Checks.due("why, call " + i, bench.status(), 2);
        }
        Call[] justInside = {
            b -> b.row(1, false), b -> b.row(500, true), b -> b.set(0, 0, 1), b -> b.set(0, 4, 1),
            b -> b.whole(0, 4, 1), b -> b.get(0, 4), b -> b.cut(0, 4, true), b -> b.compare(0, 0, 4),
            b -> b.compare(0, 4, 0), b -> b.between(0, 4, 0, 0), b -> b.between(0, 0, 4, 0),
            b -> b.between(0, 0, 0, 4), b -> b.total(0, 4, 0), b -> b.total(0, 0, 4), b -> b.sort(0, 0),
            b -> b.sort(0, 2), b -> b.act(0, 0, 4, 0, 0), b -> b.act(0, 13, 0, 4, 0), b -> b.act(0, 8, 0, 0, 4),
            b -> b.step(0, 4, 1000000000), b -> b.step(0, 0, -1000000000), b -> b.sum(0, 0), b -> b.sum(0, 2),
            b -> b.interval(0, 1, 0, 0), b -> b.interval(0, 0, 1, 5), b -> b.move(0, 4, 1, 2, true),
        };
        for (int i = 0; i < justInside.length; i++) {
            ReckonBench bench = someRows();
            justInside[i].on(bench);
            Checks.due("just inside, call " + i, bench.status(), 0);
        }
    }

    private static void noSecondRow() {
        Checks.says("2 ... or there is no such second ROW");
        int[] wrong = {MIN, -1, 3, 64, MAX};
        for (int row : wrong) {
            ReckonBench bench = someRows();
            Checks.refused("other " + row, bench, bench.move(0, 0, row, 0, true), -9, 2);
            Checks.refused("other " + row, bench, bench.move(0, 0, row, 0, false), -9, 2);
            Checks.refused("both " + row, bench, bench.move(row, 0, row, 0, true), -9, 1);
        }
        ReckonBench bench = someRows();
        Checks.due("the last row", bench.move(0, 0, 2, 0, false), 1);
        Checks.due("answered", bench.status(), 0);
    }

    private static void unlikeKinds() {
        Checks.says("3 unlike KINDS");
        ReckonBench bench = someRows();
        Checks.refused("DOUBLE to SINGLE", bench, bench.move(0, 0, 1, 0, false), -9, 3);
        Checks.refused("SINGLE to DOUBLE", bench, bench.move(1, 0, 2, 0, false), -9, 3);
        bench.move(0, 0, 2, 0, false);
        Checks.due("alike", bench.status(), 0);
        bench.move(0, 0, 1, 0, true);
        Checks.due("told to turn", bench.status(), 0);
    }

    private static void notSorted() {
        Checks.says("4 a ROW isn't sorted");
        ReckonBench bench = someRows();
        Checks.refused("row 0", bench, bench.find(0, Checks.d(3)), -9, 4);
        Checks.due("row 1", bench.find(1, Checks.s(6)), 1);
        Checks.due("row 1", bench.status(), 0);
        Checks.due("row 2", bench.find(2, 0), -1);
        Checks.due("row 2", bench.status(), 0);
        bench.sort(0, 0);
        Checks.due("row 0, sorted", bench.find(0, Checks.d(3)), 3);
        Checks.due("row 0, sorted", bench.status(), 0);
    }

    private static void noRoom() {
        Checks.says("5 no room.");
        ReckonBench bench = manyRows();
        Checks.refused("64 rows", bench, bench.row(1, false), -9, 5);
        bench = fullBench(4000);
        Checks.refused("4000 numbers", bench, bench.row(1, false), -9, 5);
        bench = fullBench(3999);
        Checks.refused("3999 numbers and 2", bench, bench.row(2, false), -9, 5);
        bench.row(1, false);
        Checks.due("3999 numbers and 1", bench.status(), 0);
    }

    private static void oneBeforeTwo() {
        Checks.says("The first that fits, in this order. [1 before 2]");
        int[] wrong = {-1, 3};
        for (int row : wrong) {
            for (Call call : withoutRow(row)) {
                ReckonBench bench = someRows();
                call.on(bench);
                Checks.due("1 before 2", bench.status(), 1);
            }
        }
    }

    private static void twoBeforeThree() {
        Checks.says("The first that fits, in this order. [1 before 2 before 3]");
        ReckonBench bench = someRows();
        Checks.refused("no first row", bench, bench.move(3, 9, 1, 9, false), -9, 1);
        Checks.refused("i", bench, bench.move(0, 5, 1, 0, false), -9, 2);
        Checks.refused("j", bench, bench.move(0, 0, 1, 3, false), -9, 2);
        Checks.refused("i", bench, bench.move(1, 3, 0, 0, false), -9, 2);
        Checks.refused("j", bench, bench.move(1, 0, 0, 5, false), -9, 2);
        Checks.refused("no second row", bench, bench.move(0, 0, 3, 0, false), -9, 2);
        Checks.refused("3 alone", bench, bench.move(0, 4, 1, 2, false), -9, 3);
        Checks.refused("3 alone", bench, bench.move(1, 2, 0, 4, false), -9, 3);
    }

    private static void twoBeforeFive() {
        Checks.says("The first that fits, in this order. [2 before 5, 1 before 4]");
        ReckonBench bench = manyRows();
        Checks.refused("0 of 64", bench, bench.row(0, false), -9, 2);
        Checks.refused("501 of 64", bench, bench.row(501, false), -9, 2);
        Checks.refused("500 of 64", bench, bench.row(500, false), -9, 5);
        bench = fullBench(4000);
        Checks.refused("0 of 4000", bench, bench.row(0, true), -9, 2);
        Checks.refused("501 of 4000", bench, bench.row(501, true), -9, 2);
        Checks.refused("1 of 4000", bench, bench.row(1, true), -9, 5);
        bench = someRows();
        Checks.refused("no row to be sorted", bench, bench.find(3, 0), -9, 1);
        Checks.refused("a row that is not", bench, bench.find(0, 0), -9, 4);
    }

    private static void placeOfARow() {
        Checks.says("(A PLACE is out of range if the ROW has none such.)");
        int[] lengths = {5, 3, 1};
        for (int row = 0; row < 3; row++) {
            ReckonBench bench = someRows();
            int n = lengths[row];
            bench.get(row, n - 1);
            Checks.due("the last place of row " + row, bench.status(), 0);
            Checks.refused("behind it", bench, bench.get(row, n), 0, 2);
            bench.get(row, 0);
            Checks.due("the first place of row " + row, bench.status(), 0);
            Checks.refused("before it", bench, bench.get(row, -1), 0, 2);
            Checks.refused("place 499", bench, bench.get(row, 499), 0, 2);
        }
        ReckonBench bench = someRows();
        Checks.due("i by this row, j by the other", bench.move(0, 4, 1, 2, true), 4);
        Checks.refused("i by this row", bench, bench.move(1, 4, 0, 2, true), -9, 2);
        Checks.refused("j by the other", bench, bench.move(0, 2, 1, 4, true), -9, 2);
    }

    private static void noneYet() {
        Checks.says("Promise 19: 0: ... there was none");
        ReckonBench bench = new ReckonBench();
        Checks.due("a new object", bench.status(), 0);
        Checks.due("once more", bench.status(), 0);
        ReckonBench other = new ReckonBench();
        other.least(0);
        Checks.due("another's refusal", other.status(), 1);
        Checks.due("is not this one's", bench.status(), 0);
    }

    private static void afterARefusedCall() {
        Checks.says("Promise 19: Why the latest call was refused");
        ReckonBench bench = someRows();
        Checks.refused("1", bench, bench.get(3, 0), 0, 1);
        Checks.refused("2 behind 1", bench, bench.get(0, 5), 0, 2);
        Checks.refused("3 behind 2", bench, bench.move(0, 0, 1, 0, false), -9, 3);
        Checks.refused("4 behind 3", bench, bench.find(0, 0), -9, 4);
        Checks.refused("1 behind 4", bench, bench.find(-1, 0), -9, 1);
        bench.get(0, 0);
        Checks.refused("2 behind an answer", bench, bench.sort(0, 3), -9, 2);
        bench = manyRows();
        Checks.refused("5", bench, bench.row(1, true), -9, 5);
        Checks.refused("1 behind 5", bench, bench.least(64), -9, 1);
    }

    private static void afterAnAnsweredCall() {
        Checks.says("Promise 19: 0: it was answered");
        for (Due each : answered()) {
            if (each.told.equals("status")) {
                continue;
            }
            ReckonBench bench = someRows();
            bench.get(0, 5);
            Checks.due("refused before " + each.told, bench.status(), 2);
            Checks.due(each.told, each.call.on(bench), each.answer);
            Checks.due("behind " + each.told, bench.status(), 0);
        }
        Call[] likeRefusals = {
            b -> b.get(1, 0), b -> b.cut(0, 3, false), b -> b.sum(1, 0), b -> b.least(1), b -> b.greatest(1),
            b -> b.find(2, 1), b -> b.total(0, 1, 0), b -> b.interval(0, 0, 1, 0), b -> b.step(0, 3, 1),
        };
        for (Call call : likeRefusals) {
            ReckonBench bench = someRows();
            bench.set(1, 0, 0);
            bench.set(1, 1, 0);
            bench.set(1, 2, 0);
            bench.move(0, 0, 1, 0, false);
            call.on(bench);
            Checks.due("0 and -1 are answers too", bench.status(), 0);
        }
    }

    private static void statusItself() {
        Checks.says("Promise 19: (status() itself doesn't count)");
        ReckonBench bench = someRows();
        bench.find(0, 0);
        for (int i = 0; i < 5; i++) {
            Checks.due("4 still", bench.status(), 4);
        }
        bench.get(0, 0);
        for (int i = 0; i < 5; i++) {
            Checks.due("0 still", bench.status(), 0);
        }
    }
}
