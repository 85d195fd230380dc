/** Promise 19 (status), and the order of the reasons why a call is refused. */
public final class StatusTest {
    public static void main(String[] args) {
        latestCall();
        everyAnswerClears();
        orderOfReasons();
        Checks.end();
    }

    private static void latestCall() {
        ReckonBench bench = new ReckonBench();
        Checks.due("19: there was none", bench.status(), 0);
        Checks.due("19: it doesn't count", bench.status(), 0);
        Checks.refused("19: 1", bench, bench.set(0, 0, 0), -9, 1);
        Checks.refused("19: 2", bench, bench.row(0, false), -9, 2);
        bench.row(2, false);
        Checks.due("19: answered", bench.status(), 0);
        bench.row(2, true);
        Checks.refused("19: 3", bench, bench.move(0, 0, 1, 0, false), -9, 3);
        bench.whole(0, 0, 5);
        Checks.due("19: answered", bench.status(), 0);
        Checks.refused("19: 4", bench, bench.find(0, 0), -9, 4);
        for (int row = 2; row < 64; row++) {
            bench.row(1, true);
        }
        Checks.refused("19: 5", bench, bench.row(1, true), -9, 5);
    }

    private static ReckonBench refusedBefore() {
        ReckonBench bench = new ReckonBench();
        bench.row(4, false);
        bench.row(4, true);
        bench.least(7);
        Checks.due("19: refused", bench.status(), 1);
        return bench;
    }

    private static void everyAnswerClears() {
        ReckonBench[] benches = new ReckonBench[18];
        for (int i = 0; i < benches.length; i++) {
            benches[i] = refusedBefore();
        }
        benches[0].row(1, true);
        benches[1].set(0, 0, 0);
        benches[2].whole(0, 0, 0);
        benches[3].get(0, 0);
        benches[4].cut(0, 0, true);
        benches[5].compare(0, 0, 0);
        benches[6].between(0, 0, 0, 0);
        benches[7].total(0, 0, 0);
        benches[8].sort(0, 0);
        benches[9].act(0, 0, 0, 0, 0);
        benches[10].step(0, 0, 0);
        benches[11].least(0);
        benches[12].greatest(0);
        benches[13].sum(0, 0);
        benches[14].find(0, 1);
        benches[15].interval(0, 0, 1, 3);
        benches[16].move(0, 0, 1, 0, true);
        benches[17].sum(1, 2);
        for (int i = 0; i < benches.length; i++) {
            Checks.due("19: answered, " + i, benches[i].status(), 0);
        }
    }

    private static void orderOfReasons() {
        ReckonBench bench = new ReckonBench();
        bench.row(2, false);
        bench.row(2, true);
        bench.whole(0, 0, 1);
        Checks.refused("1 before 2", bench, bench.move(2, 9, 9, 9, false), -9, 1);
        Checks.refused("2 before 3", bench, bench.move(0, 2, 1, 0, false), -9, 2);
        Checks.refused("2 before 3", bench, bench.move(0, 0, 1, 2, false), -9, 2);
        Checks.refused("no second row", bench, bench.move(0, 0, 2, 0, false), -9, 2);
        Checks.refused("1 before 4", bench, bench.find(2, 1), -9, 1);
        Checks.refused("1 before 2, sum", bench, bench.sum(2, 9), 0, 1);
        Checks.refused("1 before 2, cut", bench, bench.cut(-1, 9, true), 0, 1);
    }
}
