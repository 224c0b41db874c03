import java.util.ArrayList;
import java.util.List;
import java.util.function.Consumer;

/** All that can be seen of an object, in parts: each is seen on an object of its own, as some change what they see. */
final class Look {
    static final List<Consumer<Look>> PARTS = List.of(Look::counts, Look::dishes, Look::craft, Look::blocks, Look::orders,
        Look::ups, Look::rains, Look::askings, Look::plans, Look::tape, Look::silence, Look::search, Look::odds,
        l -> l.sheet(0), l -> l.sheet(1), l -> l.sheet(2), l -> l.sheet(3), Look::judged, Look::hours, Look::kept, Look::torn);

    private final Run x;
    private final List<String> seen = new ArrayList<>();

    Look(Run x) {
        this.x = x;
    }

    List<String> seen() {
        return seen;
    }

    private int see(String call) {
        int got = x.ask(call);
        seen.add(call + " = " + got);
        return got;
    }

    private void seeAll(String call, int n) {
        for (int i = 0; i < n; i++) {
            see(call.replace("*", "" + i));
        }
    }

    private void counts() {
        seeAll("count(*)", 13);
    }

    private void dishes() {
        int n = see("count(0)");
        for (int d = 0; d < n; d++) {
            seeAll("dishIs(" + d + ", *)", 5);
        }
    }

    private void craft() {
        int n = see("count(2)");
        for (int c = 0; c < n; c++) {
            seeAll("craftIs(" + c + ", *)", 11);
        }
    }

    private void blocks() {
        int n = see("count(2)");
        for (int c = 0; c < n; c++) {
            int blocks = see("craftIs(" + c + ", 4)");
            for (int i = 0; i < blocks; i++) {
                seeAll("block(" + c + ", " + i + ", *)", 3);
            }
        }
    }

    private void orders() {
        int n = see("count(2)");
        for (int c = 0; c < n; c++) {
            int orders = see("craftIs(" + c + ", 10)");
            for (int o = 0; o < orders; o++) {
                seeAll("orderIs(" + c + ", " + o + ", *)", 5);
            }
        }
    }

    private void ups() {
        int n = see("count(2)");
        for (int c = 0; c < n; c++) {
            for (int p = 0; p < 3; p++) {
                see("rise(" + c + ", " + p + ", 0, 1)");
                see("rise(" + c + ", " + p + ", 12, 1)");
                see("rise(" + c + ", " + p + ", 0, 9)");
                see("rises(" + c + ", " + p + ", 0, 0)");
            }
        }
    }

    private void rains() {
        for (int p = 0; p < 3; p++) {
            seeAll("rain(" + p + ", *, 0)", 14);
        }
    }

    private void askings() {
        int n = see("count(3)");
        for (int a = 0; a < n; a++) {
            seeAll("asking(" + a + ", *)", 10);
        }
    }

    private void plans() {
        see("plan(-1)");
        int n = see("count(3)");
        for (int a = 0; a < n; a++) {
            see("plan(" + a + ")");
            see("begins(" + a + ")");
        }
    }

    /** What stands on the tape is seen by what it asks for. */
    private void tape() {
        see("count(10)");
        see("asks()");
        see("count(10)");
        askings();
    }

    private void silence() {
        int n = see("count(2)");
        for (int c = 0; c < n; c++) {
            see("ever(" + c + ")");
            seeAll("silence(" + c + ", *)", 8);
            seeAll("table(" + c + ", *, 0, false)", 8);
        }
    }

    private void search() {
        see("stop(1)");
        see("stop(50)");
        see("stop(100)");
        seeAll("seek()", 65);
    }

    private void odds() {
        seeAll("cell(*, 0)", 64);
    }

    /** Its bits by copies to another one, and which of its numbers are 0: no block is sent where no dish is whole. */
    private void sheet(int s) {
        int dishes = see("count(0)");
        for (int d = 0; d < dishes; d++) {
            x.ask("mend(" + d + ", true)");
        }
        see("check(" + s + ")");
        int t = (s + 1) % 4;
        for (int bits = 8; bits <= 32; bits *= 2) {
            x.ask("sheet(" + t + ", " + bits + ", 1)");
            if (see("copy(" + s + ", 0, " + t + ", 0, 0)") == 0) {
                numbers(s, t);
            }
        }
    }

    private void numbers(int s, int t) {
        for (int i = 0; i < 24; i++) {
            x.ask("write(" + t + ", 0, 0)");
            see("copy(" + s + ", " + i + ", " + t + ", 0, 1)");
            see("check(" + t + ")");
        }
    }

    private void judged() {
        seeAll("judge(*)", 4);
        seeAll("check(*)", 4);
    }

    private void hours() {
        for (int h = 0; h < 40; h++) {
            see("run(1)");
            see("count(7)");
            see("count(8)");
            see("count(11)");
        }
        int n = see("count(2)");
        for (int c = 0; c < n; c++) {
            int orders = see("craftIs(" + c + ", 10)");
            seeAll("orderIs(" + c + ", *, 4)", orders);
        }
    }

    private void kept() {
        see("undo()");
        counts();
        dishes();
        craft();
    }

    private void torn() {
        see("tear()");
        see("undo()");
    }
}
