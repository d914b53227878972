import java.util.ArrayList;
import java.util.List;

/** All that can be seen of an object, as lines; what looks for it uses the object up. */
final class Look {
    private final TowerPrisoner x;
    private final List<String> lines = new ArrayList<>();
    private int calls = 0;

    private Look(TowerPrisoner x) {
        this.x = x;
    }

    /** NOW, what may be undone, both images with what may be undone there, the text, the trace. */
    static List<String> at(TowerPrisoner x) {
        Look look = new Look(x);
        look.told();
        look.known("now: ");
        look.answer("back(0)", x.back(0));
        look.known("image 0: ");
        look.answer("back(1)", x.back(1));
        look.known("image 1: ");
        look.answer("sentence()", x.sentence());
        look.told();
        // Behind the 512th call nothing is promised, so nothing could be compared.
        Check.holds("looked by " + look.calls + " calls at most 400", look.calls <= 400);
        return look.lines;
    }

    private void answer(String call, long answer) {
        calls++;
        lines.add(call + " = " + answer);
    }

    private void told() {
        for (int what = 0; what < 8; what++) {
            answer("now(" + what + ")", x.now(what));
            answer("count(" + what + ")", x.count(what));
        }
        for (int d = 0; d < x.count(0); d++) {
            answer("sun(" + d + ")", x.sun(d));
        }
        for (int b = 0; b < x.count(1); b++) {
            for (int what = 0; what < 4; what++) {
                answer("bribe(" + b + ", " + what + ")", x.bribe(b, what));
            }
        }
        for (int t = 0; t < x.count(2); t++) {
            for (int what = 0; what < 3; what++) {
                answer("trade(" + t + ", " + what + ")", x.trade(t, what));
            }
        }
        for (int day = 0; day < 14; day++) {
            answer("could(" + day + ")", x.could(day));
        }
        answer("ways()", x.ways());
        answer("trace()", x.trace());
    }

    private void known(String of) {
        moment(of);
        for (int left = x.count(6); left > 0; left--) {
            answer(of + "undo()", x.undo());
            moment(of);
        }
        answer(of + "undo() of none", x.undo());
    }

    private void moment(String of) {
        for (int what = 0; what < 6; what++) {
            answer(of + "now(" + what + ")", x.now(what));
        }
        for (int t = 0; t < x.count(2); t++) {
            answer(of + "trade(" + t + ", 2)", x.trade(t, 2));
        }
    }
}
