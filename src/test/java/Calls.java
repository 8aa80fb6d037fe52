/** A call by its name, on the class and on the model. */
final class Calls {
    private Calls() {
    }

    static long ofClass(FrameSheets x, String call, int... a) {
        return switch (call) {
            case "row" -> x.row(a[0], a[1]);
            case "lay" -> x.lay(a[0], a[1], a[2]);
            case "at" -> x.at(a[0], a[1]);
            case "tear" -> x.tear(a[0]);
            case "copy" -> x.copy(a[0], a[1], a[2], a[3], a[4]);
            case "mean" -> x.mean(a[0]);
            case "text" -> x.text(a[0], a[1]);
            case "put" -> x.put(a[0], a[1], a[2]);
            case "fault" -> x.fault(a[0]);
            case "sheet" -> x.sheet(a[0]);
            case "write" -> x.write(a[0]);
            case "frame" -> x.frame(a[0], a[1]);
            case "place" -> x.place(a[0], a[1]);
            case "mark" -> x.mark(a[0], a[1]);
            case "set" -> x.set(a[0]);
            case "lift" -> x.lift(a[0]);
            case "all" -> x.all(a[0]);
            case "rule" -> x.rule(a[0]);
            case "undo" -> x.undo(a[0]);
            case "keep" -> x.keep(a[0]);
            case "on" -> x.on(a[0]);
            case "free" -> x.free(a[0], a[1], a[2]);
            case "seen" -> x.seen(a[0], a[1], a[2]);
            case "point" -> x.point(a[0], a[1], a[2]);
            case "used" -> x.used(a[0]);
            case "takes" -> x.takes(a[0]);
            case "would" -> x.would(a[0], a[1]);
            case "best" -> x.best();
            case "lots" -> x.lots(a[0], a[1]);
            case "asked" -> x.asked();
            case "count" -> x.count(a[0]);
            case "finding" -> x.finding();
            case "findings" -> x.findings(a[0]);
            case "digest" -> x.digest();
            default -> throw new IllegalArgumentException(call);
        };
    }

    static long ofModel(Model x, String call, int... a) {
        return switch (call) {
            case "row" -> x.row(a[0], a[1]);
            case "lay" -> x.lay(a[0], a[1], a[2]);
            case "at" -> x.at(a[0], a[1]);
            case "tear" -> x.tear(a[0]);
            case "copy" -> x.copy(a[0], a[1], a[2], a[3], a[4]);
            case "mean" -> x.mean(a[0]);
            case "text" -> x.text(a[0], a[1]);
            case "put" -> x.put(a[0], a[1], a[2]);
            case "fault" -> x.fault(a[0]);
            case "sheet" -> x.sheet(a[0]);
            case "write" -> x.write(a[0]);
            case "frame" -> x.frame(a[0], a[1]);
            case "place" -> x.place(a[0], a[1]);
            case "mark" -> x.mark(a[0], a[1]);
            case "set" -> x.set(a[0]);
            case "lift" -> x.lift(a[0]);
            case "all" -> x.all(a[0]);
            case "rule" -> x.rule(a[0]);
            case "undo" -> x.undo(a[0]);
            case "keep" -> x.keep(a[0]);
            case "on" -> x.on(a[0]);
            case "free" -> x.free(a[0], a[1], a[2]);
            case "seen" -> x.seen(a[0], a[1], a[2]);
            case "point" -> x.point(a[0], a[1], a[2]);
            case "used" -> x.used(a[0]);
            case "takes" -> x.takes(a[0]);
            case "would" -> x.would(a[0], a[1]);
            case "best" -> x.best();
            case "lots" -> x.lots(a[0], a[1]);
            case "asked" -> x.asked();
            case "count" -> x.count(a[0]);
            case "finding" -> x.finding();
            case "findings" -> x.findings(a[0]);
            case "digest" -> x.digest();
            default -> throw new IllegalArgumentException(call);
        };
    }
}
