import java.util.List;

/** The two sides of an edge: the last call that is still well, the first that is not. */
final class Edge {
  interface Maker { OverNight make(); }
  interface Call { long on(OverNight x); }
  interface Flag { boolean on(OverNight x); }

  private final Maker maker;

  Edge(Maker maker) { this.maker = maker; }

  OverNight made() { return maker.make(); }

  /** On a new object the call is well: its answer, and STATUS 0. */
  void well(long due, Call call) {
    OverNight x = maker.make();
    Check.told(x, due, call.on(x));
  }

  /** As well(), whatever it answers. */
  void goes(Call call) {
    OverNight x = maker.make();
    call.on(x);
    Check.due(0, x.status());
  }

  void holds(Flag call) {
    OverNight x = maker.make();
    Check.due(true, call.on(x));
    Check.due(0, x.status());
  }

  /** On a new object the call is refused: NONE, its STATUS, and all else as it was. */
  void refused(int status, Call call) {
    OverNight x = maker.make();
    Check.no(x, status, call.on(x));
    same(x, true);
  }

  void failed(int status, Flag call) {
    OverNight x = maker.make();
    Check.no(x, status, call.on(x));
    same(x, true);
  }

  /** A text that is well: its answer, STATUS 0, no FAULT, an empty tape. */
  void reads(int due, String kind, String text) {
    OverNight x = maker.make();
    empty(x);
    Check.well(x, due, read(x, kind, text));
    Check.due(20, x.feed(0, 0, 0, 0, 0));
  }

  /** A text with ^ ahead of the TOKEN that is the FAULT: STATUS 10, kind, place, an empty tape, and all else as it was. */
  void faulty(int fault, String kind, String marked) {
    OverNight x = maker.make();
    empty(x);
    Check.fault(x, fault, marked.indexOf('^'), read(x, kind, marked.replace("^", "")));
    Check.due(20, x.feed(0, 0, 0, 0, 0));
    same(x, false);
  }

  /** A text with a FAULT empties the tape, and leaves all else but what fault() tells. */
  private static void empty(OverNight x) {
    x.feed(0x23232323, 0, 0, 0, 0);
    x.plan(1);
  }

  /** A call that is well, and what takes it back if it is counted: all that is told behind it is as it was. */
  void changesNothing(Call call, Call takenBack) {
    OverNight x = maker.make();
    call.on(x);
    Check.due(0, x.status());
    List<String> got = Full.told(x);
    takenBack.on(x);
    got.addAll(Full.marked(x));
    OverNight y = maker.make();
    List<String> due = Full.told(y);
    due.addAll(Full.marked(y));
    compare(due, got);
  }

  private static int read(OverNight x, String kind, String text) {
    return kind.equals("town") ? Check.town(x, text) : kind.equals("law") ? Check.law(x, text) : Check.plan(x, text);
  }

  private void same(OverNight x, boolean withTexts) {
    compare(Full.tells(maker.make(), withTexts), Full.tells(x, withTexts));
  }

  private static void compare(List<String> due, List<String> got) {
    for (int i = 0; i < Math.min(got.size(), due.size()); i++) {
      if (!got.get(i).equals(due.get(i))) {
        Check.tell("a refused call changed something: " + got.get(i) + ", due is " + due.get(i));
        return;
      }
    }
    Check.due(due.size(), got.size());
  }
}
