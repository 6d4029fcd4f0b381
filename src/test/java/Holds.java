import java.lang.annotation.ElementType;
import java.lang.annotation.Retention;
import java.lang.annotation.RetentionPolicy;
import java.lang.annotation.Target;

/** Names the sentence of the document that a test holds; BoundariesTest looks whether it stands there. */
@Retention(RetentionPolicy.RUNTIME)
@Target(ElementType.METHOD)
@interface Holds {
  /** The number of the promise; 0 for 'What it is' and 'Terms'. */
  int promise();

  String words();
}
